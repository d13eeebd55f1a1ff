/-! GC: contracts over worlds, and their calls -/
def gPre (D : va_G) (cI cG cJ : ClassId) (w : va_W) (sz : Nat) (as : List Value) : Array Value → State → Prop := va_Pc as (fun U => U.heap.size = sz ∧ va_P D vwCl w U.heap ∧ va_K D vwCl (T3 cI cG cJ) U ∧ va_AOA .int U ∧ va_D (fun _ => True) w ∧ gZ (va_A w sz) U)
def gPost (D : va_G) (w : va_W) (sz : Nat) (Post : Option Value → va_W → Prop) : Array Value → State → Outcome → State → Prop := fun _ st oc t => (∃ (v : Option Value) (w' : va_W), oc = .returned v ∧ Post v w' ∧ va_P D vwCl w' t.heap ∧ va_D (va_A w sz) w') ∧ va_F (va_A w sz) st t
def gXC (D : va_G) (w : va_W) (sz : Nat) (QX : String → va_W → Prop) : String → State → State → Prop := vx_X (fun _ : va_W => True) (fun E' w' t => QX E' w' ∧ va_P D vwCl w' t.heap ∧ va_D (va_A w sz) w') (va_A w sz)
abbrev gWs (y : MethodName) (b : ByteArray) (nL : Nat) (ret : Option FieldType) : List Cond := .code y b nL ret :: LW
def gMet (l : Launch) (y : MethodName) (b : ByteArray) (nL : Nat) (ret : Option FieldType) (rm : Room) (D : va_G) (cI cG cJ : ClassId) (as : List Value) (w : va_W) (Post : Option Value → va_W → Prop) : Prop := ∀ sz : Nat, Met l y (gWs y b nL ret) rm (gPre D cI cG cJ w sz as) (gPost D w sz Post) rm.cells rm.slots (va_A w sz)
def gMex (l : Launch) (y : MethodName) (b : ByteArray) (nL : Nat) (ret : Option FieldType) (rm : Room) (D : va_G) (cI cG cJ : ClassId) (as : List Value) (w : va_W) (Post : Option Value → va_W → Prop) (QX : String → va_W → Prop) : Prop := ∀ sz : Nat, vx_Met l y (gWs y b nL ret) rm (gPre D cI cG cJ w sz as) (gPost D w sz Post) (gXC D w sz QX) rm.cells rm.slots (va_A w sz)
/-- what comes back: a number, nothing, a long, a double -/
def gI (P : Int → va_W → Prop) : Option Value → va_W → Prop := fun v w => ∃ z : Int, v = some (.int (zI z)) ∧ P z w
def gN (P : va_W → Prop) : Option Value → va_W → Prop := fun v w => v = none ∧ P w
def gJ (P : Int64 → va_W → Prop) : Option Value → va_W → Prop := fun v w => ∃ z : Int64, v = some (.long z) ∧ P z w
def gB (P : UInt64 → va_W → Prop) : Option Value → va_W → Prop := fun v w => ∃ z : UInt64, v = some (.double z) ∧ P z w
/-- how a walk ends -/
def gRI (E : gEnv) (cc : ByteArray) (rm : Room) (P : Int → va_W → Prop) : Prop := ∀ (k n : Nat) (w : va_W) (pc : Nat) (L : List (Nat × Value)) (x : Int), k ≤ rm.cells → n ≤ rm.slots → decode cc pc = .ok (.ireturn, 1) → P x w → gW E k n w pc L [.int (zI x)]
def gRZ (E : gEnv) (cc : ByteArray) (rm : Room) (P : Int → va_W → Prop) : Prop := ∀ (k n : Nat) (w : va_W) (pc : Nat) (L : List (Nat × Value)) (x : Int), k ≤ rm.cells → n ≤ rm.slots → decode cc pc = .ok (.ireturn, 1) → (x = 0 ∨ x = 1) → P x w → gW E k n w pc L [.int (zI x)]
def gRJ (E : gEnv) (cc : ByteArray) (rm : Room) (P : Int64 → va_W → Prop) : Prop := ∀ (k n : Nat) (w : va_W) (pc : Nat) (L : List (Nat × Value)) (x : Int64), k ≤ rm.cells → n ≤ rm.slots → decode cc pc = .ok (.lreturn, 1) → P x w → gW E k n w pc L [.long x]
def gRB (E : gEnv) (cc : ByteArray) (rm : Room) (P : UInt64 → va_W → Prop) : Prop := ∀ (k n : Nat) (w : va_W) (pc : Nat) (L : List (Nat × Value)) (x : UInt64), k ≤ rm.cells → n ≤ rm.slots → decode cc pc = .ok (.dreturn, 1) → P x w → gW E k n w pc L [.double x]
def gRN (E : gEnv) (cc : ByteArray) (rm : Room) (P : va_W → Prop) : Prop := ∀ (k n : Nat) (w : va_W) (pc : Nat) (L : List (Nat × Value)), k ≤ rm.cells → n ≤ rm.slots → decode cc pc = .ok (.return_, 1) → P w → gW E k n w pc L []
/-- an exception that goes on to the caller -/
def gRX (E : gEnv) (rm : Room) (QX : String → va_W → Prop) : Prop := ∀ (k n : Nat) (w : va_W) (pc : Nat) (L : List (Nat × Value)) (nm : String), k ≤ rm.cells → n ≤ rm.slots → QX nm w → gWx E k n w pc L nm
/-- the words of a throw -/
def gTh (own : String) (ik ic : Nat) (nm : String) (names : List String) : Prop := Bundle.fit nm = true ∧ (∀ n ∈ names, Bundle.fit n = true) ∧ Cond.classLink own ik nm ∈ LW ∧ Cond.initialized nm ∈ LW ∧ (∀ w ∈ vx_at0 own ic nm names, w ∈ LW ∨ w ∈ NG) ∧ ∀ w ∈ Cond.classLink own ik nm :: Cond.initialized nm :: vx_at0 own ic nm names, vx_ot w = true
/-- throw new .. -/
def gRT (E : gEnv) (own : String) (cc : ByteArray) (rm : Room) (QX : String → va_W → Prop) : Prop := ∀ (k n : Nat) (w : va_W) (pc : Nat) (L : List (Nat × Value)) (st : List Value) (ik ic : Nat) (nm : String) (names : List String), gTh own ik ic nm names → k + 1 ≤ rm.cells → n + 6 ≤ rm.slots → names.length + 3 < rm.frames → (st.map fun v => v.category).sum + (13 * (names.length + 1) + 42) ≤ rm.locals → QX nm w →
  decode cc pc = .ok (.new ik, 3) → decode cc (pc + 3) = .ok (.dup, 1) → decode cc (pc + 4) = .ok (.invokespecial ic, 3) → decode cc (pc + 7) = .ok (.athrow, 1) → gW E k n w pc L st
theorem gPre_blind {D : va_G} {cI cG cJ : ClassId} {w : va_W} {sz : Nat} {as : List Value} : FrameBlind (gPre D cI cG cJ w sz as) := by
  intro a U g mk q
  obtain ⟨q0, q1, qP, qK, qO, qD, qZ⟩ := q
  exact ⟨q0, q1, qP, va_K.moved (u := U) (U := U.calling g mk a) (Vm.Alike.refl U.vm) qK, qO, qD, vx_Zq.moved (u := U) (U := U.calling g mk a) (Vm.Alike.refl U.vm) qZ.1, vx_Zq.moved (u := U) (U := U.calling g mk a) (Vm.Alike.refl U.vm) qZ.2.1, fun w h => va_Nw.same (NG_on w h) (u := U) (U := U.calling g mk a) rfl (qZ.2.2.1 w h), fun q h => va_Nc.moved (u := U) (U := U.calling g mk a) (Vm.Alike.refl U.vm) (qZ.2.2.2 q h)⟩
section GC1
variable {l : Launch} {y : MethodName} {own : String} {b : ByteArray} {nL : Nat} {rm : Room} {D : va_G} {cI cG cJ : ClassId} {as : List Value} {w : va_W} {QX : String → va_W → Prop}
theorem gMet_I {P : Int → va_W → Prop} (hy : plainName y.cls = true) (ho : y.cls = own) (hlen : (lg_sl as).length ≤ nL) (body : ∀ E : gEnv, gC E l rm D nL own b cI cG cJ → gRI E b rm P → gW E 0 0 w 0 (lv_args 0 as) []) : gMet l y b nL (some .int) rm D cI cG cJ as w (gI P) := by
  subst ho
  intro sz
  refine Met.ofW (cc := b) (maxL := nL) (ret := some .int) hy rfl ?_
  intro p e s m args below meth c s₁ B hml hv
  obtain ⟨rfl, hsz, hP, hK, hO, hD, hZ⟩ := hv
  have hts := atoms_spec (ws := gWs y b nL (some .int)) B.pre
  have hx := B.exec
  have hb := B.bytes
  have hr := B.returns
  have hlocks := B.notSynchronized
  subst hsz
  have hD := hD.self (sz := s.heap.size)
  rw [lg_entry_eq]
  refine body (p, l, e, (headSpec (gWs y b nL (some .int)) rm).room, s, m, as.toArray, below, meth, c, va_A w s.heap.size, D, nL, MQ below (gPost D w s.heap.size (gI P)) as.toArray s rm.cells rm.slots (va_A w s.heap.size)) ⟨rfl, rfl, rfl, rfl, hx, hb, hml, findClass_of_methodNamed B.named, fun w h => hts w (List.mem_cons_of_mem _ h), hK, hO, fun q h => Or.inr h, hZ⟩ ?_ s.heap [] _ hP hD va_S.rf (lv_entry as hlen)
  intro k n w' pc L x hk hn hd hpost H locs ls hP hD hS hl
  refine W.widen hk hn ?_
  exact W.iret hx hb hr (fun t ht hW => ⟨⟨_, w', rfl, ⟨x, rfl, hpost⟩, by rw [ht]; exact hP, hD⟩, hS.F ht⟩) hS.2.2 hd
theorem gMet_Z {P : Int → va_W → Prop} (hy : plainName y.cls = true) (ho : y.cls = own) (hlen : (lg_sl as).length ≤ nL) (body : ∀ E : gEnv, gC E l rm D nL own b cI cG cJ → gRZ E b rm P → gW E 0 0 w 0 (lv_args 0 as) []) : gMet l y b nL (some .boolean) rm D cI cG cJ as w (gI P) := by
  subst ho
  intro sz
  refine Met.ofW (cc := b) (maxL := nL) (ret := some .boolean) hy rfl ?_
  intro p e s m args below meth c s₁ B hml hv
  obtain ⟨rfl, hsz, hP, hK, hO, hD, hZ⟩ := hv
  have hts := atoms_spec (ws := gWs y b nL (some .boolean)) B.pre
  have hx := B.exec
  have hb := B.bytes
  have hr := B.returns
  have hlocks := B.notSynchronized
  subst hsz
  have hD := hD.self (sz := s.heap.size)
  rw [lg_entry_eq]
  refine body (p, l, e, (headSpec (gWs y b nL (some .boolean)) rm).room, s, m, as.toArray, below, meth, c, va_A w s.heap.size, D, nL, MQ below (gPost D w s.heap.size (gI P)) as.toArray s rm.cells rm.slots (va_A w s.heap.size)) ⟨rfl, rfl, rfl, rfl, hx, hb, hml, findClass_of_methodNamed B.named, fun w h => hts w (List.mem_cons_of_mem _ h), hK, hO, fun q h => Or.inr h, hZ⟩ ?_ s.heap [] _ hP hD va_S.rf (lv_entry as hlen)
  intro k n w' pc L x hk hn hd hx01 hpost H locs ls hP hD hS hl
  refine W.widen hk hn ?_
  exact W.zret hx hb hr (by rcases hx01 with rfl | rfl <;> rfl) (fun t ht hW => ⟨⟨_, w', rfl, ⟨x, rfl, hpost⟩, by rw [ht]; exact hP, hD⟩, hS.F ht⟩) hS.2.2 hd
theorem gMet_J {P : Int64 → va_W → Prop} (hy : plainName y.cls = true) (ho : y.cls = own) (hlen : (lg_sl as).length ≤ nL) (body : ∀ E : gEnv, gC E l rm D nL own b cI cG cJ → gRJ E b rm P → gW E 0 0 w 0 (lv_args 0 as) []) : gMet l y b nL (some .long) rm D cI cG cJ as w (gJ P) := by
  subst ho
  intro sz
  refine Met.ofW (cc := b) (maxL := nL) (ret := some .long) hy rfl ?_
  intro p e s m args below meth c s₁ B hml hv
  obtain ⟨rfl, hsz, hP, hK, hO, hD, hZ⟩ := hv
  have hts := atoms_spec (ws := gWs y b nL (some .long)) B.pre
  have hx := B.exec
  have hb := B.bytes
  have hr := B.returns
  have hlocks := B.notSynchronized
  subst hsz
  have hD := hD.self (sz := s.heap.size)
  rw [lg_entry_eq]
  refine body (p, l, e, (headSpec (gWs y b nL (some .long)) rm).room, s, m, as.toArray, below, meth, c, va_A w s.heap.size, D, nL, MQ below (gPost D w s.heap.size (gJ P)) as.toArray s rm.cells rm.slots (va_A w s.heap.size)) ⟨rfl, rfl, rfl, rfl, hx, hb, hml, findClass_of_methodNamed B.named, fun w h => hts w (List.mem_cons_of_mem _ h), hK, hO, fun q h => Or.inr h, hZ⟩ ?_ s.heap [] _ hP hD va_S.rf (lv_entry as hlen)
  intro k n w' pc L x hk hn hd hpost H locs ls hP hD hS hl
  refine W.widen hk hn ?_
  exact W.lret hx hb hr (fun t ht hW => ⟨⟨_, w', rfl, ⟨x, rfl, hpost⟩, by rw [ht]; exact hP, hD⟩, hS.F ht⟩) hS.2.2 hd
theorem gMet_B {P : UInt64 → va_W → Prop} (hy : plainName y.cls = true) (ho : y.cls = own) (hlen : (lg_sl as).length ≤ nL) (body : ∀ E : gEnv, gC E l rm D nL own b cI cG cJ → gRB E b rm P → gW E 0 0 w 0 (lv_args 0 as) []) : gMet l y b nL (some .double) rm D cI cG cJ as w (gB P) := by
  subst ho
  intro sz
  refine Met.ofW (cc := b) (maxL := nL) (ret := some .double) hy rfl ?_
  intro p e s m args below meth c s₁ B hml hv
  obtain ⟨rfl, hsz, hP, hK, hO, hD, hZ⟩ := hv
  have hts := atoms_spec (ws := gWs y b nL (some .double)) B.pre
  have hx := B.exec
  have hb := B.bytes
  have hr := B.returns
  have hlocks := B.notSynchronized
  subst hsz
  have hD := hD.self (sz := s.heap.size)
  rw [lg_entry_eq]
  refine body (p, l, e, (headSpec (gWs y b nL (some .double)) rm).room, s, m, as.toArray, below, meth, c, va_A w s.heap.size, D, nL, MQ below (gPost D w s.heap.size (gB P)) as.toArray s rm.cells rm.slots (va_A w s.heap.size)) ⟨rfl, rfl, rfl, rfl, hx, hb, hml, findClass_of_methodNamed B.named, fun w h => hts w (List.mem_cons_of_mem _ h), hK, hO, fun q h => Or.inr h, hZ⟩ ?_ s.heap [] _ hP hD va_S.rf (lv_entry as hlen)
  intro k n w' pc L x hk hn hd hpost H locs ls hP hD hS hl
  refine W.widen hk hn ?_
  exact W.dret hx hb hr (fun t ht hW => ⟨⟨_, w', rfl, ⟨x, rfl, hpost⟩, by rw [ht]; exact hP, hD⟩, hS.F ht⟩) hS.2.2 hd
theorem gMet_N {P : va_W → Prop} (hy : plainName y.cls = true) (ho : y.cls = own) (hlen : (lg_sl as).length ≤ nL) (body : ∀ E : gEnv, gC E l rm D nL own b cI cG cJ → gRN E b rm P → gW E 0 0 w 0 (lv_args 0 as) []) : gMet l y b nL none rm D cI cG cJ as w (gN P) := by
  subst ho
  intro sz
  refine Met.ofW (cc := b) (maxL := nL) (ret := none) hy rfl ?_
  intro p e s m args below meth c s₁ B hml hv
  obtain ⟨rfl, hsz, hP, hK, hO, hD, hZ⟩ := hv
  have hts := atoms_spec (ws := gWs y b nL none) B.pre
  have hx := B.exec
  have hb := B.bytes
  have hr := B.returns
  have hlocks := B.notSynchronized
  subst hsz
  have hD := hD.self (sz := s.heap.size)
  rw [lg_entry_eq]
  refine body (p, l, e, (headSpec (gWs y b nL none) rm).room, s, m, as.toArray, below, meth, c, va_A w s.heap.size, D, nL, MQ below (gPost D w s.heap.size (gN P)) as.toArray s rm.cells rm.slots (va_A w s.heap.size)) ⟨rfl, rfl, rfl, rfl, hx, hb, hml, findClass_of_methodNamed B.named, fun w h => hts w (List.mem_cons_of_mem _ h), hK, hO, fun q h => Or.inr h, hZ⟩ ?_ s.heap [] _ hP hD va_S.rf (lv_entry as hlen)
  intro k n w' pc L hk hn hd hpost H locs ls hP hD hS hl
  refine W.widen hk hn ?_
  exact W.vret hx hb hr (fun t ht hW => ⟨⟨_, w', rfl, ⟨rfl, hpost⟩, by rw [ht]; exact hP, hD⟩, hS.F ht⟩) hS.2.2 hd
/-- of a method that may throw: how an exception leaves -/
theorem gMex_ends {ret : Option FieldType} {Post : Option Value → va_W → Prop} {p : Program} {e : Env} {s : State} {m : MethodId} {below : List Frame} {meth : Method} {c : Code} (hl9 : l.stackTraces = false) (hx : p.tables.exec = Jvm.exec) (hb : c.code = b) (hml : c.maxLocals = nL) (hown : s.vm.findClass own = some m.cls) (hts : ∀ w ∈ LW, w.before as.toArray s = true) (hlocks : meth.locks = false) (htab : ∀ x ∈ c.exceptionTable.toList, False) (hZ : gZ (va_A w s.heap.size) s) :
    gRX (p, l, e, (headSpec (gWs y b nL ret) rm).room, s, m, as.toArray, below, meth, c, va_A w s.heap.size, D, nL, vx_MQ below (gPost D w s.heap.size Post) (gXC D w s.heap.size QX) as.toArray s rm.cells rm.slots (va_A w s.heap.size)) rm QX ∧
    gRT (p, l, e, (headSpec (gWs y b nL ret) rm).room, s, m, as.toArray, below, meth, c, va_A w s.heap.size, D, nL, vx_MQ below (gPost D w s.heap.size Post) (gXC D w s.heap.size QX) as.toArray s rm.cells rm.slots (va_A w s.heap.size)) own b rm QX := by
  refine ⟨?_, ?_⟩
  · intro k n w' pc L nm hk hn hq H locs ls q ce st hP hD hS hl hc hv hcl
    exact vx_out (fun x h => (htab x h).elim) hlocks hc hv hcl (fun t ht hW => ⟨w', trivial, ⟨hq, by rw [ht]; exact hP, hD⟩, hS.F ht⟩) hS.2.2 hk hn
  · intro k n w' pc L st ik ic nm names ht hk hn hfr hlo hq d0 d3 d4 d7 H locs ls hP hD hS hl
    obtain ⟨t1, t2, t3, t4, t5, t6⟩ := ht
    exact vx_throw0 hx hb hl9 hown t1 t2 (hts _ t3) (hts _ t4) (fun w h => (t5 w h).elim (hts w) (fun h9 => va_Nw.use (NG_on w h9) (hZ.2.2.1 w h9))) t6 hZ.1 hZ.2.1 hS (hl.1.trans hml.symm) d0 d3 d4 d7 (fun x h => (htab x h).elim) hfr hlo hk hn hlocks
      (fun t hvm hsz hk9 => ⟨w', trivial, ⟨hq, hP.kept (fun j q hj => hk9 q.1 ((hP j q hj).lt)), hD⟩, ⟨Nat.le_trans hS.1 hsz, fun q h1 h2 => (hk9 q (Nat.lt_of_lt_of_le h1 hS.1)).trans (hS.2.1 q h1 h2)⟩⟩) hS.2.2 hk hn
theorem gMex_I {P : Int → va_W → Prop} (hl9 : l.stackTraces = false) (hy : plainName y.cls = true) (ho : y.cls = own) (hlen : (lg_sl as).length ≤ nL) (body : ∀ E : gEnv, gC E l rm D nL own b cI cG cJ → gRI E b rm P → gRX E rm QX → gRT E own b rm QX → gW E 0 0 w 0 (lv_args 0 as) []) : gMex l y b nL (some .int) rm D cI cG cJ as w (gI P) QX := by
  subst ho
  intro sz
  refine vx_ofW (cc := b) (maxL := nL) (ret := (some .int)) hy rfl ?_
  intro p e s m args below meth c s₁ B hml htab hv
  obtain ⟨rfl, hsz, hP, hK, hO, hD, hZ⟩ := hv
  have hts := atoms_spec (ws := gWs y b nL (some .int)) B.pre
  have hx := B.exec
  have hb := B.bytes
  have hr := B.returns
  have hlocks := B.notSynchronized
  have hown := findClass_of_methodNamed B.named
  subst hsz
  have hD := hD.self (sz := s.heap.size)
  have hen := gMex_ends (l := l) (y := y) (own := y.cls) (b := b) (nL := nL) (rm := rm) (D := D) (as := as) (w := w) (QX := QX) (ret := (some .int)) (Post := gI P) (e := e) (below := below) hl9 hx hb hml hown (fun w h => hts w (List.mem_cons_of_mem _ h)) hlocks htab hZ
  rw [lg_entry_eq]
  refine body (p, l, e, (headSpec (gWs y b nL (some .int)) rm).room, s, m, as.toArray, below, meth, c, va_A w s.heap.size, D, nL, vx_MQ below (gPost D w s.heap.size (gI P)) (gXC D w s.heap.size QX) as.toArray s rm.cells rm.slots (va_A w s.heap.size)) ⟨rfl, rfl, rfl, rfl, hx, hb, hml, hown, fun w h => hts w (List.mem_cons_of_mem _ h), hK, hO, fun q h => Or.inr h, hZ⟩ ?_ hen.1 hen.2 s.heap [] _ hP hD va_S.rf (lv_entry as hlen)
  intro k n w' pc L x hk hn hd hpost H locs ls hP hD hS hl
  refine W.widen hk hn ?_
  refine vx_ret ?_
  exact W.iret hx hb hr (fun t ht hW => ⟨⟨_, w', rfl, ⟨x, rfl, hpost⟩, by rw [ht]; exact hP, hD⟩, hS.F ht⟩) hS.2.2 hd
theorem gMex_Z {P : Int → va_W → Prop} (hl9 : l.stackTraces = false) (hy : plainName y.cls = true) (ho : y.cls = own) (hlen : (lg_sl as).length ≤ nL) (body : ∀ E : gEnv, gC E l rm D nL own b cI cG cJ → gRZ E b rm P → gRX E rm QX → gRT E own b rm QX → gW E 0 0 w 0 (lv_args 0 as) []) : gMex l y b nL (some .boolean) rm D cI cG cJ as w (gI P) QX := by
  subst ho
  intro sz
  refine vx_ofW (cc := b) (maxL := nL) (ret := (some .boolean)) hy rfl ?_
  intro p e s m args below meth c s₁ B hml htab hv
  obtain ⟨rfl, hsz, hP, hK, hO, hD, hZ⟩ := hv
  have hts := atoms_spec (ws := gWs y b nL (some .boolean)) B.pre
  have hx := B.exec
  have hb := B.bytes
  have hr := B.returns
  have hlocks := B.notSynchronized
  have hown := findClass_of_methodNamed B.named
  subst hsz
  have hD := hD.self (sz := s.heap.size)
  have hen := gMex_ends (l := l) (y := y) (own := y.cls) (b := b) (nL := nL) (rm := rm) (D := D) (as := as) (w := w) (QX := QX) (ret := (some .boolean)) (Post := gI P) (e := e) (below := below) hl9 hx hb hml hown (fun w h => hts w (List.mem_cons_of_mem _ h)) hlocks htab hZ
  rw [lg_entry_eq]
  refine body (p, l, e, (headSpec (gWs y b nL (some .boolean)) rm).room, s, m, as.toArray, below, meth, c, va_A w s.heap.size, D, nL, vx_MQ below (gPost D w s.heap.size (gI P)) (gXC D w s.heap.size QX) as.toArray s rm.cells rm.slots (va_A w s.heap.size)) ⟨rfl, rfl, rfl, rfl, hx, hb, hml, hown, fun w h => hts w (List.mem_cons_of_mem _ h), hK, hO, fun q h => Or.inr h, hZ⟩ ?_ hen.1 hen.2 s.heap [] _ hP hD va_S.rf (lv_entry as hlen)
  intro k n w' pc L x hk hn hd hx01 hpost H locs ls hP hD hS hl
  refine W.widen hk hn ?_
  refine vx_ret ?_
  exact W.zret hx hb hr (by rcases hx01 with rfl | rfl <;> rfl) (fun t ht hW => ⟨⟨_, w', rfl, ⟨x, rfl, hpost⟩, by rw [ht]; exact hP, hD⟩, hS.F ht⟩) hS.2.2 hd
theorem gMex_J {P : Int64 → va_W → Prop} (hl9 : l.stackTraces = false) (hy : plainName y.cls = true) (ho : y.cls = own) (hlen : (lg_sl as).length ≤ nL) (body : ∀ E : gEnv, gC E l rm D nL own b cI cG cJ → gRJ E b rm P → gRX E rm QX → gRT E own b rm QX → gW E 0 0 w 0 (lv_args 0 as) []) : gMex l y b nL (some .long) rm D cI cG cJ as w (gJ P) QX := by
  subst ho
  intro sz
  refine vx_ofW (cc := b) (maxL := nL) (ret := (some .long)) hy rfl ?_
  intro p e s m args below meth c s₁ B hml htab hv
  obtain ⟨rfl, hsz, hP, hK, hO, hD, hZ⟩ := hv
  have hts := atoms_spec (ws := gWs y b nL (some .long)) B.pre
  have hx := B.exec
  have hb := B.bytes
  have hr := B.returns
  have hlocks := B.notSynchronized
  have hown := findClass_of_methodNamed B.named
  subst hsz
  have hD := hD.self (sz := s.heap.size)
  have hen := gMex_ends (l := l) (y := y) (own := y.cls) (b := b) (nL := nL) (rm := rm) (D := D) (as := as) (w := w) (QX := QX) (ret := (some .long)) (Post := gJ P) (e := e) (below := below) hl9 hx hb hml hown (fun w h => hts w (List.mem_cons_of_mem _ h)) hlocks htab hZ
  rw [lg_entry_eq]
  refine body (p, l, e, (headSpec (gWs y b nL (some .long)) rm).room, s, m, as.toArray, below, meth, c, va_A w s.heap.size, D, nL, vx_MQ below (gPost D w s.heap.size (gJ P)) (gXC D w s.heap.size QX) as.toArray s rm.cells rm.slots (va_A w s.heap.size)) ⟨rfl, rfl, rfl, rfl, hx, hb, hml, hown, fun w h => hts w (List.mem_cons_of_mem _ h), hK, hO, fun q h => Or.inr h, hZ⟩ ?_ hen.1 hen.2 s.heap [] _ hP hD va_S.rf (lv_entry as hlen)
  intro k n w' pc L x hk hn hd hpost H locs ls hP hD hS hl
  refine W.widen hk hn ?_
  refine vx_ret ?_
  exact W.lret hx hb hr (fun t ht hW => ⟨⟨_, w', rfl, ⟨x, rfl, hpost⟩, by rw [ht]; exact hP, hD⟩, hS.F ht⟩) hS.2.2 hd
theorem gMex_B {P : UInt64 → va_W → Prop} (hl9 : l.stackTraces = false) (hy : plainName y.cls = true) (ho : y.cls = own) (hlen : (lg_sl as).length ≤ nL) (body : ∀ E : gEnv, gC E l rm D nL own b cI cG cJ → gRB E b rm P → gRX E rm QX → gRT E own b rm QX → gW E 0 0 w 0 (lv_args 0 as) []) : gMex l y b nL (some .double) rm D cI cG cJ as w (gB P) QX := by
  subst ho
  intro sz
  refine vx_ofW (cc := b) (maxL := nL) (ret := (some .double)) hy rfl ?_
  intro p e s m args below meth c s₁ B hml htab hv
  obtain ⟨rfl, hsz, hP, hK, hO, hD, hZ⟩ := hv
  have hts := atoms_spec (ws := gWs y b nL (some .double)) B.pre
  have hx := B.exec
  have hb := B.bytes
  have hr := B.returns
  have hlocks := B.notSynchronized
  have hown := findClass_of_methodNamed B.named
  subst hsz
  have hD := hD.self (sz := s.heap.size)
  have hen := gMex_ends (l := l) (y := y) (own := y.cls) (b := b) (nL := nL) (rm := rm) (D := D) (as := as) (w := w) (QX := QX) (ret := (some .double)) (Post := gB P) (e := e) (below := below) hl9 hx hb hml hown (fun w h => hts w (List.mem_cons_of_mem _ h)) hlocks htab hZ
  rw [lg_entry_eq]
  refine body (p, l, e, (headSpec (gWs y b nL (some .double)) rm).room, s, m, as.toArray, below, meth, c, va_A w s.heap.size, D, nL, vx_MQ below (gPost D w s.heap.size (gB P)) (gXC D w s.heap.size QX) as.toArray s rm.cells rm.slots (va_A w s.heap.size)) ⟨rfl, rfl, rfl, rfl, hx, hb, hml, hown, fun w h => hts w (List.mem_cons_of_mem _ h), hK, hO, fun q h => Or.inr h, hZ⟩ ?_ hen.1 hen.2 s.heap [] _ hP hD va_S.rf (lv_entry as hlen)
  intro k n w' pc L x hk hn hd hpost H locs ls hP hD hS hl
  refine W.widen hk hn ?_
  refine vx_ret ?_
  exact W.dret hx hb hr (fun t ht hW => ⟨⟨_, w', rfl, ⟨x, rfl, hpost⟩, by rw [ht]; exact hP, hD⟩, hS.F ht⟩) hS.2.2 hd
theorem gMex_N {P : va_W → Prop} (hl9 : l.stackTraces = false) (hy : plainName y.cls = true) (ho : y.cls = own) (hlen : (lg_sl as).length ≤ nL) (body : ∀ E : gEnv, gC E l rm D nL own b cI cG cJ → gRN E b rm P → gRX E rm QX → gRT E own b rm QX → gW E 0 0 w 0 (lv_args 0 as) []) : gMex l y b nL none rm D cI cG cJ as w (gN P) QX := by
  subst ho
  intro sz
  refine vx_ofW (cc := b) (maxL := nL) (ret := none) hy rfl ?_
  intro p e s m args below meth c s₁ B hml htab hv
  obtain ⟨rfl, hsz, hP, hK, hO, hD, hZ⟩ := hv
  have hts := atoms_spec (ws := gWs y b nL none) B.pre
  have hx := B.exec
  have hb := B.bytes
  have hr := B.returns
  have hlocks := B.notSynchronized
  have hown := findClass_of_methodNamed B.named
  subst hsz
  have hD := hD.self (sz := s.heap.size)
  have hen := gMex_ends (l := l) (y := y) (own := y.cls) (b := b) (nL := nL) (rm := rm) (D := D) (as := as) (w := w) (QX := QX) (ret := none) (Post := gN P) (e := e) (below := below) hl9 hx hb hml hown (fun w h => hts w (List.mem_cons_of_mem _ h)) hlocks htab hZ
  rw [lg_entry_eq]
  refine body (p, l, e, (headSpec (gWs y b nL none) rm).room, s, m, as.toArray, below, meth, c, va_A w s.heap.size, D, nL, vx_MQ below (gPost D w s.heap.size (gN P)) (gXC D w s.heap.size QX) as.toArray s rm.cells rm.slots (va_A w s.heap.size)) ⟨rfl, rfl, rfl, rfl, hx, hb, hml, hown, fun w h => hts w (List.mem_cons_of_mem _ h), hK, hO, fun q h => Or.inr h, hZ⟩ ?_ hen.1 hen.2 s.heap [] _ hP hD va_S.rf (lv_entry as hlen)
  intro k n w' pc L hk hn hd hpost H locs ls hP hD hS hl
  refine W.widen hk hn ?_
  refine vx_ret ?_
  exact W.vret hx hb hr (fun t ht hW => ⟨⟨_, w', rfl, ⟨rfl, hpost⟩, by rw [ht]; exact hP, hD⟩, hS.F ht⟩) hS.2.2 hd
end GC1
