/-! methods with handlers: they give back, whatever their callee throws -/
abbrev gWsH (y : MethodName) (b : ByteArray) (nL : Nat) (ret : Option FieldType) (hh : List (Nat × Nat × Nat × Nat)) : List Cond := .codeWith y b nL ret hh :: LW
def gMH (l : Launch) (y : MethodName) (b : ByteArray) (nL : Nat) (ret : Option FieldType) (hh : List (Nat × Nat × Nat × Nat)) (rm : Room) (D : va_G) (cI cG cJ : ClassId) (as : List Value) (w : va_W) (Post : Option Value → va_W → Prop) : Prop := ∀ sz : Nat, vx_Met l y (gWsH y b nL ret hh) rm (gPre D cI cG cJ w sz as) (gPost D w sz Post) (fun _ _ _ => False) rm.cells rm.slots (va_A w sz)
def gTab (E : gEnv) (hh : List (Nat × Nat × Nat × Nat)) : Prop := match E with
  | (_, _, _, _, _, _, _, _, _, c, _, _, _, _) => c.exceptionTable.toList = tableOf hh
theorem gMH_I {l : Launch} {y : MethodName} {own : String} {b : ByteArray} {nL : Nat} {hh : List (Nat × Nat × Nat × Nat)} {rm : Room} {D : va_G} {cI cG cJ : ClassId} {as : List Value} {w : va_W} {P : Int → va_W → Prop} (hy : plainName y.cls = true) (ho : y.cls = own) (hlen : (lg_sl as).length ≤ nL) (body : ∀ E : gEnv, gC E l rm D nL own b cI cG cJ → gTab E hh → gRI E b rm P → gW E 0 0 w 0 (lv_args 0 as) []) : gMH l y b nL (some .int) hh rm D cI cG cJ as w (gI P) := by
  subst ho
  intro sz
  refine vx_ofWH (cc := b) (maxL := nL) (ret := some .int) (hh := hh) hy rfl ?_
  intro p e s m args below meth c s₁ B hml hv
  obtain ⟨rfl, hsz, hP, hK, hO, hD, hZ⟩ := hv
  have hts := atoms_spec (ws := gWsH y b nL (some .int) hh) B.pre
  have hx := B.exec
  have hb := B.bytes
  have hr := B.returns
  have hlocks := B.notSynchronized
  have hown := findClass_of_methodNamed B.named
  have htab := vx_table (x := y) B (hts _ List.mem_cons_self)
  subst hsz
  have hD := hD.self (sz := s.heap.size)
  rw [lg_entry_eq]
  refine body (p, l, e, (headSpec (gWsH y b nL (some .int) hh) rm).room, s, m, as.toArray, below, meth, c, va_A w s.heap.size, D, nL, vx_MQ below (gPost D w s.heap.size (gI P)) (fun _ _ _ => False) as.toArray s rm.cells rm.slots (va_A w s.heap.size)) ⟨rfl, rfl, rfl, rfl, hx, hb, hml, hown, fun w h => hts w (List.mem_cons_of_mem _ h), hK, hO, fun q h => Or.inr h, hZ⟩ htab ?_ s.heap [] _ hP hD va_S.rf (lv_entry as hlen)
  intro k n w' pc L x hk hn hd hpost H locs ls hP hD hS hl
  refine W.widen hk hn ?_
  refine vx_ret ?_
  exact W.iret hx hb hr (fun t ht hW => ⟨⟨_, w', rfl, ⟨x, rfl, hpost⟩, by rw [ht]; exact hP, hD⟩, hS.F ht⟩) hS.2.2 hd
def gSH (own : String) (ix : Nat) (y : MethodName) (b : ByteArray) (nL : Nat) (ret : Option FieldType) (hh : List (Nat × Nat × Nat × Nat)) (n : Nat) : Prop := Cond.methodLink own ix y ∈ LW ∧ Cond.static y ∈ LW ∧ Cond.initialized y.cls ∈ LW ∧ Cond.codeWith y b nL ret hh ∈ LW ∧ y.cls ≠ "java/lang/invoke/MethodHandle" ∧ y.cls ≠ "java/lang/invoke/VarHandle" ∧ (parseMethodDescriptor y.desc).map (fun d => d.parameters.length) = some n
section GK5
variable {E : gEnv} {l : Launch} {R : Room} {D : va_G} {nL nL' n' ix : Nat} {own : String} {cc b : ByteArray} {cI cG cJ : ClassId} {k n : Nat} {w wc wr : va_W} {pc : Nat} {L : List (Nat × Value)} {st stk as : List Value} {y : MethodName} {ret : Option FieldType} {hh : List (Nat × Nat × Nat × Nat)} {rm : Room} {Post : Option Value → va_W → Prop}
theorem g_callH (isC isR : List Nat) (C : gC E l R D nL own cc cI cG cJ) (f : gSH own ix y b nL' ret hh n') (hM : gMH l y b nL' ret hh rm D cI cG cJ as wc Post) (hs : gSp w wc wr isC isR)
    (hR : rm.frames + 1 ≤ R.frames ∧ 8 + (nL' + 11) + rm.locals ≤ R.locals) (hf : k + rm.cells ≤ R.cells ∧ n + rm.slots ≤ R.slots) (hn : as.length = n') (hst : stk = as.reverse ++ st) (hroom : (st.map fun v => v.category).sum ≤ 8) (hd : decode cc pc = .ok (.invokestatic ix, 3))
    (K : ∀ (v : Option Value) (w1 : va_W), Post v w1 → gW E (k + rm.cells) (n + rm.slots) (wr ++ w1) (pc + 3) L (v.toList ++ st)) : gW E k n w pc L stk := by
  obtain ⟨p, l, e, R, s, m, args, below, meth, c, A, D, nL, Q⟩ := E
  obtain ⟨rfl, rfl, rfl, rfl, hx, hb, hml, hown, hts, hK, hO, hA, hZ⟩ := C
  obtain ⟨f1, f2, f4, f5, f7, f8, f9⟩ := f
  obtain ⟨s1, s2, s3, s4, s5⟩ := hs
  intro H locs ls hP hD hS hl
  have hDc := hD.sub isC s3 s1
  have hPc := gP_sub hP isC s1
  have hFc := va_free (wc := wc) hD hS hA isC s1
  have hgood : GoodIn LW (va_wsS own ix y (gWsH y b nL' ret hh)) := by
    intro w hw
    rcases List.mem_append.mp hw with h1 | h1
    · simp only [List.mem_cons, List.not_mem_nil, or_false] at h1
      rcases h1 with rfl | rfl | rfl
      · exact LW_in f1
      · exact LW_in f2
      · exact LW_in f4
    · rcases List.mem_cons.mp h1 with h2 | h2
      · rw [h2]
        exact LW_in f5
      · exact LW_in h2
  have run := vx_runSX (As := as) (rest := st) (H := H) (locs := locs) (cells := k) (slots := n) (l := l) (e := e) (below := below) (meth := meth) (g := F0 m pc ls stk) ⟨hx, hb, hml, hown, hts⟩ (hM H.size) (vx_cwSW n' hts hgood rfl rfl rfl ⟨f7, f8, f9⟩ hR) ⟨gPre_blind, fun U hU hW => ⟨rfl, by rw [hU], by rw [hU]; exact hPc, va_K.moved hW.alike hK, va_AOA.moved hW.alike hO, hDc.weaken (fun _ _ _ _ => trivial), gZ_at hZ hS hFc hU hW⟩⟩ rfl hn hl.1 hst (lv_room hroom) hd hf
  intro T hT X
  rcases run T hT X with ⟨v, st₀, t, T', L9, h0, X', hL, e1, e2, ⟨⟨v', w1, hv, hpost, hP1, hD1⟩, hF⟩, step⟩ | ⟨q, st₀, t, T', L9, E9, ce, h0, X', hL, e1, e2, hno, hrest⟩
  · cases hv
    obtain ⟨k1, k2, k3⟩ := vx_keep h0 e1 hS (fun q _ h => hFc q h) hFc hL hF
    obtain ⟨hPj, hDj⟩ := va_join hP hD isC isR s1 s2 s4 s5 k2 hFc (by rw [e1]; exact hP1) hD1
    obtain ⟨t2, a1, b1⟩ := K v w1 hpost T'.heap (locs ++ L9) ls hPj hDj k3 hl T' rfl X'
    exact ⟨t2, step t2 a1, b1⟩
  · exact hno.elim
theorem g_catch {nm : String} (pre : List ExceptionTableEntry) (x : ExceptionTableEntry) (suf : List ExceptionTableEntry) (C : gC E l R D nL own cc cI cG cJ) (hT : gTab E hh) (hs : tableOf hh = pre ++ x :: suf) (hpass : ∀ z ∈ pre, covers z pc = false ∨ (z.catchType ≠ 0 ∧ ∃ n2 : String, Cond.classLink own z.catchType n2 ∈ LW ∧ (nm, n2) ∈ NC)) (hx : covers x pc = true) (h0 : x.catchType ≠ 0) (hlk : Cond.classLink own x.catchType nm ∈ LW) (hca : Cond.castable nm nm ∈ NG) (K : ∀ q : Nat, gW E k n w x.handlerPc L [.ref q]) : gWx E k n w pc L nm := by
  obtain ⟨p, l, e, R, s, m, args, below, meth, c, A, D, nL, Q⟩ := E
  obtain ⟨rfl, rfl, rfl, rfl, hx9, hb, hml, hown, hts, hK, hO, hA, hZ⟩ := C
  intro H locs ls q ce st hP hD hS hl hc hv hcl
  exact vx_catch hown pre x suf (hT.trans hs) (fun z hz => (hpass z hz).imp id (fun ⟨a, n2, b, c⟩ => ⟨a, n2, hts _ b, hZ.2.2.2 _ c⟩)) hx h0 (hts _ hlk) (va_Nw.use (NG_on _ hca) (hZ.2.2.1 _ hca)) hc hv hcl (K q H locs ls hP hD hS hl)
end GK5
