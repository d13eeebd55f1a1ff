/-! methods that read the script; methods with handlers that answer yes or no -/
def gPreX (D : va_G) (cI cG cJ : ClassId) (w : va_W) (sz : Nat) (as : List Value) (b N : Nat) (xs : Nat → Int32) : Array Value → State → Prop := va_Pc as (fun U => (U.heap.size = sz ∧ va_P D vwCl w U.heap ∧ va_K D vwCl (T3 cI cG cJ) U ∧ va_AOA .int U ∧ va_D (fun _ => True) w ∧ gZ (va_A w sz) U) ∧ va_X b N xs U U.heap ∧ b < U.heap.size ∧ ¬ va_A w sz b)
def gMetX (l : Launch) (y : MethodName) (bb : ByteArray) (nL : Nat) (ret : Option FieldType) (rm : Room) (D : va_G) (cI cG cJ : ClassId) (as : List Value) (w : va_W) (b N : Nat) (xs : Nat → Int32) (Post : Option Value → va_W → Prop) : Prop := ∀ sz : Nat, Met l y (gWs y bb nL ret) rm (gPreX D cI cG cJ w sz as b N xs) (gPost D w sz Post) rm.cells rm.slots (va_A w sz)
theorem gPreX_blind {D : va_G} {cI cG cJ : ClassId} {w : va_W} {sz : Nat} {as : List Value} {b N : Nat} {xs : Nat → Int32} : FrameBlind (gPreX D cI cG cJ w sz as b N xs) := by
  intro a U g mk q
  obtain ⟨q0, q1, q2, q3⟩ := q
  have h := gPre_blind (D := D) (cI := cI) (cG := cG) (cJ := cJ) (w := w) (sz := sz) (as := as) a U g mk ⟨q0, q1⟩
  exact ⟨h.1, h.2, va_X.moved (u := U) (U := U.calling g mk a) (Vm.Alike.refl U.vm) q2, q3⟩
theorem gMetX_I {l : Launch} {y : MethodName} {own : String} {bb : ByteArray} {nL : Nat} {rm : Room} {D : va_G} {cI cG cJ : ClassId} {as : List Value} {w : va_W} {b N : Nat} {xs : Nat → Int32} {P : Int → va_W → Prop} (hy : plainName y.cls = true) (ho : y.cls = own) (hlen : (lg_sl as).length ≤ nL) (body : ∀ E : gEnv, gC E l rm D nL own bb cI cG cJ → gScr E b N xs → gRI E bb rm P → gW E 0 0 w 0 (lv_args 0 as) []) : gMetX l y bb nL (some .int) rm D cI cG cJ as w b N xs (gI P) := by
  subst ho
  intro sz
  refine Met.ofW (cc := bb) (maxL := nL) (ret := some .int) hy rfl ?_
  intro p e s m args below meth c s₁ B hml hv
  obtain ⟨rfl, ⟨hsz, hP, hK, hO, hD, hZ⟩, hX, hbl, hbA⟩ := hv
  have hts := atoms_spec (ws := gWs y bb nL (some .int)) B.pre
  have hx := B.exec
  have hb := B.bytes
  have hr := B.returns
  have hlocks := B.notSynchronized
  subst hsz
  have hD := hD.self (sz := s.heap.size)
  rw [lg_entry_eq]
  refine body (p, l, e, (headSpec (gWs y bb nL (some .int)) rm).room, s, m, as.toArray, below, meth, c, va_A w s.heap.size, D, nL, MQ below (gPost D w s.heap.size (gI P)) as.toArray s rm.cells rm.slots (va_A w s.heap.size)) ⟨rfl, rfl, rfl, rfl, hx, hb, hml, findClass_of_methodNamed B.named, fun w h => hts w (List.mem_cons_of_mem _ h), hK, hO, fun q h => Or.inr h, hZ⟩ ⟨hX, hbl, hbA⟩ ?_ s.heap [] _ hP hD va_S.rf (lv_entry as hlen)
  intro k n w' pc L x hk hn hd hpost H locs ls hP hD hS hl
  refine W.widen hk hn ?_
  exact W.iret hx hb hr (fun t ht hW => ⟨⟨_, w', rfl, ⟨x, rfl, hpost⟩, by rw [ht]; exact hP, hD⟩, hS.F ht⟩) hS.2.2 hd
theorem gMetX_A {l : Launch} {y : MethodName} {own : String} {bb : ByteArray} {nL : Nat} {rt : FieldType} {rm : Room} {D : va_G} {cI cG cJ : ClassId} {as : List Value} {w : va_W} {b N : Nat} {xs : Nat → Int32} {P : Value → va_W → Prop} (hrt : (∃ n, rt = .object n) ∨ ∃ t, rt = .array t) (hy : plainName y.cls = true) (ho : y.cls = own) (hlen : (lg_sl as).length ≤ nL) (body : ∀ E : gEnv, gC E l rm D nL own bb cI cG cJ → gScr E b N xs → gRA E bb rm P → gW E 0 0 w 0 (lv_args 0 as) []) : gMetX l y bb nL (some rt) rm D cI cG cJ as w b N xs (gA P) := by
  subst ho
  intro sz
  refine Met.ofW (cc := bb) (maxL := nL) (ret := some rt) hy rfl ?_
  intro p e s m args below meth c s₁ B hml hv
  obtain ⟨rfl, ⟨hsz, hP, hK, hO, hD, hZ⟩, hX, hbl, hbA⟩ := hv
  have hts := atoms_spec (ws := gWs y bb nL (some rt)) B.pre
  have hx := B.exec
  have hb := B.bytes
  have hr := B.returns
  have hlocks := B.notSynchronized
  subst hsz
  have hD := hD.self (sz := s.heap.size)
  rw [lg_entry_eq]
  refine body (p, l, e, (headSpec (gWs y bb nL (some rt)) rm).room, s, m, as.toArray, below, meth, c, va_A w s.heap.size, D, nL, MQ below (gPost D w s.heap.size (gA P)) as.toArray s rm.cells rm.slots (va_A w s.heap.size)) ⟨rfl, rfl, rfl, rfl, hx, hb, hml, findClass_of_methodNamed B.named, fun w h => hts w (List.mem_cons_of_mem _ h), hK, hO, fun q h => Or.inr h, hZ⟩ ⟨hX, hbl, hbA⟩ ?_ s.heap [] _ hP hD va_S.rf (lv_entry as hlen)
  intro k n w' pc L x hk hn hd hxr hpost H locs ls hP hD hS hl
  refine W.widen hk hn ?_
  exact W.aret hx hb hr hrt hxr (fun t ht hW => ⟨⟨_, w', rfl, ⟨x, rfl, hpost⟩, by rw [ht]; exact hP, hD⟩, hS.F ht⟩) hS.2.2 hd
theorem g_callSY {E : gEnv} {l : Launch} {R : Room} {D : va_G} {nL nL' n' ix : Nat} {own : String} {cc bb : ByteArray} {cI cG cJ : ClassId} {k n : Nat} {w wc wr : va_W} {pc : Nat} {L : List (Nat × Value)} {st stk as : List Value} {y : MethodName} {ret : Option FieldType} {rm : Room} {Post : Option Value → va_W → Prop} {b N : Nat} {xs : Nat → Int32} (isC isR : List Nat) (C : gC E l R D nL own cc cI cG cJ) (hX : gScr E b N xs) (f : gS own ix y bb nL' ret n') (hM : gMetX l y bb nL' ret rm D cI cG cJ as wc b N xs Post) (hs : gSp w wc wr isC isR)
    (hR : rm.frames + 1 ≤ R.frames ∧ 8 + (nL' + 11) + rm.locals ≤ R.locals) (hf : k + rm.cells ≤ R.cells ∧ n + rm.slots ≤ R.slots) (hn : as.length = n') (hst : stk = as.reverse ++ st) (hroom : (st.map fun v => v.category).sum ≤ 8) (hd : decode cc pc = .ok (.invokestatic ix, 3))
    (K : ∀ (v : Option Value) (w1 : va_W), Post v w1 → gW E (k + rm.cells) (n + rm.slots) (wr ++ w1) (pc + 3) L (v.toList ++ st)) : gW E k n w pc L stk := by
  obtain ⟨p, l, e, R, s, m, args, below, meth, c, A, D, nL, Q⟩ := E
  obtain ⟨rfl, rfl, rfl, rfl, hx, hb, hml, hown, hts, hK, hO, hA, hZ⟩ := C
  obtain ⟨f1, f2, f4, f5, f7, f8, f9⟩ := f
  obtain ⟨s1, s2, s3, s4, s5⟩ := hs
  obtain ⟨x1, x2, x3⟩ := hX
  intro H locs ls hP hD hS hl
  have hDc := hD.sub isC s3 s1
  have hPc := gP_sub hP isC s1
  have hFc := va_free (wc := wc) hD hS hA isC s1
  have hbH : H[b]? = s.heap[b]? := hS.2.1 b x2 x3
  have hbs : b < H.size := Nat.lt_of_lt_of_le x2 hS.1
  have hbA : ¬ va_A wc H.size b := fun q => x3 (hFc b q)
  have hgood : GoodIn LW (va_wsS own ix y (gWs y bb nL' ret)) := by
    intro w hw
    rcases List.mem_append.mp hw with h1 | h1
    · simp only [List.mem_cons, List.not_mem_nil, or_false] at h1
      rcases h1 with rfl | rfl | rfl
      · exact LW_in f1
      · exact LW_in f2
      · exact LW_in f4
    · exact gWs_in f5 w h1
  have run := va_runS (As := as) (rest := st) (H := H) (locs := locs) (cells := k) (slots := n) (l := l) (e := e) (below := below) (meth := meth) (g := F0 m pc ls stk) ⟨hx, hb, hml, hown, hts⟩ (hM H.size) (va_cwS n' hts hgood rfl rfl rfl ⟨f7, f8, f9⟩ hR) ⟨gPreX_blind, fun U hU hW => ⟨rfl, ⟨by rw [hU], by rw [hU]; exact hPc, va_K.moved hW.alike hK, va_AOA.moved hW.alike hO, hDc.weaken (fun _ _ _ _ => trivial), gZ_at hZ hS hFc hU hW⟩, va_X.moved hW.alike (va_X.kept x1 (by rw [hU]; exact hbH)), by rw [hU]; exact hbs, hbA⟩⟩ rfl hn hl.1 hst (lv_room hroom) hd hf
  intro T hT X
  obtain ⟨v, st₀, t, T', L9, h0, X', hL, e1, e2, ⟨⟨v', w1, hv, hpost, hP1, hD1⟩, hF⟩, step⟩ := run T hT X
  cases hv
  obtain ⟨k1, k2, k3⟩ := vx_keep h0 e1 hS (fun q _ h => hFc q h) hFc hL hF
  obtain ⟨hPj, hDj⟩ := va_join hP hD isC isR s1 s2 s4 s5 k2 hFc (by rw [e1]; exact hP1) hD1
  obtain ⟨t2, a1, b1⟩ := K v w1 hpost T'.heap (locs ++ L9) ls hPj hDj k3 hl T' rfl X'
  exact ⟨t2, step t2 a1, b1⟩
theorem gMH_Z {l : Launch} {y : MethodName} {own : String} {b : ByteArray} {nL : Nat} {hh : List (Nat × Nat × Nat × Nat)} {rm : Room} {D : va_G} {cI cG cJ : ClassId} {as : List Value} {w : va_W} {P : Int → va_W → Prop} (hy : plainName y.cls = true) (ho : y.cls = own) (hlen : (lg_sl as).length ≤ nL) (body : ∀ E : gEnv, gC E l rm D nL own b cI cG cJ → gTab E hh → gRZ E b rm P → gW E 0 0 w 0 (lv_args 0 as) []) : gMH l y b nL (some .boolean) hh rm D cI cG cJ as w (gI P) := by
  subst ho
  intro sz
  refine vx_ofWH (cc := b) (maxL := nL) (ret := some .boolean) (hh := hh) hy rfl ?_
  intro p e s m args below meth c s₁ B hml hv
  obtain ⟨rfl, hsz, hP, hK, hO, hD, hZ⟩ := hv
  have hts := atoms_spec (ws := gWsH y b nL (some .boolean) hh) B.pre
  have hx := B.exec
  have hb := B.bytes
  have hr := B.returns
  have hlocks := B.notSynchronized
  have hown := findClass_of_methodNamed B.named
  have htab := vx_table (x := y) B (hts _ List.mem_cons_self)
  subst hsz
  have hD := hD.self (sz := s.heap.size)
  rw [lg_entry_eq]
  refine body (p, l, e, (headSpec (gWsH y b nL (some .boolean) hh) rm).room, s, m, as.toArray, below, meth, c, va_A w s.heap.size, D, nL, vx_MQ below (gPost D w s.heap.size (gI P)) (fun _ _ _ => False) as.toArray s rm.cells rm.slots (va_A w s.heap.size)) ⟨rfl, rfl, rfl, rfl, hx, hb, hml, hown, fun w h => hts w (List.mem_cons_of_mem _ h), hK, hO, fun q h => Or.inr h, hZ⟩ htab ?_ s.heap [] _ hP hD va_S.rf (lv_entry as hlen)
  intro k n w' pc L x hk hn hd hx01 hpost H locs ls hP hD hS hl
  refine W.widen hk hn ?_
  refine vx_ret ?_
  exact W.zret hx hb hr (by rcases hx01 with rfl | rfl <;> rfl) (fun t ht hW => ⟨⟨_, w', rfl, ⟨x, rfl, hpost⟩, by rw [ht]; exact hP, hD⟩, hS.F ht⟩) hS.2.2 hd
section GK11
variable {E : gEnv} {l : Launch} {R : Room} {D : va_G} {nL : Nat} {own : String} {cc : ByteArray} {cI cG cJ : ClassId} {k n : Nat} {w : va_W} {pc : Nat} {L : List (Nat × Value)} {st : List Value}
theorem g_sld {b N : Nat} {xs : Nat → Int32} {i : Int} (C : gC E l R D nL own cc cI cG cJ) (hX : gScr E b N xs) (hN : N ≤ 2000) (h0 : 0 ≤ i) (h1 : i < N) (hd : decode cc pc = .ok (.iaload, 1)) (K : ∀ z : Int, zr z → gW E k n w (pc + 1) L (.int (zI z) :: st)) : gW E k n w pc L (.int (zI i) :: .ref b :: st) := by
  have K := K (xs i.toNat).toInt (zr_of _)
  rw [zI_of] at K
  obtain ⟨p, l, e, R, s, m, args, below, meth, c, A, D, nL, Q⟩ := E
  obtain ⟨rfl, rfl, rfl, rfl, hx, hb, hml, hown, hts, hK, hO, hA, hZ⟩ := C
  obtain ⟨x1, x2, x3⟩ := hX
  intro H locs ls hP hD hS hl
  refine va_sld hx hb x1 x2 x3 hS (zI_in h0 h1 hN) hd ?_
  rw [zI_cl h0 h1 hN]
  exact K H locs ls hP hD hS hl
theorem g_slen {b N : Nat} {xs : Nat → Int32} (C : gC E l R D nL own cc cI cG cJ) (hX : gScr E b N xs) (hd : decode cc pc = .ok (.arraylength, 1)) (K : gW E k n w (pc + 1) L (.int (zI (N : Int)) :: st)) : gW E k n w pc L (.ref b :: st) := by
  rw [show zI (N : Int) = Int32.ofNat N from Int32.ofInt_eq_ofNat] at K
  obtain ⟨p, l, e, R, s, m, args, below, meth, c, A, D, nL, Q⟩ := E
  obtain ⟨rfl, rfl, rfl, rfl, hx, hb, hml, hown, hts, hK, hO, hA, hZ⟩ := C
  obtain ⟨x1, x2, x3⟩ := hX
  intro H locs ls hP hD hS hl
  exact va_slen hx hb x1 x2 x3 hS hd (K H locs ls hP hD hS hl)
theorem g_tsIn {dflt lo hi : Int} {offs : Array Int} {len : Nat} {v off : Int} (tgt : Nat) (C : gC E l R D nL own cc cI cG cJ) (hd : decode cc pc = .ok (.tableswitch dflt lo hi offs, len)) (hv : zr v) (h1 : lo ≤ v) (h2 : v ≤ hi) (ho : offs[(v - lo).toNat]? = some off) (ht : (pc : Int) + off = (tgt : Int)) (K : gW E k n w tgt L st) : gW E k n w pc L (.int (zI v) :: st) := by
  obtain ⟨p, l, e, R, s, m, args, below, meth, c, A, D, nL, Q⟩ := E
  obtain ⟨rfl, rfl, rfl, rfl, hx, hb, hml, hown, hts, hK, hO, hA, hZ⟩ := C
  intro H locs ls hP hD hS hl
  have e1 := zI_toInt hv
  exact lv_tableIn hx hb hd (by rw [e1]; omega) (by rw [e1]; omega) (by rw [e1]; exact ho) ht (K H locs ls hP hD hS hl)
theorem g_tsOut {dflt lo hi : Int} {offs : Array Int} {len : Nat} {v : Int} (tgt : Nat) (C : gC E l R D nL own cc cI cG cJ) (hd : decode cc pc = .ok (.tableswitch dflt lo hi offs, len)) (hv : zr v) (h : v < lo ∨ hi < v) (ht : (pc : Int) + dflt = (tgt : Int)) (K : gW E k n w tgt L st) : gW E k n w pc L (.int (zI v) :: st) := by
  obtain ⟨p, l, e, R, s, m, args, below, meth, c, A, D, nL, Q⟩ := E
  obtain ⟨rfl, rfl, rfl, rfl, hx, hb, hml, hown, hts, hK, hO, hA, hZ⟩ := C
  intro H locs ls hP hD hS hl
  have e1 := zI_toInt hv
  exact lv_tableOut hx hb hd (by rw [e1]; exact h) ht (K H locs ls hP hD hS hl)
end GK11
