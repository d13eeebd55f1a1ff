/-! calls of contracts -/
theorem LW_in {w : Cond} (h : w ∈ LW) : w ∈ LW ∧ ((w.onTables && w.keeps) = true ∨ ∃ ty, w = .arrayClass ty) := ⟨h, good_of_word (List.all_eq_true.mp LW_good w h)⟩
/-- the words of a call: of an object's method, of a static one, of a constructor -/
def gV (own : String) (ix : Nat) (y : MethodName) (b : ByteArray) (nL : Nat) (ret : Option FieldType) (n : Nat) (Cn : String) : Prop := Cond.methodLink own ix y ∈ LW ∧ Cond.instanceMethod y ∈ LW ∧ Cond.selects Cn y y ∈ LW ∧ Cond.initialized Cn ∈ LW ∧ Cond.code y b nL ret ∈ LW ∧ y.cls = Cn ∧ y.cls ≠ "java/lang/invoke/MethodHandle" ∧ y.cls ≠ "java/lang/invoke/VarHandle" ∧ (parseMethodDescriptor y.desc).map (fun d => d.parameters.length) = some n
def gS (own : String) (ix : Nat) (y : MethodName) (b : ByteArray) (nL : Nat) (ret : Option FieldType) (n : Nat) : Prop := Cond.methodLink own ix y ∈ LW ∧ Cond.static y ∈ LW ∧ Cond.initialized y.cls ∈ LW ∧ Cond.code y b nL ret ∈ LW ∧ y.cls ≠ "java/lang/invoke/MethodHandle" ∧ y.cls ≠ "java/lang/invoke/VarHandle" ∧ (parseMethodDescriptor y.desc).map (fun d => d.parameters.length) = some n
def gCt (own : String) (ix : Nat) (y : MethodName) (b : ByteArray) (nL : Nat) (n : Nat) : Prop := Cond.methodLink own ix y ∈ LW ∧ Cond.instanceMethod y ∈ LW ∧ Cond.initialized y.cls ∈ LW ∧ Cond.code y b nL none ∈ LW ∧ y.name = "<init>" ∧ y.cls ≠ "java/lang/invoke/MethodHandle" ∧ y.cls ≠ "java/lang/invoke/VarHandle" ∧ (parseMethodDescriptor y.desc).map (fun d => d.parameters.length) = some n
theorem gWs_in {y : MethodName} {b : ByteArray} {nL : Nat} {ret : Option FieldType} (h : Cond.code y b nL ret ∈ LW) : GoodIn LW (gWs y b nL ret) := by
  intro w hw
  rcases List.mem_cons.mp hw with h1 | h1
  · rw [h1]; exact LW_in h
  · exact LW_in h1
/-- how the cells of a world part: the callee's, the rest -/
def gSp (w wc wr : va_W) (isC isR : List Nat) : Prop := isC.map (fun i => w[i]?) = wc.map some ∧ isR.map (fun i => w[i]?) = wr.map some ∧ va_nd isC = true ∧ va_nd isR = true ∧ ∀ i ∈ isR, i ∉ isC
theorem gZ_at {A0 : Nat → Prop} {s U : State} {H : Heap} {locs : List Loc} {wc : va_W} (hZ : gZ A0 s) (hS : va_S A0 s.heap H locs) (hF : ∀ q, va_A wc H.size q → A0 q) (hU : U.heap = H) (hW : s.WarmedH U.vm) : gZ (va_A wc H.size) U := by
  subst hU
  exact ⟨vx_Zq.narrow (vx_Zq.moved hW.alike (vx_Zq.kept hZ.1 (fun a h1 h2 => hS.2.1 a h1 h2))) hF, vx_Zq.narrow (vx_Zq.moved hW.alike (vx_Zq.kept hZ.2.1 (fun a h1 h2 => hS.2.1 a h1 h2))) hF, NG_warm hW hZ.2.2.1, fun q h => va_Nc.moved hW.alike (hZ.2.2.2 q h)⟩
theorem va_AOA.moved {t : FieldType} {u U : State} (hvm : u.vm.Alike U.vm) (h : va_AOA t u) : va_AOA t U := over_moved hvm h
theorem gP_sub {D : va_G} {cl : List vw_C} {ws ws' : va_W} {H : Heap} (h : va_P D cl ws H) (is : List Nat) (hs : is.map (fun i => ws[i]?) = ws'.map some) : va_P D cl ws' H := by
  intro j q hj
  have h1 : (is.map (fun i => ws[i]?))[j]? = some (some q) := by rw [hs, List.getElem?_map, hj]; rfl
  rw [List.getElem?_map] at h1
  cases hi : is[j]? with
  | none => rw [hi] at h1; cases h1
  | some i => rw [hi] at h1; exact h i q (Option.some.inj h1)
section GC2
variable {E : gEnv} {l : Launch} {R : Room} {D : va_G} {nL : Nat} {own : String} {cc : ByteArray} {cI cG cJ : ClassId} {k n : Nat} {w : va_W} {pc : Nat} {L : List (Nat × Value)} {st stk : List Value}
variable {y : MethodName} {b : ByteArray} {nL' : Nat} {ret : Option FieldType} {rm : Room} {as : List Value} {wc wr : va_W} {a n' ix : Nat} {Cn : String} {Post : Option Value → va_W → Prop} {QX : String → va_W → Prop}
theorem g_callV0 (isC isR : List Nat) (C : gC E l R D nL own cc cI cG cJ) (f : gV own ix y b nL' ret n' Cn) (hM : gMet l y b nL' ret rm D cI cG cJ (.ref a :: as) wc Post) (hs : gSp w wc wr isC isR) {q0 ci N : Nat} {T : u_T} {fs : List Value} (he : w[q0]? = some (a, .inr (ci, fs))) (hci : vwCl[ci]? = some (Cn, T, N))
    (hR : rm.frames + 1 ≤ R.frames ∧ 8 + (nL' + 11) + rm.locals ≤ R.locals) (hf : k + rm.cells ≤ R.cells ∧ n + rm.slots ≤ R.slots) (hn : as.length = n') (hst : stk = as.reverse ++ .ref a :: st) (hroom : (st.map fun v => v.category).sum ≤ 8) (hd : decode cc pc = .ok (.invokevirtual ix, 3))
    (K : ∀ (v : Option Value) (w1 : va_W), Post v w1 → gW E (k + rm.cells) (n + rm.slots) (wr ++ w1) (pc + 3) L (v.toList ++ st)) : gW E k n w pc L stk := by
  obtain ⟨p, l, e, R, s, m, args, below, meth, c, A, D, nL, Q⟩ := E
  obtain ⟨rfl, rfl, rfl, rfl, hx, hb, hml, hown, hts, hK, hO, hA, hZ⟩ := C
  obtain ⟨f1, f2, f3, f4, f5, rfl, f7, f8, f9⟩ := f
  obtain ⟨s1, s2, s3, s4, s5⟩ := hs
  intro H locs ls hP hD hS hl
  have hDc := hD.sub isC s3 s1
  have hPc := gP_sub hP isC s1
  have hFc := va_free (wc := wc) hD hS hA isC s1
  have hgood : GoodIn LW (wsV own ix y.cls y (gWs y b nL' ret)) := by
    intro w hw
    rcases List.mem_append.mp hw with h1 | h1
    · simp only [List.mem_cons, List.not_mem_nil, or_false] at h1
      rcases h1 with rfl | rfl | rfl | rfl
      · exact LW_in f1
      · exact LW_in f2
      · exact LW_in f3
      · exact LW_in f4
    · exact gWs_in f5 w h1
  have run := va_runV (As := as) (rest := st) (H := H) (locs := locs) (cells := k) (slots := n) (l := l) (e := e) (below := below) (meth := meth) (g := F0 m pc ls stk) ⟨hx, hb, hml, hown, hts⟩ (hM H.size) (cwV n' hts hgood rfl rfl rfl (by first | exact ⟨rfl, f7, f8, f9⟩ | exact ⟨f7, f8, f9⟩) hR) ⟨gPre_blind, va_recv hK hP hci he, fun U hU hW => ⟨rfl, by rw [hU], by rw [hU]; exact hPc, va_K.moved hW.alike hK, va_AOA.moved hW.alike hO, hDc.weaken (fun _ _ _ _ => trivial), gZ_at hZ hS hFc hU hW⟩⟩ rfl hn hl.1 hst (lv_room hroom) hd hf
  intro T hT X
  obtain ⟨v, st₀, t, T', L9, h0, X', hL, e1, e2, ⟨⟨v', w1, hv, hpost, hP1, hD1⟩, hF⟩, step⟩ := run T hT X
  cases hv
  obtain ⟨k1, k2, k3⟩ := vx_keep h0 e1 hS (fun q _ h => hFc q h) hFc hL hF
  obtain ⟨hPj, hDj⟩ := va_join hP hD isC isR s1 s2 s4 s5 k2 hFc (by rw [e1]; exact hP1) hD1
  obtain ⟨t2, a1, b1⟩ := K v w1 hpost T'.heap (locs ++ L9) ls hPj hDj k3 hl T' rfl X'
  exact ⟨t2, step t2 a1, b1⟩
theorem g_callV (isC isR : List Nat) (C : gC E l R D nL own cc cI cG cJ) (f : gV own ix y b nL' ret n' Cn) (hM : gMet l y b nL' ret rm D cI cG cJ (.ref a :: as) wc Post) (hs : gSp w wc wr isC isR) {q0 ci N : Nat} {T : u_T} {fs : List Value} (he : w[q0]? = some (a, .inr (ci, fs))) (hci : vwCl[ci]? = some (Cn, T, N))
    (hR : rm.frames + 1 ≤ R.frames ∧ 8 + (nL' + 11) + rm.locals ≤ R.locals) (hf : k + rm.cells ≤ R.cells ∧ n + rm.slots ≤ R.slots) (hn : as.length = n') (hst : stk = as.reverse ++ .ref a :: st) (hroom : (st.map fun v => v.category).sum ≤ 8) (hd : decode cc pc = .ok (.invokevirtual ix, 3))
    (K : ∀ (v : Option Value) (w1 : va_W), Post v w1 → gW E (k + rm.cells) (n + rm.slots) (wr ++ w1) (pc + 3) L (v.toList ++ st)) : gW E k n w pc L stk := g_callV0 isC isR C f hM hs he hci hR hf hn hst hroom hd K
theorem g_callS (isC isR : List Nat) (C : gC E l R D nL own cc cI cG cJ) (f : gS own ix y b nL' ret n') (hM : gMet l y b nL' ret rm D cI cG cJ as wc Post) (hs : gSp w wc wr isC isR)
    (hR : rm.frames + 1 ≤ R.frames ∧ 8 + (nL' + 11) + rm.locals ≤ R.locals) (hf : k + rm.cells ≤ R.cells ∧ n + rm.slots ≤ R.slots) (hn : as.length = n') (hst : stk = as.reverse ++ st) (hroom : (st.map fun v => v.category).sum ≤ 8) (hd : decode cc pc = .ok (.invokestatic ix, 3))
    (K : ∀ (v : Option Value) (w1 : va_W), Post v w1 → gW E (k + rm.cells) (n + rm.slots) (wr ++ w1) (pc + 3) L (v.toList ++ st)) : gW E k n w pc L stk := by
  obtain ⟨p, l, e, R, s, m, args, below, meth, c, A, D, nL, Q⟩ := E
  obtain ⟨rfl, rfl, rfl, rfl, hx, hb, hml, hown, hts, hK, hO, hA, hZ⟩ := C
  obtain ⟨f1, f2, f4, f5, f7, f8, f9⟩ := f
  obtain ⟨s1, s2, s3, s4, s5⟩ := hs
  intro H locs ls hP hD hS hl
  have hDc := hD.sub isC s3 s1
  have hPc := gP_sub hP isC s1
  have hFc := va_free (wc := wc) hD hS hA isC s1
  have hgood : GoodIn LW (va_wsS own ix y (gWs y b nL' ret)) := by
    intro w hw
    rcases List.mem_append.mp hw with h1 | h1
    · simp only [List.mem_cons, List.not_mem_nil, or_false] at h1
      rcases h1 with rfl | rfl | rfl
      · exact LW_in f1
      · exact LW_in f2
      · exact LW_in f4
    · exact gWs_in f5 w h1
  have run := va_runS (As := as) (rest := st) (H := H) (locs := locs) (cells := k) (slots := n) (l := l) (e := e) (below := below) (meth := meth) (g := F0 m pc ls stk) ⟨hx, hb, hml, hown, hts⟩ (hM H.size) (va_cwS n' hts hgood rfl rfl rfl ⟨f7, f8, f9⟩ hR) ⟨gPre_blind, fun U hU hW => ⟨rfl, by rw [hU], by rw [hU]; exact hPc, va_K.moved hW.alike hK, va_AOA.moved hW.alike hO, hDc.weaken (fun _ _ _ _ => trivial), gZ_at hZ hS hFc hU hW⟩⟩ rfl hn hl.1 hst (lv_room hroom) hd hf
  intro T hT X
  obtain ⟨v, st₀, t, T', L9, h0, X', hL, e1, e2, ⟨⟨v', w1, hv, hpost, hP1, hD1⟩, hF⟩, step⟩ := run T hT X
  cases hv
  obtain ⟨k1, k2, k3⟩ := vx_keep h0 e1 hS (fun q _ h => hFc q h) hFc hL hF
  obtain ⟨hPj, hDj⟩ := va_join hP hD isC isR s1 s2 s4 s5 k2 hFc (by rw [e1]; exact hP1) hD1
  obtain ⟨t2, a1, b1⟩ := K v w1 hpost T'.heap (locs ++ L9) ls hPj hDj k3 hl T' rfl X'
  exact ⟨t2, step t2 a1, b1⟩
theorem g_callC (isC isR : List Nat) (C : gC E l R D nL own cc cI cG cJ) (f : gCt own ix y b nL' n') (hM : gMet l y b nL' none rm D cI cG cJ (.ref a :: as) wc Post) (hs : gSp w wc wr isC isR)
    (hR : rm.frames + 1 ≤ R.frames ∧ 8 + (nL' + 11) + rm.locals ≤ R.locals) (hf : k + rm.cells ≤ R.cells ∧ n + rm.slots ≤ R.slots) (hn : as.length = n') (hst : stk = as.reverse ++ .ref a :: st) (hroom : (st.map fun v => v.category).sum ≤ 8) (hd : decode cc pc = .ok (.invokespecial ix, 3))
    (K : ∀ (v : Option Value) (w1 : va_W), Post v w1 → gW E (k + rm.cells) (n + rm.slots) (wr ++ w1) (pc + 3) L (v.toList ++ st)) : gW E k n w pc L stk := by
  obtain ⟨p, l, e, R, s, m, args, below, meth, c, A, D, nL, Q⟩ := E
  obtain ⟨rfl, rfl, rfl, rfl, hx, hb, hml, hown, hts, hK, hO, hA, hZ⟩ := C
  obtain ⟨f1, f2, f4, f5, f6, f7, f8, f9⟩ := f
  obtain ⟨s1, s2, s3, s4, s5⟩ := hs
  intro H locs ls hP hD hS hl
  have hDc := hD.sub isC s3 s1
  have hPc := gP_sub hP isC s1
  have hFc := va_free (wc := wc) hD hS hA isC s1
  have run := va_runI (As := as) (rest := st) (H := H) (locs := locs) (cells := k) (slots := n) (l := l) (e := e) (below := below) (meth := meth) (g := F0 m pc ls stk) ⟨hx, hb, hml, hown, hts⟩ (hM H.size) (cwI n' hts (gWs_in f5) rfl rfl rfl (hts _ f4) (hts _ f1) (hts _ f2) f6 ⟨f7, f8, f9⟩ hR) ⟨gPre_blind, fun U hU hW => ⟨rfl, by rw [hU], by rw [hU]; exact hPc, va_K.moved hW.alike hK, va_AOA.moved hW.alike hO, hDc.weaken (fun _ _ _ _ => trivial), gZ_at hZ hS hFc hU hW⟩⟩ rfl hn hl.1 hst (lv_room hroom) hd hf
  intro T hT X
  obtain ⟨v, st₀, t, T', L9, h0, X', hL, e1, e2, ⟨⟨v', w1, hv, hpost, hP1, hD1⟩, hF⟩, step⟩ := run T hT X
  cases hv
  obtain ⟨k1, k2, k3⟩ := vx_keep h0 e1 hS (fun q _ h => hFc q h) hFc hL hF
  obtain ⟨hPj, hDj⟩ := va_join hP hD isC isR s1 s2 s4 s5 k2 hFc (by rw [e1]; exact hP1) hD1
  obtain ⟨t2, a1, b1⟩ := K v w1 hpost T'.heap (locs ++ L9) ls hPj hDj k3 hl T' rfl X'
  exact ⟨t2, step t2 a1, b1⟩
/-- a callee that may throw -/
theorem g_callVX (isC isR : List Nat) (C : gC E l R D nL own cc cI cG cJ) (f : gV own ix y b nL' ret n' Cn) (hM : gMex l y b nL' ret rm D cI cG cJ (.ref a :: as) wc Post QX) (hs : gSp w wc wr isC isR) {q0 ci N : Nat} {T : u_T} {fs : List Value} (he : w[q0]? = some (a, .inr (ci, fs))) (hci : vwCl[ci]? = some (Cn, T, N))
    (hR : rm.frames + 1 ≤ R.frames ∧ 8 + (nL' + 11) + rm.locals ≤ R.locals) (hf : k + rm.cells ≤ R.cells ∧ n + rm.slots ≤ R.slots) (hn : as.length = n') (hst : stk = as.reverse ++ .ref a :: st) (hroom : (st.map fun v => v.category).sum ≤ 8) (hd : decode cc pc = .ok (.invokevirtual ix, 3))
    (Kx : ∀ (nm : String) (w1 : va_W), QX nm w1 → gWx E (k + rm.cells) (n + rm.slots) (wr ++ w1) pc L nm)
    (K : ∀ (v : Option Value) (w1 : va_W), Post v w1 → gW E (k + rm.cells) (n + rm.slots) (wr ++ w1) (pc + 3) L (v.toList ++ st)) : gW E k n w pc L stk := by
  obtain ⟨p, l, e, R, s, m, args, below, meth, c, A, D, nL, Q⟩ := E
  obtain ⟨rfl, rfl, rfl, rfl, hx, hb, hml, hown, hts, hK, hO, hA, hZ⟩ := C
  obtain ⟨f1, f2, f3, f4, f5, rfl, f7, f8, f9⟩ := f
  obtain ⟨s1, s2, s3, s4, s5⟩ := hs
  intro H locs ls hP hD hS hl
  have hDc := hD.sub isC s3 s1
  have hPc := gP_sub hP isC s1
  have hFc := va_free (wc := wc) hD hS hA isC s1
  have hgood : GoodIn LW (wsV own ix y.cls y (gWs y b nL' ret)) := by
    intro w hw
    rcases List.mem_append.mp hw with h1 | h1
    · simp only [List.mem_cons, List.not_mem_nil, or_false] at h1
      rcases h1 with rfl | rfl | rfl | rfl
      · exact LW_in f1
      · exact LW_in f2
      · exact LW_in f3
      · exact LW_in f4
    · exact gWs_in f5 w h1
  have run := vx_runV (As := as) (rest := st) (H := H) (locs := locs) (cells := k) (slots := n) (l := l) (e := e) (below := below) (meth := meth) (g := F0 m pc ls stk) ⟨hx, hb, hml, hown, hts⟩ (hM H.size) (cwV n' hts hgood rfl rfl rfl (by first | exact ⟨rfl, f7, f8, f9⟩ | exact ⟨f7, f8, f9⟩) hR) ⟨gPre_blind, va_recv hK hP hci he, fun U hU hW => ⟨rfl, by rw [hU], by rw [hU]; exact hPc, va_K.moved hW.alike hK, va_AOA.moved hW.alike hO, hDc.weaken (fun _ _ _ _ => trivial), gZ_at hZ hS hFc hU hW⟩⟩ rfl hn hl.1 hst (lv_room hroom) hd hf
  intro T hT X
  rcases run T hT X with ⟨v, st₀, t, T', L9, h0, X', hL, e1, e2, ⟨⟨v', w1, hv, hpost, hP1, hD1⟩, hF⟩, step⟩ | ⟨q, st₀, t, T', L9, E9, ce, h0, X', hL, e1, e2, ⟨w1, -, ⟨hq, hP1, hD1⟩, hF⟩, hce, hcv, hcl, step⟩
  · cases hv
    obtain ⟨k1, k2, k3⟩ := vx_keep h0 e1 hS (fun q _ h => hFc q h) hFc hL hF
    obtain ⟨hPj, hDj⟩ := va_join hP hD isC isR s1 s2 s4 s5 k2 hFc (by rw [e1]; exact hP1) hD1
    obtain ⟨t2, a1, b1⟩ := K v w1 hpost T'.heap (locs ++ L9) ls hPj hDj k3 hl T' rfl X'
    exact ⟨t2, step t2 a1, b1⟩
  · obtain ⟨k1, k2, k3⟩ := vx_keep h0 e1 hS (fun q _ h => hFc q h) hFc hL hF
    obtain ⟨hPj, hDj⟩ := va_join hP hD isC isR s1 s2 s4 s5 k2 hFc (by rw [e1]; exact hP1) hD1
    obtain ⟨t2, a1, b1⟩ := Kx E9 w1 hq T'.heap (locs ++ L9) ls q ce st hPj hDj k3 hl (by rw [e1]; exact hce) hcv hcl T' rfl X'
    exact ⟨t2, step.trans a1, b1⟩
theorem g_callSX (isC isR : List Nat) (C : gC E l R D nL own cc cI cG cJ) (f : gS own ix y b nL' ret n') (hM : gMex l y b nL' ret rm D cI cG cJ as wc Post QX) (hs : gSp w wc wr isC isR)
    (hR : rm.frames + 1 ≤ R.frames ∧ 8 + (nL' + 11) + rm.locals ≤ R.locals) (hf : k + rm.cells ≤ R.cells ∧ n + rm.slots ≤ R.slots) (hn : as.length = n') (hst : stk = as.reverse ++ st) (hroom : (st.map fun v => v.category).sum ≤ 8) (hd : decode cc pc = .ok (.invokestatic ix, 3))
    (Kx : ∀ (nm : String) (w1 : va_W), QX nm w1 → gWx E (k + rm.cells) (n + rm.slots) (wr ++ w1) pc L nm)
    (K : ∀ (v : Option Value) (w1 : va_W), Post v w1 → gW E (k + rm.cells) (n + rm.slots) (wr ++ w1) (pc + 3) L (v.toList ++ st)) : gW E k n w pc L stk := by
  obtain ⟨p, l, e, R, s, m, args, below, meth, c, A, D, nL, Q⟩ := E
  obtain ⟨rfl, rfl, rfl, rfl, hx, hb, hml, hown, hts, hK, hO, hA, hZ⟩ := C
  obtain ⟨f1, f2, f4, f5, f7, f8, f9⟩ := f
  obtain ⟨s1, s2, s3, s4, s5⟩ := hs
  intro H locs ls hP hD hS hl
  have hDc := hD.sub isC s3 s1
  have hPc := gP_sub hP isC s1
  have hFc := va_free (wc := wc) hD hS hA isC s1
  have hgood : GoodIn LW (va_wsS own ix y (gWs y b nL' ret)) := by
    intro w hw
    rcases List.mem_append.mp hw with h1 | h1
    · simp only [List.mem_cons, List.not_mem_nil, or_false] at h1
      rcases h1 with rfl | rfl | rfl
      · exact LW_in f1
      · exact LW_in f2
      · exact LW_in f4
    · exact gWs_in f5 w h1
  have run := vx_runS (As := as) (rest := st) (H := H) (locs := locs) (cells := k) (slots := n) (l := l) (e := e) (below := below) (meth := meth) (g := F0 m pc ls stk) ⟨hx, hb, hml, hown, hts⟩ (hM H.size) (va_cwS n' hts hgood rfl rfl rfl ⟨f7, f8, f9⟩ hR) ⟨gPre_blind, fun U hU hW => ⟨rfl, by rw [hU], by rw [hU]; exact hPc, va_K.moved hW.alike hK, va_AOA.moved hW.alike hO, hDc.weaken (fun _ _ _ _ => trivial), gZ_at hZ hS hFc hU hW⟩⟩ rfl hn hl.1 hst (lv_room hroom) hd hf
  intro T hT X
  rcases run T hT X with ⟨v, st₀, t, T', L9, h0, X', hL, e1, e2, ⟨⟨v', w1, hv, hpost, hP1, hD1⟩, hF⟩, step⟩ | ⟨q, st₀, t, T', L9, E9, ce, h0, X', hL, e1, e2, ⟨w1, -, ⟨hq, hP1, hD1⟩, hF⟩, hce, hcv, hcl, step⟩
  · cases hv
    obtain ⟨k1, k2, k3⟩ := vx_keep h0 e1 hS (fun q _ h => hFc q h) hFc hL hF
    obtain ⟨hPj, hDj⟩ := va_join hP hD isC isR s1 s2 s4 s5 k2 hFc (by rw [e1]; exact hP1) hD1
    obtain ⟨t2, a1, b1⟩ := K v w1 hpost T'.heap (locs ++ L9) ls hPj hDj k3 hl T' rfl X'
    exact ⟨t2, step t2 a1, b1⟩
  · obtain ⟨k1, k2, k3⟩ := vx_keep h0 e1 hS (fun q _ h => hFc q h) hFc hL hF
    obtain ⟨hPj, hDj⟩ := va_join hP hD isC isR s1 s2 s4 s5 k2 hFc (by rw [e1]; exact hP1) hD1
    obtain ⟨t2, a1, b1⟩ := Kx E9 w1 hq T'.heap (locs ++ L9) ls q ce st hPj hDj k3 hl (by rw [e1]; exact hce) hcv hcl T' rfl X'
    exact ⟨t2, step.trans a1, b1⟩
/-- Math.min -/
def gMn (own : String) (ix : Nat) : Prop := Cond.methodLink own ix Lib.Math.min.name ∈ LW ∧ Cond.static Lib.Math.min.name ∈ LW ∧ Cond.initialized "java/lang/Math" ∈ LW ∧ Cond.code Lib.Math.min.name Lib.Math.min.code 2 (some .int) ∈ LW
theorem g_min {u v : Int} (C : gC E l R D nL own cc cI cG cJ) (f : gMn own ix) (hu : zr u) (hv : zr v) (hR : 1 ≤ R.frames ∧ 21 ≤ R.locals ∧ k ≤ R.cells ∧ n ≤ R.slots) (hroom : (st.map fun v => v.category).sum ≤ 8) (hd : decode cc pc = .ok (.invokestatic ix, 3)) (K : gW E k n w (pc + 3) L (.int (zI (min u v)) :: st)) : gW E k n w pc L (.int (zI v) :: .int (zI u) :: st) := by
  obtain ⟨p, l, e, R, s, m, args, below, meth, c, A, D, nL, Q⟩ := E
  obtain ⟨rfl, rfl, rfl, rfl, hx, hb, hml, hown, hts, hK, hO, hA, hZ⟩ := C
  obtain ⟨f1, f2, f3, f4⟩ := f
  intro H locs ls hP hD hS hl
  refine va_mmin hx hb (hml.trans hl.1.symm) hown (hts _ f1) (hts _ f2) (hts _ f3) (hts _ f4) hR.1 (Nat.le_trans (Nat.add_le_add_right hroom 13) hR.2.1) hR.2.2.1 hR.2.2.2 hd ?_
  rw [zI_min hu hv]
  exact K H locs ls hP hD hS hl
/-- new int[N] -/
theorem g_newi {N : Nat} (C : gC E l R D nL own cc cI cG cJ) (f : Cond.arrayClass .int ∈ LW) (hN : N ≤ 2000) (hR : k + 1 ≤ R.cells ∧ n + N ≤ R.slots) (hd : decode cc pc = .ok (.newarray .int, 2)) (K : ∀ q : Nat, gW E (k + 1) (n + N) (w ++ [(q, .inl (cI, N, .inl (zA (fun _ => 0))))]) (pc + 2) L (.ref q :: st)) : gW E k n w pc L (.int (zI N) :: st) := by
  obtain ⟨p, l, e, R, s, m, args, below, meth, c, A, D, nL, Q⟩ := E
  obtain ⟨rfl, rfl, rfl, rfl, hx, hb, hml, hown, hts, hK, hO, hA, hZ⟩ := C
  intro H locs ls hP hD hS hl
  have hNr : zr (N : Int) := ⟨by omega, by omega⟩
  have h1 : ¬ zI (N : Int) < 0 := fun q => by
    have := (zI_lt hNr zr0).mp q
    omega
  have h2 : (zI (N : Int)).toNatClampNeg = N := by
    have h3 : (N : Int) < 2 ^ 31 := by omega
    have h4 : -2 ^ 31 ≤ (N : Int) := by omega
    exact Int32.toNatClampNeg_ofInt_of_le h4 h3
  have h5 : N * componentBytes .int ≤ 536870912 := by
    show N * 4 ≤ _
    omega
  refine va_newa (atype := .int) (ty := .int) (N' := N) (a0 := (N, .inl (zA (fun _ => 0)))) hx hb (hts _ f) rfl hK hP hD hS hA (fun _ => rfl) h1 h2 h5 hR.1 hR.2 hd (fun q cA H1 hK1 hP1 hD1 hS1 => ?_)
  have e1 : some cA = some cI := (hK1.2 3 _ rfl).2.symm.trans (hK.2 0 _ rfl).2
  cases e1
  exact K q H1 locs ls hP1 hD1 hS1 hl
end GC2
