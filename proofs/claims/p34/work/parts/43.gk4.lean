/-! constructors: Object's own, new, final fields, grids -/
def gInit (E : gEnv) : Prop := match E with
  | (_, _, _, _, _, _, _, _, meth, _, _, _, _, _) => meth.name = "<init>"
theorem gMet_NC {l : Launch} {y : MethodName} {own : String} {b : ByteArray} {nL : Nat} {rm : Room} {D : va_G} {cI cG cJ : ClassId} {as : List Value} {w : va_W} {P : va_W → Prop} (hni : y.name = "<init>") (hy : plainName y.cls = true) (ho : y.cls = own) (hlen : (lg_sl as).length ≤ nL) (body : ∀ E : gEnv, gC E l rm D nL own b cI cG cJ → gInit E → gRN E b rm P → gW E 0 0 w 0 (lv_args 0 as) []) : gMet l y b nL none rm D cI cG cJ as w (gN P) := by
  subst ho
  intro sz
  refine Met.ofW (cc := b) (maxL := nL) (ret := none) hy rfl ?_
  intro p e s m args below meth c s₁ B hml hv
  obtain ⟨rfl, hsz, hP, hK, hO, hD, hZ⟩ := hv
  have hts := atoms_spec (ws := gWs y b nL none) B.pre
  have hx := B.exec
  have hb := B.bytes
  have hr := B.returns
  have hlocks := B.notSynchronized
  subst hsz
  have hD := hD.self (sz := s.heap.size)
  rw [lg_entry_eq]
  refine body (p, l, e, (headSpec (gWs y b nL none) rm).room, s, m, as.toArray, below, meth, c, va_A w s.heap.size, D, nL, MQ below (gPost D w s.heap.size (gN P)) as.toArray s rm.cells rm.slots (va_A w s.heap.size)) ⟨rfl, rfl, rfl, rfl, hx, hb, hml, findClass_of_methodNamed B.named, fun w h => hts w (List.mem_cons_of_mem _ h), hK, hO, fun q h => Or.inr h, hZ⟩ ((name_of_methodNamed B.named B.method).1.trans hni) ?_ s.heap [] _ hP hD va_S.rf (lv_entry as hlen)
  intro k n w' pc L hk hn hd hpost H locs ls hP hD hS hl
  refine W.widen hk hn ?_
  exact W.vret hx hb hr (fun t ht hW => ⟨⟨_, w', rfl, ⟨rfl, hpost⟩, by rw [ht]; exact hP, hD⟩, hS.F ht⟩) hS.2.2 hd
section GK4
variable {E : gEnv} {l : Launch} {R : Room} {D : va_G} {nL : Nat} {own : String} {cc : ByteArray} {cI cG cJ : ClassId} {k n : Nat} {w : va_W} {pc : Nat} {L : List (Nat × Value)} {st : List Value}
def gOI (own : String) (ix : Nat) : Prop := Cond.methodLink own ix objectInit ∈ LW ∧ Cond.instanceMethod objectInit ∈ LW ∧ Cond.code objectInit ⟨#[0xb1]⟩ 1 none ∈ LW
theorem g_objI {ix a : Nat} (C : gC E l R D nL own cc cI cG cJ) (f : gOI own ix) (hR : 1 ≤ R.frames ∧ 20 ≤ R.locals) (hroom : (st.map fun v => v.category).sum ≤ 8) (hd : decode cc pc = .ok (.invokespecial ix, 3)) (K : gW E k n w (pc + 3) L st) : gW E k n w pc L (.ref a :: st) := by
  obtain ⟨p, l, e, R, s, m, args, below, meth, c, A, D, nL, Q⟩ := E
  obtain ⟨rfl, rfl, rfl, rfl, hx, hb, hml, hown, hts, hK, hO, hA, hZ⟩ := C
  obtain ⟨f1, f2, f3⟩ := f
  intro H locs ls hP hD hS hl
  have h1 := lv_room (m := m) (pc := pc) (ls := ls) (rest := .ref a :: st) hroom
  exact W.objInit hx hb hown (hts _ f1) (hts _ f2) (hts _ f3) (g := F0 m pc ls (.ref a :: st)) rfl (hl.1.trans hml.symm) rfl hd hR.1 (by omega) (K H locs ls hP hD hS hl)
theorem g_putF {ix ci kf : Nat} {Cn : String} {T : u_T} {N a : Nat} {fs : List Value} {v : Value} {ty : FieldType} {w' : va_W} (C : gC E l R D nL own cc cI cG cJ) (hI : gInit E) (f : gP own ix ci kf Cn T N ty true) (q0 : Nat) (he : w[q0]? = some (a, .inr (ci, fs))) (hn : narrow ty v = v) (hfit : fits ty v = true) (hk : kf < fs.length) (hw : w.set q0 (a, .inr (ci, fs.set kf v)) = w') (hd : decode cc pc = .ok (.putfield ix, 3)) (K : gW E k n w' (pc + 3) L st) : gW E k n w pc L (v :: .ref a :: st) := by
  obtain ⟨p, l, e, R, s, m, args, below, meth, c, A, D, nL, Q⟩ := E
  obtain ⟨rfl, rfl, rfl, rfl, hx, hb, hml, hown, hts, hK, hO, hA, hZ⟩ := C
  obtain ⟨⟨f1, f2, f3, f4⟩, ⟨ty0, g1, g2⟩, g3, g4, g5⟩ := f
  subst hw
  intro H locs ls hP hD hS hl
  exact va_putF (D := D) (ci := ci) hx hb hts f4 ty0 g1 g2 hown hK hP hD hS q0 he f2 kf f3 (hts _ f1) (fun _ h9 => h9) g3 hI g5 g4 hn hfit hk hd (fun H1 locs1 hP1 hD1 hS1 => K H1 locs1 ls hP1 hD1 hS1 hl)
theorem g_new {ix ci N : Nat} {Cn : String} {T : u_T} (fs : List Value) (C : gC E l R D nL own cc cI cG cJ) (f : Cond.classLink own ix Cn ∈ LW ∧ Cond.instantiable Cn N ∈ LW ∧ Cond.initialized Cn ∈ LW) (hc : vwCl[ci]? = some (Cn, T, N)) (hin : ∀ w ∈ u_ws Cn T N, w ∈ LW) (ty : Nat → FieldType) (hty : ∀ k, k < N → parseFieldDescriptor (T k).2.2.1 = some (ty k)) (hfs : ∀ j, j < N → defaultValue (ty j) = vp_V fs j) (hR : k + 1 ≤ R.cells ∧ n + N ≤ R.slots) (hd : decode cc pc = .ok (.new ix, 3)) (K : ∀ q : Nat, gW E (k + 1) (n + N) (w ++ [(q, .inr (ci, fs))]) (pc + 3) L (.ref q :: st)) : gW E k n w pc L st := by
  obtain ⟨p, l, e, R, s, m, args, below, meth, c, A, D, nL, Q⟩ := E
  obtain ⟨rfl, rfl, rfl, rfl, hx, hb, hml, hown, hts, hK, hO, hA, hZ⟩ := C
  obtain ⟨f1, f2, f3⟩ := f
  intro H locs ls hP hD hS hl
  exact va_new hx hb hts hin ty hty hown (hts _ f1) (hts _ f2) (hts _ f3) hK hP hD hS hA hc hfs hR.1 hR.2 hd (fun q H1 hP1 hD1 hS1 => K q H1 locs ls hP1 hD1 hS1 hl)
theorem pl_map {f : Nat → va_E} {v : va_E} {l : List Nat} : va_pl ([] ++ l) (vr_up f l v) = l.map (fun a => (a, v)) := by
  rw [List.nil_append]
  exact List.map_congr_left (fun a ha => by rw [vr_up_in ha])
theorem g_mna {ix N K' : Nat} (C : gC E l R D nL own cc cI cG cJ) (f : Cond.classLink own ix "[[I" ∈ LW) (fi : Cond.arrayClass .int ∈ LW) (hN : N ≤ 2000) (hK' : K' ≤ 2000) (hR : k + (1 + N) ≤ R.cells ∧ n + (N + N * K') ≤ R.slots) (hd : decode cc pc = .ok (.multianewarray ix 2, 4)) (K : ∀ (q : Nat) (r : Nat → Nat), gW E (k + 1 + N) (n + N + N * K') ((w ++ [(q, .inl (cG, N, .inr (.inr (.inr (.inr (fun i => if i < N then some (r i) else none))))))]) ++ (List.range N).map (fun i => (r i, .inl (cI, K', .inl (zA (fun _ => 0)))))) (pc + 4) L (.ref q :: st)) : gW E k n w pc L (.int (zI K') :: .int (zI N) :: st) := by
  obtain ⟨p, l, e, R, s, m, args, below, meth, c, A, D, nL, Q⟩ := E
  obtain ⟨rfl, rfl, rfl, rfl, hx, hb, hml, hown, hts, hK, hO, hA, hZ⟩ := C
  intro H locs ls hP hD hS hl
  have hz : ∀ M : Nat, M ≤ 2000 → ¬ zI (M : Int) < 0 ∧ (zI (M : Int)).toNatClampNeg = M := fun M hM => by
    refine ⟨fun q => ?_, ?_⟩
    · have := (zI_lt ⟨by omega, by omega⟩ zr0).mp q
      omega
    · have h3 : (M : Int) < 2 ^ 31 := by omega
      have h4 : -2 ^ 31 ≤ (M : Int) := by omega
      exact Int32.toNatClampNeg_ofInt_of_le h4 h3
  have hb2 : K' * componentBytes .int ≤ 536870912 := by
    show K' * 4 ≤ _
    omega
  have hP0 : va_P D vwCl (w ++ va_pl [] (fun _ => .inl (cI, 0, .inl (fun _ => 0)))) H := by
    show va_P D vwCl (w ++ []) H
    rw [List.append_nil]
    exact hP
  have hD0 : va_D A (w ++ va_pl [] (fun _ => .inl (cI, 0, .inl (fun _ => 0)))) := by
    show va_D A (w ++ [])
    rw [List.append_nil]
    exact hD
  refine va_mna (X := w) (L := []) (f := fun _ => .inl (cI, 0, .inl (fun _ => 0))) (ty := .int) (cy := cI) (z := (K', .inl (zA (fun _ => 0)))) hx hb hown (hts _ f) hO (hts _ fi) (hK.2 0 _ rfl).2 hK hP0 hD0 hS hA (hz N hN).1 (hz K' hK').1 (hz N hN).2 (hz K' hK').2 (by omega) hb2 (by omega) rfl rfl hR.1 hR.2 (fun c9 => by
    show ({ cls := c9, slots := Array.replicate K' (defaultValue .int), vm := .none } : Cell) = arrV c9 K' (fun _ => .int (zI 0))
    rw [arrV_new]
    rfl) hd (fun q r cA H1 hr1 hr2 hK1 hP1 hD1 hS1 => ?_)
  have e1 : some cA = some cG := (hK1.2 3 _ rfl).2.symm.trans (hK.2 1 _ rfl).2
  cases e1
  rw [pl_map, List.map_map] at hP1 hD1
  exact K q r H1 locs ls hP1 hD1 hS1 hl
theorem wR_mk {ad r : Nat → Nat} {b N : Nat} (h : ∀ j, j < N → ad (b + j) = r j) : (fun i => if i < N then some (r i) else none) = wR ad b N := by
  funext i
  simp only [wR]
  by_cases h1 : i < N
  · rw [if_pos h1, if_pos h1, h i h1]
  · rw [if_neg h1, if_neg h1]
end GK4
/-- a nest mate's constructor -/
def gCN (own : String) (ix : Nat) (y : MethodName) (host : String) (b : ByteArray) (nL : Nat) (n : Nat) : Prop := Cond.methodLinkNest own ix y host ∈ NG ∧ Cond.instanceMethod y ∈ LW ∧ Cond.initialized y.cls ∈ LW ∧ Cond.code y b nL none ∈ LW ∧ y.name = "<init>" ∧ y.cls ≠ "java/lang/invoke/MethodHandle" ∧ y.cls ≠ "java/lang/invoke/VarHandle" ∧ (parseMethodDescriptor y.desc).map (fun d => d.parameters.length) = some n
theorem g_callN {E : gEnv} {l : Launch} {R : Room} {D : va_G} {nL nL' n' ix a : Nat} {own host : String} {cc b : ByteArray} {cI cG cJ : ClassId} {k n : Nat} {w wc wr : va_W} {pc : Nat} {L : List (Nat × Value)} {st stk as : List Value} {y : MethodName} {rm : Room} {Post : Option Value → va_W → Prop} (isC isR : List Nat) (C : gC E l R D nL own cc cI cG cJ) (f : gCN own ix y host b nL' n') (hM : gMet l y b nL' none rm D cI cG cJ (.ref a :: as) wc Post) (hs : gSp w wc wr isC isR)
    (hR : rm.frames + 1 ≤ R.frames ∧ 8 + (nL' + 11) + rm.locals ≤ R.locals) (hf : k + rm.cells ≤ R.cells ∧ n + rm.slots ≤ R.slots) (hn : as.length = n') (hst : stk = as.reverse ++ .ref a :: st) (hroom : (st.map fun v => v.category).sum ≤ 8) (hd : decode cc pc = .ok (.invokespecial ix, 3))
    (K : ∀ (v : Option Value) (w1 : va_W), Post v w1 → gW E (k + rm.cells) (n + rm.slots) (wr ++ w1) (pc + 3) L (v.toList ++ st)) : gW E k n w pc L stk := by
  obtain ⟨p, l, e, R, s, m, args, below, meth, c, A, D, nL, Q⟩ := E
  obtain ⟨rfl, rfl, rfl, rfl, hx, hb, hml, hown, hts, hK, hO, hA, hZ⟩ := C
  obtain ⟨f1, f2, f4, f5, f6, f7, f8, f9⟩ := f
  obtain ⟨s1, s2, s3, s4, s5⟩ := hs
  intro H locs ls hP hD hS hl
  have hDc := hD.sub isC s3 s1
  have hPc := gP_sub hP isC s1
  have hFc := va_free (wc := wc) hD hS hA isC s1
  have run := va_runIN (As := as) (rest := st) (H := H) (locs := locs) (cells := k) (slots := n) (l := l) (e := e) (below := below) (meth := meth) (g := F0 m pc ls stk) ⟨hx, hb, hml, hown, hts⟩ (hM H.size) ⟨va_cnB n' hts (gWs_in f5) rfl rfl rfl (hZ.2.2.1 _ f1) (hts _ f4) ⟨f7, f8, f9⟩ hR, f6, hts _ f2⟩ ⟨gPre_blind, fun U hU hW => ⟨rfl, by rw [hU], by rw [hU]; exact hPc, va_K.moved hW.alike hK, va_AOA.moved hW.alike hO, hDc.weaken (fun _ _ _ _ => trivial), gZ_at hZ hS hFc hU hW⟩⟩ rfl hn hl.1 hst (lv_room hroom) hd hf
  intro T hT X
  obtain ⟨v, st₀, t, T', L9, h0, X', hL, e1, e2, ⟨⟨v', w1, hv, hpost, hP1, hD1⟩, hF⟩, step⟩ := run T hT X
  cases hv
  obtain ⟨k1, k2, k3⟩ := vx_keep h0 e1 hS (fun q _ h => hFc q h) hFc hL hF
  obtain ⟨hPj, hDj⟩ := va_join hP hD isC isR s1 s2 s4 s5 k2 hFc (by rw [e1]; exact hP1) hD1
  obtain ⟨t2, a1, b1⟩ := K v w1 hpost T'.heap (locs ++ L9) ls hPj hDj k3 hl T' rfl X'
  exact ⟨t2, step t2 a1, b1⟩
def mkA (l : List Nat) (r : Nat → Nat) : Nat → Nat := fun k => if k < l.length then l.getD k 0 else r (k - l.length)
theorem mkA_at {l : List Nat} {r : Nat → Nat} {b j : Nat} (h : l.length = b) : mkA l r (b + j) = r j := by
  subst h
  show (if l.length + j < l.length then l.getD (l.length + j) 0 else r (l.length + j - l.length)) = r j
  rw [if_neg (by omega), Nat.add_sub_cancel_left]
