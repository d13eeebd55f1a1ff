/-! what a letter gets by hand: gets, its sum, its number; vend -/
section GK10
variable {E : gEnv} {l : Launch} {R : Room} {D : va_G} {nL : Nat} {own : String} {cc : ByteArray} {cI cG cJ : ClassId} {k n : Nat} {w : va_W} {pc : Nat} {L : List (Nat × Value)} {st : List Value}
theorem g_aload_nN {i : Fin 4} (C : gC E l R D nL own cc cI cG cJ) (hd : decode cc pc = .ok (.aload_n i, 1)) (j : Nat) (hj : L[j]? = some ((i : Nat), Value.null)) (K : gW E k n w (pc + 1) L (.null :: st)) : gW E k n w pc L st := by
  obtain ⟨p, l, e, R, s, m, args, below, meth, c, A, D, nL, Q⟩ := E
  obtain ⟨rfl, rfl, rfl, rfl, hx, hb, hml, hown, hts, hK, hO, hA, hZ⟩ := C
  intro H locs ls hP hD hS hl
  exact lv_aload_nN hx hb hd rfl (lv_at hl j hj) (K H locs ls hP hD hS hl)
theorem g_aloadN {i : Nat} (C : gC E l R D nL own cc cI cG cJ) (hd : decode cc pc = .ok (.aload i, 2)) (j : Nat) (hj : L[j]? = some (i, Value.null)) (K : gW E k n w (pc + 2) L (.null :: st)) : gW E k n w pc L st := by
  obtain ⟨p, l, e, R, s, m, args, below, meth, c, A, D, nL, Q⟩ := E
  obtain ⟨rfl, rfl, rfl, rfl, hx, hb, hml, hown, hts, hK, hO, hA, hZ⟩ := C
  intro H locs ls hP hD hS hl
  exact lv_aloadN hx hb hd (lv_at hl j hj) (K H locs ls hP hD hS hl)
theorem g_astore_nN {i : Fin 4} {L' : List (Nat × Value)} (C : gC E l R D nL own cc cI cG cJ) (hd : decode cc pc = .ok (.astore_n i, 1)) (hn : (i : Nat) < nL) (hl' : ((i : Nat), Value.null) :: L.filter (fun q => !(q.1 == (i : Nat)) && !(q.1 + 1 == (i : Nat) && q.2.category == 2)) = L') (K : gW E k n w (pc + 1) L' st) : gW E k n w pc L (.null :: st) := by
  obtain ⟨p, l, e, R, s, m, args, below, meth, c, A, D, nL, Q⟩ := E
  obtain ⟨rfl, rfl, rfl, rfl, hx, hb, hml, hown, hts, hK, hO, hA, hZ⟩ := C
  intro H locs ls hP hD hS hl
  exact lv_astore_nN hx hb hd rfl hl hn hl' (fun ls' h => K H locs ls' hP hD hS h)
theorem g_astoreN {i : Nat} {L' : List (Nat × Value)} (C : gC E l R D nL own cc cI cG cJ) (hd : decode cc pc = .ok (.astore i, 2)) (hn : i < nL) (hl' : (i, Value.null) :: L.filter (fun q => !(q.1 == i) && !(q.1 + 1 == i && q.2.category == 2)) = L') (K : gW E k n w (pc + 2) L' st) : gW E k n w pc L (.null :: st) := by
  obtain ⟨p, l, e, R, s, m, args, below, meth, c, A, D, nL, Q⟩ := E
  obtain ⟨rfl, rfl, rfl, rfl, hx, hb, hml, hown, hts, hK, hO, hA, hZ⟩ := C
  intro H locs ls hP hD hS hl
  exact lv_astoreN hx hb hd hl hn hl' (fun ls' h => K H locs ls' hP hD hS h)
end GK10
abbrev rmX4_gets : Room := { frames := 10, cells := 790, slots := 6400, locals := 252 }
set_option maxHeartbeats 4000000 in
set_option maxRecDepth 100000 in
theorem met_X4_gets (l : Launch) (D : va_G) (cI cG cJ : ClassId) (h sa : Nat) (ra : Nat → Nat) (n : Nat) (hn : n ≤ 8) (fv fs fd : Nat → Int) (hS : Sok n fv fs) (rm lt tk ov : Int) (hr : 0 ≤ rm ∧ rm ≤ 12) (nw bs : Value) (bS bM : Int) (p : Nat) (hp : 1 ≤ p ∧ p ≤ 300)  : gMet l yX4_gets cX4_gets 2 (some (.array .int)) rmX4_gets D cI cG cJ [.ref h, .int (zI (p : Int))] (((wZ h sa rm lt tk ov nw bs bS bM) ++ (wG sa cG n (rN ra n))) ++ (wQ ra cI fv fs fd n)) (gA (fun z w9 => (LSm n fv fs rm p = -1 ∧ z = .null ∧ ∃ (nw1 bs1 : Value) (x1 y1 : Int), w9 = ((wZ h sa rm lt tk ov nw1 bs1 x1 y1) ++ (wG sa cG n (rN ra n))) ++ (wQ ra cI fv fs fd n)) ∨ (∃ (s ba : Nat) (g : Nat → Int) (nw1 bs1 : Value) (x1 y1 : Int), LSm n fv fs rm p = (s : Int) ∧ TB n fv fs rm s ≤ rm ∧ p ≤ s ∧ s < p + 60 ∧ z = .ref ba ∧ (∀ r, r < n → g r = CHR n fv fs rm s r) ∧ w9 = (((wZ h sa rm lt tk ov nw1 bs1 x1 y1) ++ (wG sa cG n (rN ra n))) ++ ([(ba, .inl (cI, n, .inl (zA g)))])) ++ (wQ ra cI fv fs fd n)))) := by
  refine gMet_A (Or.inr ⟨_, rfl⟩) (by decide) rfl (Nat.le_of_ble_eq_true rfl) (fun E C ret => ?_)
  refine g_aload_n C dX4_gets_0 0 rfl ?_
  refine g_aload_n C dX4_gets_1 0 rfl ?_
  refine g_getf C fX4_15 0 rfl rfl dX4_gets_2 ?_
  refine g_alenG C 1 rfl dX4_gets_5 ?_
  refine g_newi (N := n) C arrI (by omega) ⟨by show 0 + 1 ≤ 790; omega, by show 0 + n ≤ 6400; omega⟩ dX4_gets_6 (fun na => ?_)
  refine g_ws (w' := (((wZ h sa rm lt tk ov nw bs bS bM) ++ (wG sa cG n (rN ra n))) ++ (wQ ra cI fv fs fd n)) ++ ([(na, .inl (cI, n, .inl (zA (fun _ => 0))))])) rfl rfl ?_
  refine g_mods [wZ h sa rm lt tk ov nw bs bS bM, wG sa cG n (rN ra n), wQ ra cI fv fs fd n, [(na, .inl (cI, n, .inl (zA (fun _ => 0))))]] [wZ h sa rm lt tk ov nw bs bS bM, wG sa cG n (rN ra n), [(na, .inl (cI, n, .inl (zA (fun _ => 0))))], wQ ra cI fv fs fd n] [0, 1, 3, 2] (by decide) rfl ?_
  refine g_ws (w' := (((wZ h sa rm lt tk ov nw bs bS bM) ++ (wG sa cG n (rN ra n))) ++ ([(na, .inl (cI, n, .inl (zA (fun _ => 0))))])) ++ (wQ ra cI fv fs fd n)) rfl rfl ?_
  refine g_putf (w' := (((wZ h sa rm lt tk ov (.ref na) bs bS bM) ++ (wG sa cG n (rN ra n))) ++ ([(na, .inl (cI, n, .inl (zA (fun _ => 0))))])) ++ (wQ ra cI fv fs fd n)) C pX4_48 0 rfl rfl rfl (Nat.le_of_ble_eq_true rfl) rfl dX4_gets_8 ?_
  refine g_aload_n C dX4_gets_11 0 rfl ?_
  refine g_aconst C dX4_gets_12 ?_
  refine g_putf (w' := (((wZ h sa rm lt tk ov (.ref na) .null bS bM) ++ (wG sa cG n (rN ra n))) ++ ([(na, .inl (cI, n, .inl (zA (fun _ => 0))))])) ++ (wQ ra cI fv fs fd n)) C pX4_39 0 rfl rfl rfl (Nat.le_of_ble_eq_true rfl) rfl dX4_gets_13 ?_
  refine g_aload_n C dX4_gets_16 0 rfl ?_
  refine g_aload_n C dX4_gets_17 0 rfl ?_
  refine g_mods [wZ h sa rm lt tk ov (.ref na) .null bS bM, wG sa cG n (rN ra n), [(na, .inl (cI, n, .inl (zA (fun _ => 0))))], wQ ra cI fv fs fd n] [[(na, .inl (cI, n, .inl (zA (fun _ => 0))))], wZ h sa rm lt tk ov (.ref na) .null bS bM, wG sa cG n (rN ra n), wQ ra cI fv fs fd n] [2, 0, 1, 3] (by decide) rfl ?_
  refine g_ws (w' := ((([(na, .inl (cI, n, .inl (zA (fun _ => 0))))]) ++ (wZ h sa rm lt tk ov (.ref na) .null bS bM)) ++ (wG sa cG n (rN ra n))) ++ (wQ ra cI fv fs fd n)) rfl rfl ?_
  refine g_eqw (w' := ([(na, .inl (cI, n, .inl (zA (fun _ => 0))))]) ++ (((wZ h sa rm lt tk ov (.ref na) .null bS bM) ++ (wG sa cG n (rN ra n))) ++ (wQ ra cI fv fs fd n))) (by simp only [List.append_assoc]) ?_
  refine g_callV (wr := [(na, .inl (cI, n, .inl (zA (fun _ => 0))))]) (st := [.ref h]) _ _ C cX4_55 (met_X4_sorted l D cI cG cJ h sa ra n hn fv fs fd hS rm lt tk ov (.ref na) .null bS bM) gSp_r (ci := 4) (q0 := (([(na, .inl (cI, n, .inl (zA (fun _ => 0))))]) : va_W).length) (at_r rfl) rfl (by decide) ⟨by show 0 + 1 + 1 ≤ 790; omega, by show 0 + n + 8 ≤ 6400; omega⟩ rfl rfl (Nat.le_of_ble_eq_true rfl) dX4_gets_18 ?_
  rintro v9 w9 ⟨z9, rfl, q, rfl, rfl⟩
  refine g_ws (w' := (((([(na, .inl (cI, n, .inl (zA (fun _ => 0))))]) ++ (wZ h sa rm lt tk ov (.ref na) .null bS bM)) ++ (wG sa cG n (rN ra n))) ++ (wG q cG n (rN (srt ra fv n) n))) ++ (wQ ra cI fv fs fd n)) (st' := [.ref q, .ref h]) (by simp only [List.append_assoc]) rfl ?_
  refine g_mods [[(na, .inl (cI, n, .inl (zA (fun _ => 0))))], wZ h sa rm lt tk ov (.ref na) .null bS bM, wG sa cG n (rN ra n), wG q cG n (rN (srt ra fv n) n), wQ ra cI fv fs fd n] [wG sa cG n (rN ra n), wZ h sa rm lt tk ov (.ref na) .null bS bM, [(na, .inl (cI, n, .inl (zA (fun _ => 0))))], wG q cG n (rN (srt ra fv n) n), wQ ra cI fv fs fd n] [2, 1, 0, 3, 4] (by decide) rfl ?_
  refine g_ws (w' := ((((wG sa cG n (rN ra n)) ++ (wZ h sa rm lt tk ov (.ref na) .null bS bM)) ++ ([(na, .inl (cI, n, .inl (zA (fun _ => 0))))])) ++ (wG q cG n (rN (srt ra fv n) n))) ++ (wQ ra cI fv fs fd n)) rfl rfl ?_
  refine g_iconst C dX4_gets_21 ?_
  refine g_aload_n C dX4_gets_22 0 rfl ?_
  refine g_getf C fX4_7 1 rfl rfl dX4_gets_23 ?_
  refine g_iconst C dX4_gets_26 ?_
  refine g_iconst C dX4_gets_27 ?_
  refine g_iload_n C dX4_gets_28 1 rfl ?_
  refine g_ws (w' := (wG sa cG n (rN ra n)) ++ ((WL h sa na q ra cI cG n fv fs fd rm lt tk ov (fun _ => 0) 0 none bS bM))) (rfl) rfl ?_
  have hlk := met_X4_look l D cI cG cJ h sa na q ra n hn fv fs fd hS rm lt tk ov hr (p : Int) (by omega) n (Nat.le_refl n) rm 0 0 (fun _ => 0) (fun _ => 0) none 0 bS bM hr.1 (Int.le_refl _) (Int.le_refl _) (by omega) (Int.le_refl _) (by omega) trivial (fun i hi => rfl)
  rw [Nat.sub_self] at hlk
  have hmu : n * (mu (p : Int) none - mu (p : Int) (LF (vsF fv n) (soF fv fs n) (p : Int) n n rm 0 0 (fun _ => 0) none)) ≤ 8 * 781 := Nat.mul_le_mul hn (Nat.sub_le _ _)
  refine g_callV (wr := wG sa cG n (rN ra n)) (st := []) _ _ C cX4_51 (hlk) gSp_r (ci := 4) (q0 := ((wG sa cG n (rN ra n)) : va_W).length) (at_r rfl) rfl ⟨by show n + 1 ≤ 10; omega, by show 8 + (9 + 11) + 28 * n ≤ 252; omega⟩ ⟨by show 0 + 1 + 1 + (781 - mu (p : Int) (LF (vsF fv n) (soF fv fs n) (p : Int) n n rm 0 0 (fun _ => 0) none)) ≤ 790; omega, by show 0 + n + 8 + n * (mu (p : Int) none - mu (p : Int) (LF (vsF fv n) (soF fv fs n) (p : Int) n n rm 0 0 (fun _ => 0) none)) ≤ 6400; omega⟩ rfl rfl (Nat.le_of_ble_eq_true rfl) dX4_gets_29 ?_
  rintro v9 w9 ⟨rfl, ba1, N1, x1, y1, hag1, rfl⟩
  refine g_widen (k' := 790) (n' := 6400) (by show 0 + 1 + 1 + (781 - mu (p : Int) (LF (vsF fv n) (soF fv fs n) (p : Int) n n rm 0 0 (fun _ => 0) none)) ≤ 790; omega) (by show 0 + n + 8 + n * (mu (p : Int) none - mu (p : Int) (LF (vsF fv n) (soF fv fs n) (p : Int) n n rm 0 0 (fun _ => 0) none)) ≤ 6400; omega) ?_
  have hgot := got_LF hS hr hp.2 (fun _ => 0)
  refine g_ws (w' := (wG sa cG n (rN ra n)) ++ ((WL h sa na q ra cI cG n fv fs fd rm lt tk ov N1 ba1 (LF (vsF fv n) (soF fv fs n) (p : Int) n n rm 0 0 (fun _ => 0) none) x1 y1))) (st' := []) (rfl) rfl ?_
  generalize hB : (LF (vsF fv n) (soF fv fs n) (p : Int) n n rm 0 0 (fun _ => 0) none) = B1 at hgot ⊢
  rcases hgot with ⟨g1, rfl⟩ | ⟨s, g, g1, g2, g3, g4, rfl, g5⟩
  · refine g_ws (w' := ((((wG sa cG n (rN ra n)) ++ (wZ h sa rm lt tk ov (.ref na) .null x1 y1)) ++ ([(na, .inl (cI, n, .inl (zA N1)))])) ++ (wG q cG n (rN (srt ra fv n) n))) ++ (wQ ra cI fv fs fd n)) rfl rfl ?_
    refine g_aload_n C dX4_gets_32 0 rfl ?_
    refine g_getf C fX4_39 1 rfl rfl dX4_gets_33 ?_
    refine g_mods [wG sa cG n (rN ra n), wZ h sa rm lt tk ov (.ref na) .null x1 y1, [(na, .inl (cI, n, .inl (zA N1)))], wG q cG n (rN (srt ra fv n) n), wQ ra cI fv fs fd n] [wZ h sa rm lt tk ov (.ref na) .null x1 y1, wG sa cG n (rN ra n), wQ ra cI fv fs fd n] [1, 0, 4] (by decide) rfl ?_
    refine g_ws (w' := ((wZ h sa rm lt tk ov (.ref na) .null x1 y1) ++ (wG sa cG n (rN ra n))) ++ (wQ ra cI fv fs fd n)) rfl rfl ?_
    exact ret _ _ _ _ _ _ (Nat.le_refl _) (Nat.le_refl _) dX4_gets_36 (Or.inl rfl) (Or.inl ⟨g1, rfl, _, _, _, _, rfl⟩)
  · refine g_ws (w' := (((((wG sa cG n (rN ra n)) ++ (wZ h sa rm lt tk ov (.ref na) (.ref ba1) (s : Int) (TB n fv fs rm s))) ++ ([(na, .inl (cI, n, .inl (zA N1)))])) ++ (wG q cG n (rN (srt ra fv n) n))) ++ ([(ba1, .inl (cI, n, .inl (zA g)))])) ++ (wQ ra cI fv fs fd n)) (by simp only [List.append_assoc]; rfl) rfl ?_
    refine g_aload_n C dX4_gets_32 0 rfl ?_
    refine g_getf C fX4_39 1 rfl rfl dX4_gets_33 ?_
    refine g_mods [wG sa cG n (rN ra n), wZ h sa rm lt tk ov (.ref na) (.ref ba1) (s : Int) (TB n fv fs rm s), [(na, .inl (cI, n, .inl (zA N1)))], wG q cG n (rN (srt ra fv n) n), [(ba1, .inl (cI, n, .inl (zA g)))], wQ ra cI fv fs fd n] [wZ h sa rm lt tk ov (.ref na) (.ref ba1) (s : Int) (TB n fv fs rm s), wG sa cG n (rN ra n), [(ba1, .inl (cI, n, .inl (zA g)))], wQ ra cI fv fs fd n] [1, 0, 4, 5] (by decide) rfl ?_
    refine g_ws (w' := (((wZ h sa rm lt tk ov (.ref na) (.ref ba1) (s : Int) (TB n fv fs rm s)) ++ (wG sa cG n (rN ra n))) ++ ([(ba1, .inl (cI, n, .inl (zA g)))])) ++ (wQ ra cI fv fs fd n)) rfl rfl ?_
    exact ret _ _ _ _ _ _ (Nat.le_refl _) (Nat.le_refl _) dX4_gets_36 (Or.inr ⟨_, rfl⟩) (Or.inr ⟨s, ba1, g, _, _, _, _, g1, g2, g3, g4, rfl, g5, rfl⟩)
abbrev rmX4_sum : Room := { frames := 2, cells := 1, slots := 8, locals := 46 }
set_option maxHeartbeats 4000000 in
set_option maxRecDepth 100000 in
theorem met_X4_sum (l : Launch) (D : va_G) (cI cG cJ : ClassId) (h sa : Nat) (ra : Nat → Nat) (n : Nat) (hn : n ≤ 8) (fv fs fd : Nat → Int) (hS : Sok n fv fs) (rm lt tk ov : Int) (nw bs : Value) (bS bM : Int) (ca : Nat) (g : Nat → Int)  : gMet l yX4_sum cX4_sum 5 (some .int) rmX4_sum D cI cG cJ [.ref h, .ref ca] ((((wZ h sa rm lt tk ov nw bs bS bM) ++ (wG sa cG n (rN ra n))) ++ ([(ca, .inl (cI, n, .inl (zA g)))])) ++ (wQ ra cI fv fs fd n)) (gI (fun z w9 => z = sumTo (fun r => g r * RV n fv r) n ∧ w9 = (((wZ h sa rm lt tk ov nw bs bS bM) ++ (wG sa cG n (rN ra n))) ++ ([(ca, .inl (cI, n, .inl (zA g)))])) ++ (wQ ra cI fv fs fd n))) := by
  refine gMet_I (by decide) rfl (Nat.le_of_ble_eq_true rfl) (fun E C ret => ?_)
  refine g_iconst C dX4_sum_0 ?_
  refine g_istore_n (L' := [(2, .int (zI 0)), (0, .ref h), (1, .ref ca)]) C dX4_sum_1 (by decide) rfl ?_
  refine g_aload_n C dX4_sum_2 1 rfl ?_
  refine g_mods [wZ h sa rm lt tk ov nw bs bS bM, wG sa cG n (rN ra n), [(ca, .inl (cI, n, .inl (zA g)))], wQ ra cI fv fs fd n] [[(ca, .inl (cI, n, .inl (zA g)))], wZ h sa rm lt tk ov nw bs bS bM, wG sa cG n (rN ra n), wQ ra cI fv fs fd n] [2, 0, 1, 3] (by decide) rfl ?_
  refine g_ws (w' := ((([(ca, .inl (cI, n, .inl (zA g)))]) ++ (wZ h sa rm lt tk ov nw bs bS bM)) ++ (wG sa cG n (rN ra n))) ++ (wQ ra cI fv fs fd n)) rfl rfl ?_
  refine g_eqw (w' := ([(ca, .inl (cI, n, .inl (zA g)))]) ++ (((wZ h sa rm lt tk ov nw bs bS bM) ++ (wG sa cG n (rN ra n))) ++ (wQ ra cI fv fs fd n))) (by simp only [List.append_assoc]) ?_
  refine g_callV (wr := [(ca, .inl (cI, n, .inl (zA g)))]) (st := []) _ _ C cX4_55 (met_X4_sorted l D cI cG cJ h sa ra n hn fv fs fd hS rm lt tk ov nw bs bS bM) gSp_r (ci := 4) (q0 := (([(ca, .inl (cI, n, .inl (zA g)))]) : va_W).length) (at_r rfl) rfl (by decide) (by decide) rfl rfl (Nat.le_of_ble_eq_true rfl) dX4_sum_3 ?_
  rintro v9 w9 ⟨z9, rfl, q, rfl, rfl⟩
  refine g_ws (w' := (((([(ca, .inl (cI, n, .inl (zA g)))]) ++ (wZ h sa rm lt tk ov nw bs bS bM)) ++ (wG sa cG n (rN ra n))) ++ (wG q cG n (rN (srt ra fv n) n))) ++ (wQ ra cI fv fs fd n)) (st' := [.ref q]) (by simp only [List.append_assoc]) rfl ?_
  refine g_mods [[(ca, .inl (cI, n, .inl (zA g)))], wZ h sa rm lt tk ov nw bs bS bM, wG sa cG n (rN ra n), wG q cG n (rN (srt ra fv n) n), wQ ra cI fv fs fd n] [wZ h sa rm lt tk ov nw bs bS bM, wG sa cG n (rN ra n), wG q cG n (rN (srt ra fv n) n), [(ca, .inl (cI, n, .inl (zA g)))], wQ ra cI fv fs fd n] [1, 2, 3, 0, 4] (by decide) rfl ?_
  refine g_ws (w' := ((((wZ h sa rm lt tk ov nw bs bS bM) ++ (wG sa cG n (rN ra n))) ++ (wG q cG n (rN (srt ra fv n) n))) ++ ([(ca, .inl (cI, n, .inl (zA g)))])) ++ (wQ ra cI fv fs fd n)) rfl rfl ?_
  refine g_astore_n (L' := [(3, .ref q), (2, .int (zI 0)), (0, .ref h), (1, .ref ca)]) C dX4_sum_6 (by decide) rfl ?_
  refine g_iconst C dX4_sum_7 ?_
  refine g_istore (L' := [(4, .int (zI 0)), (3, .ref q), (2, .int (zI 0)), (0, .ref h), (1, .ref ca)]) C dX4_sum_8 (by decide) rfl ?_
  have loop_10 : ∀ (fu : Nat) (i : Nat), (hi : i ≤ n) → n - i < fu → gW E 1 8 (((((wZ h sa rm lt tk ov nw bs bS bM) ++ (wG sa cG n (rN ra n))) ++ (wG q cG n (rN (srt ra fv n) n))) ++ ([(ca, .inl (cI, n, .inl (zA g)))])) ++ (wQ ra cI fv fs fd n)) 10 [(4, .int (zI (i : Int))), (2, .int (zI (sumTo (fun r => g r * RV n fv r) i))), (3, .ref q), (0, .ref h), (1, .ref ca)] [] := by
    intro fu
    induction fu with
    | zero => intro i hi h9; exact absurd h9 (Nat.not_lt_zero _)
    | succ fu ih_10 =>
      intro i hi hmu_10
      refine g_iload C dX4_sum_10 0 rfl ?_
      refine g_aload_n C dX4_sum_12 2 rfl ?_
      refine g_alenG C 2 rfl dX4_sum_13 ?_
      refine g_icmp_ge 37 C dX4_sum_14 (by decide) (zr_i (by omega) (by omega)) (zr_i (by omega) (by omega)) (fun c_14 => ?_) (fun c_14 => ?_)
      · have e9 : n = i := by omega
        subst e9
        refine g_iload_n C dX4_sum_37 1 rfl ?_
        refine g_mods [wZ h sa rm lt tk ov nw bs bS bM, wG sa cG n (rN ra n), wG q cG n (rN (srt ra fv n) n), [(ca, .inl (cI, n, .inl (zA g)))], wQ ra cI fv fs fd n] [wZ h sa rm lt tk ov nw bs bS bM, wG sa cG n (rN ra n), [(ca, .inl (cI, n, .inl (zA g)))], wQ ra cI fv fs fd n] [0, 1, 3, 4] (by decide) rfl ?_
        refine g_ws (w' := (((wZ h sa rm lt tk ov nw bs bS bM) ++ (wG sa cG n (rN ra n))) ++ ([(ca, .inl (cI, n, .inl (zA g)))])) ++ (wQ ra cI fv fs fd n)) rfl rfl ?_
        exact ret _ _ _ _ _ _ (by decide) (by decide) dX4_sum_38 (⟨rfl, rfl⟩)
      · refine g_iload_n C dX4_sum_17 1 rfl ?_
        refine g_aload_n C dX4_sum_18 4 rfl ?_
        refine g_iload C dX4_sum_19 0 rfl ?_
        refine g_iald C 3 rfl (by omega) (by omega) (by omega) (v := (g i)) rfl dX4_sum_21 ?_
        refine g_aload_n C dX4_sum_22 2 rfl ?_
        refine g_iload C dX4_sum_23 0 rfl ?_
        refine g_aald (y := ra (ordF fv n (n - 1 - i))) C 2 rfl (by omega) (by omega) (by omega) (rN_at (by omega)) dX4_sum_25 ?_
        refine g_iconst C dX4_sum_26 ?_
        refine g_iald C _ (wQ_at (j := ordF fv n (n - 1 - i)) (ordF_lt fv n _ (by omega))) (by decide) (by decide) (by decide) (v := (fv (ordF fv n (n - 1 - i)))) rfl dX4_sum_27 ?_
        refine g_imul C dX4_sum_28 ?_
        refine g_iadd C dX4_sum_29 ?_
        refine g_istore_n (L' := [(2, .int (zI ((sumTo (fun r => g r * RV n fv r) i) + ((g i) * (fv (ordF fv n (n - 1 - i))))))), (4, .int (zI (i : Int))), (3, .ref q), (0, .ref h), (1, .ref ca)]) C dX4_sum_30 (by decide) rfl ?_
        refine g_iinc (L' := [(4, .int (zI ((i : Int) + 1))), (2, .int (zI ((sumTo (fun r => g r * RV n fv r) i) + ((g i) * (fv (ordF fv n (n - 1 - i))))))), (3, .ref q), (0, .ref h), (1, .ref ca)]) C dX4_sum_31 1 rfl (by decide) rfl ?_
        refine g_goto 10 C dX4_sum_34 (by decide) ?_
        refine g_loc (L' := [(4, .int (zI ((i : Int) + 1))), (2, .int (zI ((sumTo (fun r => g r * RV n fv r) i) + ((g i) * (fv (ordF fv n (n - 1 - i))))))), (3, .ref q), (0, .ref h), (1, .ref ca)]) [0, 1, 2, 3, 4] rfl ?_
        refine g_lw (w' := ((((wZ h sa rm lt tk ov nw bs bS bM) ++ (wG sa cG n (rN ra n))) ++ (wG q cG n (rN (srt ra fv n) n))) ++ ([(ca, .inl (cI, n, .inl (zA g)))])) ++ (wQ ra cI fv fs fd n)) (L' := [(4, .int (zI ((i + 1 : Nat) : Int))), (2, .int (zI (sumTo (fun r => g r * RV n fv r) (i + 1)))), (3, .ref q), (0, .ref h), (1, .ref ca)]) rfl (rfl) ?_
        exact ih_10 (i + 1) (by omega) (by omega)
  refine g_loc (L' := [(4, .int (zI 0)), (2, .int (zI 0)), (3, .ref q), (0, .ref h), (1, .ref ca)]) [0, 2, 1, 3, 4] rfl ?_
  refine g_lw (w' := ((((wZ h sa rm lt tk ov nw bs bS bM) ++ (wG sa cG n (rN ra n))) ++ (wG q cG n (rN (srt ra fv n) n))) ++ ([(ca, .inl (cI, n, .inl (zA g)))])) ++ (wQ ra cI fv fs fd n)) (L' := [(4, .int (zI 0)), (2, .int (zI (sumTo (fun r => g r * RV n fv r) 0))), (3, .ref q), (0, .ref h), (1, .ref ca)]) rfl (rfl) ?_
  exact loop_10 _ 0 (Nat.zero_le _) (Nat.lt_succ_self _)
abbrev rmX4_many : Room := { frames := 0, cells := 0, slots := 0, locals := 0 }
set_option maxHeartbeats 4000000 in
set_option maxRecDepth 100000 in
theorem met_X4_many (l : Launch) (D : va_G) (cI cG cJ : ClassId) (ca n : Nat) (hn : n ≤ 8) (g : Nat → Int)  : gMet l yX4_many cX4_many 6 (some .int) rmX4_many D cI cG cJ [.ref ca] ([(ca, .inl (cI, n, .inl (zA g)))]) (gI (fun z w9 => z = sumTo g n ∧ w9 = [(ca, .inl (cI, n, .inl (zA g)))])) := by
  refine gMet_I (by decide) rfl (Nat.le_of_ble_eq_true rfl) (fun E C ret => ?_)
  refine g_iconst C dX4_many_0 ?_
  refine g_istore_n (L' := [(1, .int (zI 0)), (0, .ref ca)]) C dX4_many_1 (by decide) rfl ?_
  refine g_aload_n C dX4_many_2 1 rfl ?_
  refine g_astore_n (L' := [(2, .ref ca), (1, .int (zI 0)), (0, .ref ca)]) C dX4_many_3 (by decide) rfl ?_
  refine g_aload_n C dX4_many_4 0 rfl ?_
  refine g_alen (N := n) C 0 rfl rfl dX4_many_5 ?_
  refine g_istore_n (L' := [(3, .int (zI ((n : Nat) : Int))), (2, .ref ca), (1, .int (zI 0)), (0, .ref ca)]) C dX4_many_6 (by decide) rfl ?_
  refine g_iconst C dX4_many_7 ?_
  refine g_istore (L' := [(4, .int (zI 0)), (3, .int (zI ((n : Nat) : Int))), (2, .ref ca), (1, .int (zI 0)), (0, .ref ca)]) C dX4_many_8 (by decide) rfl ?_
  have loop_10 : ∀ (fu : Nat) (i : Nat), (hi : i ≤ n) → n - i < fu → gW E 0 0 ([(ca, .inl (cI, n, .inl (zA g)))]) 10 [(4, .int (zI (i : Int))), (1, .int (zI (sumTo g i))), (3, .int (zI (n : Int))), (2, .ref ca), (0, .ref ca)] [] := by
    intro fu
    induction fu with
    | zero => intro i hi h9; exact absurd h9 (Nat.not_lt_zero _)
    | succ fu ih_10 =>
      intro i hi hmu_10
      refine g_iload C dX4_many_10 0 rfl ?_
      refine g_iload_n C dX4_many_12 2 rfl ?_
      refine g_icmp_ge 33 C dX4_many_13 (by decide) (zr_i (by omega) (by omega)) (zr_i (by omega) (by omega)) (fun c_13 => ?_) (fun c_13 => ?_)
      · have e9 : n = i := by omega
        subst e9
        refine g_iload_n C dX4_many_33 1 rfl ?_
        exact ret _ _ _ _ _ _ (by decide) (by decide) dX4_many_34 (⟨rfl, rfl⟩)
      · refine g_aload_n C dX4_many_16 3 rfl ?_
        refine g_iload C dX4_many_17 0 rfl ?_
        refine g_iald C 0 rfl (by omega) (by omega) (by omega) (v := (g i)) rfl dX4_many_19 ?_
        refine g_istore (L' := [(5, .int (zI (g i))), (4, .int (zI (i : Int))), (1, .int (zI (sumTo g i))), (3, .int (zI (n : Int))), (2, .ref ca), (0, .ref ca)]) C dX4_many_20 (by decide) rfl ?_
        refine g_iload_n C dX4_many_22 2 rfl ?_
        refine g_iload C dX4_many_23 0 rfl ?_
        refine g_iadd C dX4_many_25 ?_
        refine g_istore_n (L' := [(1, .int (zI ((sumTo g i) + (g i)))), (5, .int (zI (g i))), (4, .int (zI (i : Int))), (3, .int (zI (n : Int))), (2, .ref ca), (0, .ref ca)]) C dX4_many_26 (by decide) rfl ?_
        refine g_iinc (L' := [(4, .int (zI ((i : Int) + 1))), (1, .int (zI ((sumTo g i) + (g i)))), (5, .int (zI (g i))), (3, .int (zI (n : Int))), (2, .ref ca), (0, .ref ca)]) C dX4_many_27 2 rfl (by decide) rfl ?_
        refine g_goto 10 C dX4_many_30 (by decide) ?_
        refine g_loc (L' := [(4, .int (zI ((i : Int) + 1))), (1, .int (zI ((sumTo g i) + (g i)))), (3, .int (zI (n : Int))), (2, .ref ca), (0, .ref ca)]) [0, 1, 3, 4, 5] rfl ?_
        refine g_lw (w' := [(ca, .inl (cI, n, .inl (zA g)))]) (L' := [(4, .int (zI ((i + 1 : Nat) : Int))), (1, .int (zI (sumTo g (i + 1)))), (3, .int (zI (n : Int))), (2, .ref ca), (0, .ref ca)]) rfl (rfl) ?_
        exact ih_10 (i + 1) (by omega) (by omega)
  refine g_loc (L' := [(4, .int (zI 0)), (1, .int (zI 0)), (3, .int (zI ((n : Nat) : Int))), (2, .ref ca), (0, .ref ca)]) [0, 3, 1, 2, 4] rfl ?_
  refine g_lw (w' := [(ca, .inl (cI, n, .inl (zA g)))]) (L' := [(4, .int (zI 0)), (1, .int (zI (sumTo g 0))), (3, .int (zI (n : Int))), (2, .ref ca), (0, .ref ca)]) rfl (rfl) ?_
  exact loop_10 _ 0 (Nat.zero_le _) (Nat.lt_succ_self _)
/-- numbers changed at places o 0, o 1 .. -/
def dM (f c : Nat → Int) (o : Nat → Nat) : Nat → Nat → Int
  | 0 => f
  | r + 1 => zU (dM f c o r) (o r) (dM f c o r (o r) - c r)
def dP (f c : Nat → Int) (o : Nat → Nat) : Nat → Nat → Int
  | 0 => f
  | r + 1 => zU (dP f c o r) (o r) (dP f c o r (o r) + c r)
theorem dM_at {f c : Nat → Int} {o : Nat → Nat} {n : Nat} (hi : ∀ a b, a < n → b < n → o a = o b → a = b) : ∀ r, r ≤ n → ∀ i, i < n → dM f c o r (o i) = if i < r then f (o i) - c i else f (o i)
  | 0, _, i, _ => (if_neg (Nat.not_lt_zero _)).symm
  | r + 1, hr, i, hn => by
    have ih := dM_at (f := f) (c := c) hi r (by omega)
    simp only [dM, zU]
    by_cases e : i = r
    · subst e
      rw [if_pos rfl, if_pos (Nat.lt_succ_self _), ih i hn, if_neg (Nat.lt_irrefl _)]
    · rw [if_neg (fun q => e (hi i r hn (by omega) q)), ih i hn]
      by_cases c9 : i < r
      · rw [if_pos c9, if_pos (by omega)]
      · rw [if_neg c9, if_neg (by omega)]
theorem dP_at {f c : Nat → Int} {o : Nat → Nat} {n : Nat} (hi : ∀ a b, a < n → b < n → o a = o b → a = b) : ∀ r, r ≤ n → ∀ i, i < n → dP f c o r (o i) = if i < r then f (o i) + c i else f (o i)
  | 0, _, i, _ => (if_neg (Nat.not_lt_zero _)).symm
  | r + 1, hr, i, hn => by
    have ih := dP_at (f := f) (c := c) hi r (by omega)
    simp only [dP, zU]
    by_cases e : i = r
    · subst e
      rw [if_pos rfl, if_pos (Nat.lt_succ_self _), ih i hn, if_neg (Nat.lt_irrefl _)]
    · rw [if_neg (fun q => e (hi i r hn (by omega) q)), ih i hn]
      by_cases c9 : i < r
      · rw [if_pos c9, if_pos (by omega)]
      · rw [if_neg c9, if_neg (by omega)]
theorem ordF_inj {fv : Nat → Int} {n : Nat} (hd : ∀ a b, a < n → b < n → fv a = fv b → a = b) (a b : Nat) (ha : a < n) (hb : b < n) (h : ordF fv n (n - 1 - a) = ordF fv n (n - 1 - b)) : a = b := by
  have h1 := rank_ord hd (j := n - 1 - a) (by omega)
  have h2 := rank_ord hd (j := n - 1 - b) (by omega)
  rw [h, h2] at h1
  omega
theorem dM_CH {n s : Nat} {fv fs g : Nat → Int} {rm : Int} (hS : Sok n fv fs) (hg : ∀ r, r < n → g r = CHR n fv fs rm s r) (x : Nat) (hx : x < n) : dM fs g (fun r => ordF fv n (n - 1 - r)) n x = sbS n fs (CH n fv fs rm s) x := by
  obtain ⟨j, hj, rfl⟩ := ordF_sur fv n x hx
  have h1 := dM_at (f := fs) (c := g) (o := fun r => ordF fv n (n - 1 - r)) (n := n) (ordF_inj hS.2.2) n (Nat.le_refl _) (n - 1 - j) (by omega)
  have e : n - 1 - (n - 1 - j) = j := by omega
  rw [if_pos (by omega), hg _ (by omega)] at h1
  have h1 : dM fs g (fun r => ordF fv n (n - 1 - r)) n (ordF fv n (n - 1 - (n - 1 - j))) = fs (ordF fv n (n - 1 - (n - 1 - j))) - CHR n fv fs rm s (n - 1 - j) := h1
  rw [e] at h1
  rw [h1]
  show _ = cpy fs _ n _
  rw [cpy_l hx, CH_ord hS.2.2 hj]
  rfl
theorem dP_CH {n s : Nat} {fv fs fd g : Nat → Int} {rm : Int} (hS : Sok n fv fs) (hg : ∀ r, r < n → g r = CHR n fv fs rm s r) (x : Nat) (hx : x < n) : dP fd g (fun r => ordF fv n (n - 1 - r)) n x = cpy fd (fun j => fd j + CH n fv fs rm s j) n x := by
  obtain ⟨j, hj, rfl⟩ := ordF_sur fv n x hx
  have h1 := dP_at (f := fd) (c := g) (o := fun r => ordF fv n (n - 1 - r)) (n := n) (ordF_inj hS.2.2) n (Nat.le_refl _) (n - 1 - j) (by omega)
  have e : n - 1 - (n - 1 - j) = j := by omega
  rw [if_pos (by omega), hg _ (by omega)] at h1
  have h1 : dP fd g (fun r => ordF fv n (n - 1 - r)) n (ordF fv n (n - 1 - (n - 1 - j))) = fd (ordF fv n (n - 1 - (n - 1 - j))) + CHR n fv fs rm s (n - 1 - j) := h1
  rw [e] at h1
  rw [h1, cpy_l hx, CH_ord hS.2.2 hj]
  rfl
theorem CHR_tot {n s : Nat} {fv fs g : Nat → Int} {rm : Int} (hS : Sok n fv fs) (hr : 0 ≤ rm ∧ rm ≤ 12) (hs : TB n fv fs rm s ≤ rm) (hg : ∀ r, r < n → g r = CHR n fv fs rm s r) : sumTo (fun r => g r * RV n fv r) n = (s : Int) ∧ sumTo g n = TB n fv fs rm s := by
  obtain ⟨h1, h2⟩ := rst_end hS hr (s := s) (by omega)
  have h3 := CHR_sum (cnt := n) (fv := fv) (fs := fs) (rm := rm) (s := s) n
  rw [h1] at h3
  constructor
  · rw [sumTo_congr (g := fun i => CHR n fv fs rm s i * RV n fv i) n (fun r h9 => by show g r * _ = _; rw [hg r h9]), h3]
    simp
  · rw [sumTo_congr (g := CHR n fv fs rm s) n hg, h2]
abbrev rmX4_vend : Room := { frames := 11, cells := 791, slots := 6408, locals := 274 }
set_option maxHeartbeats 4000000 in
set_option maxRecDepth 100000 in
theorem met_X4_vend (l : Launch) (D : va_G) (cI cG cJ : ClassId) (h sa : Nat) (ra : Nat → Nat) (n : Nat) (hn : n ≤ 8) (fv fs fd : Nat → Int) (hS : Sok n fv fs) (rm lt tk ov : Int) (hr : 0 ≤ rm ∧ rm ≤ 12) (nw bs : Value) (bS bM : Int) (p : Nat) (hp : 1 ≤ p ∧ p ≤ 300)  : gMet l yX4_vend cX4_vend 5 (some .boolean) rmX4_vend D cI cG cJ [.ref h, .int (zI (p : Int))] (((wZ h sa rm lt tk ov nw bs bS bM) ++ (wG sa cG n (rN ra n))) ++ (wQ ra cI fv fs fd n)) (gI (fun z w9 => (LSm n fv fs rm p = -1 ∧ z = 0 ∧ ZW h cI cG n fv fs fd rm lt tk ov w9) ∨ (LSm n fv fs rm p ≠ -1 ∧ z = 1 ∧ ZW h cI cG n fv (sbS n fs (CH n fv fs rm (LSm n fv fs rm p).toNat)) (cpy fd (fun j => fd j + CH n fv fs rm (LSm n fv fs rm p).toNat j) n) rm (lt + 1) (tk + LSm n fv fs rm p) (ov + (LSm n fv fs rm p - (p : Int))) w9))) := by
  refine gMet_Z (by decide) rfl (Nat.le_of_ble_eq_true rfl) (fun E C ret => ?_)
  refine g_aload_n C dX4_vend_0 0 rfl ?_
  refine g_iload_n C dX4_vend_1 1 rfl ?_
  refine g_callV (wr := ([] : va_W)) (st := []) _ _ C cX4_59 (met_X4_gets l D cI cG cJ h sa ra n hn fv fs fd hS rm lt tk ov hr nw bs bS bM p hp) gSp_a (q0 := 0) rfl rfl (by decide) (by decide) rfl rfl (Nat.le_of_ble_eq_true rfl) dX4_vend_2 ?_
  rintro v9 w9 ⟨z9, rfl, hz9⟩
  refine g_ws (w' := w9) (st' := [z9]) (rfl) rfl ?_
  rcases hz9 with ⟨g1, rfl, nw1, bs1, x1, y1, rfl⟩ | ⟨s, ba, g, nw1, bs1, x1, y1, g1, g2, g3, g4, rfl, g5, rfl⟩
  · skip
    refine g_astore_nN (L' := [(2, .null), (0, .ref h), (1, .int (zI (p : Int)))]) C dX4_vend_5 (by decide) rfl ?_
    refine g_aload_nN C dX4_vend_6 0 rfl ?_
    refine g_ifnonnullN C dX4_vend_7 ?_
    refine g_iconst C dX4_vend_10 ?_
    exact ret _ _ _ _ _ _ (by decide) (by decide) dX4_vend_11 (Or.inl rfl) (Or.inl ⟨g1, rfl, sa, ra, nw1, bs1, x1, y1, rfl⟩)
  · skip
    refine g_astore_n (L' := [(2, .ref ba), (0, .ref h), (1, .int (zI (p : Int)))]) C dX4_vend_5 (by decide) rfl ?_
    refine g_aload_n C dX4_vend_6 0 rfl ?_
    refine g_ifnonnullR 12 C dX4_vend_7 (by decide) ?_
    refine g_aload_n C dX4_vend_12 1 rfl ?_
    refine g_mods [wZ h sa rm lt tk ov nw1 bs1 x1 y1, wG sa cG n (rN ra n), [(ba, .inl (cI, n, .inl (zA g)))], wQ ra cI fv fs fd n] [[(ba, .inl (cI, n, .inl (zA g)))], wZ h sa rm lt tk ov nw1 bs1 x1 y1, wG sa cG n (rN ra n), wQ ra cI fv fs fd n] [2, 0, 1, 3] (by decide) rfl ?_
    refine g_ws (w' := ((([(ba, .inl (cI, n, .inl (zA g)))]) ++ (wZ h sa rm lt tk ov nw1 bs1 x1 y1)) ++ (wG sa cG n (rN ra n))) ++ (wQ ra cI fv fs fd n)) rfl rfl ?_
    refine g_eqw (w' := ([(ba, .inl (cI, n, .inl (zA g)))]) ++ (((wZ h sa rm lt tk ov nw1 bs1 x1 y1) ++ (wG sa cG n (rN ra n))) ++ (wQ ra cI fv fs fd n))) (by simp only [List.append_assoc]) ?_
    refine g_callV (wr := [(ba, .inl (cI, n, .inl (zA g)))]) (st := []) _ _ C cX4_55 (met_X4_sorted l D cI cG cJ h sa ra n hn fv fs fd hS rm lt tk ov nw1 bs1 x1 y1) gSp_r (ci := 4) (q0 := (([(ba, .inl (cI, n, .inl (zA g)))]) : va_W).length) (at_r rfl) rfl (by decide) (by decide) rfl rfl (Nat.le_of_ble_eq_true rfl) dX4_vend_13 ?_
    rintro v9 w9 ⟨z9, rfl, q, rfl, rfl⟩
    refine g_ws (w' := (((([(ba, .inl (cI, n, .inl (zA g)))]) ++ (wZ h sa rm lt tk ov nw1 bs1 x1 y1)) ++ (wG sa cG n (rN ra n))) ++ (wG q cG n (rN (srt ra fv n) n))) ++ (wQ ra cI fv fs fd n)) (st' := [.ref q]) (by simp only [List.append_assoc]) rfl ?_
    refine g_mods [[(ba, .inl (cI, n, .inl (zA g)))], wZ h sa rm lt tk ov nw1 bs1 x1 y1, wG sa cG n (rN ra n), wG q cG n (rN (srt ra fv n) n), wQ ra cI fv fs fd n] [wZ h sa rm lt tk ov nw1 bs1 x1 y1, wG sa cG n (rN ra n), wG q cG n (rN (srt ra fv n) n), [(ba, .inl (cI, n, .inl (zA g)))], wQ ra cI fv fs fd n] [1, 2, 3, 0, 4] (by decide) rfl ?_
    refine g_ws (w' := ((((wZ h sa rm lt tk ov nw1 bs1 x1 y1) ++ (wG sa cG n (rN ra n))) ++ (wG q cG n (rN (srt ra fv n) n))) ++ ([(ba, .inl (cI, n, .inl (zA g)))])) ++ (wQ ra cI fv fs fd n)) rfl rfl ?_
    refine g_astore_n (L' := [(3, .ref q), (2, .ref ba), (0, .ref h), (1, .int (zI (p : Int)))]) C dX4_vend_16 (by decide) rfl ?_
    refine g_iconst C dX4_vend_17 ?_
    refine g_istore (L' := [(4, .int (zI 0)), (3, .ref q), (2, .ref ba), (0, .ref h), (1, .int (zI (p : Int)))]) C dX4_vend_18 (by decide) rfl ?_
    have loop_20 : ∀ (fu : Nat) (i : Nat), (hi : i ≤ n) → n - i < fu → gW E 791 6408 (((((wZ h sa rm lt (tk + sumTo (fun r => g r * RV n fv r) i) (ov + sumTo (fun r => g r * RV n fv r) i) nw1 bs1 x1 y1) ++ (wG sa cG n (rN ra n))) ++ (wG q cG n (rN (srt ra fv n) n))) ++ ([(ba, .inl (cI, n, .inl (zA g)))])) ++ (wQ ra cI fv (dM fs g (fun r => ordF fv n (n - 1 - r)) i) (dP fd g (fun r => ordF fv n (n - 1 - r)) i) n)) 20 [(4, .int (zI (i : Int))), (3, .ref q), (2, .ref ba), (0, .ref h), (1, .int (zI (p : Int)))] [] := by
      intro fu
      induction fu with
      | zero => intro i hi h9; exact absurd h9 (Nat.not_lt_zero _)
      | succ fu ih_20 =>
        intro i hi hmu_20
        refine g_iload C dX4_vend_20 0 rfl ?_
        refine g_aload_n C dX4_vend_22 1 rfl ?_
        refine g_alenG C 2 rfl dX4_vend_23 ?_
        refine g_icmp_ge 99 C dX4_vend_24 (by decide) (zr_i (by omega) (by omega)) (zr_i (by omega) (by omega)) (fun c_24 => ?_) (fun c_24 => ?_)
        · have e9 : n = i := by omega
          subst e9
          refine g_aload_n C dX4_vend_99 3 rfl ?_
          refine g_dup C dX4_vend_100 rfl ?_
          refine g_getf C fX4_30 0 rfl rfl dX4_vend_101 ?_
          refine g_iload_n C dX4_vend_104 4 rfl ?_
          refine g_isub C dX4_vend_105 ?_
          refine g_putf (w' := ((((wZ h sa rm lt (tk + sumTo (fun r => g r * RV n fv r) n) ((ov + sumTo (fun r => g r * RV n fv r) n) - (p : Int)) nw1 bs1 x1 y1) ++ (wG sa cG n (rN ra n))) ++ (wG q cG n (rN (srt ra fv n) n))) ++ ([(ba, .inl (cI, n, .inl (zA g)))])) ++ (wQ ra cI fv (dM fs g (fun r => ordF fv n (n - 1 - r)) n) (dP fd g (fun r => ordF fv n (n - 1 - r)) n) n)) C pX4_30 0 rfl rfl rfl (Nat.le_of_ble_eq_true rfl) rfl dX4_vend_106 ?_
          refine g_aload_n C dX4_vend_109 3 rfl ?_
          refine g_dup C dX4_vend_110 rfl ?_
          refine g_getf C fX4_24 0 rfl rfl dX4_vend_111 ?_
          refine g_iconst C dX4_vend_114 ?_
          refine g_iadd C dX4_vend_115 ?_
          refine g_putf (w' := ((((wZ h sa rm (lt + 1) (tk + sumTo (fun r => g r * RV n fv r) n) ((ov + sumTo (fun r => g r * RV n fv r) n) - (p : Int)) nw1 bs1 x1 y1) ++ (wG sa cG n (rN ra n))) ++ (wG q cG n (rN (srt ra fv n) n))) ++ ([(ba, .inl (cI, n, .inl (zA g)))])) ++ (wQ ra cI fv (dM fs g (fun r => ordF fv n (n - 1 - r)) n) (dP fd g (fun r => ordF fv n (n - 1 - r)) n) n)) C pX4_24 0 rfl rfl rfl (Nat.le_of_ble_eq_true rfl) rfl dX4_vend_116 ?_
          refine g_iconst C dX4_vend_119 ?_
          refine g_mods [wZ h sa rm (lt + 1) (tk + sumTo (fun r => g r * RV n fv r) n) ((ov + sumTo (fun r => g r * RV n fv r) n) - (p : Int)) nw1 bs1 x1 y1, wG sa cG n (rN ra n), wG q cG n (rN (srt ra fv n) n), [(ba, .inl (cI, n, .inl (zA g)))], wQ ra cI fv (dM fs g (fun r => ordF fv n (n - 1 - r)) n) (dP fd g (fun r => ordF fv n (n - 1 - r)) n) n] [wZ h sa rm (lt + 1) (tk + sumTo (fun r => g r * RV n fv r) n) ((ov + sumTo (fun r => g r * RV n fv r) n) - (p : Int)) nw1 bs1 x1 y1, wG sa cG n (rN ra n), wQ ra cI fv (dM fs g (fun r => ordF fv n (n - 1 - r)) n) (dP fd g (fun r => ordF fv n (n - 1 - r)) n) n] [0, 1, 4] (by decide) rfl ?_
          refine g_ws (w' := ((wZ h sa rm (lt + 1) (tk + sumTo (fun r => g r * RV n fv r) n) ((ov + sumTo (fun r => g r * RV n fv r) n) - (p : Int)) nw1 bs1 x1 y1) ++ (wG sa cG n (rN ra n))) ++ (wQ ra cI fv (dM fs g (fun r => ordF fv n (n - 1 - r)) n) (dP fd g (fun r => ordF fv n (n - 1 - r)) n) n)) rfl rfl ?_
          exact ret _ _ _ _ _ _ (by decide) (by decide) dX4_vend_120 (Or.inr rfl) (Or.inr ⟨by omega, rfl, sa, ra, nw1, bs1, x1, y1, by rw [g1, Int.toNat_natCast, (CHR_tot hS hr g2 g5).1, wQ_congr (fun i hi => ⟨rfl, rfl, (dM_CH hS g5 i hi).symm, (dP_CH hS g5 i hi).symm⟩), show ov + (s : Int) - (p : Int) = ov + ((s : Int) - (p : Int)) by omega]⟩)
        · refine g_aload_n C dX4_vend_27 1 rfl ?_
          refine g_iload C dX4_vend_28 0 rfl ?_
          refine g_aald (y := ra (ordF fv n (n - 1 - i))) C 2 rfl (by omega) (by omega) (by omega) (rN_at (by omega)) dX4_vend_30 ?_
          refine g_iconst C dX4_vend_31 ?_
          refine g_dup2 C dX4_vend_32 rfl rfl ?_
          refine g_iald C _ (wQ_at (j := ordF fv n (n - 1 - i)) (ordF_lt fv n _ (by omega))) (by decide) (by decide) (by decide) (v := ((dM fs g (fun r => ordF fv n (n - 1 - r)) i) (ordF fv n (n - 1 - i)))) rfl dX4_vend_33 ?_
          refine g_aload_n C dX4_vend_34 2 rfl ?_
          refine g_iload C dX4_vend_35 0 rfl ?_
          refine g_iald C 3 rfl (by omega) (by omega) (by omega) (v := (g i)) rfl dX4_vend_37 ?_
          refine g_isub C dX4_vend_38 ?_
          refine g_iast (w' := ((((wZ h sa rm lt (tk + sumTo (fun r => g r * RV n fv r) i) (ov + sumTo (fun r => g r * RV n fv r) i) nw1 bs1 x1 y1) ++ (wG sa cG n (rN ra n))) ++ (wG q cG n (rN (srt ra fv n) n))) ++ ([(ba, .inl (cI, n, .inl (zA g)))])) ++ (wQ ra cI fv (zU (dM fs g (fun r => ordF fv n (n - 1 - r)) i) (ordF fv n (n - 1 - i)) (((dM fs g (fun r => ordF fv n (n - 1 - r)) i) (ordF fv n (n - 1 - i))) - (g i))) (dP fd g (fun r => ordF fv n (n - 1 - r)) i) n)) C _ (wQ_at (j := ordF fv n (n - 1 - i)) (ordF_lt fv n _ (by omega))) (by decide) (by decide) (by decide) (wQ_s1 (ordF_lt fv n _ (by omega))) dX4_vend_39 ?_
          refine g_aload_n C dX4_vend_40 1 rfl ?_
          refine g_iload C dX4_vend_41 0 rfl ?_
          refine g_aald (y := ra (ordF fv n (n - 1 - i))) C 2 rfl (by omega) (by omega) (by omega) (rN_at (by omega)) dX4_vend_43 ?_
          refine g_iconst C dX4_vend_44 ?_
          refine g_dup2 C dX4_vend_45 rfl rfl ?_
          refine g_iald C _ (wQ_at (j := ordF fv n (n - 1 - i)) (ordF_lt fv n _ (by omega))) (by decide) (by decide) (by decide) (v := ((dP fd g (fun r => ordF fv n (n - 1 - r)) i) (ordF fv n (n - 1 - i)))) rfl dX4_vend_46 ?_
          refine g_aload_n C dX4_vend_47 2 rfl ?_
          refine g_iload C dX4_vend_48 0 rfl ?_
          refine g_iald C 3 rfl (by omega) (by omega) (by omega) (v := (g i)) rfl dX4_vend_50 ?_
          refine g_iadd C dX4_vend_51 ?_
          refine g_iast (w' := ((((wZ h sa rm lt (tk + sumTo (fun r => g r * RV n fv r) i) (ov + sumTo (fun r => g r * RV n fv r) i) nw1 bs1 x1 y1) ++ (wG sa cG n (rN ra n))) ++ (wG q cG n (rN (srt ra fv n) n))) ++ ([(ba, .inl (cI, n, .inl (zA g)))])) ++ (wQ ra cI fv (zU (dM fs g (fun r => ordF fv n (n - 1 - r)) i) (ordF fv n (n - 1 - i)) (((dM fs g (fun r => ordF fv n (n - 1 - r)) i) (ordF fv n (n - 1 - i))) - (g i))) (zU (dP fd g (fun r => ordF fv n (n - 1 - r)) i) (ordF fv n (n - 1 - i)) (((dP fd g (fun r => ordF fv n (n - 1 - r)) i) (ordF fv n (n - 1 - i))) + (g i))) n)) C _ (wQ_at (j := ordF fv n (n - 1 - i)) (ordF_lt fv n _ (by omega))) (by decide) (by decide) (by decide) (wQ_s2 (ordF_lt fv n _ (by omega))) dX4_vend_52 ?_
          refine g_aload_n C dX4_vend_53 3 rfl ?_
          refine g_dup C dX4_vend_54 rfl ?_
          refine g_getf C fX4_27 0 rfl rfl dX4_vend_55 ?_
          refine g_aload_n C dX4_vend_58 2 rfl ?_
          refine g_iload C dX4_vend_59 0 rfl ?_
          refine g_iald C 3 rfl (by omega) (by omega) (by omega) (v := (g i)) rfl dX4_vend_61 ?_
          refine g_aload_n C dX4_vend_62 1 rfl ?_
          refine g_iload C dX4_vend_63 0 rfl ?_
          refine g_aald (y := ra (ordF fv n (n - 1 - i))) C 2 rfl (by omega) (by omega) (by omega) (rN_at (by omega)) dX4_vend_65 ?_
          refine g_iconst C dX4_vend_66 ?_
          refine g_iald C _ (wQ_at (j := ordF fv n (n - 1 - i)) (ordF_lt fv n _ (by omega))) (by decide) (by decide) (by decide) (v := (fv (ordF fv n (n - 1 - i)))) rfl dX4_vend_67 ?_
          refine g_imul C dX4_vend_68 ?_
          refine g_iadd C dX4_vend_69 ?_
          refine g_putf (w' := ((((wZ h sa rm lt ((tk + sumTo (fun r => g r * RV n fv r) i) + ((g i) * (fv (ordF fv n (n - 1 - i))))) (ov + sumTo (fun r => g r * RV n fv r) i) nw1 bs1 x1 y1) ++ (wG sa cG n (rN ra n))) ++ (wG q cG n (rN (srt ra fv n) n))) ++ ([(ba, .inl (cI, n, .inl (zA g)))])) ++ (wQ ra cI fv (zU (dM fs g (fun r => ordF fv n (n - 1 - r)) i) (ordF fv n (n - 1 - i)) (((dM fs g (fun r => ordF fv n (n - 1 - r)) i) (ordF fv n (n - 1 - i))) - (g i))) (zU (dP fd g (fun r => ordF fv n (n - 1 - r)) i) (ordF fv n (n - 1 - i)) (((dP fd g (fun r => ordF fv n (n - 1 - r)) i) (ordF fv n (n - 1 - i))) + (g i))) n)) C pX4_27 0 rfl rfl rfl (Nat.le_of_ble_eq_true rfl) rfl dX4_vend_70 ?_
          refine g_aload_n C dX4_vend_73 3 rfl ?_
          refine g_dup C dX4_vend_74 rfl ?_
          refine g_getf C fX4_30 0 rfl rfl dX4_vend_75 ?_
          refine g_aload_n C dX4_vend_78 2 rfl ?_
          refine g_iload C dX4_vend_79 0 rfl ?_
          refine g_iald C 3 rfl (by omega) (by omega) (by omega) (v := (g i)) rfl dX4_vend_81 ?_
          refine g_aload_n C dX4_vend_82 1 rfl ?_
          refine g_iload C dX4_vend_83 0 rfl ?_
          refine g_aald (y := ra (ordF fv n (n - 1 - i))) C 2 rfl (by omega) (by omega) (by omega) (rN_at (by omega)) dX4_vend_85 ?_
          refine g_iconst C dX4_vend_86 ?_
          refine g_iald C _ (wQ_at (j := ordF fv n (n - 1 - i)) (ordF_lt fv n _ (by omega))) (by decide) (by decide) (by decide) (v := (fv (ordF fv n (n - 1 - i)))) rfl dX4_vend_87 ?_
          refine g_imul C dX4_vend_88 ?_
          refine g_iadd C dX4_vend_89 ?_
          refine g_putf (w' := ((((wZ h sa rm lt ((tk + sumTo (fun r => g r * RV n fv r) i) + ((g i) * (fv (ordF fv n (n - 1 - i))))) ((ov + sumTo (fun r => g r * RV n fv r) i) + ((g i) * (fv (ordF fv n (n - 1 - i))))) nw1 bs1 x1 y1) ++ (wG sa cG n (rN ra n))) ++ (wG q cG n (rN (srt ra fv n) n))) ++ ([(ba, .inl (cI, n, .inl (zA g)))])) ++ (wQ ra cI fv (zU (dM fs g (fun r => ordF fv n (n - 1 - r)) i) (ordF fv n (n - 1 - i)) (((dM fs g (fun r => ordF fv n (n - 1 - r)) i) (ordF fv n (n - 1 - i))) - (g i))) (zU (dP fd g (fun r => ordF fv n (n - 1 - r)) i) (ordF fv n (n - 1 - i)) (((dP fd g (fun r => ordF fv n (n - 1 - r)) i) (ordF fv n (n - 1 - i))) + (g i))) n)) C pX4_30 0 rfl rfl rfl (Nat.le_of_ble_eq_true rfl) rfl dX4_vend_90 ?_
          refine g_iinc (L' := [(4, .int (zI ((i : Int) + 1))), (3, .ref q), (2, .ref ba), (0, .ref h), (1, .int (zI (p : Int)))]) C dX4_vend_93 0 rfl (by decide) rfl ?_
          refine g_goto 20 C dX4_vend_96 (by decide) ?_
          refine g_loc (L' := [(4, .int (zI ((i : Int) + 1))), (3, .ref q), (2, .ref ba), (0, .ref h), (1, .int (zI (p : Int)))]) [0, 1, 2, 3, 4] rfl ?_
          refine g_ws (w' := ((((wZ h sa rm lt (tk + sumTo (fun r => g r * RV n fv r) (i + 1)) (ov + sumTo (fun r => g r * RV n fv r) (i + 1)) nw1 bs1 x1 y1) ++ (wG sa cG n (rN ra n))) ++ (wG q cG n (rN (srt ra fv n) n))) ++ ([(ba, .inl (cI, n, .inl (zA g)))])) ++ (wQ ra cI fv (dM fs g (fun r => ordF fv n (n - 1 - r)) (i + 1)) (dP fd g (fun r => ordF fv n (n - 1 - r)) (i + 1)) n)) (by rw [show tk + sumTo (fun r => g r * RV n fv r) (i + 1) = tk + sumTo (fun r => g r * RV n fv r) i + g i * fv (ordF fv n (n - 1 - i)) from (Int.add_assoc _ _ _).symm, show ov + sumTo (fun r => g r * RV n fv r) (i + 1) = ov + sumTo (fun r => g r * RV n fv r) i + g i * fv (ordF fv n (n - 1 - i)) from (Int.add_assoc _ _ _).symm]; rfl) rfl ?_
          exact ih_20 (i + 1) (by omega) (by omega)
    refine g_loc (L' := [(4, .int (zI 0)), (3, .ref q), (2, .ref ba), (0, .ref h), (1, .int (zI (p : Int)))]) [0, 1, 2, 3, 4] rfl ?_
    refine g_ws (w' := ((((wZ h sa rm lt (tk + sumTo (fun r => g r * RV n fv r) 0) (ov + sumTo (fun r => g r * RV n fv r) 0) nw1 bs1 x1 y1) ++ (wG sa cG n (rN ra n))) ++ (wG q cG n (rN (srt ra fv n) n))) ++ ([(ba, .inl (cI, n, .inl (zA g)))])) ++ (wQ ra cI fv (dM fs g (fun r => ordF fv n (n - 1 - r)) 0) (dP fd g (fun r => ordF fv n (n - 1 - r)) 0) n)) (by rw [show tk + sumTo (fun r => g r * RV n fv r) 0 = tk from Int.add_zero _, show ov + sumTo (fun r => g r * RV n fv r) 0 = ov from Int.add_zero _]; rfl) rfl ?_
    exact loop_20 _ 0 (Nat.zero_le _) (Nat.lt_succ_self _)
