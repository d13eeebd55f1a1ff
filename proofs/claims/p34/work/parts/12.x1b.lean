abbrev rmX1_removeAt : Room := { frames := 0, cells := 0, slots := 0, locals := 0 }
set_option maxHeartbeats 4000000 in
set_option maxRecDepth 100000 in
theorem met_X1_removeAt (l : Launch) (D : va_G) (cI cG cJ : ClassId) (ad : Nat → Nat) (cnt : Nat) (hc : cnt ≤ 8) (fv fs fd : Nat → Int) (s : Nat) (hs : s < cnt) : gMet l yX1_removeAt cX1_removeAt 3 none rmX1_removeAt D cI cG cJ [.ref (ad 0), .int (zI (s : Int))] (wS ad cI (cnt : Int) fv fs fd) (gN (fun w9 => w9 = wS ad cI ((cnt : Int) - 1) (rmv fv s (cnt - 1)) (rmv fs s (cnt - 1)) (rmv fd s (cnt - 1)))) := by
  refine gMet_N (by decide) rfl (Nat.le_of_ble_eq_true rfl) (fun E C ret => ?_)
  refine g_iload_n C dX1_removeAt_0 1 rfl ?_
  refine g_iconst C dX1_removeAt_1 ?_
  refine g_iadd C dX1_removeAt_2 ?_
  refine g_istore_n (L' := [(2, .int (zI ((s : Int) + 1))), (0, .ref (ad 0)), (1, .int (zI (s : Int)))]) C dX1_removeAt_3 (by decide) rfl ?_
  have loop_4 : ∀ (fu : Nat) (i : Nat), (hs1 : s ≤ i) → (hi : i < cnt) → cnt - i < fu → gW E 0 0 (wS ad cI (cnt : Int) (rmv fv s i) (rmv fs s i) (rmv fd s i)) 4 [(2, .int (zI ((i + 1 : Nat) : Int))), (0, .ref (ad 0))] [] := by
    intro fu
    induction fu with
    | zero => intro i hs1 hi h9; exact absurd h9 (Nat.not_lt_zero _)
    | succ fu ih_4 =>
      intro i hs1 hi hmu_4
      refine g_iload_n C dX1_removeAt_4 0 rfl ?_
      refine g_aload_n C dX1_removeAt_5 1 rfl ?_
      refine g_getf C fX1_21 0 rfl rfl dX1_removeAt_6 ?_
      refine g_icmp_ge 60 C dX1_removeAt_9 (by decide) (zr_i (by omega) (by omega)) (zr_i (by omega) (by omega)) (fun c_9 => ?_) (fun c_9 => ?_)
      · refine g_aload_n C dX1_removeAt_60 1 rfl ?_
        refine g_dup C dX1_removeAt_61 rfl ?_
        refine g_getf C fX1_21 0 rfl rfl dX1_removeAt_62 ?_
        refine g_iconst C dX1_removeAt_65 ?_
        refine g_isub C dX1_removeAt_66 ?_
        refine g_putf (w' := wS ad cI ((cnt : Int) - 1) (rmv fv s i) (rmv fs s i) (rmv fd s i)) C pX1_21 0 rfl rfl rfl (Nat.le_of_ble_eq_true rfl) rfl dX1_removeAt_67 ?_
        exact ret _ _ _ _ _ (by decide) (by decide) dX1_removeAt_70 (by rw [show i = cnt - 1 by omega])
      · refine g_aload_n C dX1_removeAt_12 1 rfl ?_
        refine g_getf C fX1_9 0 rfl rfl dX1_removeAt_13 ?_
        refine g_iload_n C dX1_removeAt_16 0 rfl ?_
        refine g_iconst C dX1_removeAt_17 ?_
        refine g_isub C dX1_removeAt_18 ?_
        refine g_top (i : Int) (by omega) ?_
        refine g_aload_n C dX1_removeAt_19 1 rfl ?_
        refine g_getf C fX1_9 0 rfl rfl dX1_removeAt_20 ?_
        refine g_iload_n C dX1_removeAt_23 0 rfl ?_
        refine g_iald C 1 rfl (by decide) (by omega) (by omega) (v := ((rmv fv s i) (i + 1))) rfl dX1_removeAt_24 ?_
        refine g_iast (w' := wS ad cI (cnt : Int) (zU (rmv fv s i) i ((rmv fv s i) (i + 1))) (rmv fs s i) (rmv fd s i)) C 1 rfl (by decide) (by omega) (by omega) rfl dX1_removeAt_25 ?_
        refine g_aload_n C dX1_removeAt_26 1 rfl ?_
        refine g_getf C fX1_15 0 rfl rfl dX1_removeAt_27 ?_
        refine g_iload_n C dX1_removeAt_30 0 rfl ?_
        refine g_iconst C dX1_removeAt_31 ?_
        refine g_isub C dX1_removeAt_32 ?_
        refine g_top (i : Int) (by omega) ?_
        refine g_aload_n C dX1_removeAt_33 1 rfl ?_
        refine g_getf C fX1_15 0 rfl rfl dX1_removeAt_34 ?_
        refine g_iload_n C dX1_removeAt_37 0 rfl ?_
        refine g_iald C 2 rfl (by decide) (by omega) (by omega) (v := ((rmv fs s i) (i + 1))) rfl dX1_removeAt_38 ?_
        refine g_iast (w' := wS ad cI (cnt : Int) (zU (rmv fv s i) i ((rmv fv s i) (i + 1))) (zU (rmv fs s i) i ((rmv fs s i) (i + 1))) (rmv fd s i)) C 2 rfl (by decide) (by omega) (by omega) rfl dX1_removeAt_39 ?_
        refine g_aload_n C dX1_removeAt_40 1 rfl ?_
        refine g_getf C fX1_18 0 rfl rfl dX1_removeAt_41 ?_
        refine g_iload_n C dX1_removeAt_44 0 rfl ?_
        refine g_iconst C dX1_removeAt_45 ?_
        refine g_isub C dX1_removeAt_46 ?_
        refine g_top (i : Int) (by omega) ?_
        refine g_aload_n C dX1_removeAt_47 1 rfl ?_
        refine g_getf C fX1_18 0 rfl rfl dX1_removeAt_48 ?_
        refine g_iload_n C dX1_removeAt_51 0 rfl ?_
        refine g_iald C 3 rfl (by decide) (by omega) (by omega) (v := ((rmv fd s i) (i + 1))) rfl dX1_removeAt_52 ?_
        refine g_iast (w' := wS ad cI (cnt : Int) (zU (rmv fv s i) i ((rmv fv s i) (i + 1))) (zU (rmv fs s i) i ((rmv fs s i) (i + 1))) (zU (rmv fd s i) i ((rmv fd s i) (i + 1)))) C 3 rfl (by decide) (by omega) (by omega) rfl dX1_removeAt_53 ?_
        refine g_iinc (L' := [(2, .int (zI (((i + 1 : Nat) : Int) + 1))), (0, .ref (ad 0))]) C dX1_removeAt_54 0 rfl (by decide) rfl ?_
        refine g_goto 4 C dX1_removeAt_57 (by decide) ?_
        refine g_loc (L' := [(2, .int (zI (((i + 1 : Nat) : Int) + 1))), (0, .ref (ad 0))]) [0, 1] rfl ?_
        refine g_ws (w' := wS ad cI (cnt : Int) (rmv fv s (i + 1)) (rmv fs s (i + 1)) (rmv fd s (i + 1))) (by rw [rmv_s hs1, rmv_s hs1, rmv_s hs1]) rfl ?_
        exact ih_4 (i + 1) (by omega) (by omega) (by omega)
  refine g_loc (L' := [(2, .int (zI ((s : Int) + 1))), (0, .ref (ad 0))]) [0, 1] rfl ?_
  refine g_ws (w' := wS ad cI (cnt : Int) (rmv fv s s) (rmv fs s s) (rmv fd s s)) (by rw [rmv_0, rmv_0, rmv_0]) rfl ?_
  exact loop_4 _ s (Nat.le_refl _) hs (Nat.lt_succ_self _)
abbrev rmX1_copyFrom : Room := { frames := 0, cells := 0, slots := 0, locals := 0 }
set_option maxHeartbeats 4000000 in
set_option maxRecDepth 100000 in
theorem met_X1_copyFrom (l : Launch) (D : va_G) (cI cG cJ : ClassId) (ad : Nat → Nat) (c1 : Int) (fv fs fd : Nat → Int) (a2 : Nat → Nat) (cnt2 : Nat) (hc : cnt2 ≤ 8) (gv gs gd : Nat → Int) : gMet l yX1_copyFrom cX1_copyFrom 3 none rmX1_copyFrom D cI cG cJ [.ref (ad 0), .ref (a2 0)] ((wS ad cI c1 fv fs fd) ++ (wS a2 cI (cnt2 : Int) gv gs gd)) (gN (fun w9 => w9 = (wS ad cI (cnt2 : Int) (cpy fv gv cnt2) (cpy fs gs cnt2) (cpy fd gd cnt2)) ++ (wS a2 cI (cnt2 : Int) gv gs gd))) := by
  refine gMet_N (by decide) rfl (Nat.le_of_ble_eq_true rfl) (fun E C ret => ?_)
  refine g_aload_n C dX1_copyFrom_0 0 rfl ?_
  refine g_aload_n C dX1_copyFrom_1 1 rfl ?_
  refine g_getf C fX1_21 4 rfl rfl dX1_copyFrom_2 ?_
  refine g_putf (w' := (wS ad cI (cnt2 : Int) fv fs fd) ++ (wS a2 cI (cnt2 : Int) gv gs gd)) C pX1_21 0 rfl rfl rfl (Nat.le_of_ble_eq_true rfl) rfl dX1_copyFrom_5 ?_
  refine g_iconst C dX1_copyFrom_8 ?_
  refine g_istore_n (L' := [(2, .int (zI 0)), (0, .ref (ad 0)), (1, .ref (a2 0))]) C dX1_copyFrom_9 (by decide) rfl ?_
  have loop_10 : ∀ (fu : Nat) (i : Nat), (hi : i ≤ cnt2) → cnt2 - i < fu → gW E 0 0 ((wS ad cI (cnt2 : Int) (cpy fv gv i) (cpy fs gs i) (cpy fd gd i)) ++ (wS a2 cI (cnt2 : Int) gv gs gd)) 10 [(2, .int (zI (i : Int))), (0, .ref (ad 0)), (1, .ref (a2 0))] [] := by
    intro fu
    induction fu with
    | zero => intro i hi h9; exact absurd h9 (Nat.not_lt_zero _)
    | succ fu ih_10 =>
      intro i hi hmu_10
      refine g_iload_n C dX1_copyFrom_10 0 rfl ?_
      refine g_aload_n C dX1_copyFrom_11 1 rfl ?_
      refine g_getf C fX1_21 0 rfl rfl dX1_copyFrom_12 ?_
      refine g_icmp_ge 60 C dX1_copyFrom_15 (by decide) (zr_i (by omega) (by omega)) (zr_i (by omega) (by omega)) (fun c_15 => ?_) (fun c_15 => ?_)
      · have e9 : i = cnt2 := by omega
        subst e9
        exact ret _ _ _ _ _ (by decide) (by decide) dX1_copyFrom_60 (rfl)
      · refine g_aload_n C dX1_copyFrom_18 1 rfl ?_
        refine g_getf C fX1_9 0 rfl rfl dX1_copyFrom_19 ?_
        refine g_iload_n C dX1_copyFrom_22 0 rfl ?_
        refine g_aload_n C dX1_copyFrom_23 2 rfl ?_
        refine g_getf C fX1_9 4 rfl rfl dX1_copyFrom_24 ?_
        refine g_iload_n C dX1_copyFrom_27 0 rfl ?_
        refine g_iald C 5 rfl (by decide) (by omega) (by omega) (v := (gv i)) rfl dX1_copyFrom_28 ?_
        refine g_iast (w' := (wS ad cI (cnt2 : Int) (zU (cpy fv gv i) i (gv i)) (cpy fs gs i) (cpy fd gd i)) ++ (wS a2 cI (cnt2 : Int) gv gs gd)) C 1 rfl (by decide) (by omega) (by omega) rfl dX1_copyFrom_29 ?_
        refine g_aload_n C dX1_copyFrom_30 1 rfl ?_
        refine g_getf C fX1_15 0 rfl rfl dX1_copyFrom_31 ?_
        refine g_iload_n C dX1_copyFrom_34 0 rfl ?_
        refine g_aload_n C dX1_copyFrom_35 2 rfl ?_
        refine g_getf C fX1_15 4 rfl rfl dX1_copyFrom_36 ?_
        refine g_iload_n C dX1_copyFrom_39 0 rfl ?_
        refine g_iald C 6 rfl (by decide) (by omega) (by omega) (v := (gs i)) rfl dX1_copyFrom_40 ?_
        refine g_iast (w' := (wS ad cI (cnt2 : Int) (zU (cpy fv gv i) i (gv i)) (zU (cpy fs gs i) i (gs i)) (cpy fd gd i)) ++ (wS a2 cI (cnt2 : Int) gv gs gd)) C 2 rfl (by decide) (by omega) (by omega) rfl dX1_copyFrom_41 ?_
        refine g_aload_n C dX1_copyFrom_42 1 rfl ?_
        refine g_getf C fX1_18 0 rfl rfl dX1_copyFrom_43 ?_
        refine g_iload_n C dX1_copyFrom_46 0 rfl ?_
        refine g_aload_n C dX1_copyFrom_47 2 rfl ?_
        refine g_getf C fX1_18 4 rfl rfl dX1_copyFrom_48 ?_
        refine g_iload_n C dX1_copyFrom_51 0 rfl ?_
        refine g_iald C 7 rfl (by decide) (by omega) (by omega) (v := (gd i)) rfl dX1_copyFrom_52 ?_
        refine g_iast (w' := (wS ad cI (cnt2 : Int) (zU (cpy fv gv i) i (gv i)) (zU (cpy fs gs i) i (gs i)) (zU (cpy fd gd i) i (gd i))) ++ (wS a2 cI (cnt2 : Int) gv gs gd)) C 3 rfl (by decide) (by omega) (by omega) rfl dX1_copyFrom_53 ?_
        refine g_iinc (L' := [(2, .int (zI ((i : Int) + 1))), (0, .ref (ad 0)), (1, .ref (a2 0))]) C dX1_copyFrom_54 0 rfl (by decide) rfl ?_
        refine g_goto 10 C dX1_copyFrom_57 (by decide) ?_
        refine g_loc (L' := [(2, .int (zI ((i : Int) + 1))), (0, .ref (ad 0)), (1, .ref (a2 0))]) [0, 1, 2] rfl ?_
        refine g_ws (w' := (wS ad cI (cnt2 : Int) (cpy fv gv (i + 1)) (cpy fs gs (i + 1)) (cpy fd gd (i + 1))) ++ (wS a2 cI (cnt2 : Int) gv gs gd)) (by rw [cpy_s, cpy_s, cpy_s]) rfl ?_
        exact ih_10 (i + 1) (by omega) (by omega)
  refine g_loc (L' := [(2, .int (zI 0)), (0, .ref (ad 0)), (1, .ref (a2 0))]) [0, 1, 2] rfl ?_
  refine g_ws (w' := (wS ad cI (cnt2 : Int) (cpy fv gv 0) (cpy fs gs 0) (cpy fd gd 0)) ++ (wS a2 cI (cnt2 : Int) gv gs gd)) (by rw [cpy_0, cpy_0, cpy_0]) rfl ?_
  exact loop_10 _ 0 (Nat.zero_le _) (Nat.lt_succ_self _)
abbrev rmX1_holds : Room := { frames := 0, cells := 0, slots := 0, locals := 0 }
set_option maxHeartbeats 4000000 in
set_option maxRecDepth 100000 in
theorem met_X1_holds (l : Launch) (D : va_G) (cI cG cJ : ClassId) (ad : Nat → Nat) (cnt : Nat) (hc : cnt ≤ 8) (fv fs fd : Nat → Int) (bd : Nat → Nat) (tc tr : Int) (ft tv tu fc : Nat → Int) (M : Nat → Nat → Int) (hz : ∀ j, j < cnt → zr (fs j) ∧ zr (fc j)) : gMet l yX1_holds cX1_holds 3 (some .boolean) rmX1_holds D cI cG cJ [.ref (ad 0), .ref (bd 5)] ((wS ad cI (cnt : Int) fv fs fd) ++ (wT bd cI cG tc tr ft tv tu fc M)) (gI (fun z w9 => ((z = 1 ∧ ∀ j, j < cnt → fc j ≤ fs j) ∨ (z = 0 ∧ ∃ j, j < cnt ∧ fs j < fc j)) ∧ w9 = (wS ad cI (cnt : Int) fv fs fd) ++ (wT bd cI cG tc tr ft tv tu fc M))) := by
  refine gMet_Z (by decide) rfl (Nat.le_of_ble_eq_true rfl) (fun E C ret => ?_)
  refine g_iconst C dX1_holds_0 ?_
  refine g_istore_n (L' := [(2, .int (zI 0)), (0, .ref (ad 0)), (1, .ref (bd 5))]) C dX1_holds_1 (by decide) rfl ?_
  have loop_2 : ∀ (fu : Nat) (i : Nat), (hi : i ≤ cnt) → (hn : ∀ j, j < i → fc j ≤ fs j) → cnt - i < fu → gW E 0 0 ((wS ad cI (cnt : Int) fv fs fd) ++ (wT bd cI cG tc tr ft tv tu fc M)) 2 [(2, .int (zI (i : Int))), (0, .ref (ad 0)), (1, .ref (bd 5))] [] := by
    intro fu
    induction fu with
    | zero => intro i hi hn h9; exact absurd h9 (Nat.not_lt_zero _)
    | succ fu ih_2 =>
      intro i hi hn hmu_2
      refine g_iload_n C dX1_holds_2 0 rfl ?_
      refine g_aload_n C dX1_holds_3 1 rfl ?_
      refine g_getf C fX1_21 0 rfl rfl dX1_holds_4 ?_
      refine g_icmp_ge 30 C dX1_holds_7 (by decide) (zr_i (by omega) (by omega)) (zr_i (by omega) (by omega)) (fun c_7 => ?_) (fun c_7 => ?_)
      · refine g_iconst C dX1_holds_30 ?_
        exact ret _ _ _ _ _ _ (by decide) (by decide) dX1_holds_31 (Or.inr rfl) (⟨Or.inl ⟨rfl, fun j hj => hn j (by omega)⟩, rfl⟩)
      · refine g_aload_n C dX1_holds_10 2 rfl ?_
        refine g_iload_n C dX1_holds_11 0 rfl ?_
        refine g_iald C 9 rfl (by decide) (by omega) (by omega) (v := (fc i)) rfl dX1_holds_12 ?_
        refine g_aload_n C dX1_holds_13 1 rfl ?_
        refine g_getf C fX1_15 0 rfl rfl dX1_holds_14 ?_
        refine g_iload_n C dX1_holds_17 0 rfl ?_
        refine g_iald C 2 rfl (by decide) (by omega) (by omega) (v := (fs i)) rfl dX1_holds_18 ?_
        refine g_icmp_le 24 C dX1_holds_19 (by decide) (hz i (by omega)).2 (hz i (by omega)).1 (fun c_19 => ?_) (fun c_19 => ?_)
        · refine g_iinc (L' := [(2, .int (zI ((i : Int) + 1))), (0, .ref (ad 0)), (1, .ref (bd 5))]) C dX1_holds_24 0 rfl (by decide) rfl ?_
          refine g_goto 2 C dX1_holds_27 (by decide) ?_
          refine g_loc (L' := [(2, .int (zI ((i : Int) + 1))), (0, .ref (ad 0)), (1, .ref (bd 5))]) [0, 1, 2] rfl ?_
          exact ih_2 (i + 1) (by omega) (fun j hj => lt_or (p := fun j => fc j ≤ fs j) hj hn c_19) (by omega)
        · refine g_iconst C dX1_holds_22 ?_
          exact ret _ _ _ _ _ _ (by decide) (by decide) dX1_holds_23 (Or.inl rfl) (⟨Or.inr ⟨rfl, i, by omega, by omega⟩, rfl⟩)
  refine g_loc (L' := [(2, .int (zI 0)), (0, .ref (ad 0)), (1, .ref (bd 5))]) [0, 1, 2] rfl ?_
  exact loop_2 _ 0 (Nat.zero_le _) (fun j hj => absurd hj (Nat.not_lt_zero _)) (Nat.lt_succ_self _)
abbrev rmX1_take : Room := { frames := 0, cells := 0, slots := 0, locals := 0 }
set_option maxHeartbeats 4000000 in
set_option maxRecDepth 100000 in
theorem met_X1_take (l : Launch) (D : va_G) (cI cG cJ : ClassId) (ad : Nat → Nat) (cnt : Nat) (hc : cnt ≤ 8) (fv fs fd : Nat → Int) (bd : Nat → Nat) (tc tr : Int) (ft tv tu fc : Nat → Int) (M : Nat → Nat → Int)  : gMet l yX1_take cX1_take 3 none rmX1_take D cI cG cJ [.ref (ad 0), .ref (bd 5)] ((wS ad cI (cnt : Int) fv fs fd) ++ (wT bd cI cG tc tr ft tv tu fc M)) (gN (fun w9 => w9 = (wS ad cI (cnt : Int) fv (cpy fs (fun j => fs j - fc j) cnt) (cpy fd (fun j => fd j + fc j) cnt)) ++ (wT bd cI cG tc tr ft tv tu fc M))) := by
  refine gMet_N (by decide) rfl (Nat.le_of_ble_eq_true rfl) (fun E C ret => ?_)
  refine g_iconst C dX1_take_0 ?_
  refine g_istore_n (L' := [(2, .int (zI 0)), (0, .ref (ad 0)), (1, .ref (bd 5))]) C dX1_take_1 (by decide) rfl ?_
  have loop_2 : ∀ (fu : Nat) (i : Nat), (hi : i ≤ cnt) → cnt - i < fu → gW E 0 0 ((wS ad cI (cnt : Int) fv (cpy fs (fun j => fs j - fc j) i) (cpy fd (fun j => fd j + fc j) i)) ++ (wT bd cI cG tc tr ft tv tu fc M)) 2 [(2, .int (zI (i : Int))), (0, .ref (ad 0)), (1, .ref (bd 5))] [] := by
    intro fu
    induction fu with
    | zero => intro i hi h9; exact absurd h9 (Nat.not_lt_zero _)
    | succ fu ih_2 =>
      intro i hi hmu_2
      refine g_iload_n C dX1_take_2 0 rfl ?_
      refine g_aload_n C dX1_take_3 1 rfl ?_
      refine g_getf C fX1_21 0 rfl rfl dX1_take_4 ?_
      refine g_icmp_ge 40 C dX1_take_7 (by decide) (zr_i (by omega) (by omega)) (zr_i (by omega) (by omega)) (fun c_7 => ?_) (fun c_7 => ?_)
      · have e9 : i = cnt := by omega
        subst e9
        exact ret _ _ _ _ _ (by decide) (by decide) dX1_take_40 (rfl)
      · refine g_aload_n C dX1_take_10 1 rfl ?_
        refine g_getf C fX1_15 0 rfl rfl dX1_take_11 ?_
        refine g_iload_n C dX1_take_14 0 rfl ?_
        refine g_dup2 C dX1_take_15 rfl rfl ?_
        refine g_iald C 2 rfl (by decide) (by omega) (by omega) (v := ((cpy fs (fun j => fs j - fc j) i) i)) rfl dX1_take_16 ?_
        refine g_aload_n C dX1_take_17 2 rfl ?_
        refine g_iload_n C dX1_take_18 0 rfl ?_
        refine g_iald C 9 rfl (by decide) (by omega) (by omega) (v := (fc i)) rfl dX1_take_19 ?_
        refine g_isub C dX1_take_20 ?_
        refine g_iast (w' := (wS ad cI (cnt : Int) fv (zU (cpy fs (fun j => fs j - fc j) i) i (((cpy fs (fun j => fs j - fc j) i) i) - (fc i))) (cpy fd (fun j => fd j + fc j) i)) ++ (wT bd cI cG tc tr ft tv tu fc M)) C 2 rfl (by decide) (by omega) (by omega) rfl dX1_take_21 ?_
        refine g_aload_n C dX1_take_22 1 rfl ?_
        refine g_getf C fX1_18 0 rfl rfl dX1_take_23 ?_
        refine g_iload_n C dX1_take_26 0 rfl ?_
        refine g_dup2 C dX1_take_27 rfl rfl ?_
        refine g_iald C 3 rfl (by decide) (by omega) (by omega) (v := ((cpy fd (fun j => fd j + fc j) i) i)) rfl dX1_take_28 ?_
        refine g_aload_n C dX1_take_29 2 rfl ?_
        refine g_iload_n C dX1_take_30 0 rfl ?_
        refine g_iald C 9 rfl (by decide) (by omega) (by omega) (v := (fc i)) rfl dX1_take_31 ?_
        refine g_iadd C dX1_take_32 ?_
        refine g_iast (w' := (wS ad cI (cnt : Int) fv (zU (cpy fs (fun j => fs j - fc j) i) i (((cpy fs (fun j => fs j - fc j) i) i) - (fc i))) (zU (cpy fd (fun j => fd j + fc j) i) i (((cpy fd (fun j => fd j + fc j) i) i) + (fc i)))) ++ (wT bd cI cG tc tr ft tv tu fc M)) C 3 rfl (by decide) (by omega) (by omega) rfl dX1_take_33 ?_
        refine g_iinc (L' := [(2, .int (zI ((i : Int) + 1))), (0, .ref (ad 0)), (1, .ref (bd 5))]) C dX1_take_34 0 rfl (by decide) rfl ?_
        refine g_goto 2 C dX1_take_37 (by decide) ?_
        refine g_loc (L' := [(2, .int (zI ((i : Int) + 1))), (0, .ref (ad 0)), (1, .ref (bd 5))]) [0, 1, 2] rfl ?_
        refine g_ws (w' := (wS ad cI (cnt : Int) fv (cpy fs (fun j => fs j - fc j) (i + 1)) (cpy fd (fun j => fd j + fc j) (i + 1))) ++ (wT bd cI cG tc tr ft tv tu fc M)) (by rw [← cpy_s (f := fs), ← cpy_s (f := fd), cpy_g (f := fs) (Nat.le_refl i), cpy_g (f := fd) (Nat.le_refl i)]) rfl ?_
        exact ih_2 (i + 1) (by omega) (by omega)
  refine g_loc (L' := [(2, .int (zI 0)), (0, .ref (ad 0)), (1, .ref (bd 5))]) [0, 1, 2] rfl ?_
  refine g_ws (w' := (wS ad cI (cnt : Int) fv (cpy fs (fun j => fs j - fc j) 0) (cpy fd (fun j => fd j + fc j) 0)) ++ (wT bd cI cG tc tr ft tv tu fc M)) (by rw [cpy_0, cpy_0]) rfl ?_
  exact loop_2 _ 0 (Nat.zero_le _) (Nat.lt_succ_self _)
