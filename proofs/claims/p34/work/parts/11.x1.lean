abbrev rmX1_hasValue : Room := { frames := 0, cells := 0, slots := 0, locals := 0 }
set_option maxHeartbeats 4000000 in
set_option maxRecDepth 100000 in
theorem met_X1_hasValue (l : Launch) (D : va_G) (cI cG cJ : ClassId) (ad : Nat → Nat) (cnt : Nat) (hc : cnt ≤ 8) (fv fs fd : Nat → Int) (hv : ∀ j, j < cnt → zr (fv j)) (x : Int) (hx : zr x) : gMet l yX1_hasValue cX1_hasValue 3 (some .boolean) rmX1_hasValue D cI cG cJ [.ref (ad 0), .int (zI x)] (wS ad cI (cnt : Int) fv fs fd) (gI (fun z w9 => ((z = 1 ∧ ∃ j, j < cnt ∧ fv j = x) ∨ (z = 0 ∧ ∀ j, j < cnt → fv j ≠ x)) ∧ w9 = wS ad cI (cnt : Int) fv fs fd)) := by
  refine gMet_Z (by decide) rfl (Nat.le_of_ble_eq_true rfl) (fun E C ret => ?_)
  refine g_iconst C dX1_hasValue_0 ?_
  refine g_istore_n (L' := [(2, .int (zI 0)), (0, .ref (ad 0)), (1, .int (zI x))]) C dX1_hasValue_1 (by decide) rfl ?_
  have loop_2 : ∀ (fu : Nat) (i : Nat), (hi : i ≤ cnt) → (hn : ∀ j, j < i → fv j ≠ x) → cnt - i < fu → gW E 0 0 (wS ad cI (cnt : Int) fv fs fd) 2 [(2, .int (zI (i : Int))), (0, .ref (ad 0)), (1, .int (zI x))] [] := by
    intro fu
    induction fu with
    | zero => intro i hi hn h9; exact absurd h9 (Nat.not_lt_zero _)
    | succ fu ih_2 =>
      intro i hi hn hmu_2
      refine g_iload_n C dX1_hasValue_2 0 rfl ?_
      refine g_aload_n C dX1_hasValue_3 1 rfl ?_
      refine g_getf C fX1_21 0 rfl rfl dX1_hasValue_4 ?_
      refine g_icmp_ge 28 C dX1_hasValue_7 (by decide) (zr_i (by omega) (by omega)) (zr_i (by omega) (by omega)) (fun c_7 => ?_) (fun c_7 => ?_)
      · refine g_iconst C dX1_hasValue_28 ?_
        exact ret _ _ _ _ _ _ (by decide) (by decide) dX1_hasValue_29 (Or.inl rfl) (⟨Or.inr ⟨rfl, fun j hj => hn j (by omega)⟩, rfl⟩)
      · refine g_aload_n C dX1_hasValue_10 1 rfl ?_
        refine g_getf C fX1_9 0 rfl rfl dX1_hasValue_11 ?_
        refine g_iload_n C dX1_hasValue_14 0 rfl ?_
        refine g_iald C 1 rfl (by decide) (by omega) (by omega) (v := (fv i)) rfl dX1_hasValue_15 ?_
        refine g_iload_n C dX1_hasValue_16 2 rfl ?_
        refine g_icmp_ne 22 C dX1_hasValue_17 (by decide) (hv i (by omega)) hx (fun c_17 => ?_) (fun c_17 => ?_)
        · refine g_iinc (L' := [(2, .int (zI ((i : Int) + 1))), (0, .ref (ad 0)), (1, .int (zI x))]) C dX1_hasValue_22 0 rfl (by decide) rfl ?_
          refine g_goto 2 C dX1_hasValue_25 (by decide) ?_
          refine g_loc (L' := [(2, .int (zI ((i : Int) + 1))), (0, .ref (ad 0)), (1, .int (zI x))]) [0, 1, 2] rfl ?_
          exact ih_2 (i + 1) (by omega) (fun j hj => lt_or (p := fun j => fv j ≠ x) hj hn c_17) (by omega)
        · refine g_iconst C dX1_hasValue_20 ?_
          exact ret _ _ _ _ _ _ (by decide) (by decide) dX1_hasValue_21 (Or.inr rfl) (⟨Or.inl ⟨rfl, i, by omega, c_17⟩, rfl⟩)
  refine g_loc (L' := [(2, .int (zI 0)), (0, .ref (ad 0)), (1, .int (zI x))]) [0, 1, 2] rfl ?_
  exact loop_2 _ 0 (Nat.zero_le _) (fun j hj => absurd hj (Nat.not_lt_zero _)) (Nat.lt_succ_self _)
abbrev rmX1_countAbove : Room := { frames := 0, cells := 0, slots := 0, locals := 0 }
set_option maxHeartbeats 4000000 in
set_option maxRecDepth 100000 in
theorem met_X1_countAbove (l : Launch) (D : va_G) (cI cG cJ : ClassId) (ad : Nat → Nat) (cnt : Nat) (hc : cnt ≤ 8) (fv fs fd : Nat → Int) (hv : ∀ j, j < cnt → zr (fv j)) (s : Nat) (hs : s < cnt) : gMet l yX1_countAbove cX1_countAbove 4 (some .int) rmX1_countAbove D cI cG cJ [.ref (ad 0), .int (zI (s : Int))] (wS ad cI (cnt : Int) fv fs fd) (gI (fun z w9 => z = ((cab fv (fv s) cnt : Nat) : Int) ∧ w9 = wS ad cI (cnt : Int) fv fs fd)) := by
  refine gMet_I (by decide) rfl (Nat.le_of_ble_eq_true rfl) (fun E C ret => ?_)
  refine g_iconst C dX1_countAbove_0 ?_
  refine g_istore_n (L' := [(2, .int (zI 0)), (0, .ref (ad 0)), (1, .int (zI (s : Int)))]) C dX1_countAbove_1 (by decide) rfl ?_
  refine g_iconst C dX1_countAbove_2 ?_
  refine g_istore_n (L' := [(3, .int (zI 0)), (2, .int (zI 0)), (0, .ref (ad 0)), (1, .int (zI (s : Int)))]) C dX1_countAbove_3 (by decide) rfl ?_
  have loop_4 : ∀ (fu : Nat) (i : Nat), (hi : i ≤ cnt) → cnt - i < fu → gW E 0 0 (wS ad cI (cnt : Int) fv fs fd) 4 [(2, .int (zI ((cab fv (fv s) i : Nat) : Int))), (3, .int (zI (i : Int))), (0, .ref (ad 0)), (1, .int (zI (s : Int)))] [] := by
    intro fu
    induction fu with
    | zero => intro i hi h9; exact absurd h9 (Nat.not_lt_zero _)
    | succ fu ih_4 =>
      intro i hi hmu_4
      refine g_iload_n C dX1_countAbove_4 1 rfl ?_
      refine g_aload_n C dX1_countAbove_5 2 rfl ?_
      refine g_getf C fX1_21 0 rfl rfl dX1_countAbove_6 ?_
      refine g_icmp_ge 36 C dX1_countAbove_9 (by decide) (zr_i (by omega) (by omega)) (zr_i (by omega) (by omega)) (fun c_9 => ?_) (fun c_9 => ?_)
      · have e9 : i = cnt := by omega
        subst e9
        refine g_iload_n C dX1_countAbove_36 0 rfl ?_
        exact ret _ _ _ _ _ _ (by decide) (by decide) dX1_countAbove_37 (⟨rfl, rfl⟩)
      · refine g_aload_n C dX1_countAbove_12 2 rfl ?_
        refine g_getf C fX1_9 0 rfl rfl dX1_countAbove_13 ?_
        refine g_iload_n C dX1_countAbove_16 1 rfl ?_
        refine g_iald C 1 rfl (by decide) (by omega) (by omega) (v := (fv i)) rfl dX1_countAbove_17 ?_
        refine g_aload_n C dX1_countAbove_18 2 rfl ?_
        refine g_getf C fX1_9 0 rfl rfl dX1_countAbove_19 ?_
        refine g_iload_n C dX1_countAbove_22 3 rfl ?_
        refine g_iald C 1 rfl (by decide) (by omega) (by omega) (v := (fv s)) rfl dX1_countAbove_23 ?_
        refine g_icmp_le 30 C dX1_countAbove_24 (by decide) (hv i (by omega)) (hv s hs) (fun c_24 => ?_) (fun c_24 => ?_)
        · refine g_iinc (L' := [(3, .int (zI ((i : Int) + 1))), (2, .int (zI ((cab fv (fv s) i : Nat) : Int))), (0, .ref (ad 0)), (1, .int (zI (s : Int)))]) C dX1_countAbove_30 1 rfl (by decide) rfl ?_
          refine g_goto 4 C dX1_countAbove_33 (by decide) ?_
          refine g_loc (L' := [(2, .int (zI ((cab fv (fv s) i : Nat) : Int))), (3, .int (zI ((i : Int) + 1))), (0, .ref (ad 0)), (1, .int (zI (s : Int)))]) [1, 0, 2, 3] rfl ?_
          refine g_lw (w' := wS ad cI (cnt : Int) fv fs fd) (L' := [(2, .int (zI ((cab fv (fv s) (i + 1) : Nat) : Int))), (3, .int (zI ((i + 1 : Nat) : Int))), (0, .ref (ad 0)), (1, .int (zI (s : Int)))]) rfl (by rw [cab_f (by omega)]; rfl) ?_
          exact ih_4 (i + 1) (by omega) (by omega)
        · refine g_iinc (L' := [(2, .int (zI (((cab fv (fv s) i : Nat) : Int) + 1))), (3, .int (zI (i : Int))), (0, .ref (ad 0)), (1, .int (zI (s : Int)))]) C dX1_countAbove_27 0 rfl (by decide) rfl ?_
          refine g_iinc (L' := [(3, .int (zI ((i : Int) + 1))), (2, .int (zI (((cab fv (fv s) i : Nat) : Int) + 1))), (0, .ref (ad 0)), (1, .int (zI (s : Int)))]) C dX1_countAbove_30 1 rfl (by decide) rfl ?_
          refine g_goto 4 C dX1_countAbove_33 (by decide) ?_
          refine g_loc (L' := [(2, .int (zI (((cab fv (fv s) i : Nat) : Int) + 1))), (3, .int (zI ((i : Int) + 1))), (0, .ref (ad 0)), (1, .int (zI (s : Int)))]) [1, 0, 2, 3] rfl ?_
          refine g_lw (w' := wS ad cI (cnt : Int) fv fs fd) (L' := [(2, .int (zI ((cab fv (fv s) (i + 1) : Nat) : Int))), (3, .int (zI ((i + 1 : Nat) : Int))), (0, .ref (ad 0)), (1, .int (zI (s : Int)))]) rfl (by rw [cab_t (by omega)]; rfl) ?_
          exact ih_4 (i + 1) (by omega) (by omega)
  refine g_loc (L' := [(2, .int (zI 0)), (3, .int (zI 0)), (0, .ref (ad 0)), (1, .int (zI (s : Int)))]) [1, 0, 2, 3] rfl ?_
  exact loop_4 _ 0 (Nat.zero_le _) (Nat.lt_succ_self _)
abbrev rmX1_append : Room := { frames := 0, cells := 0, slots := 0, locals := 0 }
set_option maxHeartbeats 4000000 in
set_option maxRecDepth 100000 in
theorem met_X1_append (l : Launch) (D : va_G) (cI cG cJ : ClassId) (ad : Nat → Nat) (cnt : Nat) (hc : cnt < 8) (fv fs fd : Nat → Int) (x y : Int) : gMet l yX1_append cX1_append 4 (some .int) rmX1_append D cI cG cJ [.ref (ad 0), .int (zI x), .int (zI y)] (wS ad cI (cnt : Int) fv fs fd) (gI (fun z w9 => z = (cnt : Int) ∧ w9 = wS ad cI ((cnt : Int) + 1) (zU fv cnt x) (zU fs cnt y) (zU fd cnt 0))) := by
  refine gMet_I (by decide) rfl (Nat.le_of_ble_eq_true rfl) (fun E C ret => ?_)
  refine g_aload_n C dX1_append_0 0 rfl ?_
  refine g_getf C fX1_21 0 rfl rfl dX1_append_1 ?_
  refine g_istore_n (L' := [(3, .int (zI (cnt : Int))), (0, .ref (ad 0)), (1, .int (zI x)), (2, .int (zI y))]) C dX1_append_4 (by decide) rfl ?_
  refine g_iload_n C dX1_append_5 0 rfl ?_
  refine g_bipush C dX1_append_6 (by decide) ?_
  refine g_icmp_lt 13 C dX1_append_8 (by decide) (zr_i (by omega) (by omega)) (zr_i (by omega) (by omega)) (fun c_8 => ?_) (fun c_8 => ?_)
  · refine g_aload_n C dX1_append_13 1 rfl ?_
    refine g_getf C fX1_9 0 rfl rfl dX1_append_14 ?_
    refine g_iload_n C dX1_append_17 0 rfl ?_
    refine g_iload_n C dX1_append_18 2 rfl ?_
    refine g_iast (w' := wS ad cI (cnt : Int) (zU fv cnt x) fs fd) C 1 rfl (by decide) (by omega) (by omega) rfl dX1_append_19 ?_
    refine g_aload_n C dX1_append_20 1 rfl ?_
    refine g_getf C fX1_15 0 rfl rfl dX1_append_21 ?_
    refine g_iload_n C dX1_append_24 0 rfl ?_
    refine g_iload_n C dX1_append_25 3 rfl ?_
    refine g_iast (w' := wS ad cI (cnt : Int) (zU fv cnt x) (zU fs cnt y) fd) C 2 rfl (by decide) (by omega) (by omega) rfl dX1_append_26 ?_
    refine g_aload_n C dX1_append_27 1 rfl ?_
    refine g_getf C fX1_18 0 rfl rfl dX1_append_28 ?_
    refine g_iload_n C dX1_append_31 0 rfl ?_
    refine g_iconst C dX1_append_32 ?_
    refine g_iast (w' := wS ad cI (cnt : Int) (zU fv cnt x) (zU fs cnt y) (zU fd cnt 0)) C 3 rfl (by decide) (by omega) (by omega) rfl dX1_append_33 ?_
    refine g_aload_n C dX1_append_34 1 rfl ?_
    refine g_iload_n C dX1_append_35 0 rfl ?_
    refine g_iconst C dX1_append_36 ?_
    refine g_iadd C dX1_append_37 ?_
    refine g_putf (w' := wS ad cI ((cnt : Int) + 1) (zU fv cnt x) (zU fs cnt y) (zU fd cnt 0)) C pX1_21 0 rfl rfl rfl (Nat.le_of_ble_eq_true rfl) rfl dX1_append_38 ?_
    refine g_iload_n C dX1_append_41 0 rfl ?_
    exact ret _ _ _ _ _ _ (by decide) (by decide) dX1_append_42 (⟨rfl, rfl⟩)
  · exfalso; omega
