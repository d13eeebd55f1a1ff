abbrev rmX3_meanValue : Room := { frames := 0, cells := 0, slots := 0, locals := 0 }
set_option maxHeartbeats 4000000 in
set_option maxRecDepth 100000 in
theorem met_X3_meanValue (l : Launch) (D : va_G) (cI cG cJ : ClassId) (h : Nat) (ad a2 bd pd : Nat → Nat) (cnt : Nat) (fv fs fd : Nat → Int) (rm lt tk ov : Int) (hI : XI cnt fv fs rm) (c2 : Int) (gv gs gd : Nat → Int) (tc tr : Int) (ft tv tu fc : Nat → Int) (M : Nat → Nat → Int) (fa fb : Nat → Int) (N : Nat → Nat → Int)  : gMet l yX3_meanValue cX3_meanValue 3 (some .double) rmX3_meanValue D cI cG cJ [.ref h] (((((wV h (ad 0) (a2 0) (bd 0) (pd 0) rm lt tk ov) ++ (wS ad cI (cnt : Int) fv fs fd)) ++ (wS a2 cI c2 gv gs gd)) ++ (wT bd cI cG tc tr ft tv tu fc M)) ++ (wP pd cI cG fa fb N)) (gB (fun z w9 => z = mean fv cnt ∧ XW h ad a2 bd pd cI cG cnt fv fs fd rm lt tk ov w9)) := by
  obtain ⟨hc, hS, h99, hr1, hr2⟩ := id hI
  have hr : 0 ≤ rm ∧ rm ≤ 12 := ⟨by omega, hr2⟩
  have hv1 : ∀ j, j < cnt → 1 ≤ fv j := fun j hj => (hS.1 j hj).1
  refine gMet_B (by decide) rfl (Nat.le_of_ble_eq_true rfl) (fun E C ret => ?_)
  refine g_aload_n C dX3_meanValue_0 0 rfl ?_
  refine g_getf C fX3_12 0 rfl rfl dX3_meanValue_1 ?_
  refine g_getf C fX3_49 1 rfl rfl dX3_meanValue_4 ?_
  refine g_if_ne 12 C dX3_meanValue_7 (by decide) (zr_i (by omega) (by omega)) (fun c_7 => ?_) (fun c_7 => ?_)
  · refine g_iconst C dX3_meanValue_12 ?_
    refine g_istore_n (L' := [(1, .int (zI 0)), (0, .ref h)]) C dX3_meanValue_13 (by decide) rfl ?_
    refine g_iconst C dX3_meanValue_14 ?_
    refine g_istore_n (L' := [(2, .int (zI 0)), (1, .int (zI 0)), (0, .ref h)]) C dX3_meanValue_15 (by decide) rfl ?_
    have loop_16 : ∀ (fu : Nat) (i : Nat), (hi : i ≤ cnt) → cnt - i < fu → gW E 0 0 (((((wV h (ad 0) (a2 0) (bd 0) (pd 0) rm lt tk ov) ++ (wS ad cI (cnt : Int) fv fs fd)) ++ (wS a2 cI c2 gv gs gd)) ++ (wT bd cI cG tc tr ft tv tu fc M)) ++ (wP pd cI cG fa fb N)) 16 [(2, .int (zI (i : Int))), (1, .int (zI (vsum fv i))), (0, .ref h)] [] := by
      intro fu
      induction fu with
      | zero => intro i hi h9; exact absurd h9 (Nat.not_lt_zero _)
      | succ fu ih_16 =>
        intro i hi hmu_16
        refine g_iload_n C dX3_meanValue_16 0 rfl ?_
        refine g_aload_n C dX3_meanValue_17 2 rfl ?_
        refine g_getf C fX3_12 0 rfl rfl dX3_meanValue_18 ?_
        refine g_getf C fX3_49 1 rfl rfl dX3_meanValue_21 ?_
        refine g_icmp_ge 45 C dX3_meanValue_24 (by decide) (zr_i (by omega) (by omega)) (zr_i (by omega) (by omega)) (fun c_24 => ?_) (fun c_24 => ?_)
        · have e9 : i = cnt := by omega
          subst e9
          refine g_iload_n C dX3_meanValue_45 1 rfl ?_
          refine g_i2d C dX3_meanValue_46 ?_
          refine g_aload_n C dX3_meanValue_47 2 rfl ?_
          refine g_getf C fX3_12 0 rfl rfl dX3_meanValue_48 ?_
          refine g_getf C fX3_49 1 rfl rfl dX3_meanValue_51 ?_
          refine g_i2d C dX3_meanValue_54 ?_
          refine g_ddiv C dX3_meanValue_55 (mean_ok hc (by omega) hS.1) ?_
          exact ret _ _ _ _ _ _ (by decide) (by decide) dX3_meanValue_56 (⟨(if_neg (by omega)).symm, ⟨_, _, _, _, _, _, _, _, _, _, _, _, _, _, rfl⟩⟩)
        · refine g_iload_n C dX3_meanValue_27 1 rfl ?_
          refine g_aload_n C dX3_meanValue_28 2 rfl ?_
          refine g_getf C fX3_12 0 rfl rfl dX3_meanValue_29 ?_
          refine g_getf C fX3_103 1 rfl rfl dX3_meanValue_32 ?_
          refine g_iload_n C dX3_meanValue_35 0 rfl ?_
          refine g_iald C 2 rfl (by decide) (by omega) (by omega) (v := (fv i)) rfl dX3_meanValue_36 ?_
          refine g_iadd C dX3_meanValue_37 ?_
          refine g_istore_n (L' := [(1, .int (zI ((vsum fv i) + (fv i)))), (2, .int (zI (i : Int))), (0, .ref h)]) C dX3_meanValue_38 (by decide) rfl ?_
          refine g_iinc (L' := [(2, .int (zI ((i : Int) + 1))), (1, .int (zI ((vsum fv i) + (fv i)))), (0, .ref h)]) C dX3_meanValue_39 1 rfl (by decide) rfl ?_
          refine g_goto 16 C dX3_meanValue_42 (by decide) ?_
          refine g_loc (L' := [(2, .int (zI ((i : Int) + 1))), (1, .int (zI ((vsum fv i) + (fv i)))), (0, .ref h)]) [0, 1, 2] rfl ?_
          exact ih_16 (i + 1) (by omega) (by omega)
    refine g_loc (L' := [(2, .int (zI 0)), (1, .int (zI 0)), (0, .ref h)]) [0, 1, 2] rfl ?_
    exact loop_16 _ 0 (Nat.zero_le _) (Nat.lt_succ_self _)
  · refine g_dconst0 C dX3_meanValue_10 ?_
    exact ret _ _ _ _ _ _ (by decide) (by decide) dX3_meanValue_11 (⟨(if_pos (by omega)).symm, ⟨_, _, _, _, _, _, _, _, _, _, _, _, _, _, rfl⟩⟩)
abbrev rmX3_digestStamps : Room := { frames := 0, cells := 0, slots := 0, locals := 0 }
set_option maxHeartbeats 4000000 in
set_option maxRecDepth 100000 in
theorem met_X3_digestStamps (l : Launch) (D : va_G) (cI cG cJ : ClassId) (h : Nat) (ad a2 bd pd : Nat → Nat) (cnt : Nat) (fv fs fd : Nat → Int) (rm lt tk ov : Int) (hI : XI cnt fv fs rm) (c2 : Int) (gv gs gd : Nat → Int) (tc tr : Int) (ft tv tu fc : Nat → Int) (M : Nat → Nat → Int) (fa fb : Nat → Int) (N : Nat → Nat → Int) (d : Int64) : gMet l yX3_digestStamps cX3_digestStamps 6 (some .long) rmX3_digestStamps D cI cG cJ [.ref h, .long d] (((((wV h (ad 0) (a2 0) (bd 0) (pd 0) rm lt tk ov) ++ (wS ad cI (cnt : Int) fv fs fd)) ++ (wS a2 cI c2 gv gs gd)) ++ (wT bd cI cG tc tr ft tv tu fc M)) ++ (wP pd cI cG fa fb N)) (gJ (fun z w9 => z = dsF fv fs fd d cnt ∧ XW h ad a2 bd pd cI cG cnt fv fs fd rm lt tk ov w9)) := by
  obtain ⟨hc, hS, h99, hr1, hr2⟩ := id hI
  have hr : 0 ≤ rm ∧ rm ≤ 12 := ⟨by omega, hr2⟩
  have hv1 : ∀ j, j < cnt → 1 ≤ fv j := fun j hj => (hS.1 j hj).1
  refine gMet_J (by decide) rfl (Nat.le_of_ble_eq_true rfl) (fun E C ret => ?_)
  refine g_lload_n C dX3_digestStamps_0 1 rfl ?_
  refine g_lstore_n (L' := [(3, .long d), (0, .ref h), (1, .long d)]) C dX3_digestStamps_1 (by decide) rfl ?_
  refine g_iconst C dX3_digestStamps_2 ?_
  refine g_istore (L' := [(5, .int (zI 0)), (3, .long d), (0, .ref h), (1, .long d)]) C dX3_digestStamps_3 (by decide) rfl ?_
  have loop_5 : ∀ (fu : Nat) (i : Nat), (hi : i ≤ cnt) → cnt - i < fu → gW E 0 0 (((((wV h (ad 0) (a2 0) (bd 0) (pd 0) rm lt tk ov) ++ (wS ad cI (cnt : Int) fv fs fd)) ++ (wS a2 cI c2 gv gs gd)) ++ (wT bd cI cG tc tr ft tv tu fc M)) ++ (wP pd cI cG fa fb N)) 5 [(5, .int (zI (i : Int))), (3, .long (dsF fv fs fd d i)), (0, .ref h), (1, .long d)] [] := by
    intro fu
    induction fu with
    | zero => intro i hi h9; exact absurd h9 (Nat.not_lt_zero _)
    | succ fu ih_5 =>
      intro i hi hmu_5
      refine g_iload C dX3_digestStamps_5 0 rfl ?_
      refine g_aload_n C dX3_digestStamps_7 2 rfl ?_
      refine g_getf C fX3_12 0 rfl rfl dX3_digestStamps_8 ?_
      refine g_getf C fX3_49 1 rfl rfl dX3_digestStamps_11 ?_
      refine g_icmp_ge 77 C dX3_digestStamps_14 (by decide) (zr_i (by omega) (by omega)) (zr_i (by omega) (by omega)) (fun c_14 => ?_) (fun c_14 => ?_)
      · have e9 : i = cnt := by omega
        subst e9
        refine g_lload_n C dX3_digestStamps_77 1 rfl ?_
        exact ret _ _ _ _ _ _ (by decide) (by decide) dX3_digestStamps_78 (⟨rfl, ⟨_, _, _, _, _, _, _, _, _, _, _, _, _, _, rfl⟩⟩)
      · refine g_lload_n C dX3_digestStamps_17 1 rfl ?_
        refine g_ldc2 C kX3_159 dX3_digestStamps_18 ?_
        refine g_lmul C dX3_digestStamps_21 ?_
        refine g_aload_n C dX3_digestStamps_22 2 rfl ?_
        refine g_getf C fX3_12 0 rfl rfl dX3_digestStamps_23 ?_
        refine g_getf C fX3_103 1 rfl rfl dX3_digestStamps_26 ?_
        refine g_iload C dX3_digestStamps_29 0 rfl ?_
        refine g_iald C 2 rfl (by decide) (by omega) (by omega) (v := (fv i)) rfl dX3_digestStamps_31 ?_
        refine g_i2l C dX3_digestStamps_32 ?_
        refine g_ladd C dX3_digestStamps_33 ?_
        refine g_lstore_n (L' := [(3, .long (((dsF fv fs fd d i) * (31 : Int64)) + (zI (fv i)).toInt64)), (5, .int (zI (i : Int))), (0, .ref h), (1, .long d)]) C dX3_digestStamps_34 (by decide) rfl ?_
        refine g_lload_n C dX3_digestStamps_35 0 rfl ?_
        refine g_ldc2 C kX3_159 dX3_digestStamps_36 ?_
        refine g_lmul C dX3_digestStamps_39 ?_
        refine g_aload_n C dX3_digestStamps_40 2 rfl ?_
        refine g_getf C fX3_12 0 rfl rfl dX3_digestStamps_41 ?_
        refine g_getf C fX3_67 1 rfl rfl dX3_digestStamps_44 ?_
        refine g_iload C dX3_digestStamps_47 1 rfl ?_
        refine g_iald C 3 rfl (by decide) (by omega) (by omega) (v := (fs i)) rfl dX3_digestStamps_49 ?_
        refine g_i2l C dX3_digestStamps_50 ?_
        refine g_ladd C dX3_digestStamps_51 ?_
        refine g_lstore_n (L' := [(3, .long (((((dsF fv fs fd d i) * (31 : Int64)) + (zI (fv i)).toInt64) * (31 : Int64)) + (zI (fs i)).toInt64)), (5, .int (zI (i : Int))), (0, .ref h), (1, .long d)]) C dX3_digestStamps_52 (by decide) rfl ?_
        refine g_lload_n C dX3_digestStamps_53 0 rfl ?_
        refine g_ldc2 C kX3_159 dX3_digestStamps_54 ?_
        refine g_lmul C dX3_digestStamps_57 ?_
        refine g_aload_n C dX3_digestStamps_58 2 rfl ?_
        refine g_getf C fX3_12 0 rfl rfl dX3_digestStamps_59 ?_
        refine g_getf C fX3_106 1 rfl rfl dX3_digestStamps_62 ?_
        refine g_iload C dX3_digestStamps_65 1 rfl ?_
        refine g_iald C 4 rfl (by decide) (by omega) (by omega) (v := (fd i)) rfl dX3_digestStamps_67 ?_
        refine g_i2l C dX3_digestStamps_68 ?_
        refine g_ladd C dX3_digestStamps_69 ?_
        refine g_lstore_n (L' := [(3, .long (((((((dsF fv fs fd d i) * (31 : Int64)) + (zI (fv i)).toInt64) * (31 : Int64)) + (zI (fs i)).toInt64) * (31 : Int64)) + (zI (fd i)).toInt64)), (5, .int (zI (i : Int))), (0, .ref h), (1, .long d)]) C dX3_digestStamps_70 (by decide) rfl ?_
        refine g_iinc (L' := [(5, .int (zI ((i : Int) + 1))), (3, .long (((((((dsF fv fs fd d i) * (31 : Int64)) + (zI (fv i)).toInt64) * (31 : Int64)) + (zI (fs i)).toInt64) * (31 : Int64)) + (zI (fd i)).toInt64)), (0, .ref h), (1, .long d)]) C dX3_digestStamps_71 1 rfl (by decide) rfl ?_
        refine g_goto 5 C dX3_digestStamps_74 (by decide) ?_
        refine g_loc (L' := [(5, .int (zI ((i : Int) + 1))), (3, .long (((((((dsF fv fs fd d i) * (31 : Int64)) + (zI (fv i)).toInt64) * (31 : Int64)) + (zI (fs i)).toInt64) * (31 : Int64)) + (zI (fd i)).toInt64)), (0, .ref h), (1, .long d)]) [0, 1, 2, 3] rfl ?_
        exact ih_5 (i + 1) (by omega) (by omega)
  refine g_loc (L' := [(5, .int (zI 0)), (3, .long d), (0, .ref h), (1, .long d)]) [0, 1, 2, 3] rfl ?_
  exact loop_5 _ 0 (Nat.zero_le _) (Nat.lt_succ_self _)
abbrev rmX3_digestPostages : Room := { frames := 3, cells := 0, slots := 0, locals := 90 }
set_option maxHeartbeats 4000000 in
set_option maxRecDepth 100000 in
theorem met_X3_digestPostages (l : Launch) (D : va_G) (cI cG cJ : ClassId) (h : Nat) (ad a2 bd pd : Nat → Nat) (cnt : Nat) (fv fs fd : Nat → Int) (rm lt tk ov : Int) (hI : XI cnt fv fs rm) (c2 : Int) (gv gs gd : Nat → Int) (tc tr : Int) (ft tv tu fc : Nat → Int) (M : Nat → Nat → Int) (fa fb : Nat → Int) (N : Nat → Nat → Int) (d : Int64) : gMet l yX3_digestPostages cX3_digestPostages 6 (some .long) rmX3_digestPostages D cI cG cJ [.ref h, .long d] (((((wV h (ad 0) (a2 0) (bd 0) (pd 0) rm lt tk ov) ++ (wS ad cI (cnt : Int) fv fs fd)) ++ (wS a2 cI c2 gv gs gd)) ++ (wT bd cI cG tc tr ft tv tu fc M)) ++ (wP pd cI cG fa fb N)) (gJ (fun z w9 => z = dpF cnt fv fs rm d 12 ∧ XW h ad a2 bd pd cI cG cnt fv fs fd rm lt tk ov w9)) := by
  obtain ⟨hc, hS, h99, hr1, hr2⟩ := id hI
  have hr : 0 ≤ rm ∧ rm ≤ 12 := ⟨by omega, hr2⟩
  have hv1 : ∀ j, j < cnt → 1 ≤ fv j := fun j hj => (hS.1 j hj).1
  refine gMet_J (by decide) rfl (Nat.le_of_ble_eq_true rfl) (fun E C ret => ?_)
  refine g_lload_n C dX3_digestPostages_0 1 rfl ?_
  refine g_lstore_n (L' := [(3, .long d), (0, .ref h), (1, .long d)]) C dX3_digestPostages_1 (by decide) rfl ?_
  refine g_aload_n C dX3_digestPostages_2 1 rfl ?_
  refine g_getf C fX3_22 0 rfl rfl dX3_digestPostages_3 ?_
  refine g_aload_n C dX3_digestPostages_6 1 rfl ?_
  refine g_getf C fX3_12 0 rfl rfl dX3_digestPostages_7 ?_
  refine g_aload_n C dX3_digestPostages_10 1 rfl ?_
  refine g_getf C fX3_33 0 rfl rfl dX3_digestPostages_11 ?_
  refine g_callV (wr := ((wV h (ad 0) (a2 0) (bd 0) (pd 0) rm lt tk ov) ++ (wS a2 cI c2 gv gs gd)) ++ (wP pd cI cG fa fb N)) (st := []) [9, 10, 11, 12, 13, 14, 15, 16, 17, 18, 19, 20, 21, 22, 23, 1, 2, 3, 4] [0, 5, 6, 7, 8, 24, 25, 26, 27, 28, 29, 30, 31, 32, 33, 34, 35, 36, 37, 38, 39, 40] C cX3_85 (met_X2_fill l D cI cG cJ ad cnt hc fv fs fd bd tc tr ft tv tu fc M hS rm hr) ⟨rfl, rfl, by decide, by decide, by decide⟩ (q0 := 9) rfl rfl (by decide) (by decide) rfl rfl (Nat.le_of_ble_eq_true rfl) dX3_digestPostages_14 ?_
  rintro v9 w9 ⟨rfl, ft1, tv1, tu1, M1, ⟨hR, hM⟩, rfl⟩
  refine g_ws (w' := ((((wV h (ad 0) (a2 0) (bd 0) (pd 0) rm lt tk ov) ++ (wS a2 cI c2 gv gs gd)) ++ (wP pd cI cG fa fb N)) ++ (wT bd cI cG (cnt : Int) rm ft1 tv1 tu1 fc M1)) ++ (wS ad cI (cnt : Int) fv fs fd)) (st' := []) rfl rfl ?_
  refine g_perm (w' := ((((wV h (ad 0) (a2 0) (bd 0) (pd 0) rm lt tk ov) ++ (wS ad cI (cnt : Int) fv fs fd)) ++ (wS a2 cI c2 gv gs gd)) ++ (wT bd cI cG (cnt : Int) rm ft1 tv1 tu1 fc M1)) ++ (wP pd cI cG fa fb N)) [0, 37, 38, 39, 40, 1, 2, 3, 4, 22, 23, 24, 25, 26, 27, 28, 29, 30, 31, 32, 33, 34, 35, 36, 5, 6, 7, 8, 9, 10, 11, 12, 13, 14, 15, 16, 17, 18, 19, 20, 21] (by decide) rfl ?_
  refine g_aload_n C dX3_digestPostages_17 1 rfl ?_
  refine g_getf C fX3_29 0 rfl rfl dX3_digestPostages_18 ?_
  refine g_aload_n C dX3_digestPostages_21 1 rfl ?_
  refine g_getf C fX3_12 0 rfl rfl dX3_digestPostages_22 ?_
  refine g_callV (wr := ((wV h (ad 0) (a2 0) (bd 0) (pd 0) rm lt tk ov) ++ (wS a2 cI c2 gv gs gd)) ++ (wT bd cI cG (cnt : Int) rm ft1 tv1 tu1 fc M1)) (st := []) [24, 25, 26, 27, 28, 29, 30, 31, 32, 33, 34, 35, 36, 37, 38, 39, 40, 1, 2, 3, 4] [0, 5, 6, 7, 8, 9, 10, 11, 12, 13, 14, 15, 16, 17, 18, 19, 20, 21, 22, 23] C cX3_128 (met_X0_fill l D cI cG cJ ad cnt hc fv fs fd hS.1 pd fa fb N) ⟨rfl, rfl, by decide, by decide, by decide⟩ (q0 := 24) rfl rfl (by decide) (by decide) rfl rfl (Nat.le_of_ble_eq_true rfl) dX3_digestPostages_25 ?_
  rintro v9 w9 ⟨rfl, fa1, hP, rfl⟩
  have hb1 := hP.bd2 hv1
  refine g_ws (w' := ((((wV h (ad 0) (a2 0) (bd 0) (pd 0) rm lt tk ov) ++ (wS a2 cI c2 gv gs gd)) ++ (wT bd cI cG (cnt : Int) rm ft1 tv1 tu1 fc M1)) ++ (wP pd cI cG fa1 fb N)) ++ (wS ad cI (cnt : Int) fv fs fd)) (st' := []) rfl rfl ?_
  refine g_perm (w' := ((((wV h (ad 0) (a2 0) (bd 0) (pd 0) rm lt tk ov) ++ (wS ad cI (cnt : Int) fv fs fd)) ++ (wS a2 cI c2 gv gs gd)) ++ (wT bd cI cG (cnt : Int) rm ft1 tv1 tu1 fc M1)) ++ (wP pd cI cG fa1 fb N)) [0, 37, 38, 39, 40, 1, 2, 3, 4, 5, 6, 7, 8, 9, 10, 11, 12, 13, 14, 15, 16, 17, 18, 19, 20, 21, 22, 23, 24, 25, 26, 27, 28, 29, 30, 31, 32, 33, 34, 35, 36] (by decide) rfl ?_
  refine g_bipush C dX3_digestPostages_28 (by decide) ?_
  refine g_istore (L' := [(5, .int (zI 25)), (3, .long d), (0, .ref h), (1, .long d)]) C dX3_digestPostages_30 (by decide) rfl ?_
  have loop_32 : ∀ (fu : Nat) (n : Nat), (hn : n ≤ 12) → 12 - n < fu → gW E 0 0 (((((wV h (ad 0) (a2 0) (bd 0) (pd 0) rm lt tk ov) ++ (wS ad cI (cnt : Int) fv fs fd)) ++ (wS a2 cI c2 gv gs gd)) ++ (wT bd cI cG (cnt : Int) rm ft1 tv1 tu1 fc M1)) ++ (wP pd cI cG fa1 fb N)) 32 [(5, .int (zI ((25 * (n + 1) : Nat) : Int))), (3, .long (dpF cnt fv fs rm d n)), (0, .ref h), (1, .long d)] [] := by
    intro fu
    induction fu with
    | zero => intro n hn h9; exact absurd h9 (Nat.not_lt_zero _)
    | succ fu ih_32 =>
      intro n hn hmu_32
      refine g_iload C dX3_digestPostages_32 0 rfl ?_
      refine g_sipush C dX3_digestPostages_34 (by decide) ?_
      refine g_icmp_gt 101 C dX3_digestPostages_37 (by decide) (zr_i (by omega) (by omega)) (zr_i (by omega) (by omega)) (fun c_37 => ?_) (fun c_37 => ?_)
      · have e9 : n = 12 := by omega
        subst e9
        refine g_lload_n C dX3_digestPostages_101 1 rfl ?_
        exact ret _ _ _ _ _ _ (by decide) (by decide) dX3_digestPostages_102 (⟨rfl, ⟨_, _, _, _, _, _, _, _, _, _, _, _, _, _, rfl⟩⟩)
      · refine g_lload_n C dX3_digestPostages_40 1 rfl ?_
        refine g_ldc2 C kX3_159 dX3_digestPostages_41 ?_
        refine g_lmul C dX3_digestPostages_44 ?_
        refine g_aload_n C dX3_digestPostages_45 2 rfl ?_
        refine g_getf C fX3_22 0 rfl rfl dX3_digestPostages_46 ?_
        refine g_iload C dX3_digestPostages_49 0 rfl ?_
        refine g_callV (wr := (((wV h (ad 0) (a2 0) (bd 0) (pd 0) rm lt tk ov) ++ (wS ad cI (cnt : Int) fv fs fd)) ++ (wS a2 cI c2 gv gs gd)) ++ (wP pd cI cG fa1 fb N)) (st := [.long ((dpF cnt fv fs rm d n) * (31 : Int64))]) [9, 10, 11, 12, 13, 14, 15, 16, 17, 18, 19, 20, 21, 22, 23] [0, 1, 2, 3, 4, 5, 6, 7, 8, 24, 25, 26, 27, 28, 29, 30, 31, 32, 33, 34, 35, 36, 37, 38, 39, 40] C cX3_112 (met_X2_moreThan l D cI cG cJ bd cnt hc rm hr ft1 tv1 tu1 fc M1 (fun r j h1 h2 => hM.bd hS (Nat.zero_le _) h1 h2) (25 * (n + 1)) (by omega)) ⟨rfl, rfl, by decide, by decide, by decide⟩ (q0 := 9) rfl rfl (by decide) (by decide) rfl rfl (Nat.le_of_ble_eq_true rfl) dX3_digestPostages_51 ?_
        rintro v9 w9 ⟨z9, rfl, rfl, rfl⟩
        refine g_ws (w' := ((((wV h (ad 0) (a2 0) (bd 0) (pd 0) rm lt tk ov) ++ (wS ad cI (cnt : Int) fv fs fd)) ++ (wS a2 cI c2 gv gs gd)) ++ (wP pd cI cG fa1 fb N)) ++ (wT bd cI cG (cnt : Int) rm ft1 tv1 tu1 fc M1)) (st' := [.int (zI (if fsm (M1 0) rm (360 - 25 * (n + 1)) (25 * (n + 1)) = -1 then (-1 : Int) else fsm (M1 0) rm (360 - 25 * (n + 1)) (25 * (n + 1)) - (((25 * (n + 1)) : Nat) : Int))), .long ((dpF cnt fv fs rm d n) * (31 : Int64))]) rfl rfl ?_
        refine g_perm (w' := ((((wV h (ad 0) (a2 0) (bd 0) (pd 0) rm lt tk ov) ++ (wS ad cI (cnt : Int) fv fs fd)) ++ (wS a2 cI c2 gv gs gd)) ++ (wT bd cI cG (cnt : Int) rm ft1 tv1 tu1 fc M1)) ++ (wP pd cI cG fa1 fb N)) [0, 1, 2, 3, 4, 5, 6, 7, 8, 26, 27, 28, 29, 30, 31, 32, 33, 34, 35, 36, 37, 38, 39, 40, 9, 10, 11, 12, 13, 14, 15, 16, 17, 18, 19, 20, 21, 22, 23, 24, 25] (by decide) rfl ?_
        refine g_top (dq1 cnt fv fs rm (25 * (n + 1))) (by rw [hM.ls (by omega)] <;> rfl) ?_
        refine g_i2l C dX3_digestPostages_54 ?_
        refine g_ladd C dX3_digestPostages_55 ?_
        refine g_lstore_n (L' := [(3, .long (((dpF cnt fv fs rm d n) * (31 : Int64)) + (zI (dq1 cnt fv fs rm (25 * (n + 1)))).toInt64)), (5, .int (zI ((25 * (n + 1) : Nat) : Int))), (0, .ref h), (1, .long d)]) C dX3_digestPostages_56 (by decide) rfl ?_
        refine g_lload_n C dX3_digestPostages_57 0 rfl ?_
        refine g_ldc2 C kX3_159 dX3_digestPostages_58 ?_
        refine g_lmul C dX3_digestPostages_61 ?_
        refine g_aload_n C dX3_digestPostages_62 2 rfl ?_
        refine g_getf C fX3_22 0 rfl rfl dX3_digestPostages_63 ?_
        refine g_iload C dX3_digestPostages_66 1 rfl ?_
        refine g_callV (wr := (((wV h (ad 0) (a2 0) (bd 0) (pd 0) rm lt tk ov) ++ (wS ad cI (cnt : Int) fv fs fd)) ++ (wS a2 cI c2 gv gs gd)) ++ (wP pd cI cG fa1 fb N)) (st := [.long ((((dpF cnt fv fs rm d n) * (31 : Int64)) + (zI (dq1 cnt fv fs rm (25 * (n + 1)))).toInt64) * (31 : Int64))]) [9, 10, 11, 12, 13, 14, 15, 16, 17, 18, 19, 20, 21, 22, 23] [0, 1, 2, 3, 4, 5, 6, 7, 8, 24, 25, 26, 27, 28, 29, 30, 31, 32, 33, 34, 35, 36, 37, 38, 39, 40] C cX3_115 (met_X2_stampsOnLetter l D cI cG cJ bd cnt hc rm hr ft1 tv1 tu1 fc M1 (fun r j h1 h2 => hM.bd hS (Nat.zero_le _) h1 h2) (25 * (n + 1)) (by omega)) ⟨rfl, rfl, by decide, by decide, by decide⟩ (q0 := 9) rfl rfl (by decide) (by decide) rfl rfl (Nat.le_of_ble_eq_true rfl) dX3_digestPostages_68 ?_
        rintro v9 w9 ⟨z9, rfl, rfl, rfl⟩
        refine g_ws (w' := ((((wV h (ad 0) (a2 0) (bd 0) (pd 0) rm lt tk ov) ++ (wS ad cI (cnt : Int) fv fs fd)) ++ (wS a2 cI c2 gv gs gd)) ++ (wP pd cI cG fa1 fb N)) ++ (wT bd cI cG (cnt : Int) rm ft1 tv1 tu1 fc M1)) (st' := [.int (zI (if fsm (M1 0) rm (360 - 25 * (n + 1)) (25 * (n + 1)) = -1 then (0 : Int) else M1 0 (fsm (M1 0) rm (360 - 25 * (n + 1)) (25 * (n + 1))).toNat)), .long ((((dpF cnt fv fs rm d n) * (31 : Int64)) + (zI (dq1 cnt fv fs rm (25 * (n + 1)))).toInt64) * (31 : Int64))]) rfl rfl ?_
        refine g_perm (w' := ((((wV h (ad 0) (a2 0) (bd 0) (pd 0) rm lt tk ov) ++ (wS ad cI (cnt : Int) fv fs fd)) ++ (wS a2 cI c2 gv gs gd)) ++ (wT bd cI cG (cnt : Int) rm ft1 tv1 tu1 fc M1)) ++ (wP pd cI cG fa1 fb N)) [0, 1, 2, 3, 4, 5, 6, 7, 8, 26, 27, 28, 29, 30, 31, 32, 33, 34, 35, 36, 37, 38, 39, 40, 9, 10, 11, 12, 13, 14, 15, 16, 17, 18, 19, 20, 21, 22, 23, 24, 25] (by decide) rfl ?_
        refine g_top (dq2 cnt fv fs rm (25 * (n + 1))) (by rw [hM.ls (by omega), hM.tb0 (by have := LSm_rg (cnt := cnt) (fv := fv) (fs := fs) (rm := rm) (p := 25 * (n + 1)) (by omega); omega)] <;> rfl) ?_
        refine g_i2l C dX3_digestPostages_71 ?_
        refine g_ladd C dX3_digestPostages_72 ?_
        refine g_lstore_n (L' := [(3, .long (((((dpF cnt fv fs rm d n) * (31 : Int64)) + (zI (dq1 cnt fv fs rm (25 * (n + 1)))).toInt64) * (31 : Int64)) + (zI (dq2 cnt fv fs rm (25 * (n + 1)))).toInt64)), (5, .int (zI ((25 * (n + 1) : Nat) : Int))), (0, .ref h), (1, .long d)]) C dX3_digestPostages_73 (by decide) rfl ?_
        refine g_lload_n C dX3_digestPostages_74 0 rfl ?_
        refine g_ldc2 C kX3_159 dX3_digestPostages_75 ?_
        refine g_lmul C dX3_digestPostages_78 ?_
        refine g_aload_n C dX3_digestPostages_79 2 rfl ?_
        refine g_getf C fX3_29 0 rfl rfl dX3_digestPostages_80 ?_
        refine g_iload C dX3_digestPostages_83 1 rfl ?_
        refine g_aload_n C dX3_digestPostages_85 2 rfl ?_
        refine g_getf C fX3_33 0 rfl rfl dX3_digestPostages_86 ?_
        refine g_callV (wr := (((wV h (ad 0) (a2 0) (bd 0) (pd 0) rm lt tk ov) ++ (wS ad cI (cnt : Int) fv fs fd)) ++ (wS a2 cI c2 gv gs gd)) ++ (wT bd cI cG (cnt : Int) rm ft1 tv1 tu1 fc M1)) (st := [.long ((((((dpF cnt fv fs rm d n) * (31 : Int64)) + (zI (dq1 cnt fv fs rm (25 * (n + 1)))).toInt64) * (31 : Int64)) + (zI (dq2 cnt fv fs rm (25 * (n + 1)))).toInt64) * (31 : Int64))]) [24, 25, 26, 27, 28, 29, 30, 31, 32, 33, 34, 35, 36, 37, 38, 39, 40] [0, 1, 2, 3, 4, 5, 6, 7, 8, 9, 10, 11, 12, 13, 14, 15, 16, 17, 18, 19, 20, 21, 22, 23] C cX3_131 (met_X0_fewestWithin l D cI cG cJ pd fa1 fb N hb1 rm hr (25 * (n + 1)) (by omega)) ⟨rfl, rfl, by decide, by decide, by decide⟩ (q0 := 24) rfl rfl (by decide) (by decide) rfl rfl (Nat.le_of_ble_eq_true rfl) dX3_digestPostages_89 ?_
        rintro v9 w9 ⟨z9, rfl, rfl, rfl⟩
        refine g_ws (w' := ((((wV h (ad 0) (a2 0) (bd 0) (pd 0) rm lt tk ov) ++ (wS ad cI (cnt : Int) fv fs fd)) ++ (wS a2 cI c2 gv gs gd)) ++ (wT bd cI cG (cnt : Int) rm ft1 tv1 tu1 fc M1)) ++ (wP pd cI cG fa1 fb N)) (st' := [.int (zI (if fa1 (25 * (n + 1)) ≤ rm then fa1 (25 * (n + 1)) else (-1))), .long ((((((dpF cnt fv fs rm d n) * (31 : Int64)) + (zI (dq1 cnt fv fs rm (25 * (n + 1)))).toInt64) * (31 : Int64)) + (zI (dq2 cnt fv fs rm (25 * (n + 1)))).toInt64) * (31 : Int64))]) rfl rfl ?_
        refine g_perm (w' := ((((wV h (ad 0) (a2 0) (bd 0) (pd 0) rm lt tk ov) ++ (wS ad cI (cnt : Int) fv fs fd)) ++ (wS a2 cI c2 gv gs gd)) ++ (wT bd cI cG (cnt : Int) rm ft1 tv1 tu1 fc M1)) ++ (wP pd cI cG fa1 fb N)) [0, 1, 2, 3, 4, 5, 6, 7, 8, 9, 10, 11, 12, 13, 14, 15, 16, 17, 18, 19, 20, 21, 22, 23, 24, 25, 26, 27, 28, 29, 30, 31, 32, 33, 34, 35, 36, 37, 38, 39, 40] (by decide) rfl ?_
        refine g_top (dq3 cnt fv rm (25 * (n + 1))) (by rw [hP.eq hv1 (by omega)] <;> rfl) ?_
        refine g_i2l C dX3_digestPostages_92 ?_
        refine g_ladd C dX3_digestPostages_93 ?_
        refine g_lstore_n (L' := [(3, .long (((((((dpF cnt fv fs rm d n) * (31 : Int64)) + (zI (dq1 cnt fv fs rm (25 * (n + 1)))).toInt64) * (31 : Int64)) + (zI (dq2 cnt fv fs rm (25 * (n + 1)))).toInt64) * (31 : Int64)) + (zI (dq3 cnt fv rm (25 * (n + 1)))).toInt64)), (5, .int (zI ((25 * (n + 1) : Nat) : Int))), (0, .ref h), (1, .long d)]) C dX3_digestPostages_94 (by decide) rfl ?_
        refine g_iinc (L' := [(5, .int (zI (((25 * (n + 1) : Nat) : Int) + 25))), (3, .long (((((((dpF cnt fv fs rm d n) * (31 : Int64)) + (zI (dq1 cnt fv fs rm (25 * (n + 1)))).toInt64) * (31 : Int64)) + (zI (dq2 cnt fv fs rm (25 * (n + 1)))).toInt64) * (31 : Int64)) + (zI (dq3 cnt fv rm (25 * (n + 1)))).toInt64)), (0, .ref h), (1, .long d)]) C dX3_digestPostages_95 1 rfl (by decide) rfl ?_
        refine g_goto 32 C dX3_digestPostages_98 (by decide) ?_
        refine g_loc (L' := [(5, .int (zI (((25 * (n + 1) : Nat) : Int) + 25))), (3, .long (((((((dpF cnt fv fs rm d n) * (31 : Int64)) + (zI (dq1 cnt fv fs rm (25 * (n + 1)))).toInt64) * (31 : Int64)) + (zI (dq2 cnt fv fs rm (25 * (n + 1)))).toInt64) * (31 : Int64)) + (zI (dq3 cnt fv rm (25 * (n + 1)))).toInt64)), (0, .ref h), (1, .long d)]) [0, 1, 2, 3] rfl ?_
        refine g_lw (w' := ((((wV h (ad 0) (a2 0) (bd 0) (pd 0) rm lt tk ov) ++ (wS ad cI (cnt : Int) fv fs fd)) ++ (wS a2 cI c2 gv gs gd)) ++ (wT bd cI cG (cnt : Int) rm ft1 tv1 tu1 fc M1)) ++ (wP pd cI cG fa1 fb N)) (L' := [(5, .int (zI ((25 * (n + 1 + 1) : Nat) : Int))), (3, .long (dpF cnt fv fs rm d (n + 1))), (0, .ref h), (1, .long d)]) rfl (by rw [show ((25 * (n + 1) : Nat) : Int) + 25 = ((25 * (n + 1 + 1) : Nat) : Int) by omega]; rfl) ?_
        exact ih_32 (n + 1) (by omega) (by omega)
  refine g_loc (L' := [(5, .int (zI 25)), (3, .long d), (0, .ref h), (1, .long d)]) [0, 1, 2, 3] rfl ?_
  exact loop_32 _ 0 (Nat.zero_le _) (Nat.lt_succ_self _)
abbrev rmX3_digest : Room := { frames := 4, cells := 0, slots := 0, locals := 115 }
set_option maxHeartbeats 4000000 in
set_option maxRecDepth 100000 in
theorem met_X3_digest (l : Launch) (D : va_G) (cI cG cJ : ClassId) (h : Nat) (ad a2 bd pd : Nat → Nat) (cnt : Nat) (fv fs fd : Nat → Int) (rm lt tk ov : Int) (hI : XI cnt fv fs rm) (c2 : Int) (gv gs gd : Nat → Int) (tc tr : Int) (ft tv tu fc : Nat → Int) (M : Nat → Nat → Int) (fa fb : Nat → Int) (N : Nat → Nat → Int)  : gMet l yX3_digest cX3_digest 3 (some .long) rmX3_digest D cI cG cJ [.ref h] (((((wV h (ad 0) (a2 0) (bd 0) (pd 0) rm lt tk ov) ++ (wS ad cI (cnt : Int) fv fs fd)) ++ (wS a2 cI c2 gv gs gd)) ++ (wT bd cI cG tc tr ft tv tu fc M)) ++ (wP pd cI cG fa fb N)) (gJ (fun z w9 => z = dgF cnt fv fs fd rm lt tk ov ∧ XW h ad a2 bd pd cI cG cnt fv fs fd rm lt tk ov w9)) := by
  obtain ⟨hc, hS, h99, hr1, hr2⟩ := id hI
  have hr : 0 ≤ rm ∧ rm ≤ 12 := ⟨by omega, hr2⟩
  have hv1 : ∀ j, j < cnt → 1 ≤ fv j := fun j hj => (hS.1 j hj).1
  refine gMet_J (by decide) rfl (Nat.le_of_ble_eq_true rfl) (fun E C ret => ?_)
  refine g_ldc2 C kX3_157 dX3_digest_0 ?_
  refine g_lstore_n (L' := [(1, .long (2129 : Int64)), (0, .ref h)]) C dX3_digest_3 (by decide) rfl ?_
  refine g_lload_n C dX3_digest_4 0 rfl ?_
  refine g_ldc2 C kX3_159 dX3_digest_5 ?_
  refine g_lmul C dX3_digest_8 ?_
  refine g_aload_n C dX3_digest_9 1 rfl ?_
  refine g_callV (wr := ([] : va_W)) (st := [.long ((2129 : Int64) * (31 : Int64))]) [0, 1, 2, 3, 4, 5, 6, 7, 8, 9, 10, 11, 12, 13, 14, 15, 16, 17, 18, 19, 20, 21, 22, 23, 24, 25, 26, 27, 28, 29, 30, 31, 32, 33, 34, 35, 36, 37, 38, 39, 40] [] C cX3_161 (met_X3_stamps l D cI cG cJ h ad a2 bd pd cnt fv fs fd rm lt tk ov hI c2 gv gs gd tc tr ft tv tu fc M fa fb N) ⟨rfl, rfl, by decide, by decide, by decide⟩ (q0 := 0) rfl rfl (by decide) (by decide) rfl rfl (Nat.le_of_ble_eq_true rfl) dX3_digest_10 ?_
  rintro v9 w9 ⟨z9, rfl, e9, c21, gv1, gs1, gd1, tc1, tr1, ft1, tv1, tu1, fc1, M1, fa1, fb1, N1, rfl⟩
  have e9 := e9.symm
  subst e9
  refine g_ws (w' := ((((wV h (ad 0) (a2 0) (bd 0) (pd 0) rm lt tk ov) ++ (wS ad cI (cnt : Int) fv fs fd)) ++ (wS a2 cI c21 gv1 gs1 gd1)) ++ (wT bd cI cG tc1 tr1 ft1 tv1 tu1 fc1 M1)) ++ (wP pd cI cG fa1 fb1 N1)) (st' := [.int (zI (cnt : Int)), .long ((2129 : Int64) * (31 : Int64))]) rfl rfl ?_
  refine g_i2l C dX3_digest_13 ?_
  refine g_ladd C dX3_digest_14 ?_
  refine g_lstore_n (L' := [(1, .long (((2129 : Int64) * (31 : Int64)) + (zI (cnt : Int)).toInt64)), (0, .ref h)]) C dX3_digest_15 (by decide) rfl ?_
  refine g_lload_n C dX3_digest_16 0 rfl ?_
  refine g_ldc2 C kX3_159 dX3_digest_17 ?_
  refine g_lmul C dX3_digest_20 ?_
  refine g_aload_n C dX3_digest_21 1 rfl ?_
  refine g_callV (wr := ([] : va_W)) (st := [.long ((((2129 : Int64) * (31 : Int64)) + (zI (cnt : Int)).toInt64) * (31 : Int64))]) [0, 1, 2, 3, 4, 5, 6, 7, 8, 9, 10, 11, 12, 13, 14, 15, 16, 17, 18, 19, 20, 21, 22, 23, 24, 25, 26, 27, 28, 29, 30, 31, 32, 33, 34, 35, 36, 37, 38, 39, 40] [] C cX3_163 (met_X3_room l D cI cG cJ h ad a2 bd pd cnt fv fs fd rm lt tk ov hI c21 gv1 gs1 gd1 tc1 tr1 ft1 tv1 tu1 fc1 M1 fa1 fb1 N1) ⟨rfl, rfl, by decide, by decide, by decide⟩ (q0 := 0) rfl rfl (by decide) (by decide) rfl rfl (Nat.le_of_ble_eq_true rfl) dX3_digest_22 ?_
  rintro v9 w9 ⟨z9, rfl, e9, c22, gv2, gs2, gd2, tc2, tr2, ft2, tv2, tu2, fc2, M2, fa2, fb2, N2, rfl⟩
  have e9 := e9.symm
  subst e9
  refine g_ws (w' := ((((wV h (ad 0) (a2 0) (bd 0) (pd 0) rm lt tk ov) ++ (wS ad cI (cnt : Int) fv fs fd)) ++ (wS a2 cI c22 gv2 gs2 gd2)) ++ (wT bd cI cG tc2 tr2 ft2 tv2 tu2 fc2 M2)) ++ (wP pd cI cG fa2 fb2 N2)) (st' := [.int (zI rm), .long ((((2129 : Int64) * (31 : Int64)) + (zI (cnt : Int)).toInt64) * (31 : Int64))]) rfl rfl ?_
  refine g_i2l C dX3_digest_25 ?_
  refine g_ladd C dX3_digest_26 ?_
  refine g_lstore_n (L' := [(1, .long (((((2129 : Int64) * (31 : Int64)) + (zI (cnt : Int)).toInt64) * (31 : Int64)) + (zI rm).toInt64)), (0, .ref h)]) C dX3_digest_27 (by decide) rfl ?_
  refine g_lload_n C dX3_digest_28 0 rfl ?_
  refine g_ldc2 C kX3_159 dX3_digest_29 ?_
  refine g_lmul C dX3_digest_32 ?_
  refine g_aload_n C dX3_digest_33 1 rfl ?_
  refine g_callV (wr := ([] : va_W)) (st := [.long ((((((2129 : Int64) * (31 : Int64)) + (zI (cnt : Int)).toInt64) * (31 : Int64)) + (zI rm).toInt64) * (31 : Int64))]) [0, 1, 2, 3, 4, 5, 6, 7, 8, 9, 10, 11, 12, 13, 14, 15, 16, 17, 18, 19, 20, 21, 22, 23, 24, 25, 26, 27, 28, 29, 30, 31, 32, 33, 34, 35, 36, 37, 38, 39, 40] [] C cX3_165 (met_X3_letters l D cI cG cJ h ad a2 bd pd cnt fv fs fd rm lt tk ov hI c22 gv2 gs2 gd2 tc2 tr2 ft2 tv2 tu2 fc2 M2 fa2 fb2 N2) ⟨rfl, rfl, by decide, by decide, by decide⟩ (q0 := 0) rfl rfl (by decide) (by decide) rfl rfl (Nat.le_of_ble_eq_true rfl) dX3_digest_34 ?_
  rintro v9 w9 ⟨z9, rfl, e9, c23, gv3, gs3, gd3, tc3, tr3, ft3, tv3, tu3, fc3, M3, fa3, fb3, N3, rfl⟩
  have e9 := e9.symm
  subst e9
  refine g_ws (w' := ((((wV h (ad 0) (a2 0) (bd 0) (pd 0) rm lt tk ov) ++ (wS ad cI (cnt : Int) fv fs fd)) ++ (wS a2 cI c23 gv3 gs3 gd3)) ++ (wT bd cI cG tc3 tr3 ft3 tv3 tu3 fc3 M3)) ++ (wP pd cI cG fa3 fb3 N3)) (st' := [.int (zI lt), .long ((((((2129 : Int64) * (31 : Int64)) + (zI (cnt : Int)).toInt64) * (31 : Int64)) + (zI rm).toInt64) * (31 : Int64))]) rfl rfl ?_
  refine g_i2l C dX3_digest_37 ?_
  refine g_ladd C dX3_digest_38 ?_
  refine g_lstore_n (L' := [(1, .long (((((((2129 : Int64) * (31 : Int64)) + (zI (cnt : Int)).toInt64) * (31 : Int64)) + (zI rm).toInt64) * (31 : Int64)) + (zI lt).toInt64)), (0, .ref h)]) C dX3_digest_39 (by decide) rfl ?_
  refine g_lload_n C dX3_digest_40 0 rfl ?_
  refine g_ldc2 C kX3_159 dX3_digest_41 ?_
  refine g_lmul C dX3_digest_44 ?_
  refine g_aload_n C dX3_digest_45 1 rfl ?_
  refine g_callV (wr := ([] : va_W)) (st := [.long ((((((((2129 : Int64) * (31 : Int64)) + (zI (cnt : Int)).toInt64) * (31 : Int64)) + (zI rm).toInt64) * (31 : Int64)) + (zI lt).toInt64) * (31 : Int64))]) [0, 1, 2, 3, 4, 5, 6, 7, 8, 9, 10, 11, 12, 13, 14, 15, 16, 17, 18, 19, 20, 21, 22, 23, 24, 25, 26, 27, 28, 29, 30, 31, 32, 33, 34, 35, 36, 37, 38, 39, 40] [] C cX3_167 (met_X3_taken l D cI cG cJ h ad a2 bd pd cnt fv fs fd rm lt tk ov hI c23 gv3 gs3 gd3 tc3 tr3 ft3 tv3 tu3 fc3 M3 fa3 fb3 N3) ⟨rfl, rfl, by decide, by decide, by decide⟩ (q0 := 0) rfl rfl (by decide) (by decide) rfl rfl (Nat.le_of_ble_eq_true rfl) dX3_digest_46 ?_
  rintro v9 w9 ⟨z9, rfl, e9, c24, gv4, gs4, gd4, tc4, tr4, ft4, tv4, tu4, fc4, M4, fa4, fb4, N4, rfl⟩
  have e9 := e9.symm
  subst e9
  refine g_ws (w' := ((((wV h (ad 0) (a2 0) (bd 0) (pd 0) rm lt tk ov) ++ (wS ad cI (cnt : Int) fv fs fd)) ++ (wS a2 cI c24 gv4 gs4 gd4)) ++ (wT bd cI cG tc4 tr4 ft4 tv4 tu4 fc4 M4)) ++ (wP pd cI cG fa4 fb4 N4)) (st' := [.int (zI tk), .long ((((((((2129 : Int64) * (31 : Int64)) + (zI (cnt : Int)).toInt64) * (31 : Int64)) + (zI rm).toInt64) * (31 : Int64)) + (zI lt).toInt64) * (31 : Int64))]) rfl rfl ?_
  refine g_i2l C dX3_digest_49 ?_
  refine g_ladd C dX3_digest_50 ?_
  refine g_lstore_n (L' := [(1, .long (((((((((2129 : Int64) * (31 : Int64)) + (zI (cnt : Int)).toInt64) * (31 : Int64)) + (zI rm).toInt64) * (31 : Int64)) + (zI lt).toInt64) * (31 : Int64)) + (zI tk).toInt64)), (0, .ref h)]) C dX3_digest_51 (by decide) rfl ?_
  refine g_lload_n C dX3_digest_52 0 rfl ?_
  refine g_ldc2 C kX3_159 dX3_digest_53 ?_
  refine g_lmul C dX3_digest_56 ?_
  refine g_aload_n C dX3_digest_57 1 rfl ?_
  refine g_callV (wr := ([] : va_W)) (st := [.long ((((((((((2129 : Int64) * (31 : Int64)) + (zI (cnt : Int)).toInt64) * (31 : Int64)) + (zI rm).toInt64) * (31 : Int64)) + (zI lt).toInt64) * (31 : Int64)) + (zI tk).toInt64) * (31 : Int64))]) [0, 1, 2, 3, 4, 5, 6, 7, 8, 9, 10, 11, 12, 13, 14, 15, 16, 17, 18, 19, 20, 21, 22, 23, 24, 25, 26, 27, 28, 29, 30, 31, 32, 33, 34, 35, 36, 37, 38, 39, 40] [] C cX3_169 (met_X3_overpaid l D cI cG cJ h ad a2 bd pd cnt fv fs fd rm lt tk ov hI c24 gv4 gs4 gd4 tc4 tr4 ft4 tv4 tu4 fc4 M4 fa4 fb4 N4) ⟨rfl, rfl, by decide, by decide, by decide⟩ (q0 := 0) rfl rfl (by decide) (by decide) rfl rfl (Nat.le_of_ble_eq_true rfl) dX3_digest_58 ?_
  rintro v9 w9 ⟨z9, rfl, e9, c25, gv5, gs5, gd5, tc5, tr5, ft5, tv5, tu5, fc5, M5, fa5, fb5, N5, rfl⟩
  have e9 := e9.symm
  subst e9
  refine g_ws (w' := ((((wV h (ad 0) (a2 0) (bd 0) (pd 0) rm lt tk ov) ++ (wS ad cI (cnt : Int) fv fs fd)) ++ (wS a2 cI c25 gv5 gs5 gd5)) ++ (wT bd cI cG tc5 tr5 ft5 tv5 tu5 fc5 M5)) ++ (wP pd cI cG fa5 fb5 N5)) (st' := [.int (zI ov), .long ((((((((((2129 : Int64) * (31 : Int64)) + (zI (cnt : Int)).toInt64) * (31 : Int64)) + (zI rm).toInt64) * (31 : Int64)) + (zI lt).toInt64) * (31 : Int64)) + (zI tk).toInt64) * (31 : Int64))]) rfl rfl ?_
  refine g_i2l C dX3_digest_61 ?_
  refine g_ladd C dX3_digest_62 ?_
  refine g_lstore_n (L' := [(1, .long (((((((((((2129 : Int64) * (31 : Int64)) + (zI (cnt : Int)).toInt64) * (31 : Int64)) + (zI rm).toInt64) * (31 : Int64)) + (zI lt).toInt64) * (31 : Int64)) + (zI tk).toInt64) * (31 : Int64)) + (zI ov).toInt64)), (0, .ref h)]) C dX3_digest_63 (by decide) rfl ?_
  refine g_lload_n C dX3_digest_64 0 rfl ?_
  refine g_ldc2 C kX3_159 dX3_digest_65 ?_
  refine g_lmul C dX3_digest_68 ?_
  refine g_aload_n C dX3_digest_69 1 rfl ?_
  refine g_callV (wr := ([] : va_W)) (st := [.long ((((((((((((2129 : Int64) * (31 : Int64)) + (zI (cnt : Int)).toInt64) * (31 : Int64)) + (zI rm).toInt64) * (31 : Int64)) + (zI lt).toInt64) * (31 : Int64)) + (zI tk).toInt64) * (31 : Int64)) + (zI ov).toInt64) * (31 : Int64))]) [0, 1, 2, 3, 4, 5, 6, 7, 8, 9, 10, 11, 12, 13, 14, 15, 16, 17, 18, 19, 20, 21, 22, 23, 24, 25, 26, 27, 28, 29, 30, 31, 32, 33, 34, 35, 36, 37, 38, 39, 40] [] C cX3_171 (met_X3_scarcest l D cI cG cJ h ad a2 bd pd cnt fv fs fd rm lt tk ov hI c25 gv5 gs5 gd5 tc5 tr5 ft5 tv5 tu5 fc5 M5 fa5 fb5 N5) ⟨rfl, rfl, by decide, by decide, by decide⟩ (q0 := 0) rfl rfl (by decide) (by decide) rfl rfl (Nat.le_of_ble_eq_true rfl) dX3_digest_70 ?_
  rintro v9 w9 ⟨z9, rfl, e9, c26, gv6, gs6, gd6, tc6, tr6, ft6, tv6, tu6, fc6, M6, fa6, fb6, N6, rfl⟩
  have e9 := e9.symm
  subst e9
  refine g_ws (w' := ((((wV h (ad 0) (a2 0) (bd 0) (pd 0) rm lt tk ov) ++ (wS ad cI (cnt : Int) fv fs fd)) ++ (wS a2 cI c26 gv6 gs6 gd6)) ++ (wT bd cI cG tc6 tr6 ft6 tv6 tu6 fc6 M6)) ++ (wP pd cI cG fa6 fb6 N6)) (st' := [.int (zI ((scF fs cnt).1)), .long ((((((((((((2129 : Int64) * (31 : Int64)) + (zI (cnt : Int)).toInt64) * (31 : Int64)) + (zI rm).toInt64) * (31 : Int64)) + (zI lt).toInt64) * (31 : Int64)) + (zI tk).toInt64) * (31 : Int64)) + (zI ov).toInt64) * (31 : Int64))]) rfl rfl ?_
  refine g_i2l C dX3_digest_73 ?_
  refine g_ladd C dX3_digest_74 ?_
  refine g_lstore_n (L' := [(1, .long (((((((((((((2129 : Int64) * (31 : Int64)) + (zI (cnt : Int)).toInt64) * (31 : Int64)) + (zI rm).toInt64) * (31 : Int64)) + (zI lt).toInt64) * (31 : Int64)) + (zI tk).toInt64) * (31 : Int64)) + (zI ov).toInt64) * (31 : Int64)) + (zI ((scF fs cnt).1)).toInt64)), (0, .ref h)]) C dX3_digest_75 (by decide) rfl ?_
  refine g_lload_n C dX3_digest_76 0 rfl ?_
  refine g_ldc2 C kX3_159 dX3_digest_77 ?_
  refine g_lmul C dX3_digest_80 ?_
  refine g_aload_n C dX3_digest_81 1 rfl ?_
  refine g_callV (wr := ([] : va_W)) (st := [.long ((((((((((((((2129 : Int64) * (31 : Int64)) + (zI (cnt : Int)).toInt64) * (31 : Int64)) + (zI rm).toInt64) * (31 : Int64)) + (zI lt).toInt64) * (31 : Int64)) + (zI tk).toInt64) * (31 : Int64)) + (zI ov).toInt64) * (31 : Int64)) + (zI ((scF fs cnt).1)).toInt64) * (31 : Int64))]) [0, 1, 2, 3, 4, 5, 6, 7, 8, 9, 10, 11, 12, 13, 14, 15, 16, 17, 18, 19, 20, 21, 22, 23, 24, 25, 26, 27, 28, 29, 30, 31, 32, 33, 34, 35, 36, 37, 38, 39, 40] [] C cX3_174 (met_X3_reachNow l D cI cG cJ h ad a2 bd pd cnt fv fs fd rm lt tk ov hI c26 gv6 gs6 gd6 tc6 tr6 ft6 tv6 tu6 fc6 M6 fa6 fb6 N6) ⟨rfl, rfl, by decide, by decide, by decide⟩ (q0 := 0) rfl rfl (by decide) (by decide) rfl rfl (Nat.le_of_ble_eq_true rfl) dX3_digest_82 ?_
  rintro v9 w9 ⟨z9, rfl, e9, c27, gv7, gs7, gd7, tc7, tr7, ft7, tv7, tu7, fc7, M7, fa7, fb7, N7, rfl⟩
  have e9 := e9.symm
  subst e9
  refine g_ws (w' := ((((wV h (ad 0) (a2 0) (bd 0) (pd 0) rm lt tk ov) ++ (wS ad cI (cnt : Int) fv fs fd)) ++ (wS a2 cI c27 gv7 gs7 gd7)) ++ (wT bd cI cG tc7 tr7 ft7 tv7 tu7 fc7 M7)) ++ (wP pd cI cG fa7 fb7 N7)) (st' := [.int (zI (RC cnt fv fs rm : Int)), .long ((((((((((((((2129 : Int64) * (31 : Int64)) + (zI (cnt : Int)).toInt64) * (31 : Int64)) + (zI rm).toInt64) * (31 : Int64)) + (zI lt).toInt64) * (31 : Int64)) + (zI tk).toInt64) * (31 : Int64)) + (zI ov).toInt64) * (31 : Int64)) + (zI ((scF fs cnt).1)).toInt64) * (31 : Int64))]) rfl rfl ?_
  refine g_i2l C dX3_digest_85 ?_
  refine g_ladd C dX3_digest_86 ?_
  refine g_lstore_n (L' := [(1, .long (((((((((((((((2129 : Int64) * (31 : Int64)) + (zI (cnt : Int)).toInt64) * (31 : Int64)) + (zI rm).toInt64) * (31 : Int64)) + (zI lt).toInt64) * (31 : Int64)) + (zI tk).toInt64) * (31 : Int64)) + (zI ov).toInt64) * (31 : Int64)) + (zI ((scF fs cnt).1)).toInt64) * (31 : Int64)) + (zI (RC cnt fv fs rm : Int)).toInt64)), (0, .ref h)]) C dX3_digest_87 (by decide) rfl ?_
  refine g_lload_n C dX3_digest_88 0 rfl ?_
  refine g_ldc2 C kX3_159 dX3_digest_89 ?_
  refine g_lmul C dX3_digest_92 ?_
  refine g_aload_n C dX3_digest_93 1 rfl ?_
  refine g_callV (wr := ([] : va_W)) (st := [.long ((((((((((((((((2129 : Int64) * (31 : Int64)) + (zI (cnt : Int)).toInt64) * (31 : Int64)) + (zI rm).toInt64) * (31 : Int64)) + (zI lt).toInt64) * (31 : Int64)) + (zI tk).toInt64) * (31 : Int64)) + (zI ov).toInt64) * (31 : Int64)) + (zI ((scF fs cnt).1)).toInt64) * (31 : Int64)) + (zI (RC cnt fv fs rm : Int)).toInt64) * (31 : Int64))]) [0, 1, 2, 3, 4, 5, 6, 7, 8, 9, 10, 11, 12, 13, 14, 15, 16, 17, 18, 19, 20, 21, 22, 23, 24, 25, 26, 27, 28, 29, 30, 31, 32, 33, 34, 35, 36, 37, 38, 39, 40] [] C cX3_177 (met_X3_most l D cI cG cJ h ad a2 bd pd cnt fv fs fd rm lt tk ov hI c27 gv7 gs7 gd7 tc7 tr7 ft7 tv7 tu7 fc7 M7 fa7 fb7 N7) ⟨rfl, rfl, by decide, by decide, by decide⟩ (q0 := 0) rfl rfl (by decide) (by decide) rfl rfl (Nat.le_of_ble_eq_true rfl) dX3_digest_94 ?_
  rintro v9 w9 ⟨z9, rfl, e9, c28, gv8, gs8, gd8, tc8, tr8, ft8, tv8, tu8, fc8, M8, fa8, fb8, N8, rfl⟩
  have e9 := e9.symm
  subst e9
  refine g_ws (w' := ((((wV h (ad 0) (a2 0) (bd 0) (pd 0) rm lt tk ov) ++ (wS ad cI (cnt : Int) fv fs fd)) ++ (wS a2 cI c28 gv8 gs8 gd8)) ++ (wT bd cI cG tc8 tr8 ft8 tv8 tu8 fc8 M8)) ++ (wP pd cI cG fa8 fb8 N8)) (st' := [.int (zI (GS cnt fv fs rm)), .long ((((((((((((((((2129 : Int64) * (31 : Int64)) + (zI (cnt : Int)).toInt64) * (31 : Int64)) + (zI rm).toInt64) * (31 : Int64)) + (zI lt).toInt64) * (31 : Int64)) + (zI tk).toInt64) * (31 : Int64)) + (zI ov).toInt64) * (31 : Int64)) + (zI ((scF fs cnt).1)).toInt64) * (31 : Int64)) + (zI (RC cnt fv fs rm : Int)).toInt64) * (31 : Int64))]) rfl rfl ?_
  refine g_i2l C dX3_digest_97 ?_
  refine g_ladd C dX3_digest_98 ?_
  refine g_lstore_n (L' := [(1, .long (((((((((((((((((2129 : Int64) * (31 : Int64)) + (zI (cnt : Int)).toInt64) * (31 : Int64)) + (zI rm).toInt64) * (31 : Int64)) + (zI lt).toInt64) * (31 : Int64)) + (zI tk).toInt64) * (31 : Int64)) + (zI ov).toInt64) * (31 : Int64)) + (zI ((scF fs cnt).1)).toInt64) * (31 : Int64)) + (zI (RC cnt fv fs rm : Int)).toInt64) * (31 : Int64)) + (zI (GS cnt fv fs rm)).toInt64)), (0, .ref h)]) C dX3_digest_99 (by decide) rfl ?_
  refine g_lload_n C dX3_digest_100 0 rfl ?_
  refine g_ldc2 C kX3_159 dX3_digest_101 ?_
  refine g_lmul C dX3_digest_104 ?_
  refine g_aload_n C dX3_digest_105 1 rfl ?_
  refine g_callV (wr := ([] : va_W)) (st := [.long ((((((((((((((((((2129 : Int64) * (31 : Int64)) + (zI (cnt : Int)).toInt64) * (31 : Int64)) + (zI rm).toInt64) * (31 : Int64)) + (zI lt).toInt64) * (31 : Int64)) + (zI tk).toInt64) * (31 : Int64)) + (zI ov).toInt64) * (31 : Int64)) + (zI ((scF fs cnt).1)).toInt64) * (31 : Int64)) + (zI (RC cnt fv fs rm : Int)).toInt64) * (31 : Int64)) + (zI (GS cnt fv fs rm)).toInt64) * (31 : Int64))]) [0, 1, 2, 3, 4, 5, 6, 7, 8, 9, 10, 11, 12, 13, 14, 15, 16, 17, 18, 19, 20, 21, 22, 23, 24, 25, 26, 27, 28, 29, 30, 31, 32, 33, 34, 35, 36, 37, 38, 39, 40] [] C cX3_180 (met_X3_reach l D cI cG cJ h ad a2 bd pd cnt fv fs fd rm lt tk ov hI c28 gv8 gs8 gd8 tc8 tr8 ft8 tv8 tu8 fc8 M8 fa8 fb8 N8) ⟨rfl, rfl, by decide, by decide, by decide⟩ (q0 := 0) rfl rfl (by decide) (by decide) rfl rfl (Nat.le_of_ble_eq_true rfl) dX3_digest_106 ?_
  rintro v9 w9 ⟨z9, rfl, e9, c29, gv9, gs9, gd9, tc9, tr9, ft9, tv9, tu9, fc9, M9, fa9, fb9, N9, rfl⟩
  have e9 := e9.symm
  subst e9
  refine g_ws (w' := ((((wV h (ad 0) (a2 0) (bd 0) (pd 0) rm lt tk ov) ++ (wS ad cI (cnt : Int) fv fs fd)) ++ (wS a2 cI c29 gv9 gs9 gd9)) ++ (wT bd cI cG tc9 tr9 ft9 tv9 tu9 fc9 M9)) ++ (wP pd cI cG fa9 fb9 N9)) (st' := [.int (zI (RP fv cnt 0 rm : Int)), .long ((((((((((((((((((2129 : Int64) * (31 : Int64)) + (zI (cnt : Int)).toInt64) * (31 : Int64)) + (zI rm).toInt64) * (31 : Int64)) + (zI lt).toInt64) * (31 : Int64)) + (zI tk).toInt64) * (31 : Int64)) + (zI ov).toInt64) * (31 : Int64)) + (zI ((scF fs cnt).1)).toInt64) * (31 : Int64)) + (zI (RC cnt fv fs rm : Int)).toInt64) * (31 : Int64)) + (zI (GS cnt fv fs rm)).toInt64) * (31 : Int64))]) rfl rfl ?_
  refine g_i2l C dX3_digest_109 ?_
  refine g_ladd C dX3_digest_110 ?_
  refine g_lstore_n (L' := [(1, .long (((((((((((((((((((2129 : Int64) * (31 : Int64)) + (zI (cnt : Int)).toInt64) * (31 : Int64)) + (zI rm).toInt64) * (31 : Int64)) + (zI lt).toInt64) * (31 : Int64)) + (zI tk).toInt64) * (31 : Int64)) + (zI ov).toInt64) * (31 : Int64)) + (zI ((scF fs cnt).1)).toInt64) * (31 : Int64)) + (zI (RC cnt fv fs rm : Int)).toInt64) * (31 : Int64)) + (zI (GS cnt fv fs rm)).toInt64) * (31 : Int64)) + (zI (RP fv cnt 0 rm : Int)).toInt64)), (0, .ref h)]) C dX3_digest_111 (by decide) rfl ?_
  refine g_lload_n C dX3_digest_112 0 rfl ?_
  refine g_ldc2 C kX3_159 dX3_digest_113 ?_
  refine g_lmul C dX3_digest_116 ?_
  refine g_aload_n C dX3_digest_117 1 rfl ?_
  refine g_callV (wr := ([] : va_W)) (st := [.long ((((((((((((((((((((2129 : Int64) * (31 : Int64)) + (zI (cnt : Int)).toInt64) * (31 : Int64)) + (zI rm).toInt64) * (31 : Int64)) + (zI lt).toInt64) * (31 : Int64)) + (zI tk).toInt64) * (31 : Int64)) + (zI ov).toInt64) * (31 : Int64)) + (zI ((scF fs cnt).1)).toInt64) * (31 : Int64)) + (zI (RC cnt fv fs rm : Int)).toInt64) * (31 : Int64)) + (zI (GS cnt fv fs rm)).toInt64) * (31 : Int64)) + (zI (RP fv cnt 0 rm : Int)).toInt64) * (31 : Int64))]) [0, 1, 2, 3, 4, 5, 6, 7, 8, 9, 10, 11, 12, 13, 14, 15, 16, 17, 18, 19, 20, 21, 22, 23, 24, 25, 26, 27, 28, 29, 30, 31, 32, 33, 34, 35, 36, 37, 38, 39, 40] [] C cX3_183 (met_X3_bestValue l D cI cG cJ h ad a2 bd pd cnt fv fs fd rm lt tk ov hI c29 gv9 gs9 gd9 tc9 tr9 ft9 tv9 tu9 fc9 M9 fa9 fb9 N9) ⟨rfl, rfl, by decide, by decide, by decide⟩ (q0 := 0) rfl rfl (by decide) (by decide) rfl rfl (Nat.le_of_ble_eq_true rfl) dX3_digest_118 ?_
  rintro v9 w9 ⟨z9, rfl, e9, c210, gv10, gs10, gd10, tc10, tr10, ft10, tv10, tu10, fc10, M10, fa10, fb10, N10, rfl⟩
  have e9 := e9.symm
  subst e9
  refine g_ws (w' := ((((wV h (ad 0) (a2 0) (bd 0) (pd 0) rm lt tk ov) ++ (wS ad cI (cnt : Int) fv fs fd)) ++ (wS a2 cI c210 gv10 gs10 gd10)) ++ (wT bd cI cG tc10 tr10 ft10 tv10 tu10 fc10 M10)) ++ (wP pd cI cG fa10 fb10 N10)) (st' := [.int (zI ((bvF fv cnt rm 60).1)), .long ((((((((((((((((((((2129 : Int64) * (31 : Int64)) + (zI (cnt : Int)).toInt64) * (31 : Int64)) + (zI rm).toInt64) * (31 : Int64)) + (zI lt).toInt64) * (31 : Int64)) + (zI tk).toInt64) * (31 : Int64)) + (zI ov).toInt64) * (31 : Int64)) + (zI ((scF fs cnt).1)).toInt64) * (31 : Int64)) + (zI (RC cnt fv fs rm : Int)).toInt64) * (31 : Int64)) + (zI (GS cnt fv fs rm)).toInt64) * (31 : Int64)) + (zI (RP fv cnt 0 rm : Int)).toInt64) * (31 : Int64))]) rfl rfl ?_
  refine g_i2l C dX3_digest_121 ?_
  refine g_ladd C dX3_digest_122 ?_
  refine g_lstore_n (L' := [(1, .long (((((((((((((((((((((2129 : Int64) * (31 : Int64)) + (zI (cnt : Int)).toInt64) * (31 : Int64)) + (zI rm).toInt64) * (31 : Int64)) + (zI lt).toInt64) * (31 : Int64)) + (zI tk).toInt64) * (31 : Int64)) + (zI ov).toInt64) * (31 : Int64)) + (zI ((scF fs cnt).1)).toInt64) * (31 : Int64)) + (zI (RC cnt fv fs rm : Int)).toInt64) * (31 : Int64)) + (zI (GS cnt fv fs rm)).toInt64) * (31 : Int64)) + (zI (RP fv cnt 0 rm : Int)).toInt64) * (31 : Int64)) + (zI ((bvF fv cnt rm 60).1)).toInt64)), (0, .ref h)]) C dX3_digest_123 (by decide) rfl ?_
  refine g_lload_n C dX3_digest_124 0 rfl ?_
  refine g_ldc2 C kX3_159 dX3_digest_125 ?_
  refine g_lmul C dX3_digest_128 ?_
  refine g_aload_n C dX3_digest_129 1 rfl ?_
  refine g_callV (wr := ([] : va_W)) (st := [.long ((((((((((((((((((((((2129 : Int64) * (31 : Int64)) + (zI (cnt : Int)).toInt64) * (31 : Int64)) + (zI rm).toInt64) * (31 : Int64)) + (zI lt).toInt64) * (31 : Int64)) + (zI tk).toInt64) * (31 : Int64)) + (zI ov).toInt64) * (31 : Int64)) + (zI ((scF fs cnt).1)).toInt64) * (31 : Int64)) + (zI (RC cnt fv fs rm : Int)).toInt64) * (31 : Int64)) + (zI (GS cnt fv fs rm)).toInt64) * (31 : Int64)) + (zI (RP fv cnt 0 rm : Int)).toInt64) * (31 : Int64)) + (zI ((bvF fv cnt rm 60).1)).toInt64) * (31 : Int64))]) [0, 1, 2, 3, 4, 5, 6, 7, 8, 9, 10, 11, 12, 13, 14, 15, 16, 17, 18, 19, 20, 21, 22, 23, 24, 25, 26, 27, 28, 29, 30, 31, 32, 33, 34, 35, 36, 37, 38, 39, 40] [] C cX3_186 (met_X3_bestToPrint l D cI cG cJ h ad a2 bd pd cnt fv fs fd rm lt tk ov hI c210 gv10 gs10 gd10 tc10 tr10 ft10 tv10 tu10 fc10 M10 fa10 fb10 N10) ⟨rfl, rfl, by decide, by decide, by decide⟩ (q0 := 0) rfl rfl (by decide) (by decide) rfl rfl (Nat.le_of_ble_eq_true rfl) dX3_digest_130 ?_
  rintro v9 w9 ⟨z9, rfl, e9, c211, gv11, gs11, gd11, tc11, tr11, ft11, tv11, tu11, fc11, M11, fa11, fb11, N11, rfl⟩
  have e9 := e9.symm
  subst e9
  refine g_ws (w' := ((((wV h (ad 0) (a2 0) (bd 0) (pd 0) rm lt tk ov) ++ (wS ad cI (cnt : Int) fv fs fd)) ++ (wS a2 cI c211 gv11 gs11 gd11)) ++ (wT bd cI cG tc11 tr11 ft11 tv11 tu11 fc11 M11)) ++ (wP pd cI cG fa11 fb11 N11)) (st' := [.int (zI ((bpF cnt fv fs rm cnt).1)), .long ((((((((((((((((((((((2129 : Int64) * (31 : Int64)) + (zI (cnt : Int)).toInt64) * (31 : Int64)) + (zI rm).toInt64) * (31 : Int64)) + (zI lt).toInt64) * (31 : Int64)) + (zI tk).toInt64) * (31 : Int64)) + (zI ov).toInt64) * (31 : Int64)) + (zI ((scF fs cnt).1)).toInt64) * (31 : Int64)) + (zI (RC cnt fv fs rm : Int)).toInt64) * (31 : Int64)) + (zI (GS cnt fv fs rm)).toInt64) * (31 : Int64)) + (zI (RP fv cnt 0 rm : Int)).toInt64) * (31 : Int64)) + (zI ((bvF fv cnt rm 60).1)).toInt64) * (31 : Int64))]) rfl rfl ?_
  refine g_i2l C dX3_digest_133 ?_
  refine g_ladd C dX3_digest_134 ?_
  refine g_lstore_n (L' := [(1, .long (((((((((((((((((((((((2129 : Int64) * (31 : Int64)) + (zI (cnt : Int)).toInt64) * (31 : Int64)) + (zI rm).toInt64) * (31 : Int64)) + (zI lt).toInt64) * (31 : Int64)) + (zI tk).toInt64) * (31 : Int64)) + (zI ov).toInt64) * (31 : Int64)) + (zI ((scF fs cnt).1)).toInt64) * (31 : Int64)) + (zI (RC cnt fv fs rm : Int)).toInt64) * (31 : Int64)) + (zI (GS cnt fv fs rm)).toInt64) * (31 : Int64)) + (zI (RP fv cnt 0 rm : Int)).toInt64) * (31 : Int64)) + (zI ((bvF fv cnt rm 60).1)).toInt64) * (31 : Int64)) + (zI ((bpF cnt fv fs rm cnt).1)).toInt64)), (0, .ref h)]) C dX3_digest_135 (by decide) rfl ?_
  refine g_aload_n C dX3_digest_136 1 rfl ?_
  refine g_aload_n C dX3_digest_137 1 rfl ?_
  refine g_lload_n C dX3_digest_138 0 rfl ?_
  refine g_callV (wr := ([] : va_W)) (st := [.ref h]) [0, 1, 2, 3, 4, 5, 6, 7, 8, 9, 10, 11, 12, 13, 14, 15, 16, 17, 18, 19, 20, 21, 22, 23, 24, 25, 26, 27, 28, 29, 30, 31, 32, 33, 34, 35, 36, 37, 38, 39, 40] [] C cX3_189 (met_X3_digestStamps l D cI cG cJ h ad a2 bd pd cnt fv fs fd rm lt tk ov hI c211 gv11 gs11 gd11 tc11 tr11 ft11 tv11 tu11 fc11 M11 fa11 fb11 N11 (d11 cnt fv fs rm lt tk ov)) ⟨rfl, rfl, by decide, by decide, by decide⟩ (q0 := 0) rfl rfl (by decide) (by decide) rfl rfl (Nat.le_of_ble_eq_true rfl) dX3_digest_139 ?_
  rintro v9 w9 ⟨z9, rfl, e9, c212, gv12, gs12, gd12, tc12, tr12, ft12, tv12, tu12, fc12, M12, fa12, fb12, N12, rfl⟩
  have e9 := e9.symm
  subst e9
  refine g_ws (w' := ((((wV h (ad 0) (a2 0) (bd 0) (pd 0) rm lt tk ov) ++ (wS ad cI (cnt : Int) fv fs fd)) ++ (wS a2 cI c212 gv12 gs12 gd12)) ++ (wT bd cI cG tc12 tr12 ft12 tv12 tu12 fc12 M12)) ++ (wP pd cI cG fa12 fb12 N12)) (st' := [.long (dsF fv fs fd (d11 cnt fv fs rm lt tk ov) cnt), .ref h]) rfl rfl ?_
  refine g_callV (wr := ([] : va_W)) (st := []) [0, 1, 2, 3, 4, 5, 6, 7, 8, 9, 10, 11, 12, 13, 14, 15, 16, 17, 18, 19, 20, 21, 22, 23, 24, 25, 26, 27, 28, 29, 30, 31, 32, 33, 34, 35, 36, 37, 38, 39, 40] [] C cX3_193 (met_X3_digestPostages l D cI cG cJ h ad a2 bd pd cnt fv fs fd rm lt tk ov hI c212 gv12 gs12 gd12 tc12 tr12 ft12 tv12 tu12 fc12 M12 fa12 fb12 N12 (dsF fv fs fd (d11 cnt fv fs rm lt tk ov) cnt)) ⟨rfl, rfl, by decide, by decide, by decide⟩ (q0 := 0) rfl rfl (by decide) (by decide) rfl rfl (Nat.le_of_ble_eq_true rfl) dX3_digest_142 ?_
  rintro v9 w9 ⟨z9, rfl, e9, c213, gv13, gs13, gd13, tc13, tr13, ft13, tv13, tu13, fc13, M13, fa13, fb13, N13, rfl⟩
  have e9 := e9.symm
  subst e9
  refine g_ws (w' := ((((wV h (ad 0) (a2 0) (bd 0) (pd 0) rm lt tk ov) ++ (wS ad cI (cnt : Int) fv fs fd)) ++ (wS a2 cI c213 gv13 gs13 gd13)) ++ (wT bd cI cG tc13 tr13 ft13 tv13 tu13 fc13 M13)) ++ (wP pd cI cG fa13 fb13 N13)) (st' := [.long (dgF cnt fv fs fd rm lt tk ov)]) rfl rfl ?_
  exact ret _ _ _ _ _ _ (by decide) (by decide) dX3_digest_145 (⟨rfl, ⟨_, _, _, _, _, _, _, _, _, _, _, _, _, _, rfl⟩⟩)
