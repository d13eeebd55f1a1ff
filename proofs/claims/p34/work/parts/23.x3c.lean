abbrev rmX3_addStamp : Room := { frames := 8, cells := 1, slots := 6, locals := 160 }
set_option maxHeartbeats 4000000 in
set_option maxRecDepth 100000 in
theorem met_X3_addStamp (l : Launch) (hl9 : l.stackTraces = false) (D : va_G) (cI cG cJ : ClassId) (h : Nat) (ad a2 bd pd : Nat → Nat) (cnt : Nat) (fv fs fd : Nat → Int) (rm lt tk ov : Int) (hI : XI cnt fv fs rm) (c2 : Int) (gv gs gd : Nat → Int) (tc tr : Int) (ft tv tu fc : Nat → Int) (M : Nat → Nat → Int) (fa fb : Nat → Int) (N : Nat → Nat → Int) (x y : Int) (hx : zr x) (hy : zr y)  : gMex l yX3_addStamp cX3_addStamp 3 (some .int) rmX3_addStamp D cI cG cJ [.ref h, .int (zI x), .int (zI y)] (((((wV h (ad 0) (a2 0) (bd 0) (pd 0) rm lt tk ov) ++ (wS ad cI (cnt : Int) fv fs fd)) ++ (wS a2 cI c2 gv gs gd)) ++ (wT bd cI cG tc tr ft tv tu fc M)) ++ (wP pd cI cG fa fb N)) (gI (fun z w9 => ((1 ≤ x ∧ x ≤ 60 ∧ 0 ≤ y ∧ y ≤ 99) ∧ cnt < 8 ∧ hasB fv x cnt = false ∧ z = (cnt : Int)) ∧ XW h ad a2 bd pd cI cG (cnt + 1) (zU fv cnt x) (zU fs cnt y) (zU fd cnt 0) rm lt tk ov w9)) (fun nm w9 => (nm = IAE ∧ ¬ (1 ≤ x ∧ x ≤ 60 ∧ 0 ≤ y ∧ y ≤ 99) ∧ XW h ad a2 bd pd cI cG cnt fv fs fd rm lt tk ov w9) ∨ (nm = ISE ∧ (1 ≤ x ∧ x ≤ 60 ∧ 0 ≤ y ∧ y ≤ 99) ∧ (8 ≤ cnt ∨ hasB fv x cnt = true) ∧ XW h ad a2 bd pd cI cG cnt fv fs fd rm lt tk ov w9)) := by
  obtain ⟨hc, hS, h99, hr1, hr2⟩ := id hI
  have hr : 0 ≤ rm ∧ rm ≤ 12 := ⟨by omega, hr2⟩
  have hv1 : ∀ j, j < cnt → 1 ≤ fv j := fun j hj => (hS.1 j hj).1
  refine gMex_I hl9 (by decide) rfl (Nat.le_of_ble_eq_true rfl) (fun E C ret out thr => ?_)
  refine g_iload_n C dX3_addStamp_0 1 rfl ?_
  refine g_iconst C dX3_addStamp_1 ?_
  refine g_icmp_lt 21 C dX3_addStamp_2 (by decide) hx (zr_i (by omega) (by omega)) (fun c_2 => ?_) (fun c_2 => ?_)
  · exact thr _ _ _ _ _ _ _ _ _ _ thX3_48 (by decide) (by decide) (by decide) (Nat.le_of_ble_eq_true rfl) (Or.inl ⟨rfl, by omega, ⟨_, _, _, _, _, _, _, _, _, _, _, _, _, _, rfl⟩⟩) dX3_addStamp_21 dX3_addStamp_24 dX3_addStamp_25 dX3_addStamp_28
  · refine g_iload_n C dX3_addStamp_5 1 rfl ?_
    refine g_bipush C dX3_addStamp_6 (by decide) ?_
    refine g_icmp_gt 21 C dX3_addStamp_8 (by decide) hx (zr_i (by omega) (by omega)) (fun c_8 => ?_) (fun c_8 => ?_)
    · exact thr _ _ _ _ _ _ _ _ _ _ thX3_48 (by decide) (by decide) (by decide) (Nat.le_of_ble_eq_true rfl) (Or.inl ⟨rfl, by omega, ⟨_, _, _, _, _, _, _, _, _, _, _, _, _, _, rfl⟩⟩) dX3_addStamp_21 dX3_addStamp_24 dX3_addStamp_25 dX3_addStamp_28
    · refine g_iload_n C dX3_addStamp_11 2 rfl ?_
      refine g_if_lt 21 C dX3_addStamp_12 (by decide) hy (fun c_12 => ?_) (fun c_12 => ?_)
      · exact thr _ _ _ _ _ _ _ _ _ _ thX3_48 (by decide) (by decide) (by decide) (Nat.le_of_ble_eq_true rfl) (Or.inl ⟨rfl, by omega, ⟨_, _, _, _, _, _, _, _, _, _, _, _, _, _, rfl⟩⟩) dX3_addStamp_21 dX3_addStamp_24 dX3_addStamp_25 dX3_addStamp_28
      · refine g_iload_n C dX3_addStamp_15 2 rfl ?_
        refine g_bipush C dX3_addStamp_16 (by decide) ?_
        refine g_icmp_le 29 C dX3_addStamp_18 (by decide) hy (zr_i (by omega) (by omega)) (fun c_18 => ?_) (fun c_18 => ?_)
        · refine g_aload_n C dX3_addStamp_29 0 rfl ?_
          refine g_getf C fX3_12 0 rfl rfl dX3_addStamp_30 ?_
          refine g_getf C fX3_49 1 rfl rfl dX3_addStamp_33 ?_
          refine g_bipush C dX3_addStamp_36 (by decide) ?_
          refine g_icmp_ge 52 C dX3_addStamp_38 (by decide) (zr_i (by omega) (by omega)) (zr_i (by omega) (by omega)) (fun c_38 => ?_) (fun c_38 => ?_)
          · exact thr _ _ _ _ _ _ _ _ _ _ thX3_58 (by decide) (by decide) (by decide) (Nat.le_of_ble_eq_true rfl) (Or.inr ⟨rfl, by omega, Or.inl (by omega), ⟨_, _, _, _, _, _, _, _, _, _, _, _, _, _, rfl⟩⟩) dX3_addStamp_52 dX3_addStamp_55 dX3_addStamp_56 dX3_addStamp_59
          · refine g_aload_n C dX3_addStamp_41 0 rfl ?_
            refine g_getf C fX3_12 0 rfl rfl dX3_addStamp_42 ?_
            refine g_iload_n C dX3_addStamp_45 1 rfl ?_
            refine g_callV (wr := (((wV h (ad 0) (a2 0) (bd 0) (pd 0) rm lt tk ov) ++ (wS a2 cI c2 gv gs gd)) ++ (wT bd cI cG tc tr ft tv tu fc M)) ++ (wP pd cI cG fa fb N)) (st := []) [1, 2, 3, 4] [0, 5, 6, 7, 8, 9, 10, 11, 12, 13, 14, 15, 16, 17, 18, 19, 20, 21, 22, 23, 24, 25, 26, 27, 28, 29, 30, 31, 32, 33, 34, 35, 36, 37, 38, 39, 40] C cX3_52 (met_X1_hasValue l D cI cG cJ ad cnt hc fv fs fd (fun j hj => by have := hS.1 j hj; exact zr_i (by omega) (by omega)) x hx) ⟨rfl, rfl, by decide, by decide, by decide⟩ (q0 := 1) rfl rfl (by decide) (by decide) rfl rfl (Nat.le_of_ble_eq_true rfl) dX3_addStamp_46 ?_
            rintro v9 w9 ⟨z9, rfl, hz, rfl⟩
            have hz := hasV_hasB hz
            refine g_ws (w' := ((((wV h (ad 0) (a2 0) (bd 0) (pd 0) rm lt tk ov) ++ (wS a2 cI c2 gv gs gd)) ++ (wT bd cI cG tc tr ft tv tu fc M)) ++ (wP pd cI cG fa fb N)) ++ (wS ad cI (cnt : Int) fv fs fd)) (st' := [.int (zI z9)]) rfl rfl ?_
            refine g_perm (w' := ((((wV h (ad 0) (a2 0) (bd 0) (pd 0) rm lt tk ov) ++ (wS ad cI (cnt : Int) fv fs fd)) ++ (wS a2 cI c2 gv gs gd)) ++ (wT bd cI cG tc tr ft tv tu fc M)) ++ (wP pd cI cG fa fb N)) [0, 37, 38, 39, 40, 1, 2, 3, 4, 5, 6, 7, 8, 9, 10, 11, 12, 13, 14, 15, 16, 17, 18, 19, 20, 21, 22, 23, 24, 25, 26, 27, 28, 29, 30, 31, 32, 33, 34, 35, 36] (by decide) rfl ?_
            refine g_if_eq 60 C dX3_addStamp_49 (by decide) (by rcases hz with ⟨rfl, -⟩ | ⟨rfl, -⟩ <;> exact zr_i (by omega) (by omega)) (fun c_49 => ?_) (fun c_49 => ?_)
            · have hz2 : hasB fv x cnt = false := hz.elim (fun q => absurd q.1 (by omega)) (fun q => q.2)
              refine g_aload_n C dX3_addStamp_60 0 rfl ?_
              refine g_getf C fX3_12 0 rfl rfl dX3_addStamp_61 ?_
              refine g_iload_n C dX3_addStamp_64 1 rfl ?_
              refine g_iload_n C dX3_addStamp_65 2 rfl ?_
              refine g_callV (wr := (((wV h (ad 0) (a2 0) (bd 0) (pd 0) rm lt tk ov) ++ (wS a2 cI c2 gv gs gd)) ++ (wT bd cI cG tc tr ft tv tu fc M)) ++ (wP pd cI cG fa fb N)) (st := []) [1, 2, 3, 4] [0, 5, 6, 7, 8, 9, 10, 11, 12, 13, 14, 15, 16, 17, 18, 19, 20, 21, 22, 23, 24, 25, 26, 27, 28, 29, 30, 31, 32, 33, 34, 35, 36, 37, 38, 39, 40] C cX3_59 (met_X1_append l D cI cG cJ ad cnt (by omega) fv fs fd x y) ⟨rfl, rfl, by decide, by decide, by decide⟩ (q0 := 1) rfl rfl (by decide) (by decide) rfl rfl (Nat.le_of_ble_eq_true rfl) dX3_addStamp_66 ?_
              rintro v9 w9 ⟨z9, rfl, rfl, rfl⟩
              refine g_ws (w' := ((((wV h (ad 0) (a2 0) (bd 0) (pd 0) rm lt tk ov) ++ (wS a2 cI c2 gv gs gd)) ++ (wT bd cI cG tc tr ft tv tu fc M)) ++ (wP pd cI cG fa fb N)) ++ (wS ad cI ((cnt : Int) + 1) (zU fv cnt x) (zU fs cnt y) (zU fd cnt 0))) (st' := [.int (zI (cnt : Int))]) rfl rfl ?_
              refine g_perm (w' := ((((wV h (ad 0) (a2 0) (bd 0) (pd 0) rm lt tk ov) ++ (wS ad cI ((cnt : Int) + 1) (zU fv cnt x) (zU fs cnt y) (zU fd cnt 0))) ++ (wS a2 cI c2 gv gs gd)) ++ (wT bd cI cG tc tr ft tv tu fc M)) ++ (wP pd cI cG fa fb N)) [0, 37, 38, 39, 40, 1, 2, 3, 4, 5, 6, 7, 8, 9, 10, 11, 12, 13, 14, 15, 16, 17, 18, 19, 20, 21, 22, 23, 24, 25, 26, 27, 28, 29, 30, 31, 32, 33, 34, 35, 36] (by decide) rfl ?_
              exact ret _ _ _ _ _ _ (by decide) (by decide) dX3_addStamp_69 (⟨⟨by omega, by omega, hz2, rfl⟩, ⟨_, _, _, _, _, _, _, _, _, _, _, _, _, _, rfl⟩⟩)
            · have hz2 : hasB fv x cnt = true := hz.elim (fun q => q.2) (fun q => absurd q.1 c_49)
              exact thr _ _ _ _ _ _ _ _ _ _ thX3_58 (by decide) (by decide) (by decide) (Nat.le_of_ble_eq_true rfl) (Or.inr ⟨rfl, by omega, Or.inr hz2, ⟨_, _, _, _, _, _, _, _, _, _, _, _, _, _, rfl⟩⟩) dX3_addStamp_52 dX3_addStamp_55 dX3_addStamp_56 dX3_addStamp_59
        · exact thr _ _ _ _ _ _ _ _ _ _ thX3_48 (by decide) (by decide) (by decide) (Nat.le_of_ble_eq_true rfl) (Or.inl ⟨rfl, by omega, ⟨_, _, _, _, _, _, _, _, _, _, _, _, _, _, rfl⟩⟩) dX3_addStamp_21 dX3_addStamp_24 dX3_addStamp_25 dX3_addStamp_28
abbrev rmX3_withdraw : Room := { frames := 7, cells := 1, slots := 6, locals := 130 }
set_option maxHeartbeats 4000000 in
set_option maxRecDepth 100000 in
theorem met_X3_withdraw (l : Launch) (hl9 : l.stackTraces = false) (D : va_G) (cI cG cJ : ClassId) (h : Nat) (ad a2 bd pd : Nat → Nat) (cnt : Nat) (fv fs fd : Nat → Int) (rm lt tk ov : Int) (hI : XI cnt fv fs rm) (c2 : Int) (gv gs gd : Nat → Int) (tc tr : Int) (ft tv tu fc : Nat → Int) (M : Nat → Nat → Int) (fa fb : Nat → Int) (N : Nat → Nat → Int) (s : Int) (hs : zr s) : gMex l yX3_withdraw cX3_withdraw 3 (some .int) rmX3_withdraw D cI cG cJ [.ref h, .int (zI s)] (((((wV h (ad 0) (a2 0) (bd 0) (pd 0) rm lt tk ov) ++ (wS ad cI (cnt : Int) fv fs fd)) ++ (wS a2 cI c2 gv gs gd)) ++ (wT bd cI cG tc tr ft tv tu fc M)) ++ (wP pd cI cG fa fb N)) (gI (fun z w9 => ((0 ≤ s ∧ s < (cnt : Int)) ∧ z = fs s.toNat) ∧ XW h ad a2 bd pd cI cG (cnt - 1) (rmv fv s.toNat (cnt - 1)) (rmv fs s.toNat (cnt - 1)) (rmv fd s.toNat (cnt - 1)) rm lt tk ov w9)) (fun nm w9 => nm = IOE ∧ ¬ (0 ≤ s ∧ s < (cnt : Int)) ∧ XW h ad a2 bd pd cI cG cnt fv fs fd rm lt tk ov w9) := by
  obtain ⟨hc, hS, h99, hr1, hr2⟩ := id hI
  have hr : 0 ≤ rm ∧ rm ≤ 12 := ⟨by omega, hr2⟩
  have hv1 : ∀ j, j < cnt → 1 ≤ fv j := fun j hj => (hS.1 j hj).1
  refine gMex_I hl9 (by decide) rfl (Nat.le_of_ble_eq_true rfl) (fun E C ret out thr => ?_)
  refine g_aload_n C dX3_withdraw_0 0 rfl ?_
  refine g_iload_n C dX3_withdraw_1 1 rfl ?_
  refine g_callVX (wr := ((wS a2 cI c2 gv gs gd) ++ (wT bd cI cG tc tr ft tv tu fc M)) ++ (wP pd cI cG fa fb N)) (st := []) [0, 1, 2, 3, 4] [5, 6, 7, 8, 9, 10, 11, 12, 13, 14, 15, 16, 17, 18, 19, 20, 21, 22, 23, 24, 25, 26, 27, 28, 29, 30, 31, 32, 33, 34, 35, 36, 37, 38, 39, 40] C cX3_63 (met_X3_checkStamp l hl9 D cI cG cJ h ad a2 bd pd cnt hc fv fs fd rm lt tk ov s hs) ⟨rfl, rfl, by decide, by decide, by decide⟩ (q0 := 0) rfl rfl (by decide) (by decide) rfl rfl (Nat.le_of_ble_eq_true rfl) dX3_withdraw_2 (fun nm9 w9 h9 => ?_) ?_
  · obtain ⟨rfl, h8, rfl⟩ := h9
    refine gx_perm (w' := ((((wV h (ad 0) (a2 0) (bd 0) (pd 0) rm lt tk ov) ++ (wS ad cI (cnt : Int) fv fs fd)) ++ (wS a2 cI c2 gv gs gd)) ++ (wT bd cI cG tc tr ft tv tu fc M)) ++ (wP pd cI cG fa fb N)) [36, 37, 38, 39, 40, 0, 1, 2, 3, 4, 5, 6, 7, 8, 9, 10, 11, 12, 13, 14, 15, 16, 17, 18, 19, 20, 21, 22, 23, 24, 25, 26, 27, 28, 29, 30, 31, 32, 33, 34, 35] (by decide) rfl ?_
    exact out _ _ _ _ _ _ (by decide) (by decide) (⟨rfl, h8, ⟨_, _, _, _, _, _, _, _, _, _, _, _, _, _, rfl⟩⟩)
  rintro v9 w9 ⟨rfl, hs9, rfl⟩
  obtain ⟨j, rfl⟩ : ∃ j : Nat, s = (j : Int) := ⟨s.toNat, by omega⟩
  refine g_ws (w' := ((((wS a2 cI c2 gv gs gd) ++ (wT bd cI cG tc tr ft tv tu fc M)) ++ (wP pd cI cG fa fb N)) ++ (wV h (ad 0) (a2 0) (bd 0) (pd 0) rm lt tk ov)) ++ (wS ad cI (cnt : Int) fv fs fd)) (st' := []) rfl rfl ?_
  refine g_perm (w' := ((((wV h (ad 0) (a2 0) (bd 0) (pd 0) rm lt tk ov) ++ (wS ad cI (cnt : Int) fv fs fd)) ++ (wS a2 cI c2 gv gs gd)) ++ (wT bd cI cG tc tr ft tv tu fc M)) ++ (wP pd cI cG fa fb N)) [36, 37, 38, 39, 40, 0, 1, 2, 3, 4, 5, 6, 7, 8, 9, 10, 11, 12, 13, 14, 15, 16, 17, 18, 19, 20, 21, 22, 23, 24, 25, 26, 27, 28, 29, 30, 31, 32, 33, 34, 35] (by decide) rfl ?_
  refine g_aload_n C dX3_withdraw_5 0 rfl ?_
  refine g_getf C fX3_12 0 rfl rfl dX3_withdraw_6 ?_
  refine g_getf C fX3_67 1 rfl rfl dX3_withdraw_9 ?_
  refine g_iload_n C dX3_withdraw_12 1 rfl ?_
  refine g_iald C 3 rfl (by decide) (by omega) (by omega) (v := (fs j)) rfl dX3_withdraw_13 ?_
  refine g_istore_n (L' := [(2, .int (zI (fs j))), (0, .ref h), (1, .int (zI (j : Int)))]) C dX3_withdraw_14 (by decide) rfl ?_
  refine g_aload_n C dX3_withdraw_15 1 rfl ?_
  refine g_getf C fX3_12 0 rfl rfl dX3_withdraw_16 ?_
  refine g_iload_n C dX3_withdraw_19 2 rfl ?_
  refine g_callV (wr := (((wV h (ad 0) (a2 0) (bd 0) (pd 0) rm lt tk ov) ++ (wS a2 cI c2 gv gs gd)) ++ (wT bd cI cG tc tr ft tv tu fc M)) ++ (wP pd cI cG fa fb N)) (st := []) [1, 2, 3, 4] [0, 5, 6, 7, 8, 9, 10, 11, 12, 13, 14, 15, 16, 17, 18, 19, 20, 21, 22, 23, 24, 25, 26, 27, 28, 29, 30, 31, 32, 33, 34, 35, 36, 37, 38, 39, 40] C cX3_71 (met_X1_removeAt l D cI cG cJ ad cnt hc fv fs fd j (by omega)) ⟨rfl, rfl, by decide, by decide, by decide⟩ (q0 := 1) rfl rfl (by decide) (by decide) rfl rfl (Nat.le_of_ble_eq_true rfl) dX3_withdraw_20 ?_
  rintro v9 w9 ⟨rfl, rfl⟩
  refine g_ws (w' := ((((wV h (ad 0) (a2 0) (bd 0) (pd 0) rm lt tk ov) ++ (wS a2 cI c2 gv gs gd)) ++ (wT bd cI cG tc tr ft tv tu fc M)) ++ (wP pd cI cG fa fb N)) ++ (wS ad cI ((cnt : Int) - 1) (rmv fv j (cnt - 1)) (rmv fs j (cnt - 1)) (rmv fd j (cnt - 1)))) (st' := []) rfl rfl ?_
  refine g_perm (w' := ((((wV h (ad 0) (a2 0) (bd 0) (pd 0) rm lt tk ov) ++ (wS ad cI ((cnt : Int) - 1) (rmv fv j (cnt - 1)) (rmv fs j (cnt - 1)) (rmv fd j (cnt - 1)))) ++ (wS a2 cI c2 gv gs gd)) ++ (wT bd cI cG tc tr ft tv tu fc M)) ++ (wP pd cI cG fa fb N)) [0, 37, 38, 39, 40, 1, 2, 3, 4, 5, 6, 7, 8, 9, 10, 11, 12, 13, 14, 15, 16, 17, 18, 19, 20, 21, 22, 23, 24, 25, 26, 27, 28, 29, 30, 31, 32, 33, 34, 35, 36] (by decide) rfl ?_
  refine g_ws (w' := ((((wV h (ad 0) (a2 0) (bd 0) (pd 0) rm lt tk ov) ++ (wS ad cI ((cnt - 1 : Nat) : Int) (rmv fv j (cnt - 1)) (rmv fs j (cnt - 1)) (rmv fd j (cnt - 1)))) ++ (wS a2 cI c2 gv gs gd)) ++ (wT bd cI cG tc tr ft tv tu fc M)) ++ (wP pd cI cG fa fb N)) (by rw [show (cnt : Int) - 1 = ((cnt - 1 : Nat) : Int) by omega]) rfl ?_
  refine g_iload_n C dX3_withdraw_23 0 rfl ?_
  exact ret _ _ _ _ _ _ (by decide) (by decide) dX3_withdraw_24 (⟨⟨hs9, rfl⟩, ⟨_, _, _, _, _, _, _, _, _, _, _, _, _, _, rfl⟩⟩)
abbrev rmX3_print : Room := { frames := 8, cells := 2, slots := 12, locals := 160 }
set_option maxHeartbeats 4000000 in
set_option maxRecDepth 100000 in
theorem met_X3_print (l : Launch) (hl9 : l.stackTraces = false) (D : va_G) (cI cG cJ : ClassId) (h : Nat) (ad a2 bd pd : Nat → Nat) (cnt : Nat) (fv fs fd : Nat → Int) (rm lt tk ov : Int) (hI : XI cnt fv fs rm) (c2 : Int) (gv gs gd : Nat → Int) (tc tr : Int) (ft tv tu fc : Nat → Int) (M : Nat → Nat → Int) (fa fb : Nat → Int) (N : Nat → Nat → Int) (s y : Int) (hs : zr s) (hy : zr y) : gMex l yX3_print cX3_print 3 (some .int) rmX3_print D cI cG cJ [.ref h, .int (zI s), .int (zI y)] (((((wV h (ad 0) (a2 0) (bd 0) (pd 0) rm lt tk ov) ++ (wS ad cI (cnt : Int) fv fs fd)) ++ (wS a2 cI c2 gv gs gd)) ++ (wT bd cI cG tc tr ft tv tu fc M)) ++ (wP pd cI cG fa fb N)) (gI (fun z w9 => ((0 ≤ s ∧ s < (cnt : Int)) ∧ (1 ≤ y ∧ y ≤ 99) ∧ z = (min (fs s.toNat + y) 99)) ∧ XW h ad a2 bd pd cI cG cnt fv (zU fs s.toNat (min (fs s.toNat + y) 99)) fd rm lt tk ov w9)) (fun nm w9 => (nm = IOE ∧ ¬ (0 ≤ s ∧ s < (cnt : Int)) ∧ XW h ad a2 bd pd cI cG cnt fv fs fd rm lt tk ov w9) ∨ (nm = IAE ∧ (0 ≤ s ∧ s < (cnt : Int)) ∧ ¬ (1 ≤ y ∧ y ≤ 99) ∧ XW h ad a2 bd pd cI cG cnt fv fs fd rm lt tk ov w9)) := by
  obtain ⟨hc, hS, h99, hr1, hr2⟩ := id hI
  have hr : 0 ≤ rm ∧ rm ≤ 12 := ⟨by omega, hr2⟩
  have hv1 : ∀ j, j < cnt → 1 ≤ fv j := fun j hj => (hS.1 j hj).1
  refine gMex_I hl9 (by decide) rfl (Nat.le_of_ble_eq_true rfl) (fun E C ret out thr => ?_)
  refine g_aload_n C dX3_print_0 0 rfl ?_
  refine g_iload_n C dX3_print_1 1 rfl ?_
  refine g_callVX (wr := ((wS a2 cI c2 gv gs gd) ++ (wT bd cI cG tc tr ft tv tu fc M)) ++ (wP pd cI cG fa fb N)) (st := []) [0, 1, 2, 3, 4] [5, 6, 7, 8, 9, 10, 11, 12, 13, 14, 15, 16, 17, 18, 19, 20, 21, 22, 23, 24, 25, 26, 27, 28, 29, 30, 31, 32, 33, 34, 35, 36, 37, 38, 39, 40] C cX3_63 (met_X3_checkStamp l hl9 D cI cG cJ h ad a2 bd pd cnt hc fv fs fd rm lt tk ov s hs) ⟨rfl, rfl, by decide, by decide, by decide⟩ (q0 := 0) rfl rfl (by decide) (by decide) rfl rfl (Nat.le_of_ble_eq_true rfl) dX3_print_2 (fun nm9 w9 h9 => ?_) ?_
  · obtain ⟨rfl, h8, rfl⟩ := h9
    refine gx_perm (w' := ((((wV h (ad 0) (a2 0) (bd 0) (pd 0) rm lt tk ov) ++ (wS ad cI (cnt : Int) fv fs fd)) ++ (wS a2 cI c2 gv gs gd)) ++ (wT bd cI cG tc tr ft tv tu fc M)) ++ (wP pd cI cG fa fb N)) [36, 37, 38, 39, 40, 0, 1, 2, 3, 4, 5, 6, 7, 8, 9, 10, 11, 12, 13, 14, 15, 16, 17, 18, 19, 20, 21, 22, 23, 24, 25, 26, 27, 28, 29, 30, 31, 32, 33, 34, 35] (by decide) rfl ?_
    exact out _ _ _ _ _ _ (by decide) (by decide) (Or.inl ⟨rfl, h8, ⟨_, _, _, _, _, _, _, _, _, _, _, _, _, _, rfl⟩⟩)
  rintro v9 w9 ⟨rfl, hs9, rfl⟩
  obtain ⟨j, rfl⟩ : ∃ j : Nat, s = (j : Int) := ⟨s.toNat, by omega⟩
  refine g_ws (w' := ((((wS a2 cI c2 gv gs gd) ++ (wT bd cI cG tc tr ft tv tu fc M)) ++ (wP pd cI cG fa fb N)) ++ (wV h (ad 0) (a2 0) (bd 0) (pd 0) rm lt tk ov)) ++ (wS ad cI (cnt : Int) fv fs fd)) (st' := []) rfl rfl ?_
  refine g_perm (w' := ((((wV h (ad 0) (a2 0) (bd 0) (pd 0) rm lt tk ov) ++ (wS ad cI (cnt : Int) fv fs fd)) ++ (wS a2 cI c2 gv gs gd)) ++ (wT bd cI cG tc tr ft tv tu fc M)) ++ (wP pd cI cG fa fb N)) [36, 37, 38, 39, 40, 0, 1, 2, 3, 4, 5, 6, 7, 8, 9, 10, 11, 12, 13, 14, 15, 16, 17, 18, 19, 20, 21, 22, 23, 24, 25, 26, 27, 28, 29, 30, 31, 32, 33, 34, 35] (by decide) rfl ?_
  refine g_iload_n C dX3_print_5 2 rfl ?_
  refine g_iconst C dX3_print_6 ?_
  refine g_icmp_lt 16 C dX3_print_7 (by decide) hy (zr_i (by omega) (by omega)) (fun c_7 => ?_) (fun c_7 => ?_)
  · exact thr _ _ _ _ _ _ _ _ _ _ thX3_48 (by decide) (by decide) (by decide) (Nat.le_of_ble_eq_true rfl) (Or.inr ⟨rfl, hs9, by omega, ⟨_, _, _, _, _, _, _, _, _, _, _, _, _, _, rfl⟩⟩) dX3_print_16 dX3_print_19 dX3_print_20 dX3_print_23
  · refine g_iload_n C dX3_print_10 2 rfl ?_
    refine g_bipush C dX3_print_11 (by decide) ?_
    refine g_icmp_le 24 C dX3_print_13 (by decide) hy (zr_i (by omega) (by omega)) (fun c_13 => ?_) (fun c_13 => ?_)
    · refine g_aload_n C dX3_print_24 0 rfl ?_
      refine g_getf C fX3_12 0 rfl rfl dX3_print_25 ?_
      refine g_getf C fX3_67 1 rfl rfl dX3_print_28 ?_
      refine g_iload_n C dX3_print_31 1 rfl ?_
      refine g_aload_n C dX3_print_32 0 rfl ?_
      refine g_getf C fX3_12 0 rfl rfl dX3_print_33 ?_
      refine g_getf C fX3_67 1 rfl rfl dX3_print_36 ?_
      refine g_iload_n C dX3_print_39 1 rfl ?_
      refine g_iald C 3 rfl (by decide) (by omega) (by omega) (v := (fs j)) rfl dX3_print_40 ?_
      refine g_iload_n C dX3_print_41 2 rfl ?_
      have hs7 := hS.2.1 j (by omega)
      refine g_iadd C dX3_print_42 ?_
      refine g_bipush C dX3_print_43 (by decide) ?_
      refine g_min C mX3_74 (zr_i (by omega) (by omega)) (zr_i (by omega) (by omega)) (by decide) (Nat.le_of_ble_eq_true rfl) dX3_print_45 ?_
      refine g_iast (w' := ((((wV h (ad 0) (a2 0) (bd 0) (pd 0) rm lt tk ov) ++ (wS ad cI (cnt : Int) fv (zU fs j (min ((fs j) + y) 99)) fd)) ++ (wS a2 cI c2 gv gs gd)) ++ (wT bd cI cG tc tr ft tv tu fc M)) ++ (wP pd cI cG fa fb N)) C 3 rfl (by decide) (by omega) (by omega) rfl dX3_print_48 ?_
      refine g_aload_n C dX3_print_49 0 rfl ?_
      refine g_getf C fX3_12 0 rfl rfl dX3_print_50 ?_
      refine g_getf C fX3_67 1 rfl rfl dX3_print_53 ?_
      refine g_iload_n C dX3_print_56 1 rfl ?_
      refine g_iald C 3 rfl (by decide) (by omega) (by omega) (v := ((zU fs j (min ((fs j) + y) 99)) j)) rfl dX3_print_57 ?_
      refine g_top (min (fs j + y) 99) (if_pos rfl) ?_
      exact ret _ _ _ _ _ _ (by decide) (by decide) dX3_print_58 (⟨⟨hs9, by omega, rfl⟩, ⟨_, _, _, _, _, _, _, _, _, _, _, _, _, _, rfl⟩⟩)
    · exact thr _ _ _ _ _ _ _ _ _ _ thX3_48 (by decide) (by decide) (by decide) (Nat.le_of_ble_eq_true rfl) (Or.inr ⟨rfl, hs9, by omega, ⟨_, _, _, _, _, _, _, _, _, _, _, _, _, _, rfl⟩⟩) dX3_print_16 dX3_print_19 dX3_print_20 dX3_print_23
