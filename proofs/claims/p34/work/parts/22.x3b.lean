abbrev rmX3_setRoom : Room := { frames := 7, cells := 1, slots := 6, locals := 130 }
set_option maxHeartbeats 4000000 in
set_option maxRecDepth 100000 in
theorem met_X3_setRoom (l : Launch) (hl9 : l.stackTraces = false) (D : va_G) (cI cG cJ : ClassId) (h : Nat) (ad a2 bd pd : Nat → Nat) (cnt : Nat) (fv fs fd : Nat → Int) (rm lt tk ov : Int) (hI : XI cnt fv fs rm) (c2 : Int) (gv gs gd : Nat → Int) (tc tr : Int) (ft tv tu fc : Nat → Int) (M : Nat → Nat → Int) (fa fb : Nat → Int) (N : Nat → Nat → Int) (p : Int) (hp : zr p)  : gMex l yX3_setRoom cX3_setRoom 3 (some .int) rmX3_setRoom D cI cG cJ [.ref h, .int (zI p)] (((((wV h (ad 0) (a2 0) (bd 0) (pd 0) rm lt tk ov) ++ (wS ad cI (cnt : Int) fv fs fd)) ++ (wS a2 cI c2 gv gs gd)) ++ (wT bd cI cG tc tr ft tv tu fc M)) ++ (wP pd cI cG fa fb N)) (gI (fun z w9 => ((1 ≤ p ∧ p ≤ 12) ∧ z = rm) ∧ XW h ad a2 bd pd cI cG cnt fv fs fd p lt tk ov w9)) (fun nm w9 => nm = IAE ∧ ¬ (1 ≤ p ∧ p ≤ 12) ∧ XW h ad a2 bd pd cI cG cnt fv fs fd rm lt tk ov w9) := by
  refine gMex_I hl9 (by decide) rfl (Nat.le_of_ble_eq_true rfl) (fun E C ret out thr => ?_)
  refine g_iload_n C dX3_setRoom_0 1 rfl ?_
  refine g_callSX (wr := ((((wV h (ad 0) (a2 0) (bd 0) (pd 0) rm lt tk ov) ++ (wS ad cI (cnt : Int) fv fs fd)) ++ (wS a2 cI c2 gv gs gd)) ++ (wT bd cI cG tc tr ft tv tu fc M)) ++ (wP pd cI cG fa fb N)) (st := []) [] [0, 1, 2, 3, 4, 5, 6, 7, 8, 9, 10, 11, 12, 13, 14, 15, 16, 17, 18, 19, 20, 21, 22, 23, 24, 25, 26, 27, 28, 29, 30, 31, 32, 33, 34, 35, 36, 37, 38, 39, 40] C cX3_79 (met_X3_checkRoom l hl9 D cI cG cJ p hp) ⟨rfl, rfl, by decide, by decide, by decide⟩ (by decide) (by decide) rfl rfl (Nat.le_of_ble_eq_true rfl) dX3_setRoom_1 (fun nm9 w9 h9 => ?_) ?_
  · obtain ⟨rfl, h8, rfl⟩ := h9
    refine gx_perm (w' := ((((wV h (ad 0) (a2 0) (bd 0) (pd 0) rm lt tk ov) ++ (wS ad cI (cnt : Int) fv fs fd)) ++ (wS a2 cI c2 gv gs gd)) ++ (wT bd cI cG tc tr ft tv tu fc M)) ++ (wP pd cI cG fa fb N)) [0, 1, 2, 3, 4, 5, 6, 7, 8, 9, 10, 11, 12, 13, 14, 15, 16, 17, 18, 19, 20, 21, 22, 23, 24, 25, 26, 27, 28, 29, 30, 31, 32, 33, 34, 35, 36, 37, 38, 39, 40] (by decide) rfl ?_
    exact out _ _ _ _ _ _ (by decide) (by decide) (⟨rfl, h8, ⟨_, _, _, _, _, _, _, _, _, _, _, _, _, _, rfl⟩⟩)
  rintro v9 w9 ⟨rfl, hp9, rfl⟩
  refine g_ws (w' := ((((wV h (ad 0) (a2 0) (bd 0) (pd 0) rm lt tk ov) ++ (wS ad cI (cnt : Int) fv fs fd)) ++ (wS a2 cI c2 gv gs gd)) ++ (wT bd cI cG tc tr ft tv tu fc M)) ++ (wP pd cI cG fa fb N)) (st' := []) rfl rfl ?_
  refine g_aload_n C dX3_setRoom_4 0 rfl ?_
  refine g_getf C fX3_33 0 rfl rfl dX3_setRoom_5 ?_
  refine g_istore_n (L' := [(2, .int (zI rm)), (0, .ref h), (1, .int (zI p))]) C dX3_setRoom_8 (by decide) rfl ?_
  refine g_aload_n C dX3_setRoom_9 1 rfl ?_
  refine g_iload_n C dX3_setRoom_10 2 rfl ?_
  refine g_putf (w' := ((((wV h (ad 0) (a2 0) (bd 0) (pd 0) p lt tk ov) ++ (wS ad cI (cnt : Int) fv fs fd)) ++ (wS a2 cI c2 gv gs gd)) ++ (wT bd cI cG tc tr ft tv tu fc M)) ++ (wP pd cI cG fa fb N)) C pX3_33 0 rfl rfl rfl (Nat.le_of_ble_eq_true rfl) rfl dX3_setRoom_11 ?_
  refine g_iload_n C dX3_setRoom_14 0 rfl ?_
  exact ret _ _ _ _ _ _ (by decide) (by decide) dX3_setRoom_15 (⟨⟨hp9, rfl⟩, ⟨_, _, _, _, _, _, _, _, _, _, _, _, _, _, rfl⟩⟩)
abbrev rmX3_canPay : Room := { frames := 8, cells := 1, slots := 6, locals := 160 }
set_option maxHeartbeats 4000000 in
set_option maxRecDepth 100000 in
theorem met_X3_canPay (l : Launch) (hl9 : l.stackTraces = false) (D : va_G) (cI cG cJ : ClassId) (h : Nat) (ad a2 bd pd : Nat → Nat) (cnt : Nat) (fv fs fd : Nat → Int) (rm lt tk ov : Int) (hI : XI cnt fv fs rm) (c2 : Int) (gv gs gd : Nat → Int) (tc tr : Int) (ft tv tu fc : Nat → Int) (M : Nat → Nat → Int) (fa fb : Nat → Int) (N : Nat → Nat → Int) (p : Int) (hp : zr p)  : gMex l yX3_canPay cX3_canPay 2 (some .boolean) rmX3_canPay D cI cG cJ [.ref h, .int (zI p)] (((((wV h (ad 0) (a2 0) (bd 0) (pd 0) rm lt tk ov) ++ (wS ad cI (cnt : Int) fv fs fd)) ++ (wS a2 cI c2 gv gs gd)) ++ (wT bd cI cG tc tr ft tv tu fc M)) ++ (wP pd cI cG fa fb N)) (gI (fun z w9 => ((1 ≤ p ∧ p ≤ 300) ∧ z = (if TB cnt fv fs rm p.toNat ≤ rm then (1 : Int) else 0)) ∧ XW h ad a2 bd pd cI cG cnt fv fs fd rm lt tk ov w9)) (fun nm w9 => nm = IAE ∧ ¬ (1 ≤ p ∧ p ≤ 300) ∧ XW h ad a2 bd pd cI cG cnt fv fs fd rm lt tk ov w9) := by
  obtain ⟨hc, hS, h99, hr1, hr2⟩ := id hI
  have hr : 0 ≤ rm ∧ rm ≤ 12 := ⟨by omega, hr2⟩
  have hv1 : ∀ j, j < cnt → 1 ≤ fv j := fun j hj => (hS.1 j hj).1
  refine gMex_Z hl9 (by decide) rfl (Nat.le_of_ble_eq_true rfl) (fun E C ret out thr => ?_)
  refine g_iload_n C dX3_canPay_0 1 rfl ?_
  refine g_callSX (wr := ((((wV h (ad 0) (a2 0) (bd 0) (pd 0) rm lt tk ov) ++ (wS ad cI (cnt : Int) fv fs fd)) ++ (wS a2 cI c2 gv gs gd)) ++ (wT bd cI cG tc tr ft tv tu fc M)) ++ (wP pd cI cG fa fb N)) (st := []) [] [0, 1, 2, 3, 4, 5, 6, 7, 8, 9, 10, 11, 12, 13, 14, 15, 16, 17, 18, 19, 20, 21, 22, 23, 24, 25, 26, 27, 28, 29, 30, 31, 32, 33, 34, 35, 36, 37, 38, 39, 40] C cX3_82 (met_X3_checkPostage l hl9 D cI cG cJ p hp) ⟨rfl, rfl, by decide, by decide, by decide⟩ (by decide) (by decide) rfl rfl (Nat.le_of_ble_eq_true rfl) dX3_canPay_1 (fun nm9 w9 h9 => ?_) ?_
  · obtain ⟨rfl, h8, rfl⟩ := h9
    refine gx_perm (w' := ((((wV h (ad 0) (a2 0) (bd 0) (pd 0) rm lt tk ov) ++ (wS ad cI (cnt : Int) fv fs fd)) ++ (wS a2 cI c2 gv gs gd)) ++ (wT bd cI cG tc tr ft tv tu fc M)) ++ (wP pd cI cG fa fb N)) [0, 1, 2, 3, 4, 5, 6, 7, 8, 9, 10, 11, 12, 13, 14, 15, 16, 17, 18, 19, 20, 21, 22, 23, 24, 25, 26, 27, 28, 29, 30, 31, 32, 33, 34, 35, 36, 37, 38, 39, 40] (by decide) rfl ?_
    exact out _ _ _ _ _ _ (by decide) (by decide) (⟨rfl, h8, ⟨_, _, _, _, _, _, _, _, _, _, _, _, _, _, rfl⟩⟩)
  rintro v9 w9 ⟨rfl, hp9, rfl⟩
  obtain ⟨q, rfl⟩ : ∃ q : Nat, p = (q : Int) := ⟨p.toNat, by omega⟩
  refine g_ws (w' := ((((wV h (ad 0) (a2 0) (bd 0) (pd 0) rm lt tk ov) ++ (wS ad cI (cnt : Int) fv fs fd)) ++ (wS a2 cI c2 gv gs gd)) ++ (wT bd cI cG tc tr ft tv tu fc M)) ++ (wP pd cI cG fa fb N)) (st' := []) rfl rfl ?_
  refine g_aload_n C dX3_canPay_4 0 rfl ?_
  refine g_getf C fX3_22 0 rfl rfl dX3_canPay_5 ?_
  refine g_aload_n C dX3_canPay_8 0 rfl ?_
  refine g_getf C fX3_12 0 rfl rfl dX3_canPay_9 ?_
  refine g_aload_n C dX3_canPay_12 0 rfl ?_
  refine g_getf C fX3_33 0 rfl rfl dX3_canPay_13 ?_
  refine g_callV (wr := ((wV h (ad 0) (a2 0) (bd 0) (pd 0) rm lt tk ov) ++ (wS a2 cI c2 gv gs gd)) ++ (wP pd cI cG fa fb N)) (st := []) [9, 10, 11, 12, 13, 14, 15, 16, 17, 18, 19, 20, 21, 22, 23, 1, 2, 3, 4] [0, 5, 6, 7, 8, 24, 25, 26, 27, 28, 29, 30, 31, 32, 33, 34, 35, 36, 37, 38, 39, 40] C cX3_85 (met_X2_fill l D cI cG cJ ad cnt hc fv fs fd bd tc tr ft tv tu fc M hS rm hr) ⟨rfl, rfl, by decide, by decide, by decide⟩ (q0 := 9) rfl rfl (by decide) (by decide) rfl rfl (Nat.le_of_ble_eq_true rfl) dX3_canPay_16 ?_
  rintro v9 w9 ⟨rfl, ft1, tv1, tu1, M1, ⟨hR, hM⟩, rfl⟩
  refine g_ws (w' := ((((wV h (ad 0) (a2 0) (bd 0) (pd 0) rm lt tk ov) ++ (wS a2 cI c2 gv gs gd)) ++ (wP pd cI cG fa fb N)) ++ (wT bd cI cG (cnt : Int) rm ft1 tv1 tu1 fc M1)) ++ (wS ad cI (cnt : Int) fv fs fd)) (st' := []) rfl rfl ?_
  refine g_perm (w' := ((((wV h (ad 0) (a2 0) (bd 0) (pd 0) rm lt tk ov) ++ (wS ad cI (cnt : Int) fv fs fd)) ++ (wS a2 cI c2 gv gs gd)) ++ (wT bd cI cG (cnt : Int) rm ft1 tv1 tu1 fc M1)) ++ (wP pd cI cG fa fb N)) [0, 37, 38, 39, 40, 1, 2, 3, 4, 22, 23, 24, 25, 26, 27, 28, 29, 30, 31, 32, 33, 34, 35, 36, 5, 6, 7, 8, 9, 10, 11, 12, 13, 14, 15, 16, 17, 18, 19, 20, 21] (by decide) rfl ?_
  refine g_aload_n C dX3_canPay_19 0 rfl ?_
  refine g_getf C fX3_22 0 rfl rfl dX3_canPay_20 ?_
  refine g_iload_n C dX3_canPay_23 1 rfl ?_
  refine g_callV (wr := (((wV h (ad 0) (a2 0) (bd 0) (pd 0) rm lt tk ov) ++ (wS ad cI (cnt : Int) fv fs fd)) ++ (wS a2 cI c2 gv gs gd)) ++ (wP pd cI cG fa fb N)) (st := []) [9, 10, 11, 12, 13, 14, 15, 16, 17, 18, 19, 20, 21, 22, 23] [0, 1, 2, 3, 4, 5, 6, 7, 8, 24, 25, 26, 27, 28, 29, 30, 31, 32, 33, 34, 35, 36, 37, 38, 39, 40] C cX3_109 (met_X2_pays l D cI cG cJ bd cnt hc rm hr ft1 tv1 tu1 fc M1 (fun r j h1 h2 => hM.bd hS (Nat.zero_le _) h1 h2) q (by omega)) ⟨rfl, rfl, by decide, by decide, by decide⟩ (q0 := 9) rfl rfl (by decide) (by decide) rfl rfl (Nat.le_of_ble_eq_true rfl) dX3_canPay_24 ?_
  rintro v9 w9 ⟨z9, rfl, rfl, rfl⟩
  refine g_ws (w' := ((((wV h (ad 0) (a2 0) (bd 0) (pd 0) rm lt tk ov) ++ (wS ad cI (cnt : Int) fv fs fd)) ++ (wS a2 cI c2 gv gs gd)) ++ (wP pd cI cG fa fb N)) ++ (wT bd cI cG (cnt : Int) rm ft1 tv1 tu1 fc M1)) (st' := [.int (zI (if M1 0 q ≤ rm then (1 : Int) else 0))]) rfl rfl ?_
  refine g_perm (w' := ((((wV h (ad 0) (a2 0) (bd 0) (pd 0) rm lt tk ov) ++ (wS ad cI (cnt : Int) fv fs fd)) ++ (wS a2 cI c2 gv gs gd)) ++ (wT bd cI cG (cnt : Int) rm ft1 tv1 tu1 fc M1)) ++ (wP pd cI cG fa fb N)) [0, 1, 2, 3, 4, 5, 6, 7, 8, 26, 27, 28, 29, 30, 31, 32, 33, 34, 35, 36, 37, 38, 39, 40, 9, 10, 11, 12, 13, 14, 15, 16, 17, 18, 19, 20, 21, 22, 23, 24, 25] (by decide) rfl ?_
  exact ret _ _ _ _ _ _ (by decide) (by decide) dX3_canPay_27 ((by split <;> first | exact Or.inl rfl | exact Or.inr rfl)) (⟨⟨hp9, by rw [hM.tb0 (by omega)] <;> rfl⟩, ⟨_, _, _, _, _, _, _, _, _, _, _, _, _, _, rfl⟩⟩)
abbrev rmX3_overpay : Room := { frames := 8, cells := 1, slots := 6, locals := 160 }
set_option maxHeartbeats 4000000 in
set_option maxRecDepth 100000 in
theorem met_X3_overpay (l : Launch) (hl9 : l.stackTraces = false) (D : va_G) (cI cG cJ : ClassId) (h : Nat) (ad a2 bd pd : Nat → Nat) (cnt : Nat) (fv fs fd : Nat → Int) (rm lt tk ov : Int) (hI : XI cnt fv fs rm) (c2 : Int) (gv gs gd : Nat → Int) (tc tr : Int) (ft tv tu fc : Nat → Int) (M : Nat → Nat → Int) (fa fb : Nat → Int) (N : Nat → Nat → Int) (p : Int) (hp : zr p)  : gMex l yX3_overpay cX3_overpay 2 (some .int) rmX3_overpay D cI cG cJ [.ref h, .int (zI p)] (((((wV h (ad 0) (a2 0) (bd 0) (pd 0) rm lt tk ov) ++ (wS ad cI (cnt : Int) fv fs fd)) ++ (wS a2 cI c2 gv gs gd)) ++ (wT bd cI cG tc tr ft tv tu fc M)) ++ (wP pd cI cG fa fb N)) (gI (fun z w9 => ((1 ≤ p ∧ p ≤ 300) ∧ z = (if LSm cnt fv fs rm p.toNat = -1 then (-1 : Int) else LSm cnt fv fs rm p.toNat - p)) ∧ XW h ad a2 bd pd cI cG cnt fv fs fd rm lt tk ov w9)) (fun nm w9 => nm = IAE ∧ ¬ (1 ≤ p ∧ p ≤ 300) ∧ XW h ad a2 bd pd cI cG cnt fv fs fd rm lt tk ov w9) := by
  obtain ⟨hc, hS, h99, hr1, hr2⟩ := id hI
  have hr : 0 ≤ rm ∧ rm ≤ 12 := ⟨by omega, hr2⟩
  have hv1 : ∀ j, j < cnt → 1 ≤ fv j := fun j hj => (hS.1 j hj).1
  refine gMex_I hl9 (by decide) rfl (Nat.le_of_ble_eq_true rfl) (fun E C ret out thr => ?_)
  refine g_iload_n C dX3_overpay_0 1 rfl ?_
  refine g_callSX (wr := ((((wV h (ad 0) (a2 0) (bd 0) (pd 0) rm lt tk ov) ++ (wS ad cI (cnt : Int) fv fs fd)) ++ (wS a2 cI c2 gv gs gd)) ++ (wT bd cI cG tc tr ft tv tu fc M)) ++ (wP pd cI cG fa fb N)) (st := []) [] [0, 1, 2, 3, 4, 5, 6, 7, 8, 9, 10, 11, 12, 13, 14, 15, 16, 17, 18, 19, 20, 21, 22, 23, 24, 25, 26, 27, 28, 29, 30, 31, 32, 33, 34, 35, 36, 37, 38, 39, 40] C cX3_82 (met_X3_checkPostage l hl9 D cI cG cJ p hp) ⟨rfl, rfl, by decide, by decide, by decide⟩ (by decide) (by decide) rfl rfl (Nat.le_of_ble_eq_true rfl) dX3_overpay_1 (fun nm9 w9 h9 => ?_) ?_
  · obtain ⟨rfl, h8, rfl⟩ := h9
    refine gx_perm (w' := ((((wV h (ad 0) (a2 0) (bd 0) (pd 0) rm lt tk ov) ++ (wS ad cI (cnt : Int) fv fs fd)) ++ (wS a2 cI c2 gv gs gd)) ++ (wT bd cI cG tc tr ft tv tu fc M)) ++ (wP pd cI cG fa fb N)) [0, 1, 2, 3, 4, 5, 6, 7, 8, 9, 10, 11, 12, 13, 14, 15, 16, 17, 18, 19, 20, 21, 22, 23, 24, 25, 26, 27, 28, 29, 30, 31, 32, 33, 34, 35, 36, 37, 38, 39, 40] (by decide) rfl ?_
    exact out _ _ _ _ _ _ (by decide) (by decide) (⟨rfl, h8, ⟨_, _, _, _, _, _, _, _, _, _, _, _, _, _, rfl⟩⟩)
  rintro v9 w9 ⟨rfl, hp9, rfl⟩
  obtain ⟨q, rfl⟩ : ∃ q : Nat, p = (q : Int) := ⟨p.toNat, by omega⟩
  refine g_ws (w' := ((((wV h (ad 0) (a2 0) (bd 0) (pd 0) rm lt tk ov) ++ (wS ad cI (cnt : Int) fv fs fd)) ++ (wS a2 cI c2 gv gs gd)) ++ (wT bd cI cG tc tr ft tv tu fc M)) ++ (wP pd cI cG fa fb N)) (st' := []) rfl rfl ?_
  refine g_aload_n C dX3_overpay_4 0 rfl ?_
  refine g_getf C fX3_22 0 rfl rfl dX3_overpay_5 ?_
  refine g_aload_n C dX3_overpay_8 0 rfl ?_
  refine g_getf C fX3_12 0 rfl rfl dX3_overpay_9 ?_
  refine g_aload_n C dX3_overpay_12 0 rfl ?_
  refine g_getf C fX3_33 0 rfl rfl dX3_overpay_13 ?_
  refine g_callV (wr := ((wV h (ad 0) (a2 0) (bd 0) (pd 0) rm lt tk ov) ++ (wS a2 cI c2 gv gs gd)) ++ (wP pd cI cG fa fb N)) (st := []) [9, 10, 11, 12, 13, 14, 15, 16, 17, 18, 19, 20, 21, 22, 23, 1, 2, 3, 4] [0, 5, 6, 7, 8, 24, 25, 26, 27, 28, 29, 30, 31, 32, 33, 34, 35, 36, 37, 38, 39, 40] C cX3_85 (met_X2_fill l D cI cG cJ ad cnt hc fv fs fd bd tc tr ft tv tu fc M hS rm hr) ⟨rfl, rfl, by decide, by decide, by decide⟩ (q0 := 9) rfl rfl (by decide) (by decide) rfl rfl (Nat.le_of_ble_eq_true rfl) dX3_overpay_16 ?_
  rintro v9 w9 ⟨rfl, ft1, tv1, tu1, M1, ⟨hR, hM⟩, rfl⟩
  refine g_ws (w' := ((((wV h (ad 0) (a2 0) (bd 0) (pd 0) rm lt tk ov) ++ (wS a2 cI c2 gv gs gd)) ++ (wP pd cI cG fa fb N)) ++ (wT bd cI cG (cnt : Int) rm ft1 tv1 tu1 fc M1)) ++ (wS ad cI (cnt : Int) fv fs fd)) (st' := []) rfl rfl ?_
  refine g_perm (w' := ((((wV h (ad 0) (a2 0) (bd 0) (pd 0) rm lt tk ov) ++ (wS ad cI (cnt : Int) fv fs fd)) ++ (wS a2 cI c2 gv gs gd)) ++ (wT bd cI cG (cnt : Int) rm ft1 tv1 tu1 fc M1)) ++ (wP pd cI cG fa fb N)) [0, 37, 38, 39, 40, 1, 2, 3, 4, 22, 23, 24, 25, 26, 27, 28, 29, 30, 31, 32, 33, 34, 35, 36, 5, 6, 7, 8, 9, 10, 11, 12, 13, 14, 15, 16, 17, 18, 19, 20, 21] (by decide) rfl ?_
  refine g_aload_n C dX3_overpay_19 0 rfl ?_
  refine g_getf C fX3_22 0 rfl rfl dX3_overpay_20 ?_
  refine g_iload_n C dX3_overpay_23 1 rfl ?_
  refine g_callV (wr := (((wV h (ad 0) (a2 0) (bd 0) (pd 0) rm lt tk ov) ++ (wS ad cI (cnt : Int) fv fs fd)) ++ (wS a2 cI c2 gv gs gd)) ++ (wP pd cI cG fa fb N)) (st := []) [9, 10, 11, 12, 13, 14, 15, 16, 17, 18, 19, 20, 21, 22, 23] [0, 1, 2, 3, 4, 5, 6, 7, 8, 24, 25, 26, 27, 28, 29, 30, 31, 32, 33, 34, 35, 36, 37, 38, 39, 40] C cX3_112 (met_X2_moreThan l D cI cG cJ bd cnt hc rm hr ft1 tv1 tu1 fc M1 (fun r j h1 h2 => hM.bd hS (Nat.zero_le _) h1 h2) q (by omega)) ⟨rfl, rfl, by decide, by decide, by decide⟩ (q0 := 9) rfl rfl (by decide) (by decide) rfl rfl (Nat.le_of_ble_eq_true rfl) dX3_overpay_24 ?_
  rintro v9 w9 ⟨z9, rfl, rfl, rfl⟩
  refine g_ws (w' := ((((wV h (ad 0) (a2 0) (bd 0) (pd 0) rm lt tk ov) ++ (wS ad cI (cnt : Int) fv fs fd)) ++ (wS a2 cI c2 gv gs gd)) ++ (wP pd cI cG fa fb N)) ++ (wT bd cI cG (cnt : Int) rm ft1 tv1 tu1 fc M1)) (st' := [.int (zI (if fsm (M1 0) rm (360 - q) q = -1 then (-1 : Int) else fsm (M1 0) rm (360 - q) q - (q : Int)))]) rfl rfl ?_
  refine g_perm (w' := ((((wV h (ad 0) (a2 0) (bd 0) (pd 0) rm lt tk ov) ++ (wS ad cI (cnt : Int) fv fs fd)) ++ (wS a2 cI c2 gv gs gd)) ++ (wT bd cI cG (cnt : Int) rm ft1 tv1 tu1 fc M1)) ++ (wP pd cI cG fa fb N)) [0, 1, 2, 3, 4, 5, 6, 7, 8, 26, 27, 28, 29, 30, 31, 32, 33, 34, 35, 36, 37, 38, 39, 40, 9, 10, 11, 12, 13, 14, 15, 16, 17, 18, 19, 20, 21, 22, 23, 24, 25] (by decide) rfl ?_
  exact ret _ _ _ _ _ _ (by decide) (by decide) dX3_overpay_27 (⟨⟨hp9, by rw [hM.ls (by omega)] <;> rfl⟩, ⟨_, _, _, _, _, _, _, _, _, _, _, _, _, _, rfl⟩⟩)
abbrev rmX3_stampsFor : Room := { frames := 8, cells := 1, slots := 6, locals := 160 }
set_option maxHeartbeats 4000000 in
set_option maxRecDepth 100000 in
theorem met_X3_stampsFor (l : Launch) (hl9 : l.stackTraces = false) (D : va_G) (cI cG cJ : ClassId) (h : Nat) (ad a2 bd pd : Nat → Nat) (cnt : Nat) (fv fs fd : Nat → Int) (rm lt tk ov : Int) (hI : XI cnt fv fs rm) (c2 : Int) (gv gs gd : Nat → Int) (tc tr : Int) (ft tv tu fc : Nat → Int) (M : Nat → Nat → Int) (fa fb : Nat → Int) (N : Nat → Nat → Int) (p : Int) (hp : zr p)  : gMex l yX3_stampsFor cX3_stampsFor 2 (some .int) rmX3_stampsFor D cI cG cJ [.ref h, .int (zI p)] (((((wV h (ad 0) (a2 0) (bd 0) (pd 0) rm lt tk ov) ++ (wS ad cI (cnt : Int) fv fs fd)) ++ (wS a2 cI c2 gv gs gd)) ++ (wT bd cI cG tc tr ft tv tu fc M)) ++ (wP pd cI cG fa fb N)) (gI (fun z w9 => ((1 ≤ p ∧ p ≤ 300) ∧ z = (if LSm cnt fv fs rm p.toNat = -1 then (0 : Int) else TB cnt fv fs rm (LSm cnt fv fs rm p.toNat).toNat)) ∧ XW h ad a2 bd pd cI cG cnt fv fs fd rm lt tk ov w9)) (fun nm w9 => nm = IAE ∧ ¬ (1 ≤ p ∧ p ≤ 300) ∧ XW h ad a2 bd pd cI cG cnt fv fs fd rm lt tk ov w9) := by
  obtain ⟨hc, hS, h99, hr1, hr2⟩ := id hI
  have hr : 0 ≤ rm ∧ rm ≤ 12 := ⟨by omega, hr2⟩
  have hv1 : ∀ j, j < cnt → 1 ≤ fv j := fun j hj => (hS.1 j hj).1
  refine gMex_I hl9 (by decide) rfl (Nat.le_of_ble_eq_true rfl) (fun E C ret out thr => ?_)
  refine g_iload_n C dX3_stampsFor_0 1 rfl ?_
  refine g_callSX (wr := ((((wV h (ad 0) (a2 0) (bd 0) (pd 0) rm lt tk ov) ++ (wS ad cI (cnt : Int) fv fs fd)) ++ (wS a2 cI c2 gv gs gd)) ++ (wT bd cI cG tc tr ft tv tu fc M)) ++ (wP pd cI cG fa fb N)) (st := []) [] [0, 1, 2, 3, 4, 5, 6, 7, 8, 9, 10, 11, 12, 13, 14, 15, 16, 17, 18, 19, 20, 21, 22, 23, 24, 25, 26, 27, 28, 29, 30, 31, 32, 33, 34, 35, 36, 37, 38, 39, 40] C cX3_82 (met_X3_checkPostage l hl9 D cI cG cJ p hp) ⟨rfl, rfl, by decide, by decide, by decide⟩ (by decide) (by decide) rfl rfl (Nat.le_of_ble_eq_true rfl) dX3_stampsFor_1 (fun nm9 w9 h9 => ?_) ?_
  · obtain ⟨rfl, h8, rfl⟩ := h9
    refine gx_perm (w' := ((((wV h (ad 0) (a2 0) (bd 0) (pd 0) rm lt tk ov) ++ (wS ad cI (cnt : Int) fv fs fd)) ++ (wS a2 cI c2 gv gs gd)) ++ (wT bd cI cG tc tr ft tv tu fc M)) ++ (wP pd cI cG fa fb N)) [0, 1, 2, 3, 4, 5, 6, 7, 8, 9, 10, 11, 12, 13, 14, 15, 16, 17, 18, 19, 20, 21, 22, 23, 24, 25, 26, 27, 28, 29, 30, 31, 32, 33, 34, 35, 36, 37, 38, 39, 40] (by decide) rfl ?_
    exact out _ _ _ _ _ _ (by decide) (by decide) (⟨rfl, h8, ⟨_, _, _, _, _, _, _, _, _, _, _, _, _, _, rfl⟩⟩)
  rintro v9 w9 ⟨rfl, hp9, rfl⟩
  obtain ⟨q, rfl⟩ : ∃ q : Nat, p = (q : Int) := ⟨p.toNat, by omega⟩
  refine g_ws (w' := ((((wV h (ad 0) (a2 0) (bd 0) (pd 0) rm lt tk ov) ++ (wS ad cI (cnt : Int) fv fs fd)) ++ (wS a2 cI c2 gv gs gd)) ++ (wT bd cI cG tc tr ft tv tu fc M)) ++ (wP pd cI cG fa fb N)) (st' := []) rfl rfl ?_
  refine g_aload_n C dX3_stampsFor_4 0 rfl ?_
  refine g_getf C fX3_22 0 rfl rfl dX3_stampsFor_5 ?_
  refine g_aload_n C dX3_stampsFor_8 0 rfl ?_
  refine g_getf C fX3_12 0 rfl rfl dX3_stampsFor_9 ?_
  refine g_aload_n C dX3_stampsFor_12 0 rfl ?_
  refine g_getf C fX3_33 0 rfl rfl dX3_stampsFor_13 ?_
  refine g_callV (wr := ((wV h (ad 0) (a2 0) (bd 0) (pd 0) rm lt tk ov) ++ (wS a2 cI c2 gv gs gd)) ++ (wP pd cI cG fa fb N)) (st := []) [9, 10, 11, 12, 13, 14, 15, 16, 17, 18, 19, 20, 21, 22, 23, 1, 2, 3, 4] [0, 5, 6, 7, 8, 24, 25, 26, 27, 28, 29, 30, 31, 32, 33, 34, 35, 36, 37, 38, 39, 40] C cX3_85 (met_X2_fill l D cI cG cJ ad cnt hc fv fs fd bd tc tr ft tv tu fc M hS rm hr) ⟨rfl, rfl, by decide, by decide, by decide⟩ (q0 := 9) rfl rfl (by decide) (by decide) rfl rfl (Nat.le_of_ble_eq_true rfl) dX3_stampsFor_16 ?_
  rintro v9 w9 ⟨rfl, ft1, tv1, tu1, M1, ⟨hR, hM⟩, rfl⟩
  refine g_ws (w' := ((((wV h (ad 0) (a2 0) (bd 0) (pd 0) rm lt tk ov) ++ (wS a2 cI c2 gv gs gd)) ++ (wP pd cI cG fa fb N)) ++ (wT bd cI cG (cnt : Int) rm ft1 tv1 tu1 fc M1)) ++ (wS ad cI (cnt : Int) fv fs fd)) (st' := []) rfl rfl ?_
  refine g_perm (w' := ((((wV h (ad 0) (a2 0) (bd 0) (pd 0) rm lt tk ov) ++ (wS ad cI (cnt : Int) fv fs fd)) ++ (wS a2 cI c2 gv gs gd)) ++ (wT bd cI cG (cnt : Int) rm ft1 tv1 tu1 fc M1)) ++ (wP pd cI cG fa fb N)) [0, 37, 38, 39, 40, 1, 2, 3, 4, 22, 23, 24, 25, 26, 27, 28, 29, 30, 31, 32, 33, 34, 35, 36, 5, 6, 7, 8, 9, 10, 11, 12, 13, 14, 15, 16, 17, 18, 19, 20, 21] (by decide) rfl ?_
  refine g_aload_n C dX3_stampsFor_19 0 rfl ?_
  refine g_getf C fX3_22 0 rfl rfl dX3_stampsFor_20 ?_
  refine g_iload_n C dX3_stampsFor_23 1 rfl ?_
  refine g_callV (wr := (((wV h (ad 0) (a2 0) (bd 0) (pd 0) rm lt tk ov) ++ (wS ad cI (cnt : Int) fv fs fd)) ++ (wS a2 cI c2 gv gs gd)) ++ (wP pd cI cG fa fb N)) (st := []) [9, 10, 11, 12, 13, 14, 15, 16, 17, 18, 19, 20, 21, 22, 23] [0, 1, 2, 3, 4, 5, 6, 7, 8, 24, 25, 26, 27, 28, 29, 30, 31, 32, 33, 34, 35, 36, 37, 38, 39, 40] C cX3_115 (met_X2_stampsOnLetter l D cI cG cJ bd cnt hc rm hr ft1 tv1 tu1 fc M1 (fun r j h1 h2 => hM.bd hS (Nat.zero_le _) h1 h2) q (by omega)) ⟨rfl, rfl, by decide, by decide, by decide⟩ (q0 := 9) rfl rfl (by decide) (by decide) rfl rfl (Nat.le_of_ble_eq_true rfl) dX3_stampsFor_24 ?_
  rintro v9 w9 ⟨z9, rfl, rfl, rfl⟩
  refine g_ws (w' := ((((wV h (ad 0) (a2 0) (bd 0) (pd 0) rm lt tk ov) ++ (wS ad cI (cnt : Int) fv fs fd)) ++ (wS a2 cI c2 gv gs gd)) ++ (wP pd cI cG fa fb N)) ++ (wT bd cI cG (cnt : Int) rm ft1 tv1 tu1 fc M1)) (st' := [.int (zI (if fsm (M1 0) rm (360 - q) q = -1 then (0 : Int) else M1 0 (fsm (M1 0) rm (360 - q) q).toNat))]) rfl rfl ?_
  refine g_perm (w' := ((((wV h (ad 0) (a2 0) (bd 0) (pd 0) rm lt tk ov) ++ (wS ad cI (cnt : Int) fv fs fd)) ++ (wS a2 cI c2 gv gs gd)) ++ (wT bd cI cG (cnt : Int) rm ft1 tv1 tu1 fc M1)) ++ (wP pd cI cG fa fb N)) [0, 1, 2, 3, 4, 5, 6, 7, 8, 26, 27, 28, 29, 30, 31, 32, 33, 34, 35, 36, 37, 38, 39, 40, 9, 10, 11, 12, 13, 14, 15, 16, 17, 18, 19, 20, 21, 22, 23, 24, 25] (by decide) rfl ?_
  have hrg := LSm_rg (cnt := cnt) (fv := fv) (fs := fs) (rm := rm) (p := q) (by omega)
  exact ret _ _ _ _ _ _ (by decide) (by decide) dX3_stampsFor_27 (⟨⟨hp9, by rw [hM.ls (by omega), hM.tb0 (by omega)] <;> rfl⟩, ⟨_, _, _, _, _, _, _, _, _, _, _, _, _, _, rfl⟩⟩)
abbrev rmX3_reachNow : Room := { frames := 3, cells := 0, slots := 0, locals := 90 }
set_option maxHeartbeats 4000000 in
set_option maxRecDepth 100000 in
theorem met_X3_reachNow (l : Launch) (D : va_G) (cI cG cJ : ClassId) (h : Nat) (ad a2 bd pd : Nat → Nat) (cnt : Nat) (fv fs fd : Nat → Int) (rm lt tk ov : Int) (hI : XI cnt fv fs rm) (c2 : Int) (gv gs gd : Nat → Int) (tc tr : Int) (ft tv tu fc : Nat → Int) (M : Nat → Nat → Int) (fa fb : Nat → Int) (N : Nat → Nat → Int)  : gMet l yX3_reachNow cX3_reachNow 1 (some .int) rmX3_reachNow D cI cG cJ [.ref h] (((((wV h (ad 0) (a2 0) (bd 0) (pd 0) rm lt tk ov) ++ (wS ad cI (cnt : Int) fv fs fd)) ++ (wS a2 cI c2 gv gs gd)) ++ (wT bd cI cG tc tr ft tv tu fc M)) ++ (wP pd cI cG fa fb N)) (gI (fun z w9 => z = (RC cnt fv fs rm : Int) ∧ XW h ad a2 bd pd cI cG cnt fv fs fd rm lt tk ov w9)) := by
  obtain ⟨hc, hS, h99, hr1, hr2⟩ := id hI
  have hr : 0 ≤ rm ∧ rm ≤ 12 := ⟨by omega, hr2⟩
  have hv1 : ∀ j, j < cnt → 1 ≤ fv j := fun j hj => (hS.1 j hj).1
  refine gMet_I (by decide) rfl (Nat.le_of_ble_eq_true rfl) (fun E C ret => ?_)
  refine g_aload_n C dX3_reachNow_0 0 rfl ?_
  refine g_getf C fX3_22 0 rfl rfl dX3_reachNow_1 ?_
  refine g_aload_n C dX3_reachNow_4 0 rfl ?_
  refine g_getf C fX3_12 0 rfl rfl dX3_reachNow_5 ?_
  refine g_aload_n C dX3_reachNow_8 0 rfl ?_
  refine g_getf C fX3_33 0 rfl rfl dX3_reachNow_9 ?_
  refine g_callV (wr := ((wV h (ad 0) (a2 0) (bd 0) (pd 0) rm lt tk ov) ++ (wS a2 cI c2 gv gs gd)) ++ (wP pd cI cG fa fb N)) (st := []) [9, 10, 11, 12, 13, 14, 15, 16, 17, 18, 19, 20, 21, 22, 23, 1, 2, 3, 4] [0, 5, 6, 7, 8, 24, 25, 26, 27, 28, 29, 30, 31, 32, 33, 34, 35, 36, 37, 38, 39, 40] C cX3_85 (met_X2_fill l D cI cG cJ ad cnt hc fv fs fd bd tc tr ft tv tu fc M hS rm hr) ⟨rfl, rfl, by decide, by decide, by decide⟩ (q0 := 9) rfl rfl (by decide) (by decide) rfl rfl (Nat.le_of_ble_eq_true rfl) dX3_reachNow_12 ?_
  rintro v9 w9 ⟨rfl, ft1, tv1, tu1, M1, ⟨hR, hM⟩, rfl⟩
  refine g_ws (w' := ((((wV h (ad 0) (a2 0) (bd 0) (pd 0) rm lt tk ov) ++ (wS a2 cI c2 gv gs gd)) ++ (wP pd cI cG fa fb N)) ++ (wT bd cI cG (cnt : Int) rm ft1 tv1 tu1 fc M1)) ++ (wS ad cI (cnt : Int) fv fs fd)) (st' := []) rfl rfl ?_
  refine g_perm (w' := ((((wV h (ad 0) (a2 0) (bd 0) (pd 0) rm lt tk ov) ++ (wS ad cI (cnt : Int) fv fs fd)) ++ (wS a2 cI c2 gv gs gd)) ++ (wT bd cI cG (cnt : Int) rm ft1 tv1 tu1 fc M1)) ++ (wP pd cI cG fa fb N)) [0, 37, 38, 39, 40, 1, 2, 3, 4, 22, 23, 24, 25, 26, 27, 28, 29, 30, 31, 32, 33, 34, 35, 36, 5, 6, 7, 8, 9, 10, 11, 12, 13, 14, 15, 16, 17, 18, 19, 20, 21] (by decide) rfl ?_
  refine g_aload_n C dX3_reachNow_15 0 rfl ?_
  refine g_getf C fX3_22 0 rfl rfl dX3_reachNow_16 ?_
  refine g_callV (wr := (((wV h (ad 0) (a2 0) (bd 0) (pd 0) rm lt tk ov) ++ (wS ad cI (cnt : Int) fv fs fd)) ++ (wS a2 cI c2 gv gs gd)) ++ (wP pd cI cG fa fb N)) (st := []) [9, 10, 11, 12, 13, 14, 15, 16, 17, 18, 19, 20, 21, 22, 23] [0, 1, 2, 3, 4, 5, 6, 7, 8, 24, 25, 26, 27, 28, 29, 30, 31, 32, 33, 34, 35, 36, 37, 38, 39, 40] C cX3_118 (met_X2_reachOfStock l D cI cG cJ bd cnt hc rm hr ft1 tv1 tu1 fc M1 (fun r j h1 h2 => hM.bd hS (Nat.zero_le _) h1 h2)) ⟨rfl, rfl, by decide, by decide, by decide⟩ (q0 := 9) rfl rfl (by decide) (by decide) rfl rfl (Nat.le_of_ble_eq_true rfl) dX3_reachNow_19 ?_
  rintro v9 w9 ⟨z9, rfl, rfl, rfl⟩
  refine g_ws (w' := ((((wV h (ad 0) (a2 0) (bd 0) (pd 0) rm lt tk ov) ++ (wS ad cI (cnt : Int) fv fs fd)) ++ (wS a2 cI c2 gv gs gd)) ++ (wP pd cI cG fa fb N)) ++ (wT bd cI cG (cnt : Int) rm ft1 tv1 tu1 fc M1)) (st' := [.int (zI ((rch (M1 0) rm 300 0 : Nat) : Int))]) rfl rfl ?_
  refine g_perm (w' := ((((wV h (ad 0) (a2 0) (bd 0) (pd 0) rm lt tk ov) ++ (wS ad cI (cnt : Int) fv fs fd)) ++ (wS a2 cI c2 gv gs gd)) ++ (wT bd cI cG (cnt : Int) rm ft1 tv1 tu1 fc M1)) ++ (wP pd cI cG fa fb N)) [0, 1, 2, 3, 4, 5, 6, 7, 8, 26, 27, 28, 29, 30, 31, 32, 33, 34, 35, 36, 37, 38, 39, 40, 9, 10, 11, 12, 13, 14, 15, 16, 17, 18, 19, 20, 21, 22, 23, 24, 25] (by decide) rfl ?_
  exact ret _ _ _ _ _ _ (by decide) (by decide) dX3_reachNow_22 (⟨by rw [hM.rc], ⟨_, _, _, _, _, _, _, _, _, _, _, _, _, _, rfl⟩⟩)
abbrev rmX3_most : Room := { frames := 3, cells := 0, slots := 0, locals := 90 }
set_option maxHeartbeats 4000000 in
set_option maxRecDepth 100000 in
theorem met_X3_most (l : Launch) (D : va_G) (cI cG cJ : ClassId) (h : Nat) (ad a2 bd pd : Nat → Nat) (cnt : Nat) (fv fs fd : Nat → Int) (rm lt tk ov : Int) (hI : XI cnt fv fs rm) (c2 : Int) (gv gs gd : Nat → Int) (tc tr : Int) (ft tv tu fc : Nat → Int) (M : Nat → Nat → Int) (fa fb : Nat → Int) (N : Nat → Nat → Int)  : gMet l yX3_most cX3_most 1 (some .int) rmX3_most D cI cG cJ [.ref h] (((((wV h (ad 0) (a2 0) (bd 0) (pd 0) rm lt tk ov) ++ (wS ad cI (cnt : Int) fv fs fd)) ++ (wS a2 cI c2 gv gs gd)) ++ (wT bd cI cG tc tr ft tv tu fc M)) ++ (wP pd cI cG fa fb N)) (gI (fun z w9 => z = GS cnt fv fs rm ∧ XW h ad a2 bd pd cI cG cnt fv fs fd rm lt tk ov w9)) := by
  obtain ⟨hc, hS, h99, hr1, hr2⟩ := id hI
  have hr : 0 ≤ rm ∧ rm ≤ 12 := ⟨by omega, hr2⟩
  have hv1 : ∀ j, j < cnt → 1 ≤ fv j := fun j hj => (hS.1 j hj).1
  refine gMet_I (by decide) rfl (Nat.le_of_ble_eq_true rfl) (fun E C ret => ?_)
  refine g_aload_n C dX3_most_0 0 rfl ?_
  refine g_getf C fX3_22 0 rfl rfl dX3_most_1 ?_
  refine g_aload_n C dX3_most_4 0 rfl ?_
  refine g_getf C fX3_12 0 rfl rfl dX3_most_5 ?_
  refine g_aload_n C dX3_most_8 0 rfl ?_
  refine g_getf C fX3_33 0 rfl rfl dX3_most_9 ?_
  refine g_callV (wr := ((wV h (ad 0) (a2 0) (bd 0) (pd 0) rm lt tk ov) ++ (wS a2 cI c2 gv gs gd)) ++ (wP pd cI cG fa fb N)) (st := []) [9, 10, 11, 12, 13, 14, 15, 16, 17, 18, 19, 20, 21, 22, 23, 1, 2, 3, 4] [0, 5, 6, 7, 8, 24, 25, 26, 27, 28, 29, 30, 31, 32, 33, 34, 35, 36, 37, 38, 39, 40] C cX3_122 (met_X2_rank l D cI cG cJ ad cnt hc fv fs fd bd tc tr ft tv tu fc M (fun j hj => by have := hS.1 j hj; exact zr_i (by omega) (by omega)) (fun j hj => by have := hS.2.1 j hj; exact zr_i (by omega) (by omega)) rm (zr_i (by omega) (by omega))) ⟨rfl, rfl, by decide, by decide, by decide⟩ (q0 := 9) rfl rfl (by decide) (by decide) rfl rfl (Nat.le_of_ble_eq_true rfl) dX3_most_12 ?_
  rintro v9 w9 ⟨rfl, rfl⟩
  refine g_ws (w' := ((((wV h (ad 0) (a2 0) (bd 0) (pd 0) rm lt tk ov) ++ (wS a2 cI c2 gv gs gd)) ++ (wP pd cI cG fa fb N)) ++ (wT bd cI cG (cnt : Int) rm (rkU (fun s => cab fv (fv s) cnt) (fun s => (s : Int)) ft cnt) (rkU (fun s => cab fv (fv s) cnt) fv tv cnt) (rkU (fun s => cab fv (fv s) cnt) (fun s => min (fs s) rm) tu cnt) fc M)) ++ (wS ad cI (cnt : Int) fv fs fd)) (st' := []) rfl rfl ?_
  refine g_perm (w' := ((((wV h (ad 0) (a2 0) (bd 0) (pd 0) rm lt tk ov) ++ (wS ad cI (cnt : Int) fv fs fd)) ++ (wS a2 cI c2 gv gs gd)) ++ (wT bd cI cG (cnt : Int) rm (rkU (fun s => cab fv (fv s) cnt) (fun s => (s : Int)) ft cnt) (rkU (fun s => cab fv (fv s) cnt) fv tv cnt) (rkU (fun s => cab fv (fv s) cnt) (fun s => min (fs s) rm) tu cnt) fc M)) ++ (wP pd cI cG fa fb N)) [0, 37, 38, 39, 40, 1, 2, 3, 4, 22, 23, 24, 25, 26, 27, 28, 29, 30, 31, 32, 33, 34, 35, 36, 5, 6, 7, 8, 9, 10, 11, 12, 13, 14, 15, 16, 17, 18, 19, 20, 21] (by decide) rfl ?_
  have hR := fill_Rok (ft := ft) (tv := tv) (tu := tu) (rm := rm) hS
  generalize (rkU (fun s => cab fv (fv s) cnt) (fun s => (s : Int)) ft cnt) = ft1 at hR ⊢
  generalize (rkU (fun s => cab fv (fv s) cnt) fv tv cnt) = tv1 at hR ⊢
  generalize (rkU (fun s => cab fv (fv s) cnt) (fun s => min (fs s) rm) tu cnt) = tu1 at hR ⊢
  refine g_ws (w' := ((((wV h (ad 0) (a2 0) (bd 0) (pd 0) rm lt tk ov) ++ (wS ad cI (cnt : Int) fv fs fd)) ++ (wS a2 cI c2 gv gs gd)) ++ (wT bd cI cG (cnt : Int) rm ft1 tv1 tu1 fc M)) ++ (wP pd cI cG fa fb N)) (rfl) rfl ?_
  refine g_aload_n C dX3_most_15 0 rfl ?_
  refine g_getf C fX3_22 0 rfl rfl dX3_most_16 ?_
  refine g_callV (wr := (((wV h (ad 0) (a2 0) (bd 0) (pd 0) rm lt tk ov) ++ (wS ad cI (cnt : Int) fv fs fd)) ++ (wS a2 cI c2 gv gs gd)) ++ (wP pd cI cG fa fb N)) (st := []) [9, 10, 11, 12, 13, 14, 15, 16, 17, 18, 19, 20, 21, 22, 23] [0, 1, 2, 3, 4, 5, 6, 7, 8, 24, 25, 26, 27, 28, 29, 30, 31, 32, 33, 34, 35, 36, 37, 38, 39, 40] C cX3_125 (met_X2_greatestSum l D cI cG cJ bd cnt hc rm hr ft1 tv1 tu1 fc M (hR.tv hS) (fun r h9 => by have := hR.tu hS hr r h9; omega)) ⟨rfl, rfl, by decide, by decide, by decide⟩ (q0 := 9) rfl rfl (by decide) (by decide) rfl rfl (Nat.le_of_ble_eq_true rfl) dX3_most_19 ?_
  rintro v9 w9 ⟨z9, rfl, rfl, rfl⟩
  refine g_ws (w' := ((((wV h (ad 0) (a2 0) (bd 0) (pd 0) rm lt tk ov) ++ (wS ad cI (cnt : Int) fv fs fd)) ++ (wS a2 cI c2 gv gs gd)) ++ (wP pd cI cG fa fb N)) ++ (wT bd cI cG (cnt : Int) rm ft1 tv1 tu1 fc M)) (st' := [.int (zI ((gsm tv1 tu1 rm cnt).2))]) rfl rfl ?_
  refine g_perm (w' := ((((wV h (ad 0) (a2 0) (bd 0) (pd 0) rm lt tk ov) ++ (wS ad cI (cnt : Int) fv fs fd)) ++ (wS a2 cI c2 gv gs gd)) ++ (wT bd cI cG (cnt : Int) rm ft1 tv1 tu1 fc M)) ++ (wP pd cI cG fa fb N)) [0, 1, 2, 3, 4, 5, 6, 7, 8, 26, 27, 28, 29, 30, 31, 32, 33, 34, 35, 36, 37, 38, 39, 40, 9, 10, 11, 12, 13, 14, 15, 16, 17, 18, 19, 20, 21, 22, 23, 24, 25] (by decide) rfl ?_
  exact ret _ _ _ _ _ _ (by decide) (by decide) dX3_most_22 (⟨hR.gs, ⟨_, _, _, _, _, _, _, _, _, _, _, _, _, _, rfl⟩⟩)
abbrev rmX3_fewest : Room := { frames := 8, cells := 1, slots := 6, locals := 160 }
set_option maxHeartbeats 4000000 in
set_option maxRecDepth 100000 in
theorem met_X3_fewest (l : Launch) (hl9 : l.stackTraces = false) (D : va_G) (cI cG cJ : ClassId) (h : Nat) (ad a2 bd pd : Nat → Nat) (cnt : Nat) (fv fs fd : Nat → Int) (rm lt tk ov : Int) (hI : XI cnt fv fs rm) (c2 : Int) (gv gs gd : Nat → Int) (tc tr : Int) (ft tv tu fc : Nat → Int) (M : Nat → Nat → Int) (fa fb : Nat → Int) (N : Nat → Nat → Int) (p : Int) (hp : zr p)  : gMex l yX3_fewest cX3_fewest 2 (some .int) rmX3_fewest D cI cG cJ [.ref h, .int (zI p)] (((((wV h (ad 0) (a2 0) (bd 0) (pd 0) rm lt tk ov) ++ (wS ad cI (cnt : Int) fv fs fd)) ++ (wS a2 cI c2 gv gs gd)) ++ (wT bd cI cG tc tr ft tv tu fc M)) ++ (wP pd cI cG fa fb N)) (gI (fun z w9 => ((1 ≤ p ∧ p ≤ 300) ∧ z = (if PF fv cnt 0 p.toNat ≤ rm then PF fv cnt 0 p.toNat else (-1))) ∧ XW h ad a2 bd pd cI cG cnt fv fs fd rm lt tk ov w9)) (fun nm w9 => nm = IAE ∧ ¬ (1 ≤ p ∧ p ≤ 300) ∧ XW h ad a2 bd pd cI cG cnt fv fs fd rm lt tk ov w9) := by
  obtain ⟨hc, hS, h99, hr1, hr2⟩ := id hI
  have hr : 0 ≤ rm ∧ rm ≤ 12 := ⟨by omega, hr2⟩
  have hv1 : ∀ j, j < cnt → 1 ≤ fv j := fun j hj => (hS.1 j hj).1
  refine gMex_I hl9 (by decide) rfl (Nat.le_of_ble_eq_true rfl) (fun E C ret out thr => ?_)
  refine g_iload_n C dX3_fewest_0 1 rfl ?_
  refine g_callSX (wr := ((((wV h (ad 0) (a2 0) (bd 0) (pd 0) rm lt tk ov) ++ (wS ad cI (cnt : Int) fv fs fd)) ++ (wS a2 cI c2 gv gs gd)) ++ (wT bd cI cG tc tr ft tv tu fc M)) ++ (wP pd cI cG fa fb N)) (st := []) [] [0, 1, 2, 3, 4, 5, 6, 7, 8, 9, 10, 11, 12, 13, 14, 15, 16, 17, 18, 19, 20, 21, 22, 23, 24, 25, 26, 27, 28, 29, 30, 31, 32, 33, 34, 35, 36, 37, 38, 39, 40] C cX3_82 (met_X3_checkPostage l hl9 D cI cG cJ p hp) ⟨rfl, rfl, by decide, by decide, by decide⟩ (by decide) (by decide) rfl rfl (Nat.le_of_ble_eq_true rfl) dX3_fewest_1 (fun nm9 w9 h9 => ?_) ?_
  · obtain ⟨rfl, h8, rfl⟩ := h9
    refine gx_perm (w' := ((((wV h (ad 0) (a2 0) (bd 0) (pd 0) rm lt tk ov) ++ (wS ad cI (cnt : Int) fv fs fd)) ++ (wS a2 cI c2 gv gs gd)) ++ (wT bd cI cG tc tr ft tv tu fc M)) ++ (wP pd cI cG fa fb N)) [0, 1, 2, 3, 4, 5, 6, 7, 8, 9, 10, 11, 12, 13, 14, 15, 16, 17, 18, 19, 20, 21, 22, 23, 24, 25, 26, 27, 28, 29, 30, 31, 32, 33, 34, 35, 36, 37, 38, 39, 40] (by decide) rfl ?_
    exact out _ _ _ _ _ _ (by decide) (by decide) (⟨rfl, h8, ⟨_, _, _, _, _, _, _, _, _, _, _, _, _, _, rfl⟩⟩)
  rintro v9 w9 ⟨rfl, hp9, rfl⟩
  obtain ⟨q, rfl⟩ : ∃ q : Nat, p = (q : Int) := ⟨p.toNat, by omega⟩
  refine g_ws (w' := ((((wV h (ad 0) (a2 0) (bd 0) (pd 0) rm lt tk ov) ++ (wS ad cI (cnt : Int) fv fs fd)) ++ (wS a2 cI c2 gv gs gd)) ++ (wT bd cI cG tc tr ft tv tu fc M)) ++ (wP pd cI cG fa fb N)) (st' := []) rfl rfl ?_
  refine g_aload_n C dX3_fewest_4 0 rfl ?_
  refine g_getf C fX3_29 0 rfl rfl dX3_fewest_5 ?_
  refine g_aload_n C dX3_fewest_8 0 rfl ?_
  refine g_getf C fX3_12 0 rfl rfl dX3_fewest_9 ?_
  refine g_callV (wr := ((wV h (ad 0) (a2 0) (bd 0) (pd 0) rm lt tk ov) ++ (wS a2 cI c2 gv gs gd)) ++ (wT bd cI cG tc tr ft tv tu fc M)) (st := []) [24, 25, 26, 27, 28, 29, 30, 31, 32, 33, 34, 35, 36, 37, 38, 39, 40, 1, 2, 3, 4] [0, 5, 6, 7, 8, 9, 10, 11, 12, 13, 14, 15, 16, 17, 18, 19, 20, 21, 22, 23] C cX3_128 (met_X0_fill l D cI cG cJ ad cnt hc fv fs fd hS.1 pd fa fb N) ⟨rfl, rfl, by decide, by decide, by decide⟩ (q0 := 24) rfl rfl (by decide) (by decide) rfl rfl (Nat.le_of_ble_eq_true rfl) dX3_fewest_12 ?_
  rintro v9 w9 ⟨rfl, fa1, hP, rfl⟩
  have hb1 := hP.bd2 hv1
  refine g_ws (w' := ((((wV h (ad 0) (a2 0) (bd 0) (pd 0) rm lt tk ov) ++ (wS a2 cI c2 gv gs gd)) ++ (wT bd cI cG tc tr ft tv tu fc M)) ++ (wP pd cI cG fa1 fb N)) ++ (wS ad cI (cnt : Int) fv fs fd)) (st' := []) rfl rfl ?_
  refine g_perm (w' := ((((wV h (ad 0) (a2 0) (bd 0) (pd 0) rm lt tk ov) ++ (wS ad cI (cnt : Int) fv fs fd)) ++ (wS a2 cI c2 gv gs gd)) ++ (wT bd cI cG tc tr ft tv tu fc M)) ++ (wP pd cI cG fa1 fb N)) [0, 37, 38, 39, 40, 1, 2, 3, 4, 5, 6, 7, 8, 9, 10, 11, 12, 13, 14, 15, 16, 17, 18, 19, 20, 21, 22, 23, 24, 25, 26, 27, 28, 29, 30, 31, 32, 33, 34, 35, 36] (by decide) rfl ?_
  refine g_aload_n C dX3_fewest_15 0 rfl ?_
  refine g_getf C fX3_29 0 rfl rfl dX3_fewest_16 ?_
  refine g_iload_n C dX3_fewest_19 1 rfl ?_
  refine g_aload_n C dX3_fewest_20 0 rfl ?_
  refine g_getf C fX3_33 0 rfl rfl dX3_fewest_21 ?_
  refine g_callV (wr := (((wV h (ad 0) (a2 0) (bd 0) (pd 0) rm lt tk ov) ++ (wS ad cI (cnt : Int) fv fs fd)) ++ (wS a2 cI c2 gv gs gd)) ++ (wT bd cI cG tc tr ft tv tu fc M)) (st := []) [24, 25, 26, 27, 28, 29, 30, 31, 32, 33, 34, 35, 36, 37, 38, 39, 40] [0, 1, 2, 3, 4, 5, 6, 7, 8, 9, 10, 11, 12, 13, 14, 15, 16, 17, 18, 19, 20, 21, 22, 23] C cX3_131 (met_X0_fewestWithin l D cI cG cJ pd fa1 fb N hb1 rm hr q (by omega)) ⟨rfl, rfl, by decide, by decide, by decide⟩ (q0 := 24) rfl rfl (by decide) (by decide) rfl rfl (Nat.le_of_ble_eq_true rfl) dX3_fewest_24 ?_
  rintro v9 w9 ⟨z9, rfl, rfl, rfl⟩
  refine g_ws (w' := ((((wV h (ad 0) (a2 0) (bd 0) (pd 0) rm lt tk ov) ++ (wS ad cI (cnt : Int) fv fs fd)) ++ (wS a2 cI c2 gv gs gd)) ++ (wT bd cI cG tc tr ft tv tu fc M)) ++ (wP pd cI cG fa1 fb N)) (st' := [.int (zI (if fa1 q ≤ rm then fa1 q else (-1)))]) rfl rfl ?_
  refine g_perm (w' := ((((wV h (ad 0) (a2 0) (bd 0) (pd 0) rm lt tk ov) ++ (wS ad cI (cnt : Int) fv fs fd)) ++ (wS a2 cI c2 gv gs gd)) ++ (wT bd cI cG tc tr ft tv tu fc M)) ++ (wP pd cI cG fa1 fb N)) [0, 1, 2, 3, 4, 5, 6, 7, 8, 9, 10, 11, 12, 13, 14, 15, 16, 17, 18, 19, 20, 21, 22, 23, 24, 25, 26, 27, 28, 29, 30, 31, 32, 33, 34, 35, 36, 37, 38, 39, 40] (by decide) rfl ?_
  exact ret _ _ _ _ _ _ (by decide) (by decide) dX3_fewest_27 (⟨⟨hp9, by rw [hP.eq hv1 (by omega)] <;> rfl⟩, ⟨_, _, _, _, _, _, _, _, _, _, _, _, _, _, rfl⟩⟩)
abbrev rmX3_gapFrom : Room := { frames := 8, cells := 1, slots := 6, locals := 160 }
set_option maxHeartbeats 4000000 in
set_option maxRecDepth 100000 in
theorem met_X3_gapFrom (l : Launch) (hl9 : l.stackTraces = false) (D : va_G) (cI cG cJ : ClassId) (h : Nat) (ad a2 bd pd : Nat → Nat) (cnt : Nat) (fv fs fd : Nat → Int) (rm lt tk ov : Int) (hI : XI cnt fv fs rm) (c2 : Int) (gv gs gd : Nat → Int) (tc tr : Int) (ft tv tu fc : Nat → Int) (M : Nat → Nat → Int) (fa fb : Nat → Int) (N : Nat → Nat → Int) (p : Int) (hp : zr p)  : gMex l yX3_gapFrom cX3_gapFrom 2 (some .int) rmX3_gapFrom D cI cG cJ [.ref h, .int (zI p)] (((((wV h (ad 0) (a2 0) (bd 0) (pd 0) rm lt tk ov) ++ (wS ad cI (cnt : Int) fv fs fd)) ++ (wS a2 cI c2 gv gs gd)) ++ (wT bd cI cG tc tr ft tv tu fc M)) ++ (wP pd cI cG fa fb N)) (gI (fun z w9 => ((1 ≤ p ∧ p ≤ 300) ∧ z = fgp (PF fv cnt 0) rm (301 - p.toNat) p.toNat) ∧ XW h ad a2 bd pd cI cG cnt fv fs fd rm lt tk ov w9)) (fun nm w9 => nm = IAE ∧ ¬ (1 ≤ p ∧ p ≤ 300) ∧ XW h ad a2 bd pd cI cG cnt fv fs fd rm lt tk ov w9) := by
  obtain ⟨hc, hS, h99, hr1, hr2⟩ := id hI
  have hr : 0 ≤ rm ∧ rm ≤ 12 := ⟨by omega, hr2⟩
  have hv1 : ∀ j, j < cnt → 1 ≤ fv j := fun j hj => (hS.1 j hj).1
  refine gMex_I hl9 (by decide) rfl (Nat.le_of_ble_eq_true rfl) (fun E C ret out thr => ?_)
  refine g_iload_n C dX3_gapFrom_0 1 rfl ?_
  refine g_callSX (wr := ((((wV h (ad 0) (a2 0) (bd 0) (pd 0) rm lt tk ov) ++ (wS ad cI (cnt : Int) fv fs fd)) ++ (wS a2 cI c2 gv gs gd)) ++ (wT bd cI cG tc tr ft tv tu fc M)) ++ (wP pd cI cG fa fb N)) (st := []) [] [0, 1, 2, 3, 4, 5, 6, 7, 8, 9, 10, 11, 12, 13, 14, 15, 16, 17, 18, 19, 20, 21, 22, 23, 24, 25, 26, 27, 28, 29, 30, 31, 32, 33, 34, 35, 36, 37, 38, 39, 40] C cX3_82 (met_X3_checkPostage l hl9 D cI cG cJ p hp) ⟨rfl, rfl, by decide, by decide, by decide⟩ (by decide) (by decide) rfl rfl (Nat.le_of_ble_eq_true rfl) dX3_gapFrom_1 (fun nm9 w9 h9 => ?_) ?_
  · obtain ⟨rfl, h8, rfl⟩ := h9
    refine gx_perm (w' := ((((wV h (ad 0) (a2 0) (bd 0) (pd 0) rm lt tk ov) ++ (wS ad cI (cnt : Int) fv fs fd)) ++ (wS a2 cI c2 gv gs gd)) ++ (wT bd cI cG tc tr ft tv tu fc M)) ++ (wP pd cI cG fa fb N)) [0, 1, 2, 3, 4, 5, 6, 7, 8, 9, 10, 11, 12, 13, 14, 15, 16, 17, 18, 19, 20, 21, 22, 23, 24, 25, 26, 27, 28, 29, 30, 31, 32, 33, 34, 35, 36, 37, 38, 39, 40] (by decide) rfl ?_
    exact out _ _ _ _ _ _ (by decide) (by decide) (⟨rfl, h8, ⟨_, _, _, _, _, _, _, _, _, _, _, _, _, _, rfl⟩⟩)
  rintro v9 w9 ⟨rfl, hp9, rfl⟩
  obtain ⟨q, rfl⟩ : ∃ q : Nat, p = (q : Int) := ⟨p.toNat, by omega⟩
  refine g_ws (w' := ((((wV h (ad 0) (a2 0) (bd 0) (pd 0) rm lt tk ov) ++ (wS ad cI (cnt : Int) fv fs fd)) ++ (wS a2 cI c2 gv gs gd)) ++ (wT bd cI cG tc tr ft tv tu fc M)) ++ (wP pd cI cG fa fb N)) (st' := []) rfl rfl ?_
  refine g_aload_n C dX3_gapFrom_4 0 rfl ?_
  refine g_getf C fX3_29 0 rfl rfl dX3_gapFrom_5 ?_
  refine g_aload_n C dX3_gapFrom_8 0 rfl ?_
  refine g_getf C fX3_12 0 rfl rfl dX3_gapFrom_9 ?_
  refine g_callV (wr := ((wV h (ad 0) (a2 0) (bd 0) (pd 0) rm lt tk ov) ++ (wS a2 cI c2 gv gs gd)) ++ (wT bd cI cG tc tr ft tv tu fc M)) (st := []) [24, 25, 26, 27, 28, 29, 30, 31, 32, 33, 34, 35, 36, 37, 38, 39, 40, 1, 2, 3, 4] [0, 5, 6, 7, 8, 9, 10, 11, 12, 13, 14, 15, 16, 17, 18, 19, 20, 21, 22, 23] C cX3_128 (met_X0_fill l D cI cG cJ ad cnt hc fv fs fd hS.1 pd fa fb N) ⟨rfl, rfl, by decide, by decide, by decide⟩ (q0 := 24) rfl rfl (by decide) (by decide) rfl rfl (Nat.le_of_ble_eq_true rfl) dX3_gapFrom_12 ?_
  rintro v9 w9 ⟨rfl, fa1, hP, rfl⟩
  have hb1 := hP.bd2 hv1
  refine g_ws (w' := ((((wV h (ad 0) (a2 0) (bd 0) (pd 0) rm lt tk ov) ++ (wS a2 cI c2 gv gs gd)) ++ (wT bd cI cG tc tr ft tv tu fc M)) ++ (wP pd cI cG fa1 fb N)) ++ (wS ad cI (cnt : Int) fv fs fd)) (st' := []) rfl rfl ?_
  refine g_perm (w' := ((((wV h (ad 0) (a2 0) (bd 0) (pd 0) rm lt tk ov) ++ (wS ad cI (cnt : Int) fv fs fd)) ++ (wS a2 cI c2 gv gs gd)) ++ (wT bd cI cG tc tr ft tv tu fc M)) ++ (wP pd cI cG fa1 fb N)) [0, 37, 38, 39, 40, 1, 2, 3, 4, 5, 6, 7, 8, 9, 10, 11, 12, 13, 14, 15, 16, 17, 18, 19, 20, 21, 22, 23, 24, 25, 26, 27, 28, 29, 30, 31, 32, 33, 34, 35, 36] (by decide) rfl ?_
  refine g_aload_n C dX3_gapFrom_15 0 rfl ?_
  refine g_getf C fX3_29 0 rfl rfl dX3_gapFrom_16 ?_
  refine g_iload_n C dX3_gapFrom_19 1 rfl ?_
  refine g_aload_n C dX3_gapFrom_20 0 rfl ?_
  refine g_getf C fX3_33 0 rfl rfl dX3_gapFrom_21 ?_
  refine g_callV (wr := (((wV h (ad 0) (a2 0) (bd 0) (pd 0) rm lt tk ov) ++ (wS ad cI (cnt : Int) fv fs fd)) ++ (wS a2 cI c2 gv gs gd)) ++ (wT bd cI cG tc tr ft tv tu fc M)) (st := []) [24, 25, 26, 27, 28, 29, 30, 31, 32, 33, 34, 35, 36, 37, 38, 39, 40] [0, 1, 2, 3, 4, 5, 6, 7, 8, 9, 10, 11, 12, 13, 14, 15, 16, 17, 18, 19, 20, 21, 22, 23] C cX3_141 (met_X0_firstGap l D cI cG cJ pd fa1 fb N hb1 rm hr q (by omega)) ⟨rfl, rfl, by decide, by decide, by decide⟩ (q0 := 24) rfl rfl (by decide) (by decide) rfl rfl (Nat.le_of_ble_eq_true rfl) dX3_gapFrom_24 ?_
  rintro v9 w9 ⟨z9, rfl, rfl, rfl⟩
  refine g_ws (w' := ((((wV h (ad 0) (a2 0) (bd 0) (pd 0) rm lt tk ov) ++ (wS ad cI (cnt : Int) fv fs fd)) ++ (wS a2 cI c2 gv gs gd)) ++ (wT bd cI cG tc tr ft tv tu fc M)) ++ (wP pd cI cG fa1 fb N)) (st' := [.int (zI (fgp fa1 rm (301 - q) q))]) rfl rfl ?_
  refine g_perm (w' := ((((wV h (ad 0) (a2 0) (bd 0) (pd 0) rm lt tk ov) ++ (wS ad cI (cnt : Int) fv fs fd)) ++ (wS a2 cI c2 gv gs gd)) ++ (wT bd cI cG tc tr ft tv tu fc M)) ++ (wP pd cI cG fa1 fb N)) [0, 1, 2, 3, 4, 5, 6, 7, 8, 9, 10, 11, 12, 13, 14, 15, 16, 17, 18, 19, 20, 21, 22, 23, 24, 25, 26, 27, 28, 29, 30, 31, 32, 33, 34, 35, 36, 37, 38, 39, 40] (by decide) rfl ?_
  exact ret _ _ _ _ _ _ (by decide) (by decide) dX3_gapFrom_27 (⟨⟨hp9, fgp_congr _ _ (fun j h1 h2 => hP.eq hv1 (by omega))⟩, ⟨_, _, _, _, _, _, _, _, _, _, _, _, _, _, rfl⟩⟩)
abbrev rmX3_gapsTo : Room := { frames := 8, cells := 1, slots := 6, locals := 160 }
set_option maxHeartbeats 4000000 in
set_option maxRecDepth 100000 in
theorem met_X3_gapsTo (l : Launch) (hl9 : l.stackTraces = false) (D : va_G) (cI cG cJ : ClassId) (h : Nat) (ad a2 bd pd : Nat → Nat) (cnt : Nat) (fv fs fd : Nat → Int) (rm lt tk ov : Int) (hI : XI cnt fv fs rm) (c2 : Int) (gv gs gd : Nat → Int) (tc tr : Int) (ft tv tu fc : Nat → Int) (M : Nat → Nat → Int) (fa fb : Nat → Int) (N : Nat → Nat → Int) (p : Int) (hp : zr p)  : gMex l yX3_gapsTo cX3_gapsTo 2 (some .int) rmX3_gapsTo D cI cG cJ [.ref h, .int (zI p)] (((((wV h (ad 0) (a2 0) (bd 0) (pd 0) rm lt tk ov) ++ (wS ad cI (cnt : Int) fv fs fd)) ++ (wS a2 cI c2 gv gs gd)) ++ (wT bd cI cG tc tr ft tv tu fc M)) ++ (wP pd cI cG fa fb N)) (gI (fun z w9 => ((1 ≤ p ∧ p ≤ 300) ∧ z = ((cgp (PF fv cnt 0) rm p.toNat : Nat) : Int)) ∧ XW h ad a2 bd pd cI cG cnt fv fs fd rm lt tk ov w9)) (fun nm w9 => nm = IAE ∧ ¬ (1 ≤ p ∧ p ≤ 300) ∧ XW h ad a2 bd pd cI cG cnt fv fs fd rm lt tk ov w9) := by
  obtain ⟨hc, hS, h99, hr1, hr2⟩ := id hI
  have hr : 0 ≤ rm ∧ rm ≤ 12 := ⟨by omega, hr2⟩
  have hv1 : ∀ j, j < cnt → 1 ≤ fv j := fun j hj => (hS.1 j hj).1
  refine gMex_I hl9 (by decide) rfl (Nat.le_of_ble_eq_true rfl) (fun E C ret out thr => ?_)
  refine g_iload_n C dX3_gapsTo_0 1 rfl ?_
  refine g_callSX (wr := ((((wV h (ad 0) (a2 0) (bd 0) (pd 0) rm lt tk ov) ++ (wS ad cI (cnt : Int) fv fs fd)) ++ (wS a2 cI c2 gv gs gd)) ++ (wT bd cI cG tc tr ft tv tu fc M)) ++ (wP pd cI cG fa fb N)) (st := []) [] [0, 1, 2, 3, 4, 5, 6, 7, 8, 9, 10, 11, 12, 13, 14, 15, 16, 17, 18, 19, 20, 21, 22, 23, 24, 25, 26, 27, 28, 29, 30, 31, 32, 33, 34, 35, 36, 37, 38, 39, 40] C cX3_82 (met_X3_checkPostage l hl9 D cI cG cJ p hp) ⟨rfl, rfl, by decide, by decide, by decide⟩ (by decide) (by decide) rfl rfl (Nat.le_of_ble_eq_true rfl) dX3_gapsTo_1 (fun nm9 w9 h9 => ?_) ?_
  · obtain ⟨rfl, h8, rfl⟩ := h9
    refine gx_perm (w' := ((((wV h (ad 0) (a2 0) (bd 0) (pd 0) rm lt tk ov) ++ (wS ad cI (cnt : Int) fv fs fd)) ++ (wS a2 cI c2 gv gs gd)) ++ (wT bd cI cG tc tr ft tv tu fc M)) ++ (wP pd cI cG fa fb N)) [0, 1, 2, 3, 4, 5, 6, 7, 8, 9, 10, 11, 12, 13, 14, 15, 16, 17, 18, 19, 20, 21, 22, 23, 24, 25, 26, 27, 28, 29, 30, 31, 32, 33, 34, 35, 36, 37, 38, 39, 40] (by decide) rfl ?_
    exact out _ _ _ _ _ _ (by decide) (by decide) (⟨rfl, h8, ⟨_, _, _, _, _, _, _, _, _, _, _, _, _, _, rfl⟩⟩)
  rintro v9 w9 ⟨rfl, hp9, rfl⟩
  obtain ⟨q, rfl⟩ : ∃ q : Nat, p = (q : Int) := ⟨p.toNat, by omega⟩
  refine g_ws (w' := ((((wV h (ad 0) (a2 0) (bd 0) (pd 0) rm lt tk ov) ++ (wS ad cI (cnt : Int) fv fs fd)) ++ (wS a2 cI c2 gv gs gd)) ++ (wT bd cI cG tc tr ft tv tu fc M)) ++ (wP pd cI cG fa fb N)) (st' := []) rfl rfl ?_
  refine g_aload_n C dX3_gapsTo_4 0 rfl ?_
  refine g_getf C fX3_29 0 rfl rfl dX3_gapsTo_5 ?_
  refine g_aload_n C dX3_gapsTo_8 0 rfl ?_
  refine g_getf C fX3_12 0 rfl rfl dX3_gapsTo_9 ?_
  refine g_callV (wr := ((wV h (ad 0) (a2 0) (bd 0) (pd 0) rm lt tk ov) ++ (wS a2 cI c2 gv gs gd)) ++ (wT bd cI cG tc tr ft tv tu fc M)) (st := []) [24, 25, 26, 27, 28, 29, 30, 31, 32, 33, 34, 35, 36, 37, 38, 39, 40, 1, 2, 3, 4] [0, 5, 6, 7, 8, 9, 10, 11, 12, 13, 14, 15, 16, 17, 18, 19, 20, 21, 22, 23] C cX3_128 (met_X0_fill l D cI cG cJ ad cnt hc fv fs fd hS.1 pd fa fb N) ⟨rfl, rfl, by decide, by decide, by decide⟩ (q0 := 24) rfl rfl (by decide) (by decide) rfl rfl (Nat.le_of_ble_eq_true rfl) dX3_gapsTo_12 ?_
  rintro v9 w9 ⟨rfl, fa1, hP, rfl⟩
  have hb1 := hP.bd2 hv1
  refine g_ws (w' := ((((wV h (ad 0) (a2 0) (bd 0) (pd 0) rm lt tk ov) ++ (wS a2 cI c2 gv gs gd)) ++ (wT bd cI cG tc tr ft tv tu fc M)) ++ (wP pd cI cG fa1 fb N)) ++ (wS ad cI (cnt : Int) fv fs fd)) (st' := []) rfl rfl ?_
  refine g_perm (w' := ((((wV h (ad 0) (a2 0) (bd 0) (pd 0) rm lt tk ov) ++ (wS ad cI (cnt : Int) fv fs fd)) ++ (wS a2 cI c2 gv gs gd)) ++ (wT bd cI cG tc tr ft tv tu fc M)) ++ (wP pd cI cG fa1 fb N)) [0, 37, 38, 39, 40, 1, 2, 3, 4, 5, 6, 7, 8, 9, 10, 11, 12, 13, 14, 15, 16, 17, 18, 19, 20, 21, 22, 23, 24, 25, 26, 27, 28, 29, 30, 31, 32, 33, 34, 35, 36] (by decide) rfl ?_
  refine g_aload_n C dX3_gapsTo_15 0 rfl ?_
  refine g_getf C fX3_29 0 rfl rfl dX3_gapsTo_16 ?_
  refine g_iload_n C dX3_gapsTo_19 1 rfl ?_
  refine g_aload_n C dX3_gapsTo_20 0 rfl ?_
  refine g_getf C fX3_33 0 rfl rfl dX3_gapsTo_21 ?_
  refine g_callV (wr := (((wV h (ad 0) (a2 0) (bd 0) (pd 0) rm lt tk ov) ++ (wS ad cI (cnt : Int) fv fs fd)) ++ (wS a2 cI c2 gv gs gd)) ++ (wT bd cI cG tc tr ft tv tu fc M)) (st := []) [24, 25, 26, 27, 28, 29, 30, 31, 32, 33, 34, 35, 36, 37, 38, 39, 40] [0, 1, 2, 3, 4, 5, 6, 7, 8, 9, 10, 11, 12, 13, 14, 15, 16, 17, 18, 19, 20, 21, 22, 23] C cX3_144 (met_X0_countGaps l D cI cG cJ pd fa1 fb N hb1 rm hr q (by omega)) ⟨rfl, rfl, by decide, by decide, by decide⟩ (q0 := 24) rfl rfl (by decide) (by decide) rfl rfl (Nat.le_of_ble_eq_true rfl) dX3_gapsTo_24 ?_
  rintro v9 w9 ⟨z9, rfl, rfl, rfl⟩
  refine g_ws (w' := ((((wV h (ad 0) (a2 0) (bd 0) (pd 0) rm lt tk ov) ++ (wS ad cI (cnt : Int) fv fs fd)) ++ (wS a2 cI c2 gv gs gd)) ++ (wT bd cI cG tc tr ft tv tu fc M)) ++ (wP pd cI cG fa1 fb N)) (st' := [.int (zI ((cgp fa1 rm q : Nat) : Int))]) rfl rfl ?_
  refine g_perm (w' := ((((wV h (ad 0) (a2 0) (bd 0) (pd 0) rm lt tk ov) ++ (wS ad cI (cnt : Int) fv fs fd)) ++ (wS a2 cI c2 gv gs gd)) ++ (wT bd cI cG tc tr ft tv tu fc M)) ++ (wP pd cI cG fa1 fb N)) [0, 1, 2, 3, 4, 5, 6, 7, 8, 9, 10, 11, 12, 13, 14, 15, 16, 17, 18, 19, 20, 21, 22, 23, 24, 25, 26, 27, 28, 29, 30, 31, 32, 33, 34, 35, 36, 37, 38, 39, 40] (by decide) rfl ?_
  exact ret _ _ _ _ _ _ (by decide) (by decide) dX3_gapsTo_27 (⟨⟨hp9, congrArg Nat.cast (cgp_congr q (fun j h1 h2 => hP.eq hv1 (by omega)))⟩, ⟨_, _, _, _, _, _, _, _, _, _, _, _, _, _, rfl⟩⟩)
abbrev rmX3_ways : Room := { frames := 8, cells := 1, slots := 6, locals := 160 }
set_option maxHeartbeats 4000000 in
set_option maxRecDepth 100000 in
theorem met_X3_ways (l : Launch) (hl9 : l.stackTraces = false) (D : va_G) (cI cG cJ : ClassId) (h : Nat) (ad a2 bd pd : Nat → Nat) (cnt : Nat) (fv fs fd : Nat → Int) (rm lt tk ov : Int) (hI : XI cnt fv fs rm) (c2 : Int) (gv gs gd : Nat → Int) (tc tr : Int) (ft tv tu fc : Nat → Int) (M : Nat → Nat → Int) (fa fb : Nat → Int) (N : Nat → Nat → Int) (p : Int) (hp : zr p)  : gMex l yX3_ways cX3_ways 2 (some .int) rmX3_ways D cI cG cJ [.ref h, .int (zI p)] (((((wV h (ad 0) (a2 0) (bd 0) (pd 0) rm lt tk ov) ++ (wS ad cI (cnt : Int) fv fs fd)) ++ (wS a2 cI c2 gv gs gd)) ++ (wT bd cI cG tc tr ft tv tu fc M)) ++ (wP pd cI cG fa fb N)) (gI (fun z w9 => ((1 ≤ p ∧ p ≤ 300) ∧ z = wsum (wy fv cnt) p.toNat (rm.toNat + 1)) ∧ XW h ad a2 bd pd cI cG cnt fv fs fd rm lt tk ov w9)) (fun nm w9 => nm = IAE ∧ ¬ (1 ≤ p ∧ p ≤ 300) ∧ XW h ad a2 bd pd cI cG cnt fv fs fd rm lt tk ov w9) := by
  obtain ⟨hc, hS, h99, hr1, hr2⟩ := id hI
  have hr : 0 ≤ rm ∧ rm ≤ 12 := ⟨by omega, hr2⟩
  have hv1 : ∀ j, j < cnt → 1 ≤ fv j := fun j hj => (hS.1 j hj).1
  refine gMex_I hl9 (by decide) rfl (Nat.le_of_ble_eq_true rfl) (fun E C ret out thr => ?_)
  refine g_iload_n C dX3_ways_0 1 rfl ?_
  refine g_callSX (wr := ((((wV h (ad 0) (a2 0) (bd 0) (pd 0) rm lt tk ov) ++ (wS ad cI (cnt : Int) fv fs fd)) ++ (wS a2 cI c2 gv gs gd)) ++ (wT bd cI cG tc tr ft tv tu fc M)) ++ (wP pd cI cG fa fb N)) (st := []) [] [0, 1, 2, 3, 4, 5, 6, 7, 8, 9, 10, 11, 12, 13, 14, 15, 16, 17, 18, 19, 20, 21, 22, 23, 24, 25, 26, 27, 28, 29, 30, 31, 32, 33, 34, 35, 36, 37, 38, 39, 40] C cX3_82 (met_X3_checkPostage l hl9 D cI cG cJ p hp) ⟨rfl, rfl, by decide, by decide, by decide⟩ (by decide) (by decide) rfl rfl (Nat.le_of_ble_eq_true rfl) dX3_ways_1 (fun nm9 w9 h9 => ?_) ?_
  · obtain ⟨rfl, h8, rfl⟩ := h9
    refine gx_perm (w' := ((((wV h (ad 0) (a2 0) (bd 0) (pd 0) rm lt tk ov) ++ (wS ad cI (cnt : Int) fv fs fd)) ++ (wS a2 cI c2 gv gs gd)) ++ (wT bd cI cG tc tr ft tv tu fc M)) ++ (wP pd cI cG fa fb N)) [0, 1, 2, 3, 4, 5, 6, 7, 8, 9, 10, 11, 12, 13, 14, 15, 16, 17, 18, 19, 20, 21, 22, 23, 24, 25, 26, 27, 28, 29, 30, 31, 32, 33, 34, 35, 36, 37, 38, 39, 40] (by decide) rfl ?_
    exact out _ _ _ _ _ _ (by decide) (by decide) (⟨rfl, h8, ⟨_, _, _, _, _, _, _, _, _, _, _, _, _, _, rfl⟩⟩)
  rintro v9 w9 ⟨rfl, hp9, rfl⟩
  obtain ⟨q, rfl⟩ : ∃ q : Nat, p = (q : Int) := ⟨p.toNat, by omega⟩
  refine g_ws (w' := ((((wV h (ad 0) (a2 0) (bd 0) (pd 0) rm lt tk ov) ++ (wS ad cI (cnt : Int) fv fs fd)) ++ (wS a2 cI c2 gv gs gd)) ++ (wT bd cI cG tc tr ft tv tu fc M)) ++ (wP pd cI cG fa fb N)) (st' := []) rfl rfl ?_
  refine g_aload_n C dX3_ways_4 0 rfl ?_
  refine g_getf C fX3_29 0 rfl rfl dX3_ways_5 ?_
  refine g_aload_n C dX3_ways_8 0 rfl ?_
  refine g_getf C fX3_12 0 rfl rfl dX3_ways_9 ?_
  refine g_aload_n C dX3_ways_12 0 rfl ?_
  refine g_getf C fX3_33 0 rfl rfl dX3_ways_13 ?_
  refine g_top ((rm.toNat : Nat) : Int) (by omega) ?_
  refine g_iload_n C dX3_ways_16 1 rfl ?_
  refine g_callV (wr := ((wV h (ad 0) (a2 0) (bd 0) (pd 0) rm lt tk ov) ++ (wS a2 cI c2 gv gs gd)) ++ (wT bd cI cG tc tr ft tv tu fc M)) (st := []) [24, 25, 26, 27, 28, 29, 30, 31, 32, 33, 34, 35, 36, 37, 38, 39, 40, 1, 2, 3, 4] [0, 5, 6, 7, 8, 9, 10, 11, 12, 13, 14, 15, 16, 17, 18, 19, 20, 21, 22, 23] C cX3_134 (met_X0_countChoices l D cI cG cJ ad cnt hc fv fs fd hS.1 pd fa fb N rm.toNat (by omega) q (by omega)) ⟨rfl, rfl, by decide, by decide, by decide⟩ (q0 := 24) rfl rfl (by decide) (by decide) rfl rfl (Nat.le_of_ble_eq_true rfl) dX3_ways_17 ?_
  rintro v9 w9 ⟨z9, rfl, N1, rfl, rfl⟩
  refine g_ws (w' := ((((wV h (ad 0) (a2 0) (bd 0) (pd 0) rm lt tk ov) ++ (wS a2 cI c2 gv gs gd)) ++ (wT bd cI cG tc tr ft tv tu fc M)) ++ (wP pd cI cG fa fb N1)) ++ (wS ad cI (cnt : Int) fv fs fd)) (st' := [.int (zI (wsum (wy fv cnt) q (rm.toNat + 1)))]) rfl rfl ?_
  refine g_perm (w' := ((((wV h (ad 0) (a2 0) (bd 0) (pd 0) rm lt tk ov) ++ (wS ad cI (cnt : Int) fv fs fd)) ++ (wS a2 cI c2 gv gs gd)) ++ (wT bd cI cG tc tr ft tv tu fc M)) ++ (wP pd cI cG fa fb N1)) [0, 37, 38, 39, 40, 1, 2, 3, 4, 5, 6, 7, 8, 9, 10, 11, 12, 13, 14, 15, 16, 17, 18, 19, 20, 21, 22, 23, 24, 25, 26, 27, 28, 29, 30, 31, 32, 33, 34, 35, 36] (by decide) rfl ?_
  exact ret _ _ _ _ _ _ (by decide) (by decide) dX3_ways_20 (⟨⟨hp9, rfl⟩, ⟨_, _, _, _, _, _, _, _, _, _, _, _, _, _, rfl⟩⟩)
abbrev rmX3_reach : Room := { frames := 3, cells := 0, slots := 0, locals := 90 }
set_option maxHeartbeats 4000000 in
set_option maxRecDepth 100000 in
theorem met_X3_reach (l : Launch) (D : va_G) (cI cG cJ : ClassId) (h : Nat) (ad a2 bd pd : Nat → Nat) (cnt : Nat) (fv fs fd : Nat → Int) (rm lt tk ov : Int) (hI : XI cnt fv fs rm) (c2 : Int) (gv gs gd : Nat → Int) (tc tr : Int) (ft tv tu fc : Nat → Int) (M : Nat → Nat → Int) (fa fb : Nat → Int) (N : Nat → Nat → Int)  : gMet l yX3_reach cX3_reach 1 (some .int) rmX3_reach D cI cG cJ [.ref h] (((((wV h (ad 0) (a2 0) (bd 0) (pd 0) rm lt tk ov) ++ (wS ad cI (cnt : Int) fv fs fd)) ++ (wS a2 cI c2 gv gs gd)) ++ (wT bd cI cG tc tr ft tv tu fc M)) ++ (wP pd cI cG fa fb N)) (gI (fun z w9 => z = (RP fv cnt 0 rm : Int) ∧ XW h ad a2 bd pd cI cG cnt fv fs fd rm lt tk ov w9)) := by
  obtain ⟨hc, hS, h99, hr1, hr2⟩ := id hI
  have hr : 0 ≤ rm ∧ rm ≤ 12 := ⟨by omega, hr2⟩
  have hv1 : ∀ j, j < cnt → 1 ≤ fv j := fun j hj => (hS.1 j hj).1
  refine gMet_I (by decide) rfl (Nat.le_of_ble_eq_true rfl) (fun E C ret => ?_)
  refine g_aload_n C dX3_reach_0 0 rfl ?_
  refine g_getf C fX3_29 0 rfl rfl dX3_reach_1 ?_
  refine g_aload_n C dX3_reach_4 0 rfl ?_
  refine g_getf C fX3_12 0 rfl rfl dX3_reach_5 ?_
  refine g_callV (wr := ((wV h (ad 0) (a2 0) (bd 0) (pd 0) rm lt tk ov) ++ (wS a2 cI c2 gv gs gd)) ++ (wT bd cI cG tc tr ft tv tu fc M)) (st := []) [24, 25, 26, 27, 28, 29, 30, 31, 32, 33, 34, 35, 36, 37, 38, 39, 40, 1, 2, 3, 4] [0, 5, 6, 7, 8, 9, 10, 11, 12, 13, 14, 15, 16, 17, 18, 19, 20, 21, 22, 23] C cX3_128 (met_X0_fill l D cI cG cJ ad cnt hc fv fs fd hS.1 pd fa fb N) ⟨rfl, rfl, by decide, by decide, by decide⟩ (q0 := 24) rfl rfl (by decide) (by decide) rfl rfl (Nat.le_of_ble_eq_true rfl) dX3_reach_8 ?_
  rintro v9 w9 ⟨rfl, fa1, hP, rfl⟩
  have hb1 := hP.bd2 hv1
  refine g_ws (w' := ((((wV h (ad 0) (a2 0) (bd 0) (pd 0) rm lt tk ov) ++ (wS a2 cI c2 gv gs gd)) ++ (wT bd cI cG tc tr ft tv tu fc M)) ++ (wP pd cI cG fa1 fb N)) ++ (wS ad cI (cnt : Int) fv fs fd)) (st' := []) rfl rfl ?_
  refine g_perm (w' := ((((wV h (ad 0) (a2 0) (bd 0) (pd 0) rm lt tk ov) ++ (wS ad cI (cnt : Int) fv fs fd)) ++ (wS a2 cI c2 gv gs gd)) ++ (wT bd cI cG tc tr ft tv tu fc M)) ++ (wP pd cI cG fa1 fb N)) [0, 37, 38, 39, 40, 1, 2, 3, 4, 5, 6, 7, 8, 9, 10, 11, 12, 13, 14, 15, 16, 17, 18, 19, 20, 21, 22, 23, 24, 25, 26, 27, 28, 29, 30, 31, 32, 33, 34, 35, 36] (by decide) rfl ?_
  refine g_aload_n C dX3_reach_11 0 rfl ?_
  refine g_getf C fX3_29 0 rfl rfl dX3_reach_12 ?_
  refine g_aload_n C dX3_reach_15 0 rfl ?_
  refine g_getf C fX3_33 0 rfl rfl dX3_reach_16 ?_
  refine g_callV (wr := (((wV h (ad 0) (a2 0) (bd 0) (pd 0) rm lt tk ov) ++ (wS ad cI (cnt : Int) fv fs fd)) ++ (wS a2 cI c2 gv gs gd)) ++ (wT bd cI cG tc tr ft tv tu fc M)) (st := []) [24, 25, 26, 27, 28, 29, 30, 31, 32, 33, 34, 35, 36, 37, 38, 39, 40] [0, 1, 2, 3, 4, 5, 6, 7, 8, 9, 10, 11, 12, 13, 14, 15, 16, 17, 18, 19, 20, 21, 22, 23] C cX3_138 (met_X0_reachWithin l D cI cG cJ pd fa1 fb N hb1 rm hr) ⟨rfl, rfl, by decide, by decide, by decide⟩ (q0 := 24) rfl rfl (by decide) (by decide) rfl rfl (Nat.le_of_ble_eq_true rfl) dX3_reach_19 ?_
  rintro v9 w9 ⟨z9, rfl, rfl, rfl⟩
  refine g_ws (w' := ((((wV h (ad 0) (a2 0) (bd 0) (pd 0) rm lt tk ov) ++ (wS ad cI (cnt : Int) fv fs fd)) ++ (wS a2 cI c2 gv gs gd)) ++ (wT bd cI cG tc tr ft tv tu fc M)) ++ (wP pd cI cG fa1 fb N)) (st' := [.int (zI (if fgp fa1 rm 300 1 = -1 then (300 : Int) else fgp fa1 rm 300 1 - 1))]) rfl rfl ?_
  refine g_perm (w' := ((((wV h (ad 0) (a2 0) (bd 0) (pd 0) rm lt tk ov) ++ (wS ad cI (cnt : Int) fv fs fd)) ++ (wS a2 cI c2 gv gs gd)) ++ (wT bd cI cG tc tr ft tv tu fc M)) ++ (wP pd cI cG fa1 fb N)) [0, 1, 2, 3, 4, 5, 6, 7, 8, 9, 10, 11, 12, 13, 14, 15, 16, 17, 18, 19, 20, 21, 22, 23, 24, 25, 26, 27, 28, 29, 30, 31, 32, 33, 34, 35, 36, 37, 38, 39, 40] (by decide) rfl ?_
  exact ret _ _ _ _ _ _ (by decide) (by decide) dX3_reach_22 (⟨hP.rp hv1, ⟨_, _, _, _, _, _, _, _, _, _, _, _, _, _, rfl⟩⟩)
abbrev rmX3_reachWithRoom : Room := { frames := 8, cells := 1, slots := 6, locals := 160 }
set_option maxHeartbeats 4000000 in
set_option maxRecDepth 100000 in
theorem met_X3_reachWithRoom (l : Launch) (hl9 : l.stackTraces = false) (D : va_G) (cI cG cJ : ClassId) (h : Nat) (ad a2 bd pd : Nat → Nat) (cnt : Nat) (fv fs fd : Nat → Int) (rm lt tk ov : Int) (hI : XI cnt fv fs rm) (c2 : Int) (gv gs gd : Nat → Int) (tc tr : Int) (ft tv tu fc : Nat → Int) (M : Nat → Nat → Int) (fa fb : Nat → Int) (N : Nat → Nat → Int) (p : Int) (hp : zr p)  : gMex l yX3_reachWithRoom cX3_reachWithRoom 2 (some .int) rmX3_reachWithRoom D cI cG cJ [.ref h, .int (zI p)] (((((wV h (ad 0) (a2 0) (bd 0) (pd 0) rm lt tk ov) ++ (wS ad cI (cnt : Int) fv fs fd)) ++ (wS a2 cI c2 gv gs gd)) ++ (wT bd cI cG tc tr ft tv tu fc M)) ++ (wP pd cI cG fa fb N)) (gI (fun z w9 => ((1 ≤ p ∧ p ≤ 12) ∧ z = (RP fv cnt 0 p : Int)) ∧ XW h ad a2 bd pd cI cG cnt fv fs fd rm lt tk ov w9)) (fun nm w9 => nm = IAE ∧ ¬ (1 ≤ p ∧ p ≤ 12) ∧ XW h ad a2 bd pd cI cG cnt fv fs fd rm lt tk ov w9) := by
  obtain ⟨hc, hS, h99, hr1, hr2⟩ := id hI
  have hr : 0 ≤ rm ∧ rm ≤ 12 := ⟨by omega, hr2⟩
  have hv1 : ∀ j, j < cnt → 1 ≤ fv j := fun j hj => (hS.1 j hj).1
  refine gMex_I hl9 (by decide) rfl (Nat.le_of_ble_eq_true rfl) (fun E C ret out thr => ?_)
  refine g_iload_n C dX3_reachWithRoom_0 1 rfl ?_
  refine g_callSX (wr := ((((wV h (ad 0) (a2 0) (bd 0) (pd 0) rm lt tk ov) ++ (wS ad cI (cnt : Int) fv fs fd)) ++ (wS a2 cI c2 gv gs gd)) ++ (wT bd cI cG tc tr ft tv tu fc M)) ++ (wP pd cI cG fa fb N)) (st := []) [] [0, 1, 2, 3, 4, 5, 6, 7, 8, 9, 10, 11, 12, 13, 14, 15, 16, 17, 18, 19, 20, 21, 22, 23, 24, 25, 26, 27, 28, 29, 30, 31, 32, 33, 34, 35, 36, 37, 38, 39, 40] C cX3_79 (met_X3_checkRoom l hl9 D cI cG cJ p hp) ⟨rfl, rfl, by decide, by decide, by decide⟩ (by decide) (by decide) rfl rfl (Nat.le_of_ble_eq_true rfl) dX3_reachWithRoom_1 (fun nm9 w9 h9 => ?_) ?_
  · obtain ⟨rfl, h8, rfl⟩ := h9
    refine gx_perm (w' := ((((wV h (ad 0) (a2 0) (bd 0) (pd 0) rm lt tk ov) ++ (wS ad cI (cnt : Int) fv fs fd)) ++ (wS a2 cI c2 gv gs gd)) ++ (wT bd cI cG tc tr ft tv tu fc M)) ++ (wP pd cI cG fa fb N)) [0, 1, 2, 3, 4, 5, 6, 7, 8, 9, 10, 11, 12, 13, 14, 15, 16, 17, 18, 19, 20, 21, 22, 23, 24, 25, 26, 27, 28, 29, 30, 31, 32, 33, 34, 35, 36, 37, 38, 39, 40] (by decide) rfl ?_
    exact out _ _ _ _ _ _ (by decide) (by decide) (⟨rfl, h8, ⟨_, _, _, _, _, _, _, _, _, _, _, _, _, _, rfl⟩⟩)
  rintro v9 w9 ⟨rfl, hp9, rfl⟩
  refine g_ws (w' := ((((wV h (ad 0) (a2 0) (bd 0) (pd 0) rm lt tk ov) ++ (wS ad cI (cnt : Int) fv fs fd)) ++ (wS a2 cI c2 gv gs gd)) ++ (wT bd cI cG tc tr ft tv tu fc M)) ++ (wP pd cI cG fa fb N)) (st' := []) rfl rfl ?_
  refine g_aload_n C dX3_reachWithRoom_4 0 rfl ?_
  refine g_getf C fX3_29 0 rfl rfl dX3_reachWithRoom_5 ?_
  refine g_aload_n C dX3_reachWithRoom_8 0 rfl ?_
  refine g_getf C fX3_12 0 rfl rfl dX3_reachWithRoom_9 ?_
  refine g_callV (wr := ((wV h (ad 0) (a2 0) (bd 0) (pd 0) rm lt tk ov) ++ (wS a2 cI c2 gv gs gd)) ++ (wT bd cI cG tc tr ft tv tu fc M)) (st := []) [24, 25, 26, 27, 28, 29, 30, 31, 32, 33, 34, 35, 36, 37, 38, 39, 40, 1, 2, 3, 4] [0, 5, 6, 7, 8, 9, 10, 11, 12, 13, 14, 15, 16, 17, 18, 19, 20, 21, 22, 23] C cX3_128 (met_X0_fill l D cI cG cJ ad cnt hc fv fs fd hS.1 pd fa fb N) ⟨rfl, rfl, by decide, by decide, by decide⟩ (q0 := 24) rfl rfl (by decide) (by decide) rfl rfl (Nat.le_of_ble_eq_true rfl) dX3_reachWithRoom_12 ?_
  rintro v9 w9 ⟨rfl, fa1, hP, rfl⟩
  have hb1 := hP.bd2 hv1
  refine g_ws (w' := ((((wV h (ad 0) (a2 0) (bd 0) (pd 0) rm lt tk ov) ++ (wS a2 cI c2 gv gs gd)) ++ (wT bd cI cG tc tr ft tv tu fc M)) ++ (wP pd cI cG fa1 fb N)) ++ (wS ad cI (cnt : Int) fv fs fd)) (st' := []) rfl rfl ?_
  refine g_perm (w' := ((((wV h (ad 0) (a2 0) (bd 0) (pd 0) rm lt tk ov) ++ (wS ad cI (cnt : Int) fv fs fd)) ++ (wS a2 cI c2 gv gs gd)) ++ (wT bd cI cG tc tr ft tv tu fc M)) ++ (wP pd cI cG fa1 fb N)) [0, 37, 38, 39, 40, 1, 2, 3, 4, 5, 6, 7, 8, 9, 10, 11, 12, 13, 14, 15, 16, 17, 18, 19, 20, 21, 22, 23, 24, 25, 26, 27, 28, 29, 30, 31, 32, 33, 34, 35, 36] (by decide) rfl ?_
  refine g_aload_n C dX3_reachWithRoom_15 0 rfl ?_
  refine g_getf C fX3_29 0 rfl rfl dX3_reachWithRoom_16 ?_
  refine g_iload_n C dX3_reachWithRoom_19 1 rfl ?_
  refine g_callV (wr := (((wV h (ad 0) (a2 0) (bd 0) (pd 0) rm lt tk ov) ++ (wS ad cI (cnt : Int) fv fs fd)) ++ (wS a2 cI c2 gv gs gd)) ++ (wT bd cI cG tc tr ft tv tu fc M)) (st := []) [24, 25, 26, 27, 28, 29, 30, 31, 32, 33, 34, 35, 36, 37, 38, 39, 40] [0, 1, 2, 3, 4, 5, 6, 7, 8, 9, 10, 11, 12, 13, 14, 15, 16, 17, 18, 19, 20, 21, 22, 23] C cX3_138 (met_X0_reachWithin l D cI cG cJ pd fa1 fb N hb1 p ⟨by omega, by omega⟩) ⟨rfl, rfl, by decide, by decide, by decide⟩ (q0 := 24) rfl rfl (by decide) (by decide) rfl rfl (Nat.le_of_ble_eq_true rfl) dX3_reachWithRoom_20 ?_
  rintro v9 w9 ⟨z9, rfl, rfl, rfl⟩
  refine g_ws (w' := ((((wV h (ad 0) (a2 0) (bd 0) (pd 0) rm lt tk ov) ++ (wS ad cI (cnt : Int) fv fs fd)) ++ (wS a2 cI c2 gv gs gd)) ++ (wT bd cI cG tc tr ft tv tu fc M)) ++ (wP pd cI cG fa1 fb N)) (st' := [.int (zI (if fgp fa1 p 300 1 = -1 then (300 : Int) else fgp fa1 p 300 1 - 1))]) rfl rfl ?_
  refine g_perm (w' := ((((wV h (ad 0) (a2 0) (bd 0) (pd 0) rm lt tk ov) ++ (wS ad cI (cnt : Int) fv fs fd)) ++ (wS a2 cI c2 gv gs gd)) ++ (wT bd cI cG tc tr ft tv tu fc M)) ++ (wP pd cI cG fa1 fb N)) [0, 1, 2, 3, 4, 5, 6, 7, 8, 9, 10, 11, 12, 13, 14, 15, 16, 17, 18, 19, 20, 21, 22, 23, 24, 25, 26, 27, 28, 29, 30, 31, 32, 33, 34, 35, 36, 37, 38, 39, 40] (by decide) rfl ?_
  exact ret _ _ _ _ _ _ (by decide) (by decide) dX3_reachWithRoom_23 (⟨⟨hp9, hP.rp hv1⟩, ⟨_, _, _, _, _, _, _, _, _, _, _, _, _, _, rfl⟩⟩)
abbrev rmX3_scarcest : Room := { frames := 0, cells := 0, slots := 0, locals := 0 }
set_option maxHeartbeats 4000000 in
set_option maxRecDepth 100000 in
theorem met_X3_scarcest (l : Launch) (D : va_G) (cI cG cJ : ClassId) (h : Nat) (ad a2 bd pd : Nat → Nat) (cnt : Nat) (fv fs fd : Nat → Int) (rm lt tk ov : Int) (hI : XI cnt fv fs rm) (c2 : Int) (gv gs gd : Nat → Int) (tc tr : Int) (ft tv tu fc : Nat → Int) (M : Nat → Nat → Int) (fa fb : Nat → Int) (N : Nat → Nat → Int)  : gMet l yX3_scarcest cX3_scarcest 4 (some .int) rmX3_scarcest D cI cG cJ [.ref h] (((((wV h (ad 0) (a2 0) (bd 0) (pd 0) rm lt tk ov) ++ (wS ad cI (cnt : Int) fv fs fd)) ++ (wS a2 cI c2 gv gs gd)) ++ (wT bd cI cG tc tr ft tv tu fc M)) ++ (wP pd cI cG fa fb N)) (gI (fun z w9 => z = (scF fs cnt).1 ∧ XW h ad a2 bd pd cI cG cnt fv fs fd rm lt tk ov w9)) := by
  obtain ⟨hc, hS, h99, hr1, hr2⟩ := id hI
  have hr : 0 ≤ rm ∧ rm ≤ 12 := ⟨by omega, hr2⟩
  have hv1 : ∀ j, j < cnt → 1 ≤ fv j := fun j hj => (hS.1 j hj).1
  refine gMet_I (by decide) rfl (Nat.le_of_ble_eq_true rfl) (fun E C ret => ?_)
  refine g_iconst C dX3_scarcest_0 ?_
  refine g_istore_n (L' := [(1, .int (zI (-1))), (0, .ref h)]) C dX3_scarcest_1 (by decide) rfl ?_
  refine g_bipush C dX3_scarcest_2 (by decide) ?_
  refine g_istore_n (L' := [(2, .int (zI 100)), (1, .int (zI (-1))), (0, .ref h)]) C dX3_scarcest_4 (by decide) rfl ?_
  refine g_iconst C dX3_scarcest_5 ?_
  refine g_istore_n (L' := [(3, .int (zI 0)), (2, .int (zI 100)), (1, .int (zI (-1))), (0, .ref h)]) C dX3_scarcest_6 (by decide) rfl ?_
  have loop_7 : ∀ (fu : Nat) (i : Nat), (hi : i ≤ cnt) → cnt - i < fu → gW E 0 0 (((((wV h (ad 0) (a2 0) (bd 0) (pd 0) rm lt tk ov) ++ (wS ad cI (cnt : Int) fv fs fd)) ++ (wS a2 cI c2 gv gs gd)) ++ (wT bd cI cG tc tr ft tv tu fc M)) ++ (wP pd cI cG fa fb N)) 7 [(3, .int (zI (i : Int))), (2, .int (zI ((scF fs i).2))), (1, .int (zI ((scF fs i).1))), (0, .ref h)] [] := by
    intro fu
    induction fu with
    | zero => intro i hi h9; exact absurd h9 (Nat.not_lt_zero _)
    | succ fu ih_7 =>
      intro i hi hmu_7
      have hb := sc_bd (fs := fs) i (fun j hj => ⟨(hS.2.1 j (by omega)).1, h99 j (by omega)⟩)
      refine g_iload_n C dX3_scarcest_7 0 rfl ?_
      refine g_aload_n C dX3_scarcest_8 3 rfl ?_
      refine g_getf C fX3_12 0 rfl rfl dX3_scarcest_9 ?_
      refine g_getf C fX3_49 1 rfl rfl dX3_scarcest_12 ?_
      refine g_icmp_ge 49 C dX3_scarcest_15 (by decide) (zr_i (by omega) (by omega)) (zr_i (by omega) (by omega)) (fun c_15 => ?_) (fun c_15 => ?_)
      · refine g_iload_n C dX3_scarcest_49 2 rfl ?_
        exact ret _ _ _ _ _ _ (by decide) (by decide) dX3_scarcest_50 (⟨by rw [show cnt = i by omega], ⟨_, _, _, _, _, _, _, _, _, _, _, _, _, _, rfl⟩⟩)
      · refine g_aload_n C dX3_scarcest_18 3 rfl ?_
        refine g_getf C fX3_12 0 rfl rfl dX3_scarcest_19 ?_
        refine g_getf C fX3_67 1 rfl rfl dX3_scarcest_22 ?_
        refine g_iload_n C dX3_scarcest_25 0 rfl ?_
        refine g_iald C 3 rfl (by decide) (by omega) (by omega) (v := (fs i)) rfl dX3_scarcest_26 ?_
        have hs9 := hS.2.1 i (by omega)
        have hs8 := h99 i (by omega)
        refine g_iload_n C dX3_scarcest_27 1 rfl ?_
        refine g_icmp_ge 43 C dX3_scarcest_28 (by decide) (zr_i (by omega) (by omega)) (zr_i (by omega) (by omega)) (fun c_28 => ?_) (fun c_28 => ?_)
        · refine g_iinc (L' := [(3, .int (zI ((i : Int) + 1))), (2, .int (zI ((scF fs i).2))), (1, .int (zI ((scF fs i).1))), (0, .ref h)]) C dX3_scarcest_43 0 rfl (by decide) rfl ?_
          refine g_goto 7 C dX3_scarcest_46 (by decide) ?_
          refine g_loc (L' := [(3, .int (zI ((i : Int) + 1))), (2, .int (zI ((scF fs i).2))), (1, .int (zI ((scF fs i).1))), (0, .ref h)]) [0, 1, 2, 3] rfl ?_
          refine g_lw (w' := ((((wV h (ad 0) (a2 0) (bd 0) (pd 0) rm lt tk ov) ++ (wS ad cI (cnt : Int) fv fs fd)) ++ (wS a2 cI c2 gv gs gd)) ++ (wT bd cI cG tc tr ft tv tu fc M)) ++ (wP pd cI cG fa fb N)) (L' := [(3, .int (zI ((i + 1 : Nat) : Int))), (2, .int (zI ((scF fs (i + 1)).2))), (1, .int (zI ((scF fs (i + 1)).1))), (0, .ref h)]) rfl (by rw [show scF fs (i + 1) = scF fs i from if_neg (by omega)]; rfl) ?_
          exact ih_7 (i + 1) (by omega) (by omega)
        · refine g_aload_n C dX3_scarcest_31 3 rfl ?_
          refine g_getf C fX3_12 0 rfl rfl dX3_scarcest_32 ?_
          refine g_getf C fX3_67 1 rfl rfl dX3_scarcest_35 ?_
          refine g_iload_n C dX3_scarcest_38 0 rfl ?_
          refine g_iald C 3 rfl (by decide) (by omega) (by omega) (v := (fs i)) rfl dX3_scarcest_39 ?_
          refine g_istore_n (L' := [(2, .int (zI (fs i))), (3, .int (zI (i : Int))), (1, .int (zI ((scF fs i).1))), (0, .ref h)]) C dX3_scarcest_40 (by decide) rfl ?_
          refine g_iload_n C dX3_scarcest_41 1 rfl ?_
          refine g_istore_n (L' := [(1, .int (zI (i : Int))), (2, .int (zI (fs i))), (3, .int (zI (i : Int))), (0, .ref h)]) C dX3_scarcest_42 (by decide) rfl ?_
          refine g_iinc (L' := [(3, .int (zI ((i : Int) + 1))), (1, .int (zI (i : Int))), (2, .int (zI (fs i))), (0, .ref h)]) C dX3_scarcest_43 2 rfl (by decide) rfl ?_
          refine g_goto 7 C dX3_scarcest_46 (by decide) ?_
          refine g_loc (L' := [(3, .int (zI ((i : Int) + 1))), (2, .int (zI (fs i))), (1, .int (zI (i : Int))), (0, .ref h)]) [0, 2, 1, 3] rfl ?_
          refine g_lw (w' := ((((wV h (ad 0) (a2 0) (bd 0) (pd 0) rm lt tk ov) ++ (wS ad cI (cnt : Int) fv fs fd)) ++ (wS a2 cI c2 gv gs gd)) ++ (wT bd cI cG tc tr ft tv tu fc M)) ++ (wP pd cI cG fa fb N)) (L' := [(3, .int (zI ((i + 1 : Nat) : Int))), (2, .int (zI ((scF fs (i + 1)).2))), (1, .int (zI ((scF fs (i + 1)).1))), (0, .ref h)]) rfl (by rw [show scF fs (i + 1) = ((i : Int), fs i) from if_pos (by omega)]; rfl) ?_
          exact ih_7 (i + 1) (by omega) (by omega)
  refine g_loc (L' := [(3, .int (zI 0)), (2, .int (zI 100)), (1, .int (zI (-1))), (0, .ref h)]) [0, 1, 2, 3] rfl ?_
  exact loop_7 _ 0 (Nat.zero_le _) (Nat.lt_succ_self _)
