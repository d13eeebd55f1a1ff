abbrev rmX4_canPay : Room := { frames := 3, cells := 0, slots := 0, locals := 68 }
set_option maxHeartbeats 4000000 in
set_option maxRecDepth 100000 in
theorem met_X4_canPay (l : Launch) (D : va_G) (cI cG cJ : ClassId) (ad : Nat → Nat) (th : Int) (cnt : Nat) (hc : cnt ≤ 8) (rm lt tk ov : Int) (fv fs fd fo : Nat → Int) (F : Nat → Nat → Int) (fg fp : Nat → Int) (Y : Nat → Nat → Int) (hI : XI cnt fv fs rm) (p : Int) (hp : zr p)  : gMet l yX4_canPay cX4_canPay 2 (some .boolean) rmX4_canPay D cI cG cJ [.ref (ad 0), .int (zI p)] (wM ad cI cG th (cnt : Int) rm lt tk ov fv fs fd fo F fg fp Y) (gI (fun z w9 => ((1 ≤ p ∧ p ≤ 300) ∧ z = (if TB cnt fv fs rm p.toNat ≤ rm then (1 : Int) else 0) ∧ MW ad cI cG 0 cnt rm lt tk ov fv fs fd w9) ∨ (¬ (1 ≤ p ∧ p ≤ 300) ∧ z = 0 ∧ MW ad cI cG 1 cnt rm lt tk ov fv fs fd w9))) := by
  obtain ⟨hc8, hS, hb99, hr1, hr2⟩ := id hI
  have h99 : ∀ j, j < cnt → fs j ≤ 99 := hb99
  have hr : 1 ≤ rm ∧ rm ≤ 12 := ⟨hr1, hr2⟩
  have hr9 : 0 ≤ rm ∧ rm ≤ 12 := ⟨by omega, hr.2⟩
  have hv : ∀ j, j < cnt → 1 ≤ fv j ∧ fv j ≤ 60 := hS.1
  have hv1 : ∀ j, j < cnt → 1 ≤ fv j := fun j hj => (hS.1 j hj).1
  have hs9 : ∀ j, j < cnt → 0 ≤ fs j ∧ fs j ≤ 119 := hS.2.1
  refine gMet_Z (by decide) rfl (Nat.le_of_ble_eq_true rfl) (fun E C ret => ?_)
  refine g_aload_n C dX4_canPay_0 0 rfl ?_
  refine g_iconst C dX4_canPay_1 ?_
  refine g_putf (w' := wM ad cI cG 0 (cnt : Int) rm lt tk ov fv fs fd fo F fg fp Y) C pX4_40 0 rfl rfl rfl (Nat.le_of_ble_eq_true rfl) rfl dX4_canPay_2 ?_
  refine g_iload_n C dX4_canPay_5 1 rfl ?_
  refine g_callS (wr := wM ad cI cG 0 (cnt : Int) rm lt tk ov fv fs fd fo F fg fp Y) (st := []) [] [0, 1, 2, 3, 4, 5, 6, 7, 8, 9, 10, 11, 12, 13, 14, 15, 16, 17, 18, 19, 20, 21, 22, 23, 24, 25, 26, 27, 28, 29, 30] C cX4_93 (met_X4_isPostage l D cI cG cJ p hp) ⟨rfl, rfl, by decide, by decide, by decide⟩ (by decide) (by decide) rfl rfl (Nat.le_of_ble_eq_true rfl) dX4_canPay_6 ?_
  rintro v9 w9 ⟨z9, rfl, rfl, rfl⟩
  refine g_ws (w' := wM ad cI cG 0 (cnt : Int) rm lt tk ov fv fs fd fo F fg fp Y) (st' := [.int (zI (if 1 ≤ p ∧ p ≤ 300 then (1 : Int) else 0))]) rfl rfl ?_
  refine g_if_ne 18 C dX4_canPay_9 (by decide) zr01 (fun c_9 => ?_) (fun c_9 => ?_)
  · have hp9 := if1 c_9
    obtain ⟨q, rfl⟩ : ∃ q : Nat, p = (q : Int) := ⟨p.toNat, by omega⟩
    refine g_aload_n C dX4_canPay_18 0 rfl ?_
    refine g_callV (wr := ([] : va_W)) (st := []) [0, 1, 2, 3, 4, 5, 6, 7, 8, 9, 10, 11, 12, 13, 14, 15, 16, 17, 18, 19, 20, 21, 22, 23, 24, 25, 26, 27, 28, 29, 30] [] C cX4_67 (met_X4_table l D cI cG cJ ad 0 cnt hc rm lt tk ov fv fs fd fo F fg fp Y hS hr) ⟨rfl, rfl, by decide, by decide, by decide⟩ (q0 := 0) rfl rfl (by decide) (by decide) rfl rfl (Nat.le_of_ble_eq_true rfl) dX4_canPay_19 ?_
    rintro v9 w9 ⟨rfl, fo1, F1, ⟨hO, hF⟩, rfl⟩
    refine g_ws (w' := wM ad cI cG 0 (cnt : Int) rm lt tk ov fv fs fd fo1 F1 fg fp Y) (st' := []) rfl rfl ?_
    refine g_aload_n C dX4_canPay_22 0 rfl ?_
    refine g_iload_n C dX4_canPay_23 1 rfl ?_
    refine g_callV (wr := ([] : va_W)) (st := []) [0, 1, 2, 3, 4, 5, 6, 7, 8, 9, 10, 11, 12, 13, 14, 15, 16, 17, 18, 19, 20, 21, 22, 23, 24, 25, 26, 27, 28, 29, 30] [] C cX4_63 (met_X4_pays l D cI cG cJ ad 0 cnt hc rm lt tk ov fv fs fd fo1 F1 fg fp Y hS hr hF q (by omega)) ⟨rfl, rfl, by decide, by decide, by decide⟩ (q0 := 0) rfl rfl (by decide) (by decide) rfl rfl (Nat.le_of_ble_eq_true rfl) dX4_canPay_24 ?_
    rintro v9 w9 ⟨z9, rfl, rfl, rfl⟩
    refine g_ws (w' := wM ad cI cG 0 (cnt : Int) rm lt tk ov fv fs fd fo1 F1 fg fp Y) (st' := [.int (zI (if F1 cnt q ≤ rm then (1 : Int) else 0))]) rfl rfl ?_
    refine g_top (if TB cnt fv fs rm q ≤ rm then (1 : Int) else 0) (by rw [hF.tb0 (by omega)]) ?_
    exact ret _ _ _ _ _ _ (by decide) (by decide) dX4_canPay_27 (if01) (Or.inl ⟨hp9, rfl, ⟨_, _, _, _, _, rfl⟩⟩)
  · have hp9 := if0 c_9
    refine g_aload_n C dX4_canPay_12 0 rfl ?_
    refine g_iconst C dX4_canPay_13 ?_
    refine g_callV (wr := ([] : va_W)) (st := []) [0, 1, 2, 3, 4, 5, 6, 7, 8, 9, 10, 11, 12, 13, 14, 15, 16, 17, 18, 19, 20, 21, 22, 23, 24, 25, 26, 27, 28, 29, 30] [] C cX4_119 (met_X4_isNot l D cI cG cJ ad 0 cnt hc rm lt tk ov fv fs fd fo F fg fp Y 1) ⟨rfl, rfl, by decide, by decide, by decide⟩ (q0 := 0) rfl rfl (by decide) (by decide) rfl rfl (Nat.le_of_ble_eq_true rfl) dX4_canPay_14 ?_
    rintro v9 w9 ⟨z9, rfl, rfl, rfl⟩
    refine g_ws (w' := wM ad cI cG 1 (cnt : Int) rm lt tk ov fv fs fd fo F fg fp Y) (st' := [.int (zI 0)]) rfl rfl ?_
    exact ret _ _ _ _ _ _ (by decide) (by decide) dX4_canPay_17 (Or.inl rfl) (Or.inr ⟨hp9, rfl, ⟨_, _, _, _, _, rfl⟩⟩)
abbrev rmX4_overpay : Room := { frames := 3, cells := 0, slots := 0, locals := 68 }
set_option maxHeartbeats 4000000 in
set_option maxRecDepth 100000 in
theorem met_X4_overpay (l : Launch) (D : va_G) (cI cG cJ : ClassId) (ad : Nat → Nat) (th : Int) (cnt : Nat) (hc : cnt ≤ 8) (rm lt tk ov : Int) (fv fs fd fo : Nat → Int) (F : Nat → Nat → Int) (fg fp : Nat → Int) (Y : Nat → Nat → Int) (hI : XI cnt fv fs rm) (p : Int) (hp : zr p)  : gMet l yX4_overpay cX4_overpay 2 (some .int) rmX4_overpay D cI cG cJ [.ref (ad 0), .int (zI p)] (wM ad cI cG th (cnt : Int) rm lt tk ov fv fs fd fo F fg fp Y) (gI (fun z w9 => ((1 ≤ p ∧ p ≤ 300) ∧ z = (if LSm cnt fv fs rm p.toNat = -1 then (-1 : Int) else LSm cnt fv fs rm p.toNat - p) ∧ MW ad cI cG 0 cnt rm lt tk ov fv fs fd w9) ∨ (¬ (1 ≤ p ∧ p ≤ 300) ∧ z = 0 ∧ MW ad cI cG 1 cnt rm lt tk ov fv fs fd w9))) := by
  obtain ⟨hc8, hS, hb99, hr1, hr2⟩ := id hI
  have h99 : ∀ j, j < cnt → fs j ≤ 99 := hb99
  have hr : 1 ≤ rm ∧ rm ≤ 12 := ⟨hr1, hr2⟩
  have hr9 : 0 ≤ rm ∧ rm ≤ 12 := ⟨by omega, hr.2⟩
  have hv : ∀ j, j < cnt → 1 ≤ fv j ∧ fv j ≤ 60 := hS.1
  have hv1 : ∀ j, j < cnt → 1 ≤ fv j := fun j hj => (hS.1 j hj).1
  have hs9 : ∀ j, j < cnt → 0 ≤ fs j ∧ fs j ≤ 119 := hS.2.1
  refine gMet_I (by decide) rfl (Nat.le_of_ble_eq_true rfl) (fun E C ret => ?_)
  refine g_aload_n C dX4_overpay_0 0 rfl ?_
  refine g_iconst C dX4_overpay_1 ?_
  refine g_putf (w' := wM ad cI cG 0 (cnt : Int) rm lt tk ov fv fs fd fo F fg fp Y) C pX4_40 0 rfl rfl rfl (Nat.le_of_ble_eq_true rfl) rfl dX4_overpay_2 ?_
  refine g_iload_n C dX4_overpay_5 1 rfl ?_
  refine g_callS (wr := wM ad cI cG 0 (cnt : Int) rm lt tk ov fv fs fd fo F fg fp Y) (st := []) [] [0, 1, 2, 3, 4, 5, 6, 7, 8, 9, 10, 11, 12, 13, 14, 15, 16, 17, 18, 19, 20, 21, 22, 23, 24, 25, 26, 27, 28, 29, 30] C cX4_93 (met_X4_isPostage l D cI cG cJ p hp) ⟨rfl, rfl, by decide, by decide, by decide⟩ (by decide) (by decide) rfl rfl (Nat.le_of_ble_eq_true rfl) dX4_overpay_6 ?_
  rintro v9 w9 ⟨z9, rfl, rfl, rfl⟩
  refine g_ws (w' := wM ad cI cG 0 (cnt : Int) rm lt tk ov fv fs fd fo F fg fp Y) (st' := [.int (zI (if 1 ≤ p ∧ p ≤ 300 then (1 : Int) else 0))]) rfl rfl ?_
  refine g_if_ne 18 C dX4_overpay_9 (by decide) zr01 (fun c_9 => ?_) (fun c_9 => ?_)
  · have hp9 := if1 c_9
    obtain ⟨q, rfl⟩ : ∃ q : Nat, p = (q : Int) := ⟨p.toNat, by omega⟩
    refine g_aload_n C dX4_overpay_18 0 rfl ?_
    refine g_callV (wr := ([] : va_W)) (st := []) [0, 1, 2, 3, 4, 5, 6, 7, 8, 9, 10, 11, 12, 13, 14, 15, 16, 17, 18, 19, 20, 21, 22, 23, 24, 25, 26, 27, 28, 29, 30] [] C cX4_67 (met_X4_table l D cI cG cJ ad 0 cnt hc rm lt tk ov fv fs fd fo F fg fp Y hS hr) ⟨rfl, rfl, by decide, by decide, by decide⟩ (q0 := 0) rfl rfl (by decide) (by decide) rfl rfl (Nat.le_of_ble_eq_true rfl) dX4_overpay_19 ?_
    rintro v9 w9 ⟨rfl, fo1, F1, ⟨hO, hF⟩, rfl⟩
    refine g_ws (w' := wM ad cI cG 0 (cnt : Int) rm lt tk ov fv fs fd fo1 F1 fg fp Y) (st' := []) rfl rfl ?_
    refine g_aload_n C dX4_overpay_22 0 rfl ?_
    refine g_iload_n C dX4_overpay_23 1 rfl ?_
    refine g_callV (wr := ([] : va_W)) (st := []) [0, 1, 2, 3, 4, 5, 6, 7, 8, 9, 10, 11, 12, 13, 14, 15, 16, 17, 18, 19, 20, 21, 22, 23, 24, 25, 26, 27, 28, 29, 30] [] C cX4_122 (met_X4_over l D cI cG cJ ad 0 cnt hc rm lt tk ov fv fs fd fo1 F1 fg fp Y hS hr hF q (by omega)) ⟨rfl, rfl, by decide, by decide, by decide⟩ (q0 := 0) rfl rfl (by decide) (by decide) rfl rfl (Nat.le_of_ble_eq_true rfl) dX4_overpay_24 ?_
    rintro v9 w9 ⟨z9, rfl, rfl, rfl⟩
    refine g_ws (w' := wM ad cI cG 0 (cnt : Int) rm lt tk ov fv fs fd fo1 F1 fg fp Y) (st' := [.int (zI (if (LSm cnt fv fs rm q) = -1 then (-1 : Int) else (LSm cnt fv fs rm q) - (q : Int)))]) rfl rfl ?_
    exact ret _ _ _ _ _ _ (by decide) (by decide) dX4_overpay_27 (Or.inl ⟨hp9, rfl, ⟨_, _, _, _, _, rfl⟩⟩)
  · have hp9 := if0 c_9
    refine g_aload_n C dX4_overpay_12 0 rfl ?_
    refine g_iconst C dX4_overpay_13 ?_
    refine g_callV (wr := ([] : va_W)) (st := []) [0, 1, 2, 3, 4, 5, 6, 7, 8, 9, 10, 11, 12, 13, 14, 15, 16, 17, 18, 19, 20, 21, 22, 23, 24, 25, 26, 27, 28, 29, 30] [] C cX4_80 (met_X4_no l D cI cG cJ ad 0 cnt hc rm lt tk ov fv fs fd fo F fg fp Y 1) ⟨rfl, rfl, by decide, by decide, by decide⟩ (q0 := 0) rfl rfl (by decide) (by decide) rfl rfl (Nat.le_of_ble_eq_true rfl) dX4_overpay_14 ?_
    rintro v9 w9 ⟨z9, rfl, rfl, rfl⟩
    refine g_ws (w' := wM ad cI cG 1 (cnt : Int) rm lt tk ov fv fs fd fo F fg fp Y) (st' := [.int (zI 0)]) rfl rfl ?_
    exact ret _ _ _ _ _ _ (by decide) (by decide) dX4_overpay_17 (Or.inr ⟨hp9, rfl, ⟨_, _, _, _, _, rfl⟩⟩)
abbrev rmX4_stampsFor : Room := { frames := 3, cells := 0, slots := 0, locals := 68 }
set_option maxHeartbeats 4000000 in
set_option maxRecDepth 100000 in
theorem met_X4_stampsFor (l : Launch) (D : va_G) (cI cG cJ : ClassId) (ad : Nat → Nat) (th : Int) (cnt : Nat) (hc : cnt ≤ 8) (rm lt tk ov : Int) (fv fs fd fo : Nat → Int) (F : Nat → Nat → Int) (fg fp : Nat → Int) (Y : Nat → Nat → Int) (hI : XI cnt fv fs rm) (p : Int) (hp : zr p)  : gMet l yX4_stampsFor cX4_stampsFor 2 (some .int) rmX4_stampsFor D cI cG cJ [.ref (ad 0), .int (zI p)] (wM ad cI cG th (cnt : Int) rm lt tk ov fv fs fd fo F fg fp Y) (gI (fun z w9 => ((1 ≤ p ∧ p ≤ 300) ∧ z = (if LSm cnt fv fs rm p.toNat = -1 then (0 : Int) else TB cnt fv fs rm (LSm cnt fv fs rm p.toNat).toNat) ∧ MW ad cI cG 0 cnt rm lt tk ov fv fs fd w9) ∨ (¬ (1 ≤ p ∧ p ≤ 300) ∧ z = 0 ∧ MW ad cI cG 1 cnt rm lt tk ov fv fs fd w9))) := by
  obtain ⟨hc8, hS, hb99, hr1, hr2⟩ := id hI
  have h99 : ∀ j, j < cnt → fs j ≤ 99 := hb99
  have hr : 1 ≤ rm ∧ rm ≤ 12 := ⟨hr1, hr2⟩
  have hr9 : 0 ≤ rm ∧ rm ≤ 12 := ⟨by omega, hr.2⟩
  have hv : ∀ j, j < cnt → 1 ≤ fv j ∧ fv j ≤ 60 := hS.1
  have hv1 : ∀ j, j < cnt → 1 ≤ fv j := fun j hj => (hS.1 j hj).1
  have hs9 : ∀ j, j < cnt → 0 ≤ fs j ∧ fs j ≤ 119 := hS.2.1
  refine gMet_I (by decide) rfl (Nat.le_of_ble_eq_true rfl) (fun E C ret => ?_)
  refine g_aload_n C dX4_stampsFor_0 0 rfl ?_
  refine g_iconst C dX4_stampsFor_1 ?_
  refine g_putf (w' := wM ad cI cG 0 (cnt : Int) rm lt tk ov fv fs fd fo F fg fp Y) C pX4_40 0 rfl rfl rfl (Nat.le_of_ble_eq_true rfl) rfl dX4_stampsFor_2 ?_
  refine g_iload_n C dX4_stampsFor_5 1 rfl ?_
  refine g_callS (wr := wM ad cI cG 0 (cnt : Int) rm lt tk ov fv fs fd fo F fg fp Y) (st := []) [] [0, 1, 2, 3, 4, 5, 6, 7, 8, 9, 10, 11, 12, 13, 14, 15, 16, 17, 18, 19, 20, 21, 22, 23, 24, 25, 26, 27, 28, 29, 30] C cX4_93 (met_X4_isPostage l D cI cG cJ p hp) ⟨rfl, rfl, by decide, by decide, by decide⟩ (by decide) (by decide) rfl rfl (Nat.le_of_ble_eq_true rfl) dX4_stampsFor_6 ?_
  rintro v9 w9 ⟨z9, rfl, rfl, rfl⟩
  refine g_ws (w' := wM ad cI cG 0 (cnt : Int) rm lt tk ov fv fs fd fo F fg fp Y) (st' := [.int (zI (if 1 ≤ p ∧ p ≤ 300 then (1 : Int) else 0))]) rfl rfl ?_
  refine g_if_ne 18 C dX4_stampsFor_9 (by decide) zr01 (fun c_9 => ?_) (fun c_9 => ?_)
  · have hp9 := if1 c_9
    obtain ⟨q, rfl⟩ : ∃ q : Nat, p = (q : Int) := ⟨p.toNat, by omega⟩
    refine g_aload_n C dX4_stampsFor_18 0 rfl ?_
    refine g_callV (wr := ([] : va_W)) (st := []) [0, 1, 2, 3, 4, 5, 6, 7, 8, 9, 10, 11, 12, 13, 14, 15, 16, 17, 18, 19, 20, 21, 22, 23, 24, 25, 26, 27, 28, 29, 30] [] C cX4_67 (met_X4_table l D cI cG cJ ad 0 cnt hc rm lt tk ov fv fs fd fo F fg fp Y hS hr) ⟨rfl, rfl, by decide, by decide, by decide⟩ (q0 := 0) rfl rfl (by decide) (by decide) rfl rfl (Nat.le_of_ble_eq_true rfl) dX4_stampsFor_19 ?_
    rintro v9 w9 ⟨rfl, fo1, F1, ⟨hO, hF⟩, rfl⟩
    refine g_ws (w' := wM ad cI cG 0 (cnt : Int) rm lt tk ov fv fs fd fo1 F1 fg fp Y) (st' := []) rfl rfl ?_
    refine g_aload_n C dX4_stampsFor_22 0 rfl ?_
    refine g_iload_n C dX4_stampsFor_23 1 rfl ?_
    refine g_callV (wr := ([] : va_W)) (st := []) [0, 1, 2, 3, 4, 5, 6, 7, 8, 9, 10, 11, 12, 13, 14, 15, 16, 17, 18, 19, 20, 21, 22, 23, 24, 25, 26, 27, 28, 29, 30] [] C cX4_125 (met_X4_many l D cI cG cJ ad 0 cnt hc rm lt tk ov fv fs fd fo1 F1 fg fp Y hS hr hF q (by omega)) ⟨rfl, rfl, by decide, by decide, by decide⟩ (q0 := 0) rfl rfl (by decide) (by decide) rfl rfl (Nat.le_of_ble_eq_true rfl) dX4_stampsFor_24 ?_
    rintro v9 w9 ⟨z9, rfl, rfl, rfl⟩
    refine g_ws (w' := wM ad cI cG 0 (cnt : Int) rm lt tk ov fv fs fd fo1 F1 fg fp Y) (st' := [.int (zI (if (LSm cnt fv fs rm q) = -1 then (0 : Int) else TB cnt fv fs rm (LSm cnt fv fs rm q).toNat))]) rfl rfl ?_
    exact ret _ _ _ _ _ _ (by decide) (by decide) dX4_stampsFor_27 (Or.inl ⟨hp9, rfl, ⟨_, _, _, _, _, rfl⟩⟩)
  · have hp9 := if0 c_9
    refine g_aload_n C dX4_stampsFor_12 0 rfl ?_
    refine g_iconst C dX4_stampsFor_13 ?_
    refine g_callV (wr := ([] : va_W)) (st := []) [0, 1, 2, 3, 4, 5, 6, 7, 8, 9, 10, 11, 12, 13, 14, 15, 16, 17, 18, 19, 20, 21, 22, 23, 24, 25, 26, 27, 28, 29, 30] [] C cX4_80 (met_X4_no l D cI cG cJ ad 0 cnt hc rm lt tk ov fv fs fd fo F fg fp Y 1) ⟨rfl, rfl, by decide, by decide, by decide⟩ (q0 := 0) rfl rfl (by decide) (by decide) rfl rfl (Nat.le_of_ble_eq_true rfl) dX4_stampsFor_14 ?_
    rintro v9 w9 ⟨z9, rfl, rfl, rfl⟩
    refine g_ws (w' := wM ad cI cG 1 (cnt : Int) rm lt tk ov fv fs fd fo F fg fp Y) (st' := [.int (zI 0)]) rfl rfl ?_
    exact ret _ _ _ _ _ _ (by decide) (by decide) dX4_stampsFor_17 (Or.inr ⟨hp9, rfl, ⟨_, _, _, _, _, rfl⟩⟩)
abbrev rmX4_fewest : Room := { frames := 2, cells := 0, slots := 0, locals := 45 }
set_option maxHeartbeats 4000000 in
set_option maxRecDepth 100000 in
theorem met_X4_fewest (l : Launch) (D : va_G) (cI cG cJ : ClassId) (ad : Nat → Nat) (th : Int) (cnt : Nat) (hc : cnt ≤ 8) (rm lt tk ov : Int) (fv fs fd fo : Nat → Int) (F : Nat → Nat → Int) (fg fp : Nat → Int) (Y : Nat → Nat → Int) (hI : XI cnt fv fs rm) (p : Int) (hp : zr p)  : gMet l yX4_fewest cX4_fewest 2 (some .int) rmX4_fewest D cI cG cJ [.ref (ad 0), .int (zI p)] (wM ad cI cG th (cnt : Int) rm lt tk ov fv fs fd fo F fg fp Y) (gI (fun z w9 => ((1 ≤ p ∧ p ≤ 300) ∧ z = (if PF fv cnt 0 p.toNat ≤ rm then PF fv cnt 0 p.toNat else (-1)) ∧ MW ad cI cG 0 cnt rm lt tk ov fv fs fd w9) ∨ (¬ (1 ≤ p ∧ p ≤ 300) ∧ z = 0 ∧ MW ad cI cG 1 cnt rm lt tk ov fv fs fd w9))) := by
  obtain ⟨hc8, hS, hb99, hr1, hr2⟩ := id hI
  have h99 : ∀ j, j < cnt → fs j ≤ 99 := hb99
  have hr : 1 ≤ rm ∧ rm ≤ 12 := ⟨hr1, hr2⟩
  have hr9 : 0 ≤ rm ∧ rm ≤ 12 := ⟨by omega, hr.2⟩
  have hv : ∀ j, j < cnt → 1 ≤ fv j ∧ fv j ≤ 60 := hS.1
  have hv1 : ∀ j, j < cnt → 1 ≤ fv j := fun j hj => (hS.1 j hj).1
  have hs9 : ∀ j, j < cnt → 0 ≤ fs j ∧ fs j ≤ 119 := hS.2.1
  refine gMet_I (by decide) rfl (Nat.le_of_ble_eq_true rfl) (fun E C ret => ?_)
  refine g_aload_n C dX4_fewest_0 0 rfl ?_
  refine g_iconst C dX4_fewest_1 ?_
  refine g_putf (w' := wM ad cI cG 0 (cnt : Int) rm lt tk ov fv fs fd fo F fg fp Y) C pX4_40 0 rfl rfl rfl (Nat.le_of_ble_eq_true rfl) rfl dX4_fewest_2 ?_
  refine g_iload_n C dX4_fewest_5 1 rfl ?_
  refine g_callS (wr := wM ad cI cG 0 (cnt : Int) rm lt tk ov fv fs fd fo F fg fp Y) (st := []) [] [0, 1, 2, 3, 4, 5, 6, 7, 8, 9, 10, 11, 12, 13, 14, 15, 16, 17, 18, 19, 20, 21, 22, 23, 24, 25, 26, 27, 28, 29, 30] C cX4_93 (met_X4_isPostage l D cI cG cJ p hp) ⟨rfl, rfl, by decide, by decide, by decide⟩ (by decide) (by decide) rfl rfl (Nat.le_of_ble_eq_true rfl) dX4_fewest_6 ?_
  rintro v9 w9 ⟨z9, rfl, rfl, rfl⟩
  refine g_ws (w' := wM ad cI cG 0 (cnt : Int) rm lt tk ov fv fs fd fo F fg fp Y) (st' := [.int (zI (if 1 ≤ p ∧ p ≤ 300 then (1 : Int) else 0))]) rfl rfl ?_
  refine g_if_ne 18 C dX4_fewest_9 (by decide) zr01 (fun c_9 => ?_) (fun c_9 => ?_)
  · have hp9 := if1 c_9
    obtain ⟨q, rfl⟩ : ∃ q : Nat, p = (q : Int) := ⟨p.toNat, by omega⟩
    refine g_aload_n C dX4_fewest_18 0 rfl ?_
    refine g_iconst C dX4_fewest_19 ?_
    refine g_callV (wr := ([] : va_W)) (st := []) [0, 1, 2, 3, 4, 5, 6, 7, 8, 9, 10, 11, 12, 13, 14, 15, 16, 17, 18, 19, 20, 21, 22, 23, 24, 25, 26, 27, 28, 29, 30] [] C cX4_77 (met_X4_printed l D cI cG cJ ad 0 cnt hc rm lt tk ov fv fs fd fo F fg fp Y hv 0 (by omega)) ⟨rfl, rfl, by decide, by decide, by decide⟩ (q0 := 0) rfl rfl (by decide) (by decide) rfl rfl (Nat.le_of_ble_eq_true rfl) dX4_fewest_20 ?_
    rintro v9 w9 ⟨rfl, fp1, hP, rfl⟩
    refine g_ws (w' := wM ad cI cG 0 (cnt : Int) rm lt tk ov fv fs fd fo F fg fp1 Y) (st' := []) rfl rfl ?_
    refine g_aload_n C dX4_fewest_23 0 rfl ?_
    refine g_iload_n C dX4_fewest_24 1 rfl ?_
    refine g_callV (wr := ([] : va_W)) (st := []) [0, 1, 2, 3, 4, 5, 6, 7, 8, 9, 10, 11, 12, 13, 14, 15, 16, 17, 18, 19, 20, 21, 22, 23, 24, 25, 26, 27, 28, 29, 30] [] C cX4_134 (met_X4_fewestFor l D cI cG cJ ad 0 cnt hc rm lt tk ov fv fs fd fo F fg fp1 Y hS hr hP q (by omega)) ⟨rfl, rfl, by decide, by decide, by decide⟩ (q0 := 0) rfl rfl (by decide) (by decide) rfl rfl (Nat.le_of_ble_eq_true rfl) dX4_fewest_25 ?_
    rintro v9 w9 ⟨z9, rfl, rfl, rfl⟩
    refine g_ws (w' := wM ad cI cG 0 (cnt : Int) rm lt tk ov fv fs fd fo F fg fp1 Y) (st' := [.int (zI (dq3 cnt fv rm q))]) rfl rfl ?_
    exact ret _ _ _ _ _ _ (by decide) (by decide) dX4_fewest_28 (Or.inl ⟨hp9, rfl, ⟨_, _, _, _, _, rfl⟩⟩)
  · have hp9 := if0 c_9
    refine g_aload_n C dX4_fewest_12 0 rfl ?_
    refine g_iconst C dX4_fewest_13 ?_
    refine g_callV (wr := ([] : va_W)) (st := []) [0, 1, 2, 3, 4, 5, 6, 7, 8, 9, 10, 11, 12, 13, 14, 15, 16, 17, 18, 19, 20, 21, 22, 23, 24, 25, 26, 27, 28, 29, 30] [] C cX4_80 (met_X4_no l D cI cG cJ ad 0 cnt hc rm lt tk ov fv fs fd fo F fg fp Y 1) ⟨rfl, rfl, by decide, by decide, by decide⟩ (q0 := 0) rfl rfl (by decide) (by decide) rfl rfl (Nat.le_of_ble_eq_true rfl) dX4_fewest_14 ?_
    rintro v9 w9 ⟨z9, rfl, rfl, rfl⟩
    refine g_ws (w' := wM ad cI cG 1 (cnt : Int) rm lt tk ov fv fs fd fo F fg fp Y) (st' := [.int (zI 0)]) rfl rfl ?_
    exact ret _ _ _ _ _ _ (by decide) (by decide) dX4_fewest_17 (Or.inr ⟨hp9, rfl, ⟨_, _, _, _, _, rfl⟩⟩)
abbrev rmX4_ways : Room := { frames := 2, cells := 0, slots := 0, locals := 42 }
set_option maxHeartbeats 4000000 in
set_option maxRecDepth 100000 in
theorem met_X4_ways (l : Launch) (D : va_G) (cI cG cJ : ClassId) (ad : Nat → Nat) (th : Int) (cnt : Nat) (hc : cnt ≤ 8) (rm lt tk ov : Int) (fv fs fd fo : Nat → Int) (F : Nat → Nat → Int) (fg fp : Nat → Int) (Y : Nat → Nat → Int) (hI : XI cnt fv fs rm) (p : Int) (hp : zr p)  : gMet l yX4_ways cX4_ways 2 (some .int) rmX4_ways D cI cG cJ [.ref (ad 0), .int (zI p)] (wM ad cI cG th (cnt : Int) rm lt tk ov fv fs fd fo F fg fp Y) (gI (fun z w9 => ((1 ≤ p ∧ p ≤ 300) ∧ z = wsum (wy fv cnt) p.toNat (rm.toNat + 1) ∧ MW ad cI cG 0 cnt rm lt tk ov fv fs fd w9) ∨ (¬ (1 ≤ p ∧ p ≤ 300) ∧ z = 0 ∧ MW ad cI cG 1 cnt rm lt tk ov fv fs fd w9))) := by
  obtain ⟨hc8, hS, hb99, hr1, hr2⟩ := id hI
  have h99 : ∀ j, j < cnt → fs j ≤ 99 := hb99
  have hr : 1 ≤ rm ∧ rm ≤ 12 := ⟨hr1, hr2⟩
  have hr9 : 0 ≤ rm ∧ rm ≤ 12 := ⟨by omega, hr.2⟩
  have hv : ∀ j, j < cnt → 1 ≤ fv j ∧ fv j ≤ 60 := hS.1
  have hv1 : ∀ j, j < cnt → 1 ≤ fv j := fun j hj => (hS.1 j hj).1
  have hs9 : ∀ j, j < cnt → 0 ≤ fs j ∧ fs j ≤ 119 := hS.2.1
  refine gMet_I (by decide) rfl (Nat.le_of_ble_eq_true rfl) (fun E C ret => ?_)
  refine g_aload_n C dX4_ways_0 0 rfl ?_
  refine g_iconst C dX4_ways_1 ?_
  refine g_putf (w' := wM ad cI cG 0 (cnt : Int) rm lt tk ov fv fs fd fo F fg fp Y) C pX4_40 0 rfl rfl rfl (Nat.le_of_ble_eq_true rfl) rfl dX4_ways_2 ?_
  refine g_iload_n C dX4_ways_5 1 rfl ?_
  refine g_callS (wr := wM ad cI cG 0 (cnt : Int) rm lt tk ov fv fs fd fo F fg fp Y) (st := []) [] [0, 1, 2, 3, 4, 5, 6, 7, 8, 9, 10, 11, 12, 13, 14, 15, 16, 17, 18, 19, 20, 21, 22, 23, 24, 25, 26, 27, 28, 29, 30] C cX4_93 (met_X4_isPostage l D cI cG cJ p hp) ⟨rfl, rfl, by decide, by decide, by decide⟩ (by decide) (by decide) rfl rfl (Nat.le_of_ble_eq_true rfl) dX4_ways_6 ?_
  rintro v9 w9 ⟨z9, rfl, rfl, rfl⟩
  refine g_ws (w' := wM ad cI cG 0 (cnt : Int) rm lt tk ov fv fs fd fo F fg fp Y) (st' := [.int (zI (if 1 ≤ p ∧ p ≤ 300 then (1 : Int) else 0))]) rfl rfl ?_
  refine g_if_eq 20 C dX4_ways_9 (by decide) zr01 (fun c_9 => ?_) (fun c_9 => ?_)
  · have hp9 := if0 c_9
    refine g_aload_n C dX4_ways_20 0 rfl ?_
    refine g_iconst C dX4_ways_21 ?_
    refine g_callV (wr := ([] : va_W)) (st := []) [0, 1, 2, 3, 4, 5, 6, 7, 8, 9, 10, 11, 12, 13, 14, 15, 16, 17, 18, 19, 20, 21, 22, 23, 24, 25, 26, 27, 28, 29, 30] [] C cX4_80 (met_X4_no l D cI cG cJ ad 0 cnt hc rm lt tk ov fv fs fd fo F fg fp Y 1) ⟨rfl, rfl, by decide, by decide, by decide⟩ (q0 := 0) rfl rfl (by decide) (by decide) rfl rfl (Nat.le_of_ble_eq_true rfl) dX4_ways_22 ?_
    rintro v9 w9 ⟨z9, rfl, rfl, rfl⟩
    refine g_ws (w' := wM ad cI cG 1 (cnt : Int) rm lt tk ov fv fs fd fo F fg fp Y) (st' := [.int (zI 0)]) rfl rfl ?_
    exact ret _ _ _ _ _ _ (by decide) (by decide) dX4_ways_25 (Or.inr ⟨hp9, rfl, ⟨_, _, _, _, _, rfl⟩⟩)
  · have hp9 := if1 c_9
    obtain ⟨q, rfl⟩ : ∃ q : Nat, p = (q : Int) := ⟨p.toNat, by omega⟩
    refine g_aload_n C dX4_ways_12 0 rfl ?_
    refine g_iload_n C dX4_ways_13 1 rfl ?_
    refine g_callV (wr := ([] : va_W)) (st := []) [0, 1, 2, 3, 4, 5, 6, 7, 8, 9, 10, 11, 12, 13, 14, 15, 16, 17, 18, 19, 20, 21, 22, 23, 24, 25, 26, 27, 28, 29, 30] [] C cX4_137 (met_X4_allWays l D cI cG cJ ad 0 cnt hc rm lt tk ov fv fs fd fo F fg fp Y hv hr q (by omega)) ⟨rfl, rfl, by decide, by decide, by decide⟩ (q0 := 0) rfl rfl (by decide) (by decide) rfl rfl (Nat.le_of_ble_eq_true rfl) dX4_ways_14 ?_
    rintro v9 w9 ⟨z9, rfl, rfl, Y1, rfl⟩
    refine g_ws (w' := wM ad cI cG 0 (cnt : Int) rm lt tk ov fv fs fd fo F fg fp Y1) (st' := [.int (zI (wsum (wy fv cnt) q (rm.toNat + 1)))]) rfl rfl ?_
    refine g_goto 25 C dX4_ways_17 (by decide) ?_
    exact ret _ _ _ _ _ _ (by decide) (by decide) dX4_ways_25 (Or.inl ⟨hp9, rfl, ⟨_, _, _, _, _, rfl⟩⟩)
abbrev rmX4_gapFrom : Room := { frames := 2, cells := 0, slots := 0, locals := 45 }
set_option maxHeartbeats 4000000 in
set_option maxRecDepth 100000 in
theorem met_X4_gapFrom (l : Launch) (D : va_G) (cI cG cJ : ClassId) (ad : Nat → Nat) (th : Int) (cnt : Nat) (hc : cnt ≤ 8) (rm lt tk ov : Int) (fv fs fd fo : Nat → Int) (F : Nat → Nat → Int) (fg fp : Nat → Int) (Y : Nat → Nat → Int) (hI : XI cnt fv fs rm) (p : Int) (hp : zr p)  : gMet l yX4_gapFrom cX4_gapFrom 3 (some .int) rmX4_gapFrom D cI cG cJ [.ref (ad 0), .int (zI p)] (wM ad cI cG th (cnt : Int) rm lt tk ov fv fs fd fo F fg fp Y) (gI (fun z w9 => ((1 ≤ p ∧ p ≤ 300) ∧ z = fgp (PF fv cnt 0) rm (301 - p.toNat) p.toNat ∧ MW ad cI cG 0 cnt rm lt tk ov fv fs fd w9) ∨ (¬ (1 ≤ p ∧ p ≤ 300) ∧ z = 0 ∧ MW ad cI cG 1 cnt rm lt tk ov fv fs fd w9))) := by
  obtain ⟨hc8, hS, hb99, hr1, hr2⟩ := id hI
  have h99 : ∀ j, j < cnt → fs j ≤ 99 := hb99
  have hr : 1 ≤ rm ∧ rm ≤ 12 := ⟨hr1, hr2⟩
  have hr9 : 0 ≤ rm ∧ rm ≤ 12 := ⟨by omega, hr.2⟩
  have hv : ∀ j, j < cnt → 1 ≤ fv j ∧ fv j ≤ 60 := hS.1
  have hv1 : ∀ j, j < cnt → 1 ≤ fv j := fun j hj => (hS.1 j hj).1
  have hs9 : ∀ j, j < cnt → 0 ≤ fs j ∧ fs j ≤ 119 := hS.2.1
  refine gMet_I (by decide) rfl (Nat.le_of_ble_eq_true rfl) (fun E C ret => ?_)
  refine g_aload_n C dX4_gapFrom_0 0 rfl ?_
  refine g_iconst C dX4_gapFrom_1 ?_
  refine g_putf (w' := wM ad cI cG 0 (cnt : Int) rm lt tk ov fv fs fd fo F fg fp Y) C pX4_40 0 rfl rfl rfl (Nat.le_of_ble_eq_true rfl) rfl dX4_gapFrom_2 ?_
  refine g_iload_n C dX4_gapFrom_5 1 rfl ?_
  refine g_callS (wr := wM ad cI cG 0 (cnt : Int) rm lt tk ov fv fs fd fo F fg fp Y) (st := []) [] [0, 1, 2, 3, 4, 5, 6, 7, 8, 9, 10, 11, 12, 13, 14, 15, 16, 17, 18, 19, 20, 21, 22, 23, 24, 25, 26, 27, 28, 29, 30] C cX4_93 (met_X4_isPostage l D cI cG cJ p hp) ⟨rfl, rfl, by decide, by decide, by decide⟩ (by decide) (by decide) rfl rfl (Nat.le_of_ble_eq_true rfl) dX4_gapFrom_6 ?_
  rintro v9 w9 ⟨z9, rfl, rfl, rfl⟩
  refine g_ws (w' := wM ad cI cG 0 (cnt : Int) rm lt tk ov fv fs fd fo F fg fp Y) (st' := [.int (zI (if 1 ≤ p ∧ p ≤ 300 then (1 : Int) else 0))]) rfl rfl ?_
  refine g_if_ne 18 C dX4_gapFrom_9 (by decide) zr01 (fun c_9 => ?_) (fun c_9 => ?_)
  · have hp9 := if1 c_9
    obtain ⟨q, rfl⟩ : ∃ q : Nat, p = (q : Int) := ⟨p.toNat, by omega⟩
    refine g_aload_n C dX4_gapFrom_18 0 rfl ?_
    refine g_iconst C dX4_gapFrom_19 ?_
    refine g_callV (wr := ([] : va_W)) (st := []) [0, 1, 2, 3, 4, 5, 6, 7, 8, 9, 10, 11, 12, 13, 14, 15, 16, 17, 18, 19, 20, 21, 22, 23, 24, 25, 26, 27, 28, 29, 30] [] C cX4_77 (met_X4_printed l D cI cG cJ ad 0 cnt hc rm lt tk ov fv fs fd fo F fg fp Y hv 0 (by omega)) ⟨rfl, rfl, by decide, by decide, by decide⟩ (q0 := 0) rfl rfl (by decide) (by decide) rfl rfl (Nat.le_of_ble_eq_true rfl) dX4_gapFrom_20 ?_
    rintro v9 w9 ⟨rfl, fp1, hP, rfl⟩
    refine g_ws (w' := wM ad cI cG 0 (cnt : Int) rm lt tk ov fv fs fd fo F fg fp1 Y) (st' := []) rfl rfl ?_
    have hfe : fgp (PF fv cnt 0) rm (301 - q) q = fgp fp1 rm (301 - q) q := fgp_congr _ _ (fun j h8 h9 => (hP.eq hv1 (by omega)).symm)
    refine g_iload_n C dX4_gapFrom_23 1 rfl ?_
    refine g_istore_n (L' := [(2, .int (zI (q : Int))), (0, .ref (ad 0)), (1, .int (zI (q : Int)))]) C dX4_gapFrom_24 (by decide) rfl ?_
    have loop_25 : ∀ (fu : Nat) (s : Nat), (hi : s ≤ 301) → (he : fgp fp1 rm (301 - q) q = fgp fp1 rm (301 - s) s) → 301 - s < fu → gW E 0 0 (wM ad cI cG 0 (cnt : Int) rm lt tk ov fv fs fd fo F fg fp1 Y) 25 [(2, .int (zI (s : Int))), (0, .ref (ad 0)), (1, .int (zI (q : Int)))] [] := by
      intro fu
      induction fu with
      | zero => intro s hi he h9; exact absurd h9 (Nat.not_lt_zero _)
      | succ fu ih_25 =>
        intro s hi he hmu_25
        refine g_iload_n C dX4_gapFrom_25 0 rfl ?_
        refine g_sipush C dX4_gapFrom_26 (by decide) ?_
        refine g_icmp_gt 53 C dX4_gapFrom_29 (by decide) (zr_i (by omega) (by omega)) (zr_i (by omega) (by omega)) (fun c_29 => ?_) (fun c_29 => ?_)
        · refine g_iconst C dX4_gapFrom_53 ?_
          exact ret _ _ _ _ _ _ (by decide) (by decide) dX4_gapFrom_54 (Or.inl ⟨hp9, by show _ = fgp (PF fv cnt 0) rm (301 - q) q; rw [hfe, he, show s = 301 by omega]; rfl, ⟨_, _, _, _, _, rfl⟩⟩)
        · refine g_aload_n C dX4_gapFrom_32 1 rfl ?_
          refine g_getf C fX4_34 0 rfl rfl dX4_gapFrom_33 ?_
          refine g_iload_n C dX4_gapFrom_36 0 rfl ?_
          have hb9 := hP.bd hv1 s (by omega)
          refine g_iald C 7 rfl (by decide) (by omega) (by omega) (v := (fp1 s)) rfl dX4_gapFrom_37 ?_
          refine g_aload_n C dX4_gapFrom_38 1 rfl ?_
          refine g_getf C fX4_9 0 rfl rfl dX4_gapFrom_39 ?_
          refine g_icmp_le 47 C dX4_gapFrom_42 (by decide) (zr_i (by omega) (by omega)) (zr_i (by omega) (by omega)) (fun c_42 => ?_) (fun c_42 => ?_)
          · refine g_iinc (L' := [(2, .int (zI ((s : Int) + 1))), (0, .ref (ad 0)), (1, .int (zI (q : Int)))]) C dX4_gapFrom_47 0 rfl (by decide) rfl ?_
            refine g_goto 25 C dX4_gapFrom_50 (by decide) ?_
            refine g_loc (L' := [(2, .int (zI ((s : Int) + 1))), (0, .ref (ad 0)), (1, .int (zI (q : Int)))]) [0, 1, 2] rfl ?_
            exact ih_25 (s + 1) (by omega) (by rw [he, show 301 - s = (301 - (s + 1)) + 1 by omega, fgp_f (by omega)]) (by omega)
          · refine g_iload_n C dX4_gapFrom_45 0 rfl ?_
            exact ret _ _ _ _ _ _ (by decide) (by decide) dX4_gapFrom_46 (Or.inl ⟨hp9, by show _ = fgp (PF fv cnt 0) rm (301 - q) q; rw [hfe, he, show 301 - s = (301 - (s + 1)) + 1 by omega, fgp_t (by omega)], ⟨_, _, _, _, _, rfl⟩⟩)
    refine g_loc (L' := [(2, .int (zI (q : Int))), (0, .ref (ad 0)), (1, .int (zI (q : Int)))]) [0, 1, 2] rfl ?_
    exact loop_25 _ q (by omega) rfl (Nat.lt_succ_self _)
  · have hp9 := if0 c_9
    refine g_aload_n C dX4_gapFrom_12 0 rfl ?_
    refine g_iconst C dX4_gapFrom_13 ?_
    refine g_callV (wr := ([] : va_W)) (st := []) [0, 1, 2, 3, 4, 5, 6, 7, 8, 9, 10, 11, 12, 13, 14, 15, 16, 17, 18, 19, 20, 21, 22, 23, 24, 25, 26, 27, 28, 29, 30] [] C cX4_80 (met_X4_no l D cI cG cJ ad 0 cnt hc rm lt tk ov fv fs fd fo F fg fp Y 1) ⟨rfl, rfl, by decide, by decide, by decide⟩ (q0 := 0) rfl rfl (by decide) (by decide) rfl rfl (Nat.le_of_ble_eq_true rfl) dX4_gapFrom_14 ?_
    rintro v9 w9 ⟨z9, rfl, rfl, rfl⟩
    refine g_ws (w' := wM ad cI cG 1 (cnt : Int) rm lt tk ov fv fs fd fo F fg fp Y) (st' := [.int (zI 0)]) rfl rfl ?_
    exact ret _ _ _ _ _ _ (by decide) (by decide) dX4_gapFrom_17 (Or.inr ⟨hp9, rfl, ⟨_, _, _, _, _, rfl⟩⟩)
abbrev rmX4_gapsTo : Room := { frames := 2, cells := 0, slots := 0, locals := 45 }
set_option maxHeartbeats 4000000 in
set_option maxRecDepth 100000 in
theorem met_X4_gapsTo (l : Launch) (D : va_G) (cI cG cJ : ClassId) (ad : Nat → Nat) (th : Int) (cnt : Nat) (hc : cnt ≤ 8) (rm lt tk ov : Int) (fv fs fd fo : Nat → Int) (F : Nat → Nat → Int) (fg fp : Nat → Int) (Y : Nat → Nat → Int) (hI : XI cnt fv fs rm) (p : Int) (hp : zr p)  : gMet l yX4_gapsTo cX4_gapsTo 4 (some .int) rmX4_gapsTo D cI cG cJ [.ref (ad 0), .int (zI p)] (wM ad cI cG th (cnt : Int) rm lt tk ov fv fs fd fo F fg fp Y) (gI (fun z w9 => ((1 ≤ p ∧ p ≤ 300) ∧ z = ((cgp (PF fv cnt 0) rm p.toNat : Nat) : Int) ∧ MW ad cI cG 0 cnt rm lt tk ov fv fs fd w9) ∨ (¬ (1 ≤ p ∧ p ≤ 300) ∧ z = 0 ∧ MW ad cI cG 1 cnt rm lt tk ov fv fs fd w9))) := by
  obtain ⟨hc8, hS, hb99, hr1, hr2⟩ := id hI
  have h99 : ∀ j, j < cnt → fs j ≤ 99 := hb99
  have hr : 1 ≤ rm ∧ rm ≤ 12 := ⟨hr1, hr2⟩
  have hr9 : 0 ≤ rm ∧ rm ≤ 12 := ⟨by omega, hr.2⟩
  have hv : ∀ j, j < cnt → 1 ≤ fv j ∧ fv j ≤ 60 := hS.1
  have hv1 : ∀ j, j < cnt → 1 ≤ fv j := fun j hj => (hS.1 j hj).1
  have hs9 : ∀ j, j < cnt → 0 ≤ fs j ∧ fs j ≤ 119 := hS.2.1
  refine gMet_I (by decide) rfl (Nat.le_of_ble_eq_true rfl) (fun E C ret => ?_)
  refine g_aload_n C dX4_gapsTo_0 0 rfl ?_
  refine g_iconst C dX4_gapsTo_1 ?_
  refine g_putf (w' := wM ad cI cG 0 (cnt : Int) rm lt tk ov fv fs fd fo F fg fp Y) C pX4_40 0 rfl rfl rfl (Nat.le_of_ble_eq_true rfl) rfl dX4_gapsTo_2 ?_
  refine g_iload_n C dX4_gapsTo_5 1 rfl ?_
  refine g_callS (wr := wM ad cI cG 0 (cnt : Int) rm lt tk ov fv fs fd fo F fg fp Y) (st := []) [] [0, 1, 2, 3, 4, 5, 6, 7, 8, 9, 10, 11, 12, 13, 14, 15, 16, 17, 18, 19, 20, 21, 22, 23, 24, 25, 26, 27, 28, 29, 30] C cX4_93 (met_X4_isPostage l D cI cG cJ p hp) ⟨rfl, rfl, by decide, by decide, by decide⟩ (by decide) (by decide) rfl rfl (Nat.le_of_ble_eq_true rfl) dX4_gapsTo_6 ?_
  rintro v9 w9 ⟨z9, rfl, rfl, rfl⟩
  refine g_ws (w' := wM ad cI cG 0 (cnt : Int) rm lt tk ov fv fs fd fo F fg fp Y) (st' := [.int (zI (if 1 ≤ p ∧ p ≤ 300 then (1 : Int) else 0))]) rfl rfl ?_
  refine g_if_ne 18 C dX4_gapsTo_9 (by decide) zr01 (fun c_9 => ?_) (fun c_9 => ?_)
  · have hp9 := if1 c_9
    obtain ⟨q, rfl⟩ : ∃ q : Nat, p = (q : Int) := ⟨p.toNat, by omega⟩
    refine g_aload_n C dX4_gapsTo_18 0 rfl ?_
    refine g_iconst C dX4_gapsTo_19 ?_
    refine g_callV (wr := ([] : va_W)) (st := []) [0, 1, 2, 3, 4, 5, 6, 7, 8, 9, 10, 11, 12, 13, 14, 15, 16, 17, 18, 19, 20, 21, 22, 23, 24, 25, 26, 27, 28, 29, 30] [] C cX4_77 (met_X4_printed l D cI cG cJ ad 0 cnt hc rm lt tk ov fv fs fd fo F fg fp Y hv 0 (by omega)) ⟨rfl, rfl, by decide, by decide, by decide⟩ (q0 := 0) rfl rfl (by decide) (by decide) rfl rfl (Nat.le_of_ble_eq_true rfl) dX4_gapsTo_20 ?_
    rintro v9 w9 ⟨rfl, fp1, hP, rfl⟩
    refine g_ws (w' := wM ad cI cG 0 (cnt : Int) rm lt tk ov fv fs fd fo F fg fp1 Y) (st' := []) rfl rfl ?_
    refine g_iconst C dX4_gapsTo_23 ?_
    refine g_istore_n (L' := [(2, .int (zI 0)), (0, .ref (ad 0)), (1, .int (zI (q : Int)))]) C dX4_gapsTo_24 (by decide) rfl ?_
    refine g_iconst C dX4_gapsTo_25 ?_
    refine g_istore_n (L' := [(3, .int (zI 1)), (2, .int (zI 0)), (0, .ref (ad 0)), (1, .int (zI (q : Int)))]) C dX4_gapsTo_26 (by decide) rfl ?_
    have loop_27 : ∀ (fu : Nat) (s : Nat), (hs : s ≤ q) → q - s < fu → gW E 0 0 (wM ad cI cG 0 (cnt : Int) rm lt tk ov fv fs fd fo F fg fp1 Y) 27 [(3, .int (zI ((s + 1 : Nat) : Int))), (2, .int (zI ((cgp fp1 rm s : Nat) : Int))), (0, .ref (ad 0)), (1, .int (zI (q : Int)))] [] := by
      intro fu
      induction fu with
      | zero => intro s hs h9; exact absurd h9 (Nat.not_lt_zero _)
      | succ fu ih_27 =>
        intro s hs hmu_27
        refine g_iload_n C dX4_gapsTo_27 0 rfl ?_
        refine g_iload_n C dX4_gapsTo_28 3 rfl ?_
        refine g_icmp_gt 59 C dX4_gapsTo_29 (by decide) (zr_i (by omega) (by omega)) (zr_i (by omega) (by omega)) (fun c_29 => ?_) (fun c_29 => ?_)
        · refine g_iload_n C dX4_gapsTo_59 1 rfl ?_
          exact ret _ _ _ _ _ _ (by decide) (by decide) dX4_gapsTo_60 (Or.inl ⟨hp9, by show _ = ((cgp (PF fv cnt 0) rm q : Nat) : Int); rw [show s = q by omega, cgp_congr q (fun j h8 h9 => hP.eq hv1 (by omega))], ⟨_, _, _, _, _, rfl⟩⟩)
        · refine g_iload_n C dX4_gapsTo_32 1 rfl ?_
          refine g_aload_n C dX4_gapsTo_33 2 rfl ?_
          refine g_getf C fX4_34 0 rfl rfl dX4_gapsTo_34 ?_
          have hb9 := hP.bd hv1 (s + 1) (by omega)
          refine g_iload_n C dX4_gapsTo_37 0 rfl ?_
          refine g_iald C 7 rfl (by decide) (by omega) (by omega) (v := (fp1 (s + 1))) rfl dX4_gapsTo_38 ?_
          refine g_aload_n C dX4_gapsTo_39 2 rfl ?_
          refine g_getf C fX4_9 0 rfl rfl dX4_gapsTo_40 ?_
          refine g_icmp_le 50 C dX4_gapsTo_43 (by decide) (zr_i (by omega) (by omega)) (zr_i (by omega) (by omega)) (fun c_43 => ?_) (fun c_43 => ?_)
          · refine g_iconst C dX4_gapsTo_50 ?_
            refine g_iadd C dX4_gapsTo_51 ?_
            refine g_top ((cgp fp1 rm (s + 1) : Nat) : Int) (by first | exact (cgp_t (by omega)).symm | (rw [cgp_f (by omega)]; omega)) ?_
            refine g_istore_n (L' := [(2, .int (zI ((cgp fp1 rm (s + 1) : Nat) : Int))), (3, .int (zI ((s + 1 : Nat) : Int))), (0, .ref (ad 0)), (1, .int (zI (q : Int)))]) C dX4_gapsTo_52 (by decide) rfl ?_
            refine g_iinc (L' := [(3, .int (zI (((s + 1 : Nat) : Int) + 1))), (2, .int (zI ((cgp fp1 rm (s + 1) : Nat) : Int))), (0, .ref (ad 0)), (1, .int (zI (q : Int)))]) C dX4_gapsTo_53 1 rfl (by decide) rfl ?_
            refine g_goto 27 C dX4_gapsTo_56 (by decide) ?_
            refine g_loc (L' := [(3, .int (zI (((s + 1 : Nat) : Int) + 1))), (2, .int (zI ((cgp fp1 rm (s + 1) : Nat) : Int))), (0, .ref (ad 0)), (1, .int (zI (q : Int)))]) [0, 1, 2, 3] rfl ?_
            exact ih_27 (s + 1) (by omega) (by omega)
          · refine g_iconst C dX4_gapsTo_46 ?_
            refine g_goto 51 C dX4_gapsTo_47 (by decide) ?_
            refine g_iadd C dX4_gapsTo_51 ?_
            refine g_top ((cgp fp1 rm (s + 1) : Nat) : Int) (by first | exact (cgp_t (by omega)).symm | (rw [cgp_f (by omega)]; omega)) ?_
            refine g_istore_n (L' := [(2, .int (zI ((cgp fp1 rm (s + 1) : Nat) : Int))), (3, .int (zI ((s + 1 : Nat) : Int))), (0, .ref (ad 0)), (1, .int (zI (q : Int)))]) C dX4_gapsTo_52 (by decide) rfl ?_
            refine g_iinc (L' := [(3, .int (zI (((s + 1 : Nat) : Int) + 1))), (2, .int (zI ((cgp fp1 rm (s + 1) : Nat) : Int))), (0, .ref (ad 0)), (1, .int (zI (q : Int)))]) C dX4_gapsTo_53 1 rfl (by decide) rfl ?_
            refine g_goto 27 C dX4_gapsTo_56 (by decide) ?_
            refine g_loc (L' := [(3, .int (zI (((s + 1 : Nat) : Int) + 1))), (2, .int (zI ((cgp fp1 rm (s + 1) : Nat) : Int))), (0, .ref (ad 0)), (1, .int (zI (q : Int)))]) [0, 1, 2, 3] rfl ?_
            exact ih_27 (s + 1) (by omega) (by omega)
    refine g_loc (L' := [(3, .int (zI 1)), (2, .int (zI 0)), (0, .ref (ad 0)), (1, .int (zI (q : Int)))]) [0, 1, 2, 3] rfl ?_
    exact loop_27 _ 0 (Nat.zero_le _) (Nat.lt_succ_self _)
  · have hp9 := if0 c_9
    refine g_aload_n C dX4_gapsTo_12 0 rfl ?_
    refine g_iconst C dX4_gapsTo_13 ?_
    refine g_callV (wr := ([] : va_W)) (st := []) [0, 1, 2, 3, 4, 5, 6, 7, 8, 9, 10, 11, 12, 13, 14, 15, 16, 17, 18, 19, 20, 21, 22, 23, 24, 25, 26, 27, 28, 29, 30] [] C cX4_80 (met_X4_no l D cI cG cJ ad 0 cnt hc rm lt tk ov fv fs fd fo F fg fp Y 1) ⟨rfl, rfl, by decide, by decide, by decide⟩ (q0 := 0) rfl rfl (by decide) (by decide) rfl rfl (Nat.le_of_ble_eq_true rfl) dX4_gapsTo_14 ?_
    rintro v9 w9 ⟨z9, rfl, rfl, rfl⟩
    refine g_ws (w' := wM ad cI cG 1 (cnt : Int) rm lt tk ov fv fs fd fo F fg fp Y) (st' := [.int (zI 0)]) rfl rfl ?_
    exact ret _ _ _ _ _ _ (by decide) (by decide) dX4_gapsTo_17 (Or.inr ⟨hp9, rfl, ⟨_, _, _, _, _, rfl⟩⟩)
abbrev rmX4_reachWithRoom : Room := { frames := 3, cells := 0, slots := 0, locals := 68 }
set_option maxHeartbeats 4000000 in
set_option maxRecDepth 100000 in
theorem met_X4_reachWithRoom (l : Launch) (D : va_G) (cI cG cJ : ClassId) (ad : Nat → Nat) (th : Int) (cnt : Nat) (hc : cnt ≤ 8) (rm lt tk ov : Int) (fv fs fd fo : Nat → Int) (F : Nat → Nat → Int) (fg fp : Nat → Int) (Y : Nat → Nat → Int) (hI : XI cnt fv fs rm) (p : Int) (hp : zr p)  : gMet l yX4_reachWithRoom cX4_reachWithRoom 2 (some .int) rmX4_reachWithRoom D cI cG cJ [.ref (ad 0), .int (zI p)] (wM ad cI cG th (cnt : Int) rm lt tk ov fv fs fd fo F fg fp Y) (gI (fun z w9 => ((1 ≤ p ∧ p ≤ 12) ∧ z = (RP fv cnt 0 p : Int) ∧ MW ad cI cG 0 cnt rm lt tk ov fv fs fd w9) ∨ (¬ (1 ≤ p ∧ p ≤ 12) ∧ z = 0 ∧ MW ad cI cG 1 cnt rm lt tk ov fv fs fd w9))) := by
  obtain ⟨hc8, hS, hb99, hr1, hr2⟩ := id hI
  have h99 : ∀ j, j < cnt → fs j ≤ 99 := hb99
  have hr : 1 ≤ rm ∧ rm ≤ 12 := ⟨hr1, hr2⟩
  have hr9 : 0 ≤ rm ∧ rm ≤ 12 := ⟨by omega, hr.2⟩
  have hv : ∀ j, j < cnt → 1 ≤ fv j ∧ fv j ≤ 60 := hS.1
  have hv1 : ∀ j, j < cnt → 1 ≤ fv j := fun j hj => (hS.1 j hj).1
  have hs9 : ∀ j, j < cnt → 0 ≤ fs j ∧ fs j ≤ 119 := hS.2.1
  refine gMet_I (by decide) rfl (Nat.le_of_ble_eq_true rfl) (fun E C ret => ?_)
  refine g_aload_n C dX4_reachWithRoom_0 0 rfl ?_
  refine g_iconst C dX4_reachWithRoom_1 ?_
  refine g_putf (w' := wM ad cI cG 0 (cnt : Int) rm lt tk ov fv fs fd fo F fg fp Y) C pX4_40 0 rfl rfl rfl (Nat.le_of_ble_eq_true rfl) rfl dX4_reachWithRoom_2 ?_
  refine g_iload_n C dX4_reachWithRoom_5 1 rfl ?_
  refine g_iconst C dX4_reachWithRoom_6 ?_
  refine g_bipush C dX4_reachWithRoom_7 (by decide) ?_
  refine g_callS (wr := wM ad cI cG 0 (cnt : Int) rm lt tk ov fv fs fd fo F fg fp Y) (st := []) [] [0, 1, 2, 3, 4, 5, 6, 7, 8, 9, 10, 11, 12, 13, 14, 15, 16, 17, 18, 19, 20, 21, 22, 23, 24, 25, 26, 27, 28, 29, 30] C cX4_46 (met_X4_isIn l D cI cG cJ p 1 12 (hp) (zr_i (by omega) (by omega)) (zr_i (by omega) (by omega))) ⟨rfl, rfl, by decide, by decide, by decide⟩ (by decide) (by decide) rfl rfl (Nat.le_of_ble_eq_true rfl) dX4_reachWithRoom_9 ?_
  rintro v9 w9 ⟨z9, rfl, rfl, rfl⟩
  refine g_ws (w' := wM ad cI cG 0 (cnt : Int) rm lt tk ov fv fs fd fo F fg fp Y) (st' := [.int (zI (if 1 ≤ p ∧ p ≤ 12 then (1 : Int) else 0))]) rfl rfl ?_
  refine g_if_eq 24 C dX4_reachWithRoom_12 (by decide) zr01 (fun c_12 => ?_) (fun c_12 => ?_)
  · have hp9 := if0 c_12
    refine g_aload_n C dX4_reachWithRoom_24 0 rfl ?_
    refine g_iconst C dX4_reachWithRoom_25 ?_
    refine g_callV (wr := ([] : va_W)) (st := []) [0, 1, 2, 3, 4, 5, 6, 7, 8, 9, 10, 11, 12, 13, 14, 15, 16, 17, 18, 19, 20, 21, 22, 23, 24, 25, 26, 27, 28, 29, 30] [] C cX4_80 (met_X4_no l D cI cG cJ ad 0 cnt hc rm lt tk ov fv fs fd fo F fg fp Y 1) ⟨rfl, rfl, by decide, by decide, by decide⟩ (q0 := 0) rfl rfl (by decide) (by decide) rfl rfl (Nat.le_of_ble_eq_true rfl) dX4_reachWithRoom_26 ?_
    rintro v9 w9 ⟨z9, rfl, rfl, rfl⟩
    refine g_ws (w' := wM ad cI cG 1 (cnt : Int) rm lt tk ov fv fs fd fo F fg fp Y) (st' := [.int (zI 0)]) rfl rfl ?_
    exact ret _ _ _ _ _ _ (by decide) (by decide) dX4_reachWithRoom_29 (Or.inr ⟨hp9, rfl, ⟨_, _, _, _, _, rfl⟩⟩)
  · have hp9 := if1 c_12
    refine g_aload_n C dX4_reachWithRoom_15 0 rfl ?_
    refine g_iconst C dX4_reachWithRoom_16 ?_
    refine g_iload_n C dX4_reachWithRoom_17 1 rfl ?_
    refine g_callV (wr := ([] : va_W)) (st := []) [0, 1, 2, 3, 4, 5, 6, 7, 8, 9, 10, 11, 12, 13, 14, 15, 16, 17, 18, 19, 20, 21, 22, 23, 24, 25, 26, 27, 28, 29, 30] [] C cX4_140 (met_X4_printReach l D cI cG cJ ad 0 cnt hc rm lt tk ov fv fs fd fo F fg fp Y hv 0 (by omega) p (by omega)) ⟨rfl, rfl, by decide, by decide, by decide⟩ (q0 := 0) rfl rfl (by decide) (by decide) rfl rfl (Nat.le_of_ble_eq_true rfl) dX4_reachWithRoom_18 ?_
    rintro v9 w9 ⟨z9, rfl, rfl, fp1, rfl⟩
    refine g_ws (w' := wM ad cI cG 0 (cnt : Int) rm lt tk ov fv fs fd fo F fg fp1 Y) (st' := [.int (zI (RP fv cnt 0 p : Int))]) rfl rfl ?_
    refine g_goto 29 C dX4_reachWithRoom_21 (by decide) ?_
    exact ret _ _ _ _ _ _ (by decide) (by decide) dX4_reachWithRoom_29 (Or.inl ⟨hp9, rfl, ⟨_, _, _, _, _, rfl⟩⟩)
abbrev rmX4_setRoom : Room := { frames := 1, cells := 0, slots := 0, locals := 22 }
set_option maxHeartbeats 4000000 in
set_option maxRecDepth 100000 in
theorem met_X4_setRoom (l : Launch) (D : va_G) (cI cG cJ : ClassId) (ad : Nat → Nat) (th : Int) (cnt : Nat) (hc : cnt ≤ 8) (rm lt tk ov : Int) (fv fs fd fo : Nat → Int) (F : Nat → Nat → Int) (fg fp : Nat → Int) (Y : Nat → Nat → Int) (hI : XI cnt fv fs rm) (p : Int) (hp : zr p)  : gMet l yX4_setRoom cX4_setRoom 3 (some .int) rmX4_setRoom D cI cG cJ [.ref (ad 0), .int (zI p)] (wM ad cI cG th (cnt : Int) rm lt tk ov fv fs fd fo F fg fp Y) (gI (fun z w9 => ((1 ≤ p ∧ p ≤ 12) ∧ z = rm ∧ MW ad cI cG 0 cnt p lt tk ov fv fs fd w9) ∨ (¬ (1 ≤ p ∧ p ≤ 12) ∧ z = 0 ∧ MW ad cI cG 1 cnt rm lt tk ov fv fs fd w9))) := by
  obtain ⟨hc8, hS, hb99, hr1, hr2⟩ := id hI
  have h99 : ∀ j, j < cnt → fs j ≤ 99 := hb99
  have hr : 1 ≤ rm ∧ rm ≤ 12 := ⟨hr1, hr2⟩
  have hr9 : 0 ≤ rm ∧ rm ≤ 12 := ⟨by omega, hr.2⟩
  have hv : ∀ j, j < cnt → 1 ≤ fv j ∧ fv j ≤ 60 := hS.1
  have hv1 : ∀ j, j < cnt → 1 ≤ fv j := fun j hj => (hS.1 j hj).1
  have hs9 : ∀ j, j < cnt → 0 ≤ fs j ∧ fs j ≤ 119 := hS.2.1
  refine gMet_I (by decide) rfl (Nat.le_of_ble_eq_true rfl) (fun E C ret => ?_)
  refine g_aload_n C dX4_setRoom_0 0 rfl ?_
  refine g_iconst C dX4_setRoom_1 ?_
  refine g_putf (w' := wM ad cI cG 0 (cnt : Int) rm lt tk ov fv fs fd fo F fg fp Y) C pX4_40 0 rfl rfl rfl (Nat.le_of_ble_eq_true rfl) rfl dX4_setRoom_2 ?_
  refine g_iload_n C dX4_setRoom_5 1 rfl ?_
  refine g_iconst C dX4_setRoom_6 ?_
  refine g_bipush C dX4_setRoom_7 (by decide) ?_
  refine g_callS (wr := wM ad cI cG 0 (cnt : Int) rm lt tk ov fv fs fd fo F fg fp Y) (st := []) [] [0, 1, 2, 3, 4, 5, 6, 7, 8, 9, 10, 11, 12, 13, 14, 15, 16, 17, 18, 19, 20, 21, 22, 23, 24, 25, 26, 27, 28, 29, 30] C cX4_46 (met_X4_isIn l D cI cG cJ p 1 12 (hp) (zr_i (by omega) (by omega)) (zr_i (by omega) (by omega))) ⟨rfl, rfl, by decide, by decide, by decide⟩ (by decide) (by decide) rfl rfl (Nat.le_of_ble_eq_true rfl) dX4_setRoom_9 ?_
  rintro v9 w9 ⟨z9, rfl, rfl, rfl⟩
  refine g_ws (w' := wM ad cI cG 0 (cnt : Int) rm lt tk ov fv fs fd fo F fg fp Y) (st' := [.int (zI (if 1 ≤ p ∧ p ≤ 12 then (1 : Int) else 0))]) rfl rfl ?_
  refine g_if_ne 21 C dX4_setRoom_12 (by decide) zr01 (fun c_12 => ?_) (fun c_12 => ?_)
  · have hp9 := if1 c_12
    refine g_aload_n C dX4_setRoom_21 0 rfl ?_
    refine g_getf C fX4_9 0 rfl rfl dX4_setRoom_22 ?_
    refine g_istore_n (L' := [(2, .int (zI rm)), (0, .ref (ad 0)), (1, .int (zI p))]) C dX4_setRoom_25 (by decide) rfl ?_
    refine g_aload_n C dX4_setRoom_26 1 rfl ?_
    refine g_iload_n C dX4_setRoom_27 2 rfl ?_
    refine g_putf (w' := wM ad cI cG 0 (cnt : Int) p lt tk ov fv fs fd fo F fg fp Y) C pX4_9 0 rfl rfl rfl (Nat.le_of_ble_eq_true rfl) rfl dX4_setRoom_28 ?_
    refine g_iload_n C dX4_setRoom_31 0 rfl ?_
    exact ret _ _ _ _ _ _ (by decide) (by decide) dX4_setRoom_32 (Or.inl ⟨hp9, rfl, ⟨_, _, _, _, _, rfl⟩⟩)
  · have hp9 := if0 c_12
    refine g_aload_n C dX4_setRoom_15 0 rfl ?_
    refine g_iconst C dX4_setRoom_16 ?_
    refine g_callV (wr := ([] : va_W)) (st := []) [0, 1, 2, 3, 4, 5, 6, 7, 8, 9, 10, 11, 12, 13, 14, 15, 16, 17, 18, 19, 20, 21, 22, 23, 24, 25, 26, 27, 28, 29, 30] [] C cX4_80 (met_X4_no l D cI cG cJ ad 0 cnt hc rm lt tk ov fv fs fd fo F fg fp Y 1) ⟨rfl, rfl, by decide, by decide, by decide⟩ (q0 := 0) rfl rfl (by decide) (by decide) rfl rfl (Nat.le_of_ble_eq_true rfl) dX4_setRoom_17 ?_
    rintro v9 w9 ⟨z9, rfl, rfl, rfl⟩
    refine g_ws (w' := wM ad cI cG 1 (cnt : Int) rm lt tk ov fv fs fd fo F fg fp Y) (st' := [.int (zI 0)]) rfl rfl ?_
    exact ret _ _ _ _ _ _ (by decide) (by decide) dX4_setRoom_20 (Or.inr ⟨hp9, rfl, ⟨_, _, _, _, _, rfl⟩⟩)
