abbrev rmX4_over : Room := { frames := 2, cells := 0, slots := 0, locals := 43 }
set_option maxHeartbeats 4000000 in
set_option maxRecDepth 100000 in
theorem met_X4_over (l : Launch) (D : va_G) (cI cG cJ : ClassId) (ad : Nat → Nat) (th : Int) (cnt : Nat) (hc : cnt ≤ 8) (rm lt tk ov : Int) (fv fs fd fo : Nat → Int) (F : Nat → Nat → Int) (fg fp : Nat → Int) (Y : Nat → Nat → Int) (hS : Sok cnt fv fs) (hr : 1 ≤ rm ∧ rm ≤ 12) (hF : Fok fv fs cnt rm F cnt) (p : Nat) (hp : p ≤ 300)  : gMet l yX4_over cX4_over 3 (some .int) rmX4_over D cI cG cJ [.ref (ad 0), .int (zI (p : Int))] (wM ad cI cG th (cnt : Int) rm lt tk ov fv fs fd fo F fg fp Y) (gI (fun z w9 => z = (if LSm cnt fv fs rm p = -1 then (-1 : Int) else LSm cnt fv fs rm p - (p : Int)) ∧ w9 = wM ad cI cG th (cnt : Int) rm lt tk ov fv fs fd fo F fg fp Y)) := by
  have hr9 : 0 ≤ rm ∧ rm ≤ 12 := ⟨by omega, hr.2⟩
  have hl := LSm_rg (cnt := cnt) (fv := fv) (fs := fs) (rm := rm) (p := p) (by omega)
  refine gMet_I (by decide) rfl (Nat.le_of_ble_eq_true rfl) (fun E C ret => ?_)
  refine g_aload_n C dX4_over_0 0 rfl ?_
  refine g_iload_n C dX4_over_1 1 rfl ?_
  refine g_callV (wr := ([] : va_W)) (st := []) [0, 1, 2, 3, 4, 5, 6, 7, 8, 9, 10, 11, 12, 13, 14, 15, 16, 17, 18, 19, 20, 21, 22, 23, 24, 25, 26, 27, 28, 29, 30] [] C cX4_70 (met_X4_covers l D cI cG cJ ad th cnt hc rm lt tk ov fv fs fd fo F fg fp Y hS hr hF p (hp)) ⟨rfl, rfl, by decide, by decide, by decide⟩ (q0 := 0) rfl rfl (by decide) (by decide) rfl rfl (Nat.le_of_ble_eq_true rfl) dX4_over_2 ?_
  rintro v9 w9 ⟨z9, rfl, rfl, rfl⟩
  refine g_ws (w' := wM ad cI cG th (cnt : Int) rm lt tk ov fv fs fd fo F fg fp Y) (st' := [.int (zI (LSm cnt fv fs rm p))]) rfl rfl ?_
  refine g_istore_n (L' := [(2, .int (zI (LSm cnt fv fs rm p))), (0, .ref (ad 0)), (1, .int (zI (p : Int)))]) C dX4_over_5 (by decide) rfl ?_
  refine g_iload_n C dX4_over_6 0 rfl ?_
  refine g_iconst C dX4_over_7 ?_
  refine g_icmp_ne 15 C dX4_over_8 (by decide) (zr_i (by omega) (by omega)) (zr_i (by omega) (by omega)) (fun c_8 => ?_) (fun c_8 => ?_)
  · refine g_iload_n C dX4_over_15 0 rfl ?_
    refine g_iload_n C dX4_over_16 2 rfl ?_
    refine g_isub C dX4_over_17 ?_
    exact ret _ _ _ _ _ _ (by decide) (by decide) dX4_over_18 (⟨(if_neg c_8).symm, rfl⟩)
  · refine g_iconst C dX4_over_11 ?_
    refine g_goto 18 C dX4_over_12 (by decide) ?_
    exact ret _ _ _ _ _ _ (by decide) (by decide) dX4_over_18 (⟨(if_pos c_8).symm, rfl⟩)
abbrev rmX4_many : Room := { frames := 2, cells := 0, slots := 0, locals := 43 }
set_option maxHeartbeats 4000000 in
set_option maxRecDepth 100000 in
theorem met_X4_many (l : Launch) (D : va_G) (cI cG cJ : ClassId) (ad : Nat → Nat) (th : Int) (cnt : Nat) (hc : cnt ≤ 8) (rm lt tk ov : Int) (fv fs fd fo : Nat → Int) (F : Nat → Nat → Int) (fg fp : Nat → Int) (Y : Nat → Nat → Int) (hS : Sok cnt fv fs) (hr : 1 ≤ rm ∧ rm ≤ 12) (hF : Fok fv fs cnt rm F cnt) (p : Nat) (hp : p ≤ 300)  : gMet l yX4_many cX4_many 3 (some .int) rmX4_many D cI cG cJ [.ref (ad 0), .int (zI (p : Int))] (wM ad cI cG th (cnt : Int) rm lt tk ov fv fs fd fo F fg fp Y) (gI (fun z w9 => z = (if LSm cnt fv fs rm p = -1 then (0 : Int) else TB cnt fv fs rm (LSm cnt fv fs rm p).toNat) ∧ w9 = wM ad cI cG th (cnt : Int) rm lt tk ov fv fs fd fo F fg fp Y)) := by
  have hr9 : 0 ≤ rm ∧ rm ≤ 12 := ⟨by omega, hr.2⟩
  have hl := LSm_rg (cnt := cnt) (fv := fv) (fs := fs) (rm := rm) (p := p) (by omega)
  refine gMet_I (by decide) rfl (Nat.le_of_ble_eq_true rfl) (fun E C ret => ?_)
  refine g_aload_n C dX4_many_0 0 rfl ?_
  refine g_iload_n C dX4_many_1 1 rfl ?_
  refine g_callV (wr := ([] : va_W)) (st := []) [0, 1, 2, 3, 4, 5, 6, 7, 8, 9, 10, 11, 12, 13, 14, 15, 16, 17, 18, 19, 20, 21, 22, 23, 24, 25, 26, 27, 28, 29, 30] [] C cX4_70 (met_X4_covers l D cI cG cJ ad th cnt hc rm lt tk ov fv fs fd fo F fg fp Y hS hr hF p (hp)) ⟨rfl, rfl, by decide, by decide, by decide⟩ (q0 := 0) rfl rfl (by decide) (by decide) rfl rfl (Nat.le_of_ble_eq_true rfl) dX4_many_2 ?_
  rintro v9 w9 ⟨z9, rfl, rfl, rfl⟩
  refine g_ws (w' := wM ad cI cG th (cnt : Int) rm lt tk ov fv fs fd fo F fg fp Y) (st' := [.int (zI (LSm cnt fv fs rm p))]) rfl rfl ?_
  refine g_istore_n (L' := [(2, .int (zI (LSm cnt fv fs rm p))), (0, .ref (ad 0)), (1, .int (zI (p : Int)))]) C dX4_many_5 (by decide) rfl ?_
  refine g_iload_n C dX4_many_6 0 rfl ?_
  refine g_iconst C dX4_many_7 ?_
  refine g_icmp_ne 15 C dX4_many_8 (by decide) (zr_i (by omega) (by omega)) (zr_i (by omega) (by omega)) (fun c_8 => ?_) (fun c_8 => ?_)
  · refine g_aload_n C dX4_many_15 1 rfl ?_
    refine g_getf C fX4_28 0 rfl rfl dX4_many_16 ?_
    refine g_aload_n C dX4_many_19 1 rfl ?_
    refine g_getf C fX4_43 0 rfl rfl dX4_many_20 ?_
    refine g_aald (y := ad (9 + cnt)) C 5 rfl (by decide) (by omega) (by omega) (wR_at (by omega)) dX4_many_23 ?_
    refine g_iload_n C dX4_many_24 0 rfl ?_
    refine g_iald C (9 + cnt) (wMF_row1 (by omega)) (by decide) (by omega) (by omega) (v := (F cnt (((LSm cnt fv fs rm p)).toNat))) rfl dX4_many_25 ?_
    exact ret _ _ _ _ _ _ (by decide) (by decide) dX4_many_26 (⟨by rw [if_neg c_8]; exact hF.tb0 (by omega), rfl⟩)
  · refine g_iconst C dX4_many_11 ?_
    refine g_goto 26 C dX4_many_12 (by decide) ?_
    exact ret _ _ _ _ _ _ (by decide) (by decide) dX4_many_26 (⟨(if_pos c_8).symm, rfl⟩)
abbrev rmX4_fewestFor : Room := { frames := 0, cells := 0, slots := 0, locals := 0 }
set_option maxHeartbeats 4000000 in
set_option maxRecDepth 100000 in
theorem met_X4_fewestFor (l : Launch) (D : va_G) (cI cG cJ : ClassId) (ad : Nat → Nat) (th : Int) (cnt : Nat) (hc : cnt ≤ 8) (rm lt tk ov : Int) (fv fs fd fo : Nat → Int) (F : Nat → Nat → Int) (fg fp : Nat → Int) (Y : Nat → Nat → Int) (hS : Sok cnt fv fs) (hr : 1 ≤ rm ∧ rm ≤ 12) (hP : Pk fv cnt 0 fp 301) (p : Nat) (hp : p ≤ 300)  : gMet l yX4_fewestFor cX4_fewestFor 2 (some .int) rmX4_fewestFor D cI cG cJ [.ref (ad 0), .int (zI (p : Int))] (wM ad cI cG th (cnt : Int) rm lt tk ov fv fs fd fo F fg fp Y) (gI (fun z w9 => z = dq3 cnt fv rm p ∧ w9 = wM ad cI cG th (cnt : Int) rm lt tk ov fv fs fd fo F fg fp Y)) := by
  have hr9 : 0 ≤ rm ∧ rm ≤ 12 := ⟨by omega, hr.2⟩
  have hv : ∀ j, j < cnt → 1 ≤ fv j ∧ fv j ≤ 60 := hS.1
  have hv1 : ∀ j, j < cnt → 1 ≤ fv j := fun j hj => (hS.1 j hj).1
  have hs9 : ∀ j, j < cnt → 0 ≤ fs j ∧ fs j ≤ 119 := hS.2.1
  have hb9 := hP.bd hv1 p (by omega)
  have e9 := hP.eq hv1 (show p < 301 by omega)
  refine gMet_I (by decide) rfl (Nat.le_of_ble_eq_true rfl) (fun E C ret => ?_)
  refine g_aload_n C dX4_fewestFor_0 0 rfl ?_
  refine g_getf C fX4_34 0 rfl rfl dX4_fewestFor_1 ?_
  refine g_iload_n C dX4_fewestFor_4 1 rfl ?_
  refine g_iald C 7 rfl (by decide) (by omega) (by omega) (v := (fp p)) rfl dX4_fewestFor_5 ?_
  refine g_aload_n C dX4_fewestFor_6 0 rfl ?_
  refine g_getf C fX4_9 0 rfl rfl dX4_fewestFor_7 ?_
  refine g_icmp_gt 22 C dX4_fewestFor_10 (by decide) (zr_i (by omega) (by omega)) (zr_i (by omega) (by omega)) (fun c_10 => ?_) (fun c_10 => ?_)
  · refine g_iconst C dX4_fewestFor_22 ?_
    exact ret _ _ _ _ _ _ (by decide) (by decide) dX4_fewestFor_23 (⟨by rw [dq3, ← e9]; exact (if_neg (by omega)).symm, rfl⟩)
  · refine g_aload_n C dX4_fewestFor_13 0 rfl ?_
    refine g_getf C fX4_34 0 rfl rfl dX4_fewestFor_14 ?_
    refine g_iload_n C dX4_fewestFor_17 1 rfl ?_
    refine g_iald C 7 rfl (by decide) (by omega) (by omega) (v := (fp p)) rfl dX4_fewestFor_18 ?_
    refine g_goto 23 C dX4_fewestFor_19 (by decide) ?_
    exact ret _ _ _ _ _ _ (by decide) (by decide) dX4_fewestFor_23 (⟨by rw [dq3, ← e9]; exact (if_pos (by omega)).symm, rfl⟩)
abbrev rmX4_greatest : Room := { frames := 1, cells := 0, slots := 0, locals := 22 }
set_option maxHeartbeats 4000000 in
set_option maxRecDepth 100000 in
theorem met_X4_greatest (l : Launch) (D : va_G) (cI cG cJ : ClassId) (ad : Nat → Nat) (th : Int) (cnt : Nat) (hc : cnt ≤ 8) (rm lt tk ov : Int) (fv fs fd fo : Nat → Int) (F : Nat → Nat → Int) (fg fp : Nat → Int) (Y : Nat → Nat → Int) (hS : Sok cnt fv fs) (hr : 1 ≤ rm ∧ rm ≤ 12)  : gMet l yX4_greatest cX4_greatest 5 (some .int) rmX4_greatest D cI cG cJ [.ref (ad 0)] (wM ad cI cG th (cnt : Int) rm lt tk ov fv fs fd fo F fg fp Y) (gI (fun z w9 => z = GS cnt fv fs rm ∧ ∃ fo1 : Nat → Int, w9 = wM ad cI cG th (cnt : Int) rm lt tk ov fv fs fd fo1 F fg fp Y)) := by
  have hr9 : 0 ≤ rm ∧ rm ≤ 12 := ⟨by omega, hr.2⟩
  have hv : ∀ j, j < cnt → 1 ≤ fv j ∧ fv j ≤ 60 := hS.1
  have hv1 : ∀ j, j < cnt → 1 ≤ fv j := fun j hj => (hS.1 j hj).1
  have hs9 : ∀ j, j < cnt → 0 ≤ fs j ∧ fs j ≤ 119 := hS.2.1
  refine gMet_I (by decide) rfl (Nat.le_of_ble_eq_true rfl) (fun E C ret => ?_)
  refine g_aload_n C dX4_greatest_0 0 rfl ?_
  refine g_callV (wr := ([] : va_W)) (st := []) [0, 1, 2, 3, 4, 5, 6, 7, 8, 9, 10, 11, 12, 13, 14, 15, 16, 17, 18, 19, 20, 21, 22, 23, 24, 25, 26, 27, 28, 29, 30] [] C cX4_56 (met_X4_sort l D cI cG cJ ad th cnt hc rm lt tk ov fv fs fd fo F fg fp Y hv) ⟨rfl, rfl, by decide, by decide, by decide⟩ (q0 := 0) rfl rfl (by decide) (by decide) rfl rfl (Nat.le_of_ble_eq_true rfl) dX4_greatest_1 ?_
  rintro v9 w9 ⟨rfl, fo1, hO, rfl⟩
  refine g_ws (w' := wM ad cI cG th (cnt : Int) rm lt tk ov fv fs fd fo1 F fg fp Y) (st' := []) rfl rfl ?_
  refine g_aload_n C dX4_greatest_4 0 rfl ?_
  refine g_getf C fX4_9 0 rfl rfl dX4_greatest_5 ?_
  refine g_istore_n (L' := [(1, .int (zI rm)), (0, .ref (ad 0))]) C dX4_greatest_8 (by decide) rfl ?_
  refine g_iconst C dX4_greatest_9 ?_
  refine g_istore_n (L' := [(2, .int (zI 0)), (1, .int (zI rm)), (0, .ref (ad 0))]) C dX4_greatest_10 (by decide) rfl ?_
  refine g_aload_n C dX4_greatest_11 2 rfl ?_
  refine g_getf C fX4_43 0 rfl rfl dX4_greatest_12 ?_
  refine g_iconst C dX4_greatest_15 ?_
  refine g_isub C dX4_greatest_16 ?_
  refine g_istore_n (L' := [(3, .int (zI ((cnt : Int) - 1))), (2, .int (zI 0)), (1, .int (zI rm)), (0, .ref (ad 0))]) C dX4_greatest_17 (by decide) rfl ?_
  have loop_18 : ∀ (fu : Nat) (r : Nat), (hi : r ≤ cnt) → cnt - r < fu → gW E 0 0 (wM ad cI cG th (cnt : Int) rm lt tk ov fv fs fd fo1 F fg fp Y) 18 [(3, .int (zI ((cnt : Int) - 1 - (r : Int)))), (2, .int (zI ((gsm (RV cnt fv) (RU cnt fv fs rm) rm r).2))), (1, .int (zI ((gsm (RV cnt fv) (RU cnt fv fs rm) rm r).1))), (0, .ref (ad 0))] [] := by
    intro fu
    induction fu with
    | zero => intro r hi h9; exact absurd h9 (Nat.not_lt_zero _)
    | succ fu ih_18 =>
      intro r hi hmu_18
      have hb := gsm_bd (tv := RV cnt fv) (tu := RU cnt fv fs rm) hr9.1 r (fun j hj => (hS.us hr9 (by omega)).1)
      refine g_iload_n C dX4_greatest_18 0 rfl ?_
      refine g_if_lt 67 C dX4_greatest_19 (by decide) (zr_i (by omega) (by omega)) (fun c_19 => ?_) (fun c_19 => ?_)
      · have e9 : r = cnt := by omega
        refine g_iload_n C dX4_greatest_67 1 rfl ?_
        exact ret _ _ _ _ _ _ (by decide) (by decide) dX4_greatest_68 (⟨by rw [e9]; rfl, fo1, rfl⟩)
      · have hk9 : cnt - 1 - r < cnt := by omega
        have hO9 : fo1 ((cnt : Int) - 1 - (r : Int)).toNat = ((ordF fv cnt (cnt - 1 - r) : Nat) : Int) := by rw [show ((cnt : Int) - 1 - (r : Int)).toNat = cnt - 1 - r by omega]; exact hO _ hk9
        have ho9 := ordF_lt fv cnt (cnt - 1 - r) hk9
        have hvk : 1 ≤ RV cnt fv r ∧ RV cnt fv r ≤ 60 := hS.vs hk9
        have huk : 0 ≤ RU cnt fv fs rm r ∧ RU cnt fv fs rm r ≤ 12 := hS.us hr9 hk9
        have hs8 := hs9 (ordF fv cnt (cnt - 1 - r)) ho9
        refine g_iload_n C dX4_greatest_22 2 rfl ?_
        refine g_aload_n C dX4_greatest_23 3 rfl ?_
        refine g_getf C fX4_17 0 rfl rfl dX4_greatest_24 ?_
        refine g_aload_n C dX4_greatest_27 3 rfl ?_
        refine g_getf C fX4_23 0 rfl rfl dX4_greatest_28 ?_
        refine g_iload_n C dX4_greatest_31 0 rfl ?_
        refine g_iald C 4 rfl (by decide) (by omega) (by omega) (v := (fo1 ((((cnt : Int) - 1 - (r : Int))).toNat))) rfl dX4_greatest_32 ?_
        refine g_top ((ordF fv cnt (cnt - 1 - r) : Nat) : Int) (hO9) ?_
        refine g_iald C 2 rfl (by decide) (by omega) (by omega) (v := (fs (ordF fv cnt (cnt - 1 - r)))) rfl dX4_greatest_33 ?_
        refine g_min C mX4_50 (zr_i (by omega) (by omega)) (zr_i (by omega) (by omega)) (by decide) (Nat.le_of_ble_eq_true rfl) dX4_greatest_34 ?_
        refine g_top (min (RU cnt fv fs rm r) ((gsm (RV cnt fv) (RU cnt fv fs rm) rm r).1)) (by show min _ (fs (ordF fv cnt (cnt - 1 - r))) = min (min (fs (ordF fv cnt (cnt - 1 - r))) rm) _; omega) ?_
        refine g_istore (L' := [(4, .int (zI (min (RU cnt fv fs rm r) ((gsm (RV cnt fv) (RU cnt fv fs rm) rm r).1)))), (3, .int (zI ((cnt : Int) - 1 - (r : Int)))), (2, .int (zI ((gsm (RV cnt fv) (RU cnt fv fs rm) rm r).2))), (1, .int (zI ((gsm (RV cnt fv) (RU cnt fv fs rm) rm r).1))), (0, .ref (ad 0))]) C dX4_greatest_37 (by decide) rfl ?_
        refine g_iload_n C dX4_greatest_39 2 rfl ?_
        refine g_iload C dX4_greatest_40 0 rfl ?_
        refine g_aload_n C dX4_greatest_42 4 rfl ?_
        refine g_getf C fX4_13 0 rfl rfl dX4_greatest_43 ?_
        refine g_aload_n C dX4_greatest_46 4 rfl ?_
        refine g_getf C fX4_23 0 rfl rfl dX4_greatest_47 ?_
        refine g_iload_n C dX4_greatest_50 1 rfl ?_
        refine g_iald C 4 rfl (by decide) (by omega) (by omega) (v := (fo1 ((((cnt : Int) - 1 - (r : Int))).toNat))) rfl dX4_greatest_51 ?_
        refine g_top ((ordF fv cnt (cnt - 1 - r) : Nat) : Int) (hO9) ?_
        refine g_iald C 1 rfl (by decide) (by omega) (by omega) (v := (fv (ordF fv cnt (cnt - 1 - r)))) rfl dX4_greatest_52 ?_
        refine g_top (RV cnt fv r) (rfl) ?_
        refine g_imul C dX4_greatest_53 ?_
        refine g_iadd C dX4_greatest_54 ?_
        refine g_istore_n (L' := [(2, .int (zI (((gsm (RV cnt fv) (RU cnt fv fs rm) rm r).2) + ((min (RU cnt fv fs rm r) ((gsm (RV cnt fv) (RU cnt fv fs rm) rm r).1)) * (RV cnt fv r))))), (4, .int (zI (min (RU cnt fv fs rm r) ((gsm (RV cnt fv) (RU cnt fv fs rm) rm r).1)))), (3, .int (zI ((cnt : Int) - 1 - (r : Int)))), (1, .int (zI ((gsm (RV cnt fv) (RU cnt fv fs rm) rm r).1))), (0, .ref (ad 0))]) C dX4_greatest_55 (by decide) rfl ?_
        refine g_iload_n C dX4_greatest_56 3 rfl ?_
        refine g_iload C dX4_greatest_57 1 rfl ?_
        refine g_isub C dX4_greatest_59 ?_
        refine g_istore_n (L' := [(1, .int (zI (((gsm (RV cnt fv) (RU cnt fv fs rm) rm r).1) - (min (RU cnt fv fs rm r) ((gsm (RV cnt fv) (RU cnt fv fs rm) rm r).1))))), (2, .int (zI (((gsm (RV cnt fv) (RU cnt fv fs rm) rm r).2) + ((min (RU cnt fv fs rm r) ((gsm (RV cnt fv) (RU cnt fv fs rm) rm r).1)) * (RV cnt fv r))))), (4, .int (zI (min (RU cnt fv fs rm r) ((gsm (RV cnt fv) (RU cnt fv fs rm) rm r).1)))), (3, .int (zI ((cnt : Int) - 1 - (r : Int)))), (0, .ref (ad 0))]) C dX4_greatest_60 (by decide) rfl ?_
        refine g_iinc (L' := [(3, .int (zI (((cnt : Int) - 1 - (r : Int)) + (-1)))), (1, .int (zI (((gsm (RV cnt fv) (RU cnt fv fs rm) rm r).1) - (min (RU cnt fv fs rm r) ((gsm (RV cnt fv) (RU cnt fv fs rm) rm r).1))))), (2, .int (zI (((gsm (RV cnt fv) (RU cnt fv fs rm) rm r).2) + ((min (RU cnt fv fs rm r) ((gsm (RV cnt fv) (RU cnt fv fs rm) rm r).1)) * (RV cnt fv r))))), (4, .int (zI (min (RU cnt fv fs rm r) ((gsm (RV cnt fv) (RU cnt fv fs rm) rm r).1)))), (0, .ref (ad 0))]) C dX4_greatest_61 3 rfl (by decide) rfl ?_
        refine g_goto 18 C dX4_greatest_64 (by decide) ?_
        refine g_loc (L' := [(3, .int (zI (((cnt : Int) - 1 - (r : Int)) + (-1)))), (2, .int (zI (((gsm (RV cnt fv) (RU cnt fv fs rm) rm r).2) + ((min (RU cnt fv fs rm r) ((gsm (RV cnt fv) (RU cnt fv fs rm) rm r).1)) * (RV cnt fv r))))), (1, .int (zI (((gsm (RV cnt fv) (RU cnt fv fs rm) rm r).1) - (min (RU cnt fv fs rm r) ((gsm (RV cnt fv) (RU cnt fv fs rm) rm r).1))))), (0, .ref (ad 0))]) [0, 2, 1, 4] rfl ?_
        refine g_lw (w' := wM ad cI cG th (cnt : Int) rm lt tk ov fv fs fd fo1 F fg fp Y) (L' := [(3, .int (zI ((cnt : Int) - 1 - ((r + 1 : Nat) : Int)))), (2, .int (zI ((gsm (RV cnt fv) (RU cnt fv fs rm) rm (r + 1 : Nat)).2))), (1, .int (zI ((gsm (RV cnt fv) (RU cnt fv fs rm) rm (r + 1 : Nat)).1))), (0, .ref (ad 0))]) rfl (by rw [show ((cnt : Int) - 1 - (r : Int)) + (-1) = (cnt : Int) - 1 - ((r + 1 : Nat) : Int) by omega]; rfl) ?_
        exact ih_18 (r + 1) (by omega) (by omega)
  refine g_loc (L' := [(3, .int (zI ((cnt : Int) - 1))), (2, .int (zI 0)), (1, .int (zI rm)), (0, .ref (ad 0))]) [0, 1, 2, 3] rfl ?_
  refine g_lw (w' := wM ad cI cG th (cnt : Int) rm lt tk ov fv fs fd fo1 F fg fp Y) (L' := [(3, .int (zI ((cnt : Int) - 1 - ((0 : Nat) : Int)))), (2, .int (zI ((gsm (RV cnt fv) (RU cnt fv fs rm) rm (0 : Nat)).2))), (1, .int (zI ((gsm (RV cnt fv) (RU cnt fv fs rm) rm (0 : Nat)).1))), (0, .ref (ad 0))]) rfl (by rw [show ((cnt : Int) - 1 - ((0 : Nat) : Int)) = (cnt : Int) - 1 by omega]; rfl) ?_
  exact loop_18 _ 0 (Nat.zero_le _) (Nat.lt_succ_self _)
abbrev rmX4_scarce : Room := { frames := 0, cells := 0, slots := 0, locals := 0 }
set_option maxHeartbeats 4000000 in
set_option maxRecDepth 100000 in
theorem met_X4_scarce (l : Launch) (D : va_G) (cI cG cJ : ClassId) (ad : Nat → Nat) (th : Int) (cnt : Nat) (hc : cnt ≤ 8) (rm lt tk ov : Int) (fv fs fd fo : Nat → Int) (F : Nat → Nat → Int) (fg fp : Nat → Int) (Y : Nat → Nat → Int) (hs : ∀ j, j < cnt → 0 ≤ fs j ∧ fs j ≤ 99)  : gMet l yX4_scarce cX4_scarce 3 (some .int) rmX4_scarce D cI cG cJ [.ref (ad 0)] (wM ad cI cG th (cnt : Int) rm lt tk ov fv fs fd fo F fg fp Y) (gI (fun z w9 => z = (scF fs cnt).1 ∧ w9 = wM ad cI cG th (cnt : Int) rm lt tk ov fv fs fd fo F fg fp Y)) := by
  refine gMet_I (by decide) rfl (Nat.le_of_ble_eq_true rfl) (fun E C ret => ?_)
  refine g_iconst C dX4_scarce_0 ?_
  refine g_istore_n (L' := [(1, .int (zI (-1))), (0, .ref (ad 0))]) C dX4_scarce_1 (by decide) rfl ?_
  refine g_iconst C dX4_scarce_2 ?_
  refine g_istore_n (L' := [(2, .int (zI 0)), (1, .int (zI (-1))), (0, .ref (ad 0))]) C dX4_scarce_3 (by decide) rfl ?_
  have loop_4 : ∀ (fu : Nat) (i : Nat), (hi : i ≤ cnt) → (hb : sc_in fs i) → cnt - i < fu → gW E 0 0 (wM ad cI cG th (cnt : Int) rm lt tk ov fv fs fd fo F fg fp Y) 4 [(2, .int (zI (i : Int))), (1, .int (zI ((scF fs i).1))), (0, .ref (ad 0))] [] := by
    intro fu
    induction fu with
    | zero => intro i hi hb h9; exact absurd h9 (Nat.not_lt_zero _)
    | succ fu ih_4 =>
      intro i hi hb hmu_4
      refine g_iload_n C dX4_scarce_4 0 rfl ?_
      refine g_aload_n C dX4_scarce_5 2 rfl ?_
      refine g_getf C fX4_43 0 rfl rfl dX4_scarce_6 ?_
      refine g_icmp_ge 40 C dX4_scarce_9 (by decide) (zr_i (by omega) (by omega)) (zr_i (by omega) (by omega)) (fun c_9 => ?_) (fun c_9 => ?_)
      · have e9 : cnt = i := by omega
        subst e9
        refine g_iload_n C dX4_scarce_40 1 rfl ?_
        exact ret _ _ _ _ _ _ (by decide) (by decide) dX4_scarce_41 (⟨rfl, rfl⟩)
      · refine g_iload_n C dX4_scarce_12 1 rfl ?_
        refine g_iconst C dX4_scarce_13 ?_
        refine g_icmp_eq 32 C dX4_scarce_14 (by decide) (zr_i (by rcases hb with hb | hb <;> omega) (by rcases hb with hb | hb <;> omega)) (zr_i (by omega) (by omega)) (fun c_14 => ?_) (fun c_14 => ?_)
        · refine g_iload_n C dX4_scarce_32 0 rfl ?_
          refine g_istore_n (L' := [(1, .int (zI (i : Int))), (2, .int (zI (i : Int))), (0, .ref (ad 0))]) C dX4_scarce_33 (by decide) rfl ?_
          refine g_iinc (L' := [(2, .int (zI ((i : Int) + 1))), (1, .int (zI (i : Int))), (0, .ref (ad 0))]) C dX4_scarce_34 1 rfl (by decide) rfl ?_
          refine g_goto 4 C dX4_scarce_37 (by decide) ?_
          refine g_loc (L' := [(2, .int (zI ((i : Int) + 1))), (1, .int (zI (i : Int))), (0, .ref (ad 0))]) [0, 1, 2] rfl ?_
          refine g_lw (w' := wM ad cI cG th (cnt : Int) rm lt tk ov fv fs fd fo F fg fp Y) (L' := [(2, .int (zI ((i + 1 : Nat) : Int))), (1, .int (zI ((scF fs (i + 1)).1))), (0, .ref (ad 0))]) rfl (by rw [scF_t (by rcases hb with hb | hb <;> first | omega | skip <;> (have h7 := hs i (by omega); omega))]; rfl) ?_
          exact ih_4 (i + 1) (by omega) (sc_in_s (hs i (by omega)).2 hb) (by omega)
        · have hs8 := hs i (by omega)
          have hb2 : 0 ≤ (scF fs i).1 ∧ (scF fs i).1 < (i : Int) ∧ fs ((scF fs i).1).toNat = (scF fs i).2 := by
            rcases hb with hb | hb
            · exact absurd hb.1 c_14
            · exact hb
          have hs7 := hs ((scF fs i).1).toNat (by omega)
          refine g_aload_n C dX4_scarce_17 2 rfl ?_
          refine g_getf C fX4_17 0 rfl rfl dX4_scarce_18 ?_
          refine g_iload_n C dX4_scarce_21 0 rfl ?_
          refine g_iald C 2 rfl (by decide) (by omega) (by omega) (v := (fs i)) rfl dX4_scarce_22 ?_
          refine g_aload_n C dX4_scarce_23 2 rfl ?_
          refine g_getf C fX4_17 0 rfl rfl dX4_scarce_24 ?_
          refine g_iload_n C dX4_scarce_27 1 rfl ?_
          refine g_iald C 2 rfl (by decide) (by omega) (by omega) (v := (fs (((scF fs i).1).toNat))) rfl dX4_scarce_28 ?_
          refine g_icmp_ge 34 C dX4_scarce_29 (by decide) (zr_i (by omega) (by omega)) (zr_i (by omega) (by omega)) (fun c_29 => ?_) (fun c_29 => ?_)
          · refine g_iinc (L' := [(2, .int (zI ((i : Int) + 1))), (1, .int (zI ((scF fs i).1))), (0, .ref (ad 0))]) C dX4_scarce_34 0 rfl (by decide) rfl ?_
            refine g_goto 4 C dX4_scarce_37 (by decide) ?_
            refine g_loc (L' := [(2, .int (zI ((i : Int) + 1))), (1, .int (zI ((scF fs i).1))), (0, .ref (ad 0))]) [0, 1, 2] rfl ?_
            refine g_lw (w' := wM ad cI cG th (cnt : Int) rm lt tk ov fv fs fd fo F fg fp Y) (L' := [(2, .int (zI ((i + 1 : Nat) : Int))), (1, .int (zI ((scF fs (i + 1)).1))), (0, .ref (ad 0))]) rfl (by rw [scF_f (by rcases hb with hb | ⟨h1, h2, h3⟩ <;> omega)]; rfl) ?_
            exact ih_4 (i + 1) (by omega) (sc_in_s (hs i (by omega)).2 hb) (by omega)
          · refine g_iload_n C dX4_scarce_32 0 rfl ?_
            refine g_istore_n (L' := [(1, .int (zI (i : Int))), (2, .int (zI (i : Int))), (0, .ref (ad 0))]) C dX4_scarce_33 (by decide) rfl ?_
            refine g_iinc (L' := [(2, .int (zI ((i : Int) + 1))), (1, .int (zI (i : Int))), (0, .ref (ad 0))]) C dX4_scarce_34 1 rfl (by decide) rfl ?_
            refine g_goto 4 C dX4_scarce_37 (by decide) ?_
            refine g_loc (L' := [(2, .int (zI ((i : Int) + 1))), (1, .int (zI (i : Int))), (0, .ref (ad 0))]) [0, 1, 2] rfl ?_
            refine g_lw (w' := wM ad cI cG th (cnt : Int) rm lt tk ov fv fs fd fo F fg fp Y) (L' := [(2, .int (zI ((i + 1 : Nat) : Int))), (1, .int (zI ((scF fs (i + 1)).1))), (0, .ref (ad 0))]) rfl (by rw [scF_t (by rcases hb with hb | hb <;> first | omega | skip <;> (have h7 := hs i (by omega); omega))]; rfl) ?_
            exact ih_4 (i + 1) (by omega) (sc_in_s (hs i (by omega)).2 hb) (by omega)
  refine g_loc (L' := [(2, .int (zI 0)), (1, .int (zI (-1))), (0, .ref (ad 0))]) [0, 1, 2] rfl ?_
  exact loop_4 _ 0 (Nat.zero_le _) (Or.inl ⟨rfl, rfl⟩) (Nat.lt_succ_self _)
abbrev rmX4_valueBest : Room := { frames := 3, cells := 0, slots := 0, locals := 68 }
set_option maxHeartbeats 4000000 in
set_option maxRecDepth 100000 in
theorem met_X4_valueBest (l : Launch) (D : va_G) (cI cG cJ : ClassId) (ad : Nat → Nat) (th : Int) (cnt : Nat) (hc : cnt ≤ 8) (rm lt tk ov : Int) (fv fs fd fo : Nat → Int) (F : Nat → Nat → Int) (fg fp : Nat → Int) (Y : Nat → Nat → Int) (hv : ∀ j, j < cnt → 1 ≤ fv j ∧ fv j ≤ 60) (hr : 1 ≤ rm ∧ rm ≤ 12)  : gMet l yX4_valueBest cX4_valueBest 5 (some .int) rmX4_valueBest D cI cG cJ [.ref (ad 0)] (wM ad cI cG th (cnt : Int) rm lt tk ov fv fs fd fo F fg fp Y) (gI (fun z w9 => z = (bvF fv cnt rm 60).1 ∧ ∃ fp1 : Nat → Int, w9 = wM ad cI cG th (cnt : Int) rm lt tk ov fv fs fd fo F fg fp1 Y)) := by
  refine gMet_I (by decide) rfl (Nat.le_of_ble_eq_true rfl) (fun E C ret => ?_)
  refine g_iconst C dX4_valueBest_0 ?_
  refine g_istore_n (L' := [(1, .int (zI (-1))), (0, .ref (ad 0))]) C dX4_valueBest_1 (by decide) rfl ?_
  refine g_iconst C dX4_valueBest_2 ?_
  refine g_istore_n (L' := [(2, .int (zI (-1))), (1, .int (zI (-1))), (0, .ref (ad 0))]) C dX4_valueBest_3 (by decide) rfl ?_
  refine g_iconst C dX4_valueBest_4 ?_
  refine g_istore_n (L' := [(3, .int (zI 1)), (2, .int (zI (-1))), (1, .int (zI (-1))), (0, .ref (ad 0))]) C dX4_valueBest_5 (by decide) rfl ?_
  have loop_6 : ∀ (fu : Nat) (i : Nat) (fp1 : Nat → Int), (hi : i ≤ 60) → 60 - i < fu → gW E 0 0 (wM ad cI cG th (cnt : Int) rm lt tk ov fv fs fd fo F fg fp1 Y) 6 [(3, .int (zI ((i + 1 : Nat) : Int))), (2, .int (zI ((bvF fv cnt rm i).2))), (1, .int (zI ((bvF fv cnt rm i).1))), (0, .ref (ad 0))] [] := by
    intro fu
    induction fu with
    | zero => intro i fp1 hi h9; exact absurd h9 (Nat.not_lt_zero _)
    | succ fu ih_6 =>
      intro i fp1 hi hmu_6
      have hb := bv_bd (fv := fv) (cnt := cnt) (rm := rm) i
      refine g_iload_n C dX4_valueBest_6 0 rfl ?_
      refine g_bipush C dX4_valueBest_7 (by decide) ?_
      refine g_icmp_gt 54 C dX4_valueBest_9 (by decide) (zr_i (by omega) (by omega)) (zr_i (by omega) (by omega)) (fun c_9 => ?_) (fun c_9 => ?_)
      · have e9 : i = 60 := by omega
        subst e9
        refine g_iload_n C dX4_valueBest_54 2 rfl ?_
        exact ret _ _ _ _ _ _ (by decide) (by decide) dX4_valueBest_55 (⟨rfl, fp1, rfl⟩)
      · refine g_aload_n C dX4_valueBest_12 3 rfl ?_
        refine g_iload_n C dX4_valueBest_13 0 rfl ?_
        refine g_callV (wr := ([] : va_W)) (st := []) [0, 1, 2, 3, 4, 5, 6, 7, 8, 9, 10, 11, 12, 13, 14, 15, 16, 17, 18, 19, 20, 21, 22, 23, 24, 25, 26, 27, 28, 29, 30] [] C cX4_83 (met_X4_isThere l D cI cG cJ ad th cnt hc rm lt tk ov fv fs fd fo F fg fp1 Y hv ((i + 1 : Nat) : Int) (zr_i (by omega) (by omega))) ⟨rfl, rfl, by decide, by decide, by decide⟩ (q0 := 0) rfl rfl (by decide) (by decide) rfl rfl (Nat.le_of_ble_eq_true rfl) dX4_valueBest_14 ?_
        rintro v9 w9 ⟨zb, rfl, hh, rfl⟩
        refine g_ws (w' := wM ad cI cG th (cnt : Int) rm lt tk ov fv fs fd fo F fg fp1 Y) (st' := [.int (zI zb)]) rfl rfl ?_
        refine g_if_eq 23 C dX4_valueBest_17 (by decide) (zr_i (by rcases hh with hh | hh <;> omega) (by rcases hh with hh | hh <;> omega)) (fun c_17 => ?_) (fun c_17 => ?_)
        · have hb9 : hasB fv ((i + 1 : Nat) : Int) cnt = false := by
            rcases hh with hh | hh
            · rw [hh.1] at c_17; exact absurd c_17 (by decide)
            · exact hh.2
          refine g_aload_n C dX4_valueBest_23 3 rfl ?_
          refine g_iload_n C dX4_valueBest_24 0 rfl ?_
          refine g_aload_n C dX4_valueBest_25 3 rfl ?_
          refine g_getf C fX4_9 0 rfl rfl dX4_valueBest_26 ?_
          refine g_callV (wr := ([] : va_W)) (st := []) [0, 1, 2, 3, 4, 5, 6, 7, 8, 9, 10, 11, 12, 13, 14, 15, 16, 17, 18, 19, 20, 21, 22, 23, 24, 25, 26, 27, 28, 29, 30] [] C cX4_140 (met_X4_printReach l D cI cG cJ ad th cnt hc rm lt tk ov fv fs fd fo F fg fp1 Y hv ((i + 1 : Nat) : Int) (by omega) rm (by omega)) ⟨rfl, rfl, by decide, by decide, by decide⟩ (q0 := 0) rfl rfl (by decide) (by decide) rfl rfl (Nat.le_of_ble_eq_true rfl) dX4_valueBest_29 ?_
          rintro v9 w9 ⟨z8, rfl, rfl, fp2, rfl⟩
          have hrp : RP fv cnt ((i + 1 : Nat) : Int) rm ≤ 300 := by have := rch_bd (f := PF fv cnt ((i + 1 : Nat) : Int)) (rm := rm) 300 0; simp only [RP]; omega
          refine g_ws (w' := wM ad cI cG th (cnt : Int) rm lt tk ov fv fs fd fo F fg fp2 Y) (st' := [.int (zI (RP fv cnt ((i + 1 : Nat) : Int) rm : Int))]) rfl rfl ?_
          refine g_istore (L' := [(4, .int (zI (RP fv cnt ((i + 1 : Nat) : Int) rm : Int))), (3, .int (zI ((i + 1 : Nat) : Int))), (2, .int (zI ((bvF fv cnt rm i).2))), (1, .int (zI ((bvF fv cnt rm i).1))), (0, .ref (ad 0))]) C dX4_valueBest_32 (by decide) rfl ?_
          refine g_iload C dX4_valueBest_34 0 rfl ?_
          refine g_iload_n C dX4_valueBest_36 2 rfl ?_
          refine g_icmp_gt 43 C dX4_valueBest_37 (by decide) (zr_i (by omega) (by omega)) (zr_i (by omega) (by omega)) (fun c_37 => ?_) (fun c_37 => ?_)
          · refine g_iload_n C dX4_valueBest_43 1 rfl ?_
            refine g_istore_n (L' := [(1, .int (zI ((i + 1 : Nat) : Int))), (4, .int (zI (RP fv cnt ((i + 1 : Nat) : Int) rm : Int))), (3, .int (zI ((i + 1 : Nat) : Int))), (2, .int (zI ((bvF fv cnt rm i).2))), (0, .ref (ad 0))]) C dX4_valueBest_44 (by decide) rfl ?_
            refine g_iload C dX4_valueBest_45 1 rfl ?_
            refine g_istore_n (L' := [(2, .int (zI (RP fv cnt ((i + 1 : Nat) : Int) rm : Int))), (1, .int (zI ((i + 1 : Nat) : Int))), (4, .int (zI (RP fv cnt ((i + 1 : Nat) : Int) rm : Int))), (3, .int (zI ((i + 1 : Nat) : Int))), (0, .ref (ad 0))]) C dX4_valueBest_47 (by decide) rfl ?_
            refine g_iinc (L' := [(3, .int (zI (((i + 1 : Nat) : Int) + 1))), (2, .int (zI (RP fv cnt ((i + 1 : Nat) : Int) rm : Int))), (1, .int (zI ((i + 1 : Nat) : Int))), (4, .int (zI (RP fv cnt ((i + 1 : Nat) : Int) rm : Int))), (0, .ref (ad 0))]) C dX4_valueBest_48 3 rfl (by decide) rfl ?_
            refine g_goto 6 C dX4_valueBest_51 (by decide) ?_
            refine g_loc (L' := [(3, .int (zI (((i + 1 : Nat) : Int) + 1))), (2, .int (zI (RP fv cnt ((i + 1 : Nat) : Int) rm : Int))), (1, .int (zI ((i + 1 : Nat) : Int))), (0, .ref (ad 0))]) [0, 1, 2, 4] rfl ?_
            refine g_lw (w' := wM ad cI cG th (cnt : Int) rm lt tk ov fv fs fd fo F fg fp2 Y) (L' := [(3, .int (zI ((i + 1 + 1 : Nat) : Int))), (2, .int (zI ((bvF fv cnt rm (i + 1)).2))), (1, .int (zI ((bvF fv cnt rm (i + 1)).1))), (0, .ref (ad 0))]) rfl (by rw [show bvF fv cnt rm (i + 1) = (((i + 1 : Nat) : Int), (RP fv cnt ((i + 1 : Nat) : Int) rm : Int)) from (if_neg (by rw [hb9]; decide)).trans (if_pos (by omega))]; rfl) ?_
            exact ih_6 (i + 1) fp2 (by omega) (by omega)
          · refine g_goto 48 C dX4_valueBest_40 (by decide) ?_
            refine g_iinc (L' := [(3, .int (zI (((i + 1 : Nat) : Int) + 1))), (4, .int (zI (RP fv cnt ((i + 1 : Nat) : Int) rm : Int))), (2, .int (zI ((bvF fv cnt rm i).2))), (1, .int (zI ((bvF fv cnt rm i).1))), (0, .ref (ad 0))]) C dX4_valueBest_48 1 rfl (by decide) rfl ?_
            refine g_goto 6 C dX4_valueBest_51 (by decide) ?_
            refine g_loc (L' := [(3, .int (zI (((i + 1 : Nat) : Int) + 1))), (2, .int (zI ((bvF fv cnt rm i).2))), (1, .int (zI ((bvF fv cnt rm i).1))), (0, .ref (ad 0))]) [0, 2, 3, 4] rfl ?_
            refine g_lw (w' := wM ad cI cG th (cnt : Int) rm lt tk ov fv fs fd fo F fg fp2 Y) (L' := [(3, .int (zI ((i + 1 + 1 : Nat) : Int))), (2, .int (zI ((bvF fv cnt rm (i + 1)).2))), (1, .int (zI ((bvF fv cnt rm (i + 1)).1))), (0, .ref (ad 0))]) rfl (by rw [show bvF fv cnt rm (i + 1) = bvF fv cnt rm i from (if_neg (by rw [hb9]; decide)).trans (if_neg (by omega))]; rfl) ?_
            exact ih_6 (i + 1) fp2 (by omega) (by omega)
        · have hb9 : hasB fv ((i + 1 : Nat) : Int) cnt = true := by
            rcases hh with hh | hh
            · exact hh.2
            · exact absurd hh.1 c_17
          refine g_goto 48 C dX4_valueBest_20 (by decide) ?_
          refine g_iinc (L' := [(3, .int (zI (((i + 1 : Nat) : Int) + 1))), (2, .int (zI ((bvF fv cnt rm i).2))), (1, .int (zI ((bvF fv cnt rm i).1))), (0, .ref (ad 0))]) C dX4_valueBest_48 0 rfl (by decide) rfl ?_
          refine g_goto 6 C dX4_valueBest_51 (by decide) ?_
          refine g_loc (L' := [(3, .int (zI (((i + 1 : Nat) : Int) + 1))), (2, .int (zI ((bvF fv cnt rm i).2))), (1, .int (zI ((bvF fv cnt rm i).1))), (0, .ref (ad 0))]) [0, 1, 2, 3] rfl ?_
          refine g_lw (w' := wM ad cI cG th (cnt : Int) rm lt tk ov fv fs fd fo F fg fp1 Y) (L' := [(3, .int (zI ((i + 1 + 1 : Nat) : Int))), (2, .int (zI ((bvF fv cnt rm (i + 1)).2))), (1, .int (zI ((bvF fv cnt rm (i + 1)).1))), (0, .ref (ad 0))]) rfl (by rw [show bvF fv cnt rm (i + 1) = bvF fv cnt rm i from if_pos hb9]; rfl) ?_
          exact ih_6 (i + 1) fp1 (by omega) (by omega)
  refine g_loc (L' := [(3, .int (zI 1)), (2, .int (zI (-1))), (1, .int (zI (-1))), (0, .ref (ad 0))]) [0, 1, 2, 3] rfl ?_
  exact loop_6 _ 0 fp (Nat.zero_le _) (Nat.lt_succ_self _)
