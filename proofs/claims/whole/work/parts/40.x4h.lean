abbrev rmX4_ofStampFor : Room := { frames := 3, cells := 0, slots := 0, locals := 68 }
set_option maxHeartbeats 4000000 in
set_option maxRecDepth 100000 in
theorem met_X4_ofStampFor (l : Launch) (D : va_G) (cI cG cJ : ClassId) (ad : Nat → Nat) (th : Int) (cnt : Nat) (hc : cnt ≤ 8) (rm lt tk ov : Int) (fv fs fd fo : Nat → Int) (F : Nat → Nat → Int) (fg fp : Nat → Int) (Y : Nat → Nat → Int) (hI : XI cnt fv fs rm) (p s : Int) (hp : zr p) (hs : zr s)  : gMet l yX4_ofStampFor cX4_ofStampFor 4 (some .int) rmX4_ofStampFor D cI cG cJ [.ref (ad 0), .int (zI p), .int (zI s)] (wM ad cI cG th (cnt : Int) rm lt tk ov fv fs fd fo F fg fp Y) (gI (fun z w9 => ((0 ≤ s ∧ s < (cnt : Int)) ∧ (1 ≤ p ∧ p ≤ 300) ∧ z = (if LSm cnt fv fs rm p.toNat = -1 then (0 : Int) else CH cnt fv fs rm (LSm cnt fv fs rm p.toNat).toNat s.toNat) ∧ MW ad cI cG 0 cnt rm lt tk ov fv fs fd w9) ∨ (¬ (0 ≤ s ∧ s < (cnt : Int)) ∧ z = 0 ∧ MW ad cI cG 1 cnt rm lt tk ov fv fs fd w9) ∨ ((0 ≤ s ∧ s < (cnt : Int)) ∧ ¬ (1 ≤ p ∧ p ≤ 300) ∧ z = 0 ∧ MW ad cI cG 2 cnt rm lt tk ov fv fs fd w9))) := by
  obtain ⟨hc8, hS, hb99, hr1, hr2⟩ := id hI
  have h99 : ∀ j, j < cnt → fs j ≤ 99 := hb99
  have hr : 1 ≤ rm ∧ rm ≤ 12 := ⟨hr1, hr2⟩
  have hr9 : 0 ≤ rm ∧ rm ≤ 12 := ⟨by omega, hr.2⟩
  have hv : ∀ j, j < cnt → 1 ≤ fv j ∧ fv j ≤ 60 := hS.1
  have hv1 : ∀ j, j < cnt → 1 ≤ fv j := fun j hj => (hS.1 j hj).1
  have hs9 : ∀ j, j < cnt → 0 ≤ fs j ∧ fs j ≤ 119 := hS.2.1
  refine gMet_I (by decide) rfl (Nat.le_of_ble_eq_true rfl) (fun E C ret => ?_)
  refine g_aload_n C dX4_ofStampFor_0 0 rfl ?_
  refine g_iconst C dX4_ofStampFor_1 ?_
  refine g_putf (w' := wM ad cI cG 0 (cnt : Int) rm lt tk ov fv fs fd fo F fg fp Y) C pX4_40 0 rfl rfl rfl (Nat.le_of_ble_eq_true rfl) rfl dX4_ofStampFor_2 ?_
  refine g_aload_n C dX4_ofStampFor_5 0 rfl ?_
  refine g_iload_n C dX4_ofStampFor_6 2 rfl ?_
  refine g_callV (wr := ([] : va_W)) (st := []) [0, 1, 2, 3, 4, 5, 6, 7, 8, 9, 10, 11, 12, 13, 14, 15, 16, 17, 18, 19, 20, 21, 22, 23, 24, 25, 26, 27, 28, 29, 30] [] C cX4_86 (met_X4_isStamp l D cI cG cJ ad 0 cnt hc rm lt tk ov fv fs fd fo F fg fp Y s hs) ⟨rfl, rfl, by decide, by decide, by decide⟩ (q0 := 0) rfl rfl (by decide) (by decide) rfl rfl (Nat.le_of_ble_eq_true rfl) dX4_ofStampFor_7 ?_
  rintro v9 w9 ⟨z9, rfl, rfl, rfl⟩
  refine g_ws (w' := wM ad cI cG 0 (cnt : Int) rm lt tk ov fv fs fd fo F fg fp Y) (st' := [.int (zI (if 0 ≤ s ∧ s < (cnt : Int) then (1 : Int) else 0))]) rfl rfl ?_
  refine g_if_ne 19 C dX4_ofStampFor_10 (by decide) zr01 (fun c_10 => ?_) (fun c_10 => ?_)
  · have hs8 := if1 c_10
    obtain ⟨j, rfl⟩ : ∃ j : Nat, s = (j : Int) := ⟨s.toNat, by omega⟩
    refine g_iload_n C dX4_ofStampFor_19 1 rfl ?_
    refine g_callS (wr := wM ad cI cG 0 (cnt : Int) rm lt tk ov fv fs fd fo F fg fp Y) (st := []) [] [0, 1, 2, 3, 4, 5, 6, 7, 8, 9, 10, 11, 12, 13, 14, 15, 16, 17, 18, 19, 20, 21, 22, 23, 24, 25, 26, 27, 28, 29, 30] C cX4_93 (met_X4_isPostage l D cI cG cJ p hp) ⟨rfl, rfl, by decide, by decide, by decide⟩ (by decide) (by decide) rfl rfl (Nat.le_of_ble_eq_true rfl) dX4_ofStampFor_20 ?_
    rintro v9 w9 ⟨z9, rfl, rfl, rfl⟩
    refine g_ws (w' := wM ad cI cG 0 (cnt : Int) rm lt tk ov fv fs fd fo F fg fp Y) (st' := [.int (zI (if 1 ≤ p ∧ p ≤ 300 then (1 : Int) else 0))]) rfl rfl ?_
    refine g_if_ne 32 C dX4_ofStampFor_23 (by decide) zr01 (fun c_23 => ?_) (fun c_23 => ?_)
    · have hp9 := if1 c_23
      obtain ⟨q, rfl⟩ : ∃ q : Nat, p = (q : Int) := ⟨p.toNat, by omega⟩
      have hl := LSm_rg (cnt := cnt) (fv := fv) (fs := fs) (rm := rm) (p := q) (by omega)
      refine g_aload_n C dX4_ofStampFor_32 0 rfl ?_
      refine g_callV (wr := ([] : va_W)) (st := []) [0, 1, 2, 3, 4, 5, 6, 7, 8, 9, 10, 11, 12, 13, 14, 15, 16, 17, 18, 19, 20, 21, 22, 23, 24, 25, 26, 27, 28, 29, 30] [] C cX4_67 (met_X4_table l D cI cG cJ ad 0 cnt hc rm lt tk ov fv fs fd fo F fg fp Y hS hr) ⟨rfl, rfl, by decide, by decide, by decide⟩ (q0 := 0) rfl rfl (by decide) (by decide) rfl rfl (Nat.le_of_ble_eq_true rfl) dX4_ofStampFor_33 ?_
      rintro v9 w9 ⟨rfl, fo1, F1, ⟨hO, hF⟩, rfl⟩
      refine g_ws (w' := wM ad cI cG 0 (cnt : Int) rm lt tk ov fv fs fd fo1 F1 fg fp Y) (st' := []) rfl rfl ?_
      refine g_aload_n C dX4_ofStampFor_36 0 rfl ?_
      refine g_iload_n C dX4_ofStampFor_37 1 rfl ?_
      refine g_callV (wr := ([] : va_W)) (st := []) [0, 1, 2, 3, 4, 5, 6, 7, 8, 9, 10, 11, 12, 13, 14, 15, 16, 17, 18, 19, 20, 21, 22, 23, 24, 25, 26, 27, 28, 29, 30] [] C cX4_70 (met_X4_covers l D cI cG cJ ad 0 cnt hc rm lt tk ov fv fs fd fo1 F1 fg fp Y hS hr hF q (by omega)) ⟨rfl, rfl, by decide, by decide, by decide⟩ (q0 := 0) rfl rfl (by decide) (by decide) rfl rfl (Nat.le_of_ble_eq_true rfl) dX4_ofStampFor_38 ?_
      rintro v9 w9 ⟨z9, rfl, rfl, rfl⟩
      refine g_ws (w' := wM ad cI cG 0 (cnt : Int) rm lt tk ov fv fs fd fo1 F1 fg fp Y) (st' := [.int (zI (LSm cnt fv fs rm q))]) rfl rfl ?_
      refine g_istore_n (L' := [(3, .int (zI (LSm cnt fv fs rm q))), (0, .ref (ad 0)), (1, .int (zI (q : Int))), (2, .int (zI (j : Int)))]) C dX4_ofStampFor_41 (by decide) rfl ?_
      refine g_iload_n C dX4_ofStampFor_42 0 rfl ?_
      refine g_iconst C dX4_ofStampFor_43 ?_
      refine g_icmp_ne 49 C dX4_ofStampFor_44 (by decide) (zr_i (by omega) (by omega)) (zr_i (by omega) (by omega)) (fun c_44 => ?_) (fun c_44 => ?_)
      · refine g_aload_n C dX4_ofStampFor_49 1 rfl ?_
        refine g_iload_n C dX4_ofStampFor_50 0 rfl ?_
        refine g_top (((LSm cnt fv fs rm q).toNat : Nat) : Int) (by omega) ?_
        refine g_callV (wr := ([] : va_W)) (st := []) [0, 1, 2, 3, 4, 5, 6, 7, 8, 9, 10, 11, 12, 13, 14, 15, 16, 17, 18, 19, 20, 21, 22, 23, 24, 25, 26, 27, 28, 29, 30] [] C cX4_74 (met_X4_take l D cI cG cJ ad 0 cnt hc rm lt tk ov fv fs fd fo1 F1 fg fp Y hS hr hF hO (LSm cnt fv fs rm q).toNat (by omega)) ⟨rfl, rfl, by decide, by decide, by decide⟩ (q0 := 0) rfl rfl (by decide) (by decide) rfl rfl (Nat.le_of_ble_eq_true rfl) dX4_ofStampFor_51 ?_
        rintro v9 w9 ⟨rfl, fg1, hg, rfl⟩
        refine g_ws (w' := wM ad cI cG 0 (cnt : Int) rm lt tk ov fv fs fd fo1 F1 fg1 fp Y) (st' := []) rfl rfl ?_
        refine g_aload_n C dX4_ofStampFor_54 1 rfl ?_
        refine g_getf C fX4_31 0 rfl rfl dX4_ofStampFor_55 ?_
        refine g_iload_n C dX4_ofStampFor_58 3 rfl ?_
        refine g_iald C 6 rfl (by decide) (by omega) (by omega) (v := (fg1 j)) rfl dX4_ofStampFor_59 ?_
        exact ret _ _ _ _ _ _ (by decide) (by decide) dX4_ofStampFor_60 (Or.inl ⟨hs8, hp9, (hg j (by omega)).trans (if_neg c_44).symm, ⟨_, _, _, _, _, rfl⟩⟩)
      · refine g_iconst C dX4_ofStampFor_47 ?_
        exact ret _ _ _ _ _ _ (by decide) (by decide) dX4_ofStampFor_48 (Or.inl ⟨hs8, hp9, (if_pos c_44).symm, ⟨_, _, _, _, _, rfl⟩⟩)
    · have hp9 := if0 c_23
      refine g_aload_n C dX4_ofStampFor_26 0 rfl ?_
      refine g_iconst C dX4_ofStampFor_27 ?_
      refine g_callV (wr := ([] : va_W)) (st := []) [0, 1, 2, 3, 4, 5, 6, 7, 8, 9, 10, 11, 12, 13, 14, 15, 16, 17, 18, 19, 20, 21, 22, 23, 24, 25, 26, 27, 28, 29, 30] [] C cX4_80 (met_X4_no l D cI cG cJ ad 0 cnt hc rm lt tk ov fv fs fd fo F fg fp Y 2) ⟨rfl, rfl, by decide, by decide, by decide⟩ (q0 := 0) rfl rfl (by decide) (by decide) rfl rfl (Nat.le_of_ble_eq_true rfl) dX4_ofStampFor_28 ?_
      rintro v9 w9 ⟨z9, rfl, rfl, rfl⟩
      refine g_ws (w' := wM ad cI cG 2 (cnt : Int) rm lt tk ov fv fs fd fo F fg fp Y) (st' := [.int (zI 0)]) rfl rfl ?_
      exact ret _ _ _ _ _ _ (by decide) (by decide) dX4_ofStampFor_31 (Or.inr (Or.inr ⟨hs8, hp9, rfl, ⟨_, _, _, _, _, rfl⟩⟩))
  · have hs8 := if0 c_10
    refine g_aload_n C dX4_ofStampFor_13 0 rfl ?_
    refine g_iconst C dX4_ofStampFor_14 ?_
    refine g_callV (wr := ([] : va_W)) (st := []) [0, 1, 2, 3, 4, 5, 6, 7, 8, 9, 10, 11, 12, 13, 14, 15, 16, 17, 18, 19, 20, 21, 22, 23, 24, 25, 26, 27, 28, 29, 30] [] C cX4_80 (met_X4_no l D cI cG cJ ad 0 cnt hc rm lt tk ov fv fs fd fo F fg fp Y 1) ⟨rfl, rfl, by decide, by decide, by decide⟩ (q0 := 0) rfl rfl (by decide) (by decide) rfl rfl (Nat.le_of_ble_eq_true rfl) dX4_ofStampFor_15 ?_
    rintro v9 w9 ⟨z9, rfl, rfl, rfl⟩
    refine g_ws (w' := wM ad cI cG 1 (cnt : Int) rm lt tk ov fv fs fd fo F fg fp Y) (st' := [.int (zI 0)]) rfl rfl ?_
    exact ret _ _ _ _ _ _ (by decide) (by decide) dX4_ofStampFor_18 (Or.inr (Or.inl ⟨hs8, rfl, ⟨_, _, _, _, _, rfl⟩⟩))
abbrev rmX4_vend : Room := { frames := 4, cells := 0, slots := 0, locals := 91 }
set_option maxHeartbeats 4000000 in
set_option maxRecDepth 100000 in
theorem met_X4_vend (l : Launch) (D : va_G) (cI cG cJ : ClassId) (ad : Nat → Nat) (th : Int) (cnt : Nat) (hc : cnt ≤ 8) (rm lt tk ov : Int) (fv fs fd fo : Nat → Int) (F : Nat → Nat → Int) (fg fp : Nat → Int) (Y : Nat → Nat → Int) (hI : XI cnt fv fs rm) (p : Int) (hp : zr p)  : gMet l yX4_vend cX4_vend 4 (some .int) rmX4_vend D cI cG cJ [.ref (ad 0), .int (zI p)] (wM ad cI cG th (cnt : Int) rm lt tk ov fv fs fd fo F fg fp Y) (gI (fun z w9 => ((1 ≤ p ∧ p ≤ 300) ∧ LSm cnt fv fs rm p.toNat ≠ -1 ∧ z = LSm cnt fv fs rm p.toNat - p ∧ MW ad cI cG 0 cnt rm (lt + 1) (tk + LSm cnt fv fs rm p.toNat) (ov + (LSm cnt fv fs rm p.toNat - p)) fv (sbS cnt fs (CH cnt fv fs rm (LSm cnt fv fs rm p.toNat).toNat)) (cpy fd (fun j => fd j + CH cnt fv fs rm (LSm cnt fv fs rm p.toNat).toNat j) cnt) w9) ∨ (¬ (1 ≤ p ∧ p ≤ 300) ∧ z = 0 ∧ MW ad cI cG 1 cnt rm lt tk ov fv fs fd w9) ∨ ((1 ≤ p ∧ p ≤ 300) ∧ LSm cnt fv fs rm p.toNat = -1 ∧ z = 0 ∧ MW ad cI cG 2 cnt rm lt tk ov fv fs fd w9))) := by
  obtain ⟨hc8, hS, hb99, hr1, hr2⟩ := id hI
  have h99 : ∀ j, j < cnt → fs j ≤ 99 := hb99
  have hr : 1 ≤ rm ∧ rm ≤ 12 := ⟨hr1, hr2⟩
  have hr9 : 0 ≤ rm ∧ rm ≤ 12 := ⟨by omega, hr.2⟩
  have hv : ∀ j, j < cnt → 1 ≤ fv j ∧ fv j ≤ 60 := hS.1
  have hv1 : ∀ j, j < cnt → 1 ≤ fv j := fun j hj => (hS.1 j hj).1
  have hs9 : ∀ j, j < cnt → 0 ≤ fs j ∧ fs j ≤ 119 := hS.2.1
  refine gMet_I (by decide) rfl (Nat.le_of_ble_eq_true rfl) (fun E C ret => ?_)
  refine g_aload_n C dX4_vend_0 0 rfl ?_
  refine g_iconst C dX4_vend_1 ?_
  refine g_putf (w' := wM ad cI cG 0 (cnt : Int) rm lt tk ov fv fs fd fo F fg fp Y) C pX4_40 0 rfl rfl rfl (Nat.le_of_ble_eq_true rfl) rfl dX4_vend_2 ?_
  refine g_iload_n C dX4_vend_5 1 rfl ?_
  refine g_callS (wr := wM ad cI cG 0 (cnt : Int) rm lt tk ov fv fs fd fo F fg fp Y) (st := []) [] [0, 1, 2, 3, 4, 5, 6, 7, 8, 9, 10, 11, 12, 13, 14, 15, 16, 17, 18, 19, 20, 21, 22, 23, 24, 25, 26, 27, 28, 29, 30] C cX4_93 (met_X4_isPostage l D cI cG cJ p hp) ⟨rfl, rfl, by decide, by decide, by decide⟩ (by decide) (by decide) rfl rfl (Nat.le_of_ble_eq_true rfl) dX4_vend_6 ?_
  rintro v9 w9 ⟨z9, rfl, rfl, rfl⟩
  refine g_ws (w' := wM ad cI cG 0 (cnt : Int) rm lt tk ov fv fs fd fo F fg fp Y) (st' := [.int (zI (if 1 ≤ p ∧ p ≤ 300 then (1 : Int) else 0))]) rfl rfl ?_
  refine g_if_ne 18 C dX4_vend_9 (by decide) zr01 (fun c_9 => ?_) (fun c_9 => ?_)
  · have hp9 := if1 c_9
    obtain ⟨q, rfl⟩ : ∃ q : Nat, p = (q : Int) := ⟨p.toNat, by omega⟩
    have hl := LSm_rg (cnt := cnt) (fv := fv) (fs := fs) (rm := rm) (p := q) (by omega)
    refine g_aload_n C dX4_vend_18 0 rfl ?_
    refine g_iload_n C dX4_vend_19 1 rfl ?_
    refine g_callV (wr := ([] : va_W)) (st := []) [0, 1, 2, 3, 4, 5, 6, 7, 8, 9, 10, 11, 12, 13, 14, 15, 16, 17, 18, 19, 20, 21, 22, 23, 24, 25, 26, 27, 28, 29, 30] [] C cX4_96 (met_X4_give l D cI cG cJ ad 0 cnt hc rm lt tk ov fv fs fd fo F fg fp Y hS hr q (by omega)) ⟨rfl, rfl, by decide, by decide, by decide⟩ (q0 := 0) rfl rfl (by decide) (by decide) rfl rfl (Nat.le_of_ble_eq_true rfl) dX4_vend_20 ?_
    rintro v9 w9 ⟨z8, rfl, rfl, fo1, F1, fg1, fs1, hh, rfl⟩
    refine g_ws (w' := wM ad cI cG 0 (cnt : Int) rm lt tk ov fv fs1 fd fo1 F1 fg1 fp Y) (st' := [.int (zI (LSm cnt fv fs rm q))]) rfl rfl ?_
    refine g_istore_n (L' := [(2, .int (zI (LSm cnt fv fs rm q))), (0, .ref (ad 0)), (1, .int (zI (q : Int)))]) C dX4_vend_23 (by decide) rfl ?_
    refine g_iload_n C dX4_vend_24 0 rfl ?_
    refine g_iconst C dX4_vend_25 ?_
    refine g_icmp_ne 35 C dX4_vend_26 (by decide) (zr_i (by omega) (by omega)) (zr_i (by omega) (by omega)) (fun c_26 => ?_) (fun c_26 => ?_)
    · obtain ⟨hn, hg, hf⟩ := hh.resolve_left (fun w => c_26 w.1)
      refine g_iconst C dX4_vend_35 ?_
      refine g_istore_n (L' := [(3, .int (zI 0)), (2, .int (zI (LSm cnt fv fs rm q))), (0, .ref (ad 0)), (1, .int (zI (q : Int)))]) C dX4_vend_36 (by decide) rfl ?_
      have loop_37 : ∀ (fu : Nat) (i : Nat), (hi : i ≤ cnt) → cnt - i < fu → gW E 0 0 (wM ad cI cG 0 (cnt : Int) rm lt tk ov fv fs1 (cpy fd (fun j => fd j + fg1 j) i) fo1 F1 fg1 fp Y) 37 [(3, .int (zI (i : Int))), (0, .ref (ad 0)), (1, .int (zI (q : Int))), (2, .int (zI (LSm cnt fv fs rm q)))] [] := by
        intro fu
        induction fu with
        | zero => intro i hi h9; exact absurd h9 (Nat.not_lt_zero _)
        | succ fu ih_37 =>
          intro i hi hmu_37
          refine g_iload_n C dX4_vend_37 0 rfl ?_
          refine g_aload_n C dX4_vend_38 1 rfl ?_
          refine g_getf C fX4_43 0 rfl rfl dX4_vend_39 ?_
          refine g_icmp_ge 66 C dX4_vend_42 (by decide) (zr_i (by omega) (by omega)) (zr_i (by omega) (by omega)) (fun c_42 => ?_) (fun c_42 => ?_)
          · refine g_aload_n C dX4_vend_66 1 rfl ?_
            refine g_dup C dX4_vend_67 rfl ?_
            refine g_getf C fX4_99 0 rfl rfl dX4_vend_68 ?_
            refine g_iconst C dX4_vend_71 ?_
            refine g_iadd C dX4_vend_72 ?_
            refine g_putf (w' := wM ad cI cG 0 (cnt : Int) rm (lt + 1) tk ov fv fs1 (cpy fd (fun j => fd j + fg1 j) i) fo1 F1 fg1 fp Y) C pX4_99 0 rfl rfl rfl (Nat.le_of_ble_eq_true rfl) rfl dX4_vend_73 ?_
            refine g_aload_n C dX4_vend_76 1 rfl ?_
            refine g_dup C dX4_vend_77 rfl ?_
            refine g_getf C fX4_102 0 rfl rfl dX4_vend_78 ?_
            refine g_iload_n C dX4_vend_81 3 rfl ?_
            refine g_iadd C dX4_vend_82 ?_
            refine g_putf (w' := wM ad cI cG 0 (cnt : Int) rm (lt + 1) (tk + (LSm cnt fv fs rm q)) ov fv fs1 (cpy fd (fun j => fd j + fg1 j) i) fo1 F1 fg1 fp Y) C pX4_102 0 rfl rfl rfl (Nat.le_of_ble_eq_true rfl) rfl dX4_vend_83 ?_
            refine g_aload_n C dX4_vend_86 1 rfl ?_
            refine g_dup C dX4_vend_87 rfl ?_
            refine g_getf C fX4_105 0 rfl rfl dX4_vend_88 ?_
            refine g_iload_n C dX4_vend_91 3 rfl ?_
            refine g_iload_n C dX4_vend_92 2 rfl ?_
            refine g_isub C dX4_vend_93 ?_
            refine g_iadd C dX4_vend_94 ?_
            refine g_putf (w' := wM ad cI cG 0 (cnt : Int) rm (lt + 1) (tk + (LSm cnt fv fs rm q)) (ov + ((LSm cnt fv fs rm q) - (q : Int))) fv fs1 (cpy fd (fun j => fd j + fg1 j) i) fo1 F1 fg1 fp Y) C pX4_105 0 rfl rfl rfl (Nat.le_of_ble_eq_true rfl) rfl dX4_vend_95 ?_
            refine g_iload_n C dX4_vend_98 3 rfl ?_
            refine g_iload_n C dX4_vend_99 2 rfl ?_
            refine g_isub C dX4_vend_100 ?_
            exact ret _ _ _ _ _ _ (by decide) (by decide) dX4_vend_101 (Or.inl ⟨hp9, hn, rfl, fo1, F1, fg1, fp, Y, by
              rw [hf, show i = cnt by omega, cpy_c (c := fun j => fd j + fg1 j) (c' := fun j => fd j + CH cnt fv fs rm (LSm cnt fv fs rm q).toNat j) (fun j hj => by show fd j + fg1 j = fd j + _; rw [hg j hj])]
              rfl⟩)
          · refine g_aload_n C dX4_vend_45 1 rfl ?_
            refine g_getf C fX4_20 0 rfl rfl dX4_vend_46 ?_
            refine g_iload_n C dX4_vend_49 0 rfl ?_
            refine g_dup2 C dX4_vend_50 rfl rfl ?_
            refine g_iald C 3 rfl (by decide) (by omega) (by omega) (v := ((cpy fd (fun j => fd j + fg1 j) i) i)) rfl dX4_vend_51 ?_
            refine g_aload_n C dX4_vend_52 1 rfl ?_
            refine g_getf C fX4_31 0 rfl rfl dX4_vend_53 ?_
            refine g_iload_n C dX4_vend_56 0 rfl ?_
            refine g_iald C 6 rfl (by decide) (by omega) (by omega) (v := (fg1 i)) rfl dX4_vend_57 ?_
            refine g_iadd C dX4_vend_58 ?_
            refine g_top ((fun j => fd j + fg1 j) i) (by rw [cpy_g (Nat.le_refl _)]) ?_
            refine g_iast (w' := wM ad cI cG 0 (cnt : Int) rm lt tk ov fv fs1 (zU (cpy fd (fun j => fd j + fg1 j) i) i ((fun j => fd j + fg1 j) i)) fo1 F1 fg1 fp Y) C 3 rfl (by decide) (by omega) (by omega) rfl dX4_vend_59 ?_
            refine g_iinc (L' := [(3, .int (zI ((i : Int) + 1))), (0, .ref (ad 0)), (1, .int (zI (q : Int))), (2, .int (zI (LSm cnt fv fs rm q)))]) C dX4_vend_60 0 rfl (by decide) rfl ?_
            refine g_goto 37 C dX4_vend_63 (by decide) ?_
            refine g_loc (L' := [(3, .int (zI ((i : Int) + 1))), (0, .ref (ad 0)), (1, .int (zI (q : Int))), (2, .int (zI (LSm cnt fv fs rm q)))]) [0, 1, 2, 3] rfl ?_
            refine g_ws (w' := wM ad cI cG 0 (cnt : Int) rm lt tk ov fv fs1 (cpy fd (fun j => fd j + fg1 j) (i + 1)) fo1 F1 fg1 fp Y) (by rw [cpy_s]) rfl ?_
            exact ih_37 (i + 1) (by omega) (by omega)
      refine g_loc (L' := [(3, .int (zI 0)), (0, .ref (ad 0)), (1, .int (zI (q : Int))), (2, .int (zI (LSm cnt fv fs rm q)))]) [0, 2, 3, 1] rfl ?_
      refine g_ws (w' := wM ad cI cG 0 (cnt : Int) rm lt tk ov fv fs1 (cpy fd (fun j => fd j + fg1 j) 0) fo1 F1 fg1 fp Y) (by rw [cpy_0]) rfl ?_
      exact loop_37 _ 0 (Nat.zero_le _) (Nat.lt_succ_self _)
    · obtain ⟨hn, hf⟩ := hh.resolve_right (fun w => w.1 c_26)
      refine g_aload_n C dX4_vend_29 1 rfl ?_
      refine g_iconst C dX4_vend_30 ?_
      refine g_callV (wr := ([] : va_W)) (st := []) [0, 1, 2, 3, 4, 5, 6, 7, 8, 9, 10, 11, 12, 13, 14, 15, 16, 17, 18, 19, 20, 21, 22, 23, 24, 25, 26, 27, 28, 29, 30] [] C cX4_80 (met_X4_no l D cI cG cJ ad 0 cnt hc rm lt tk ov fv fs1 fd fo1 F1 fg1 fp Y 2) ⟨rfl, rfl, by decide, by decide, by decide⟩ (q0 := 0) rfl rfl (by decide) (by decide) rfl rfl (Nat.le_of_ble_eq_true rfl) dX4_vend_31 ?_
      rintro v9 w9 ⟨z9, rfl, rfl, rfl⟩
      refine g_ws (w' := wM ad cI cG 2 (cnt : Int) rm lt tk ov fv fs1 fd fo1 F1 fg1 fp Y) (st' := [.int (zI 0)]) rfl rfl ?_
      exact ret _ _ _ _ _ _ (by decide) (by decide) dX4_vend_34 (Or.inr (Or.inr ⟨hp9, hn, rfl, _, _, _, _, _, by rw [hf]⟩))
  · have hp9 := if0 c_9
    refine g_aload_n C dX4_vend_12 0 rfl ?_
    refine g_iconst C dX4_vend_13 ?_
    refine g_callV (wr := ([] : va_W)) (st := []) [0, 1, 2, 3, 4, 5, 6, 7, 8, 9, 10, 11, 12, 13, 14, 15, 16, 17, 18, 19, 20, 21, 22, 23, 24, 25, 26, 27, 28, 29, 30] [] C cX4_80 (met_X4_no l D cI cG cJ ad 0 cnt hc rm lt tk ov fv fs fd fo F fg fp Y 1) ⟨rfl, rfl, by decide, by decide, by decide⟩ (q0 := 0) rfl rfl (by decide) (by decide) rfl rfl (Nat.le_of_ble_eq_true rfl) dX4_vend_14 ?_
    rintro v9 w9 ⟨z9, rfl, rfl, rfl⟩
    refine g_ws (w' := wM ad cI cG 1 (cnt : Int) rm lt tk ov fv fs fd fo F fg fp Y) (st' := [.int (zI 0)]) rfl rfl ?_
    exact ret _ _ _ _ _ _ (by decide) (by decide) dX4_vend_17 (Or.inr (Or.inl ⟨hp9, rfl, ⟨_, _, _, _, _, rfl⟩⟩))
abbrev rmX4_addStamp : Room := { frames := 1, cells := 0, slots := 0, locals := 22 }
set_option maxHeartbeats 4000000 in
set_option maxRecDepth 100000 in
theorem met_X4_addStamp (l : Launch) (D : va_G) (cI cG cJ : ClassId) (ad : Nat → Nat) (th : Int) (cnt : Nat) (hc : cnt ≤ 8) (rm lt tk ov : Int) (fv fs fd fo : Nat → Int) (F : Nat → Nat → Int) (fg fp : Nat → Int) (Y : Nat → Nat → Int) (hI : XI cnt fv fs rm) (x y : Int) (hx : zr x) (hy : zr y)  : gMet l yX4_addStamp cX4_addStamp 3 (some .int) rmX4_addStamp D cI cG cJ [.ref (ad 0), .int (zI x), .int (zI y)] (wM ad cI cG th (cnt : Int) rm lt tk ov fv fs fd fo F fg fp Y) (gI (fun z w9 => ((1 ≤ x ∧ x ≤ 60 ∧ 0 ≤ y ∧ y ≤ 99) ∧ cnt < 8 ∧ hasB fv x cnt = false ∧ z = (cnt : Int) ∧ MW ad cI cG 0 (cnt + 1) rm lt tk ov (zU fv cnt x) (zU fs cnt y) (zU fd cnt 0) w9) ∨ (¬ (1 ≤ x ∧ x ≤ 60 ∧ 0 ≤ y ∧ y ≤ 99) ∧ z = 0 ∧ MW ad cI cG 1 cnt rm lt tk ov fv fs fd w9) ∨ ((1 ≤ x ∧ x ≤ 60 ∧ 0 ≤ y ∧ y ≤ 99) ∧ (8 ≤ cnt ∨ hasB fv x cnt = true) ∧ z = 0 ∧ MW ad cI cG 2 cnt rm lt tk ov fv fs fd w9))) := by
  obtain ⟨hc8, hS, hb99, hr1, hr2⟩ := id hI
  have h99 : ∀ j, j < cnt → fs j ≤ 99 := hb99
  have hr : 1 ≤ rm ∧ rm ≤ 12 := ⟨hr1, hr2⟩
  have hr9 : 0 ≤ rm ∧ rm ≤ 12 := ⟨by omega, hr.2⟩
  have hv : ∀ j, j < cnt → 1 ≤ fv j ∧ fv j ≤ 60 := hS.1
  have hv1 : ∀ j, j < cnt → 1 ≤ fv j := fun j hj => (hS.1 j hj).1
  have hs9 : ∀ j, j < cnt → 0 ≤ fs j ∧ fs j ≤ 119 := hS.2.1
  refine gMet_I (by decide) rfl (Nat.le_of_ble_eq_true rfl) (fun E C ret => ?_)
  refine g_aload_n C dX4_addStamp_0 0 rfl ?_
  refine g_iconst C dX4_addStamp_1 ?_
  refine g_putf (w' := wM ad cI cG 0 (cnt : Int) rm lt tk ov fv fs fd fo F fg fp Y) C pX4_40 0 rfl rfl rfl (Nat.le_of_ble_eq_true rfl) rfl dX4_addStamp_2 ?_
  refine g_iload_n C dX4_addStamp_5 1 rfl ?_
  refine g_iconst C dX4_addStamp_6 ?_
  refine g_bipush C dX4_addStamp_7 (by decide) ?_
  refine g_callS (wr := wM ad cI cG 0 (cnt : Int) rm lt tk ov fv fs fd fo F fg fp Y) (st := []) [] [0, 1, 2, 3, 4, 5, 6, 7, 8, 9, 10, 11, 12, 13, 14, 15, 16, 17, 18, 19, 20, 21, 22, 23, 24, 25, 26, 27, 28, 29, 30] C cX4_46 (met_X4_isIn l D cI cG cJ x 1 60 (hx) (zr_i (by omega) (by omega)) (zr_i (by omega) (by omega))) ⟨rfl, rfl, by decide, by decide, by decide⟩ (by decide) (by decide) rfl rfl (Nat.le_of_ble_eq_true rfl) dX4_addStamp_9 ?_
  rintro v9 w9 ⟨z9, rfl, rfl, rfl⟩
  refine g_ws (w' := wM ad cI cG 0 (cnt : Int) rm lt tk ov fv fs fd fo F fg fp Y) (st' := [.int (zI (if 1 ≤ x ∧ x ≤ 60 then (1 : Int) else 0))]) rfl rfl ?_
  refine g_if_eq 25 C dX4_addStamp_12 (by decide) zr01 (fun c_12 => ?_) (fun c_12 => ?_)
  · have hx9 := if0 c_12
    have hb9 : ¬ (1 ≤ x ∧ x ≤ 60 ∧ 0 ≤ y ∧ y ≤ 99) := fun w => hx9 ⟨w.1, w.2.1⟩
    refine g_aload_n C dX4_addStamp_25 0 rfl ?_
    refine g_iconst C dX4_addStamp_26 ?_
    refine g_callV (wr := ([] : va_W)) (st := []) [0, 1, 2, 3, 4, 5, 6, 7, 8, 9, 10, 11, 12, 13, 14, 15, 16, 17, 18, 19, 20, 21, 22, 23, 24, 25, 26, 27, 28, 29, 30] [] C cX4_80 (met_X4_no l D cI cG cJ ad 0 cnt hc rm lt tk ov fv fs fd fo F fg fp Y 1) ⟨rfl, rfl, by decide, by decide, by decide⟩ (q0 := 0) rfl rfl (by decide) (by decide) rfl rfl (Nat.le_of_ble_eq_true rfl) dX4_addStamp_27 ?_
    rintro v9 w9 ⟨z9, rfl, rfl, rfl⟩
    refine g_ws (w' := wM ad cI cG 1 (cnt : Int) rm lt tk ov fv fs fd fo F fg fp Y) (st' := [.int (zI 0)]) rfl rfl ?_
    exact ret _ _ _ _ _ _ (by decide) (by decide) dX4_addStamp_30 (Or.inr (Or.inl ⟨hb9, rfl, ⟨_, _, _, _, _, rfl⟩⟩))
  · have hx9 := if1 c_12
    refine g_iload_n C dX4_addStamp_15 2 rfl ?_
    refine g_iconst C dX4_addStamp_16 ?_
    refine g_bipush C dX4_addStamp_17 (by decide) ?_
    refine g_callS (wr := wM ad cI cG 0 (cnt : Int) rm lt tk ov fv fs fd fo F fg fp Y) (st := []) [] [0, 1, 2, 3, 4, 5, 6, 7, 8, 9, 10, 11, 12, 13, 14, 15, 16, 17, 18, 19, 20, 21, 22, 23, 24, 25, 26, 27, 28, 29, 30] C cX4_46 (met_X4_isIn l D cI cG cJ y 0 99 (hy) (zr_i (by omega) (by omega)) (zr_i (by omega) (by omega))) ⟨rfl, rfl, by decide, by decide, by decide⟩ (by decide) (by decide) rfl rfl (Nat.le_of_ble_eq_true rfl) dX4_addStamp_19 ?_
    rintro v9 w9 ⟨z9, rfl, rfl, rfl⟩
    refine g_ws (w' := wM ad cI cG 0 (cnt : Int) rm lt tk ov fv fs fd fo F fg fp Y) (st' := [.int (zI (if 0 ≤ y ∧ y ≤ 99 then (1 : Int) else 0))]) rfl rfl ?_
    refine g_if_ne 31 C dX4_addStamp_22 (by decide) zr01 (fun c_22 => ?_) (fun c_22 => ?_)
    · have hy9 := if1 c_22
      have hv9 : 1 ≤ x ∧ x ≤ 60 ∧ 0 ≤ y ∧ y ≤ 99 := ⟨hx9.1, hx9.2, hy9.1, hy9.2⟩
      refine g_aload_n C dX4_addStamp_31 0 rfl ?_
      refine g_getf C fX4_43 0 rfl rfl dX4_addStamp_32 ?_
      refine g_bipush C dX4_addStamp_35 (by decide) ?_
      refine g_icmp_eq 48 C dX4_addStamp_37 (by decide) (zr_i (by omega) (by omega)) (zr_i (by omega) (by omega)) (fun c_37 => ?_) (fun c_37 => ?_)
      · have hc9 : 8 ≤ cnt ∨ hasB fv x cnt = true := Or.inl (by omega)
        refine g_aload_n C dX4_addStamp_48 0 rfl ?_
        refine g_iconst C dX4_addStamp_49 ?_
        refine g_callV (wr := ([] : va_W)) (st := []) [0, 1, 2, 3, 4, 5, 6, 7, 8, 9, 10, 11, 12, 13, 14, 15, 16, 17, 18, 19, 20, 21, 22, 23, 24, 25, 26, 27, 28, 29, 30] [] C cX4_80 (met_X4_no l D cI cG cJ ad 0 cnt hc rm lt tk ov fv fs fd fo F fg fp Y 2) ⟨rfl, rfl, by decide, by decide, by decide⟩ (q0 := 0) rfl rfl (by decide) (by decide) rfl rfl (Nat.le_of_ble_eq_true rfl) dX4_addStamp_50 ?_
        rintro v9 w9 ⟨z9, rfl, rfl, rfl⟩
        refine g_ws (w' := wM ad cI cG 2 (cnt : Int) rm lt tk ov fv fs fd fo F fg fp Y) (st' := [.int (zI 0)]) rfl rfl ?_
        exact ret _ _ _ _ _ _ (by decide) (by decide) dX4_addStamp_53 (Or.inr (Or.inr ⟨hv9, hc9, rfl, ⟨_, _, _, _, _, rfl⟩⟩))
      · refine g_aload_n C dX4_addStamp_40 0 rfl ?_
        refine g_iload_n C dX4_addStamp_41 1 rfl ?_
        refine g_callV (wr := ([] : va_W)) (st := []) [0, 1, 2, 3, 4, 5, 6, 7, 8, 9, 10, 11, 12, 13, 14, 15, 16, 17, 18, 19, 20, 21, 22, 23, 24, 25, 26, 27, 28, 29, 30] [] C cX4_83 (met_X4_isThere l D cI cG cJ ad 0 cnt hc rm lt tk ov fv fs fd fo F fg fp Y hv x hx) ⟨rfl, rfl, by decide, by decide, by decide⟩ (q0 := 0) rfl rfl (by decide) (by decide) rfl rfl (Nat.le_of_ble_eq_true rfl) dX4_addStamp_42 ?_
        rintro v9 w9 ⟨zb, rfl, hh, rfl⟩
        refine g_ws (w' := wM ad cI cG 0 (cnt : Int) rm lt tk ov fv fs fd fo F fg fp Y) (st' := [.int (zI zb)]) rfl rfl ?_
        refine g_if_eq 54 C dX4_addStamp_45 (by decide) (zr_i (by rcases hh with hh | hh <;> omega) (by rcases hh with hh | hh <;> omega)) (fun c_45 => ?_) (fun c_45 => ?_)
        · have hh9 : hasB fv x cnt = false := by
            rcases hh with hh | hh
            · rw [hh.1] at c_45; exact absurd c_45 (by decide)
            · exact hh.2
          refine g_aload_n C dX4_addStamp_54 0 rfl ?_
          refine g_getf C fX4_13 0 rfl rfl dX4_addStamp_55 ?_
          refine g_aload_n C dX4_addStamp_58 0 rfl ?_
          refine g_getf C fX4_43 0 rfl rfl dX4_addStamp_59 ?_
          refine g_iload_n C dX4_addStamp_62 1 rfl ?_
          refine g_iast (w' := wM ad cI cG 0 (cnt : Int) rm lt tk ov (zU fv cnt x) fs fd fo F fg fp Y) C 1 rfl (by decide) (by omega) (by omega) rfl dX4_addStamp_63 ?_
          refine g_aload_n C dX4_addStamp_64 0 rfl ?_
          refine g_getf C fX4_17 0 rfl rfl dX4_addStamp_65 ?_
          refine g_aload_n C dX4_addStamp_68 0 rfl ?_
          refine g_getf C fX4_43 0 rfl rfl dX4_addStamp_69 ?_
          refine g_iload_n C dX4_addStamp_72 2 rfl ?_
          refine g_iast (w' := wM ad cI cG 0 (cnt : Int) rm lt tk ov (zU fv cnt x) (zU fs cnt y) fd fo F fg fp Y) C 2 rfl (by decide) (by omega) (by omega) rfl dX4_addStamp_73 ?_
          refine g_aload_n C dX4_addStamp_74 0 rfl ?_
          refine g_getf C fX4_20 0 rfl rfl dX4_addStamp_75 ?_
          refine g_aload_n C dX4_addStamp_78 0 rfl ?_
          refine g_getf C fX4_43 0 rfl rfl dX4_addStamp_79 ?_
          refine g_iconst C dX4_addStamp_82 ?_
          refine g_iast (w' := wM ad cI cG 0 (cnt : Int) rm lt tk ov (zU fv cnt x) (zU fs cnt y) (zU fd cnt 0) fo F fg fp Y) C 3 rfl (by decide) (by omega) (by omega) rfl dX4_addStamp_83 ?_
          refine g_aload_n C dX4_addStamp_84 0 rfl ?_
          refine g_dup C dX4_addStamp_85 rfl ?_
          refine g_getf C fX4_43 0 rfl rfl dX4_addStamp_86 ?_
          refine g_iconst C dX4_addStamp_89 ?_
          refine g_iadd C dX4_addStamp_90 ?_
          refine g_putf (w' := wM ad cI cG 0 ((cnt : Int) + 1) rm lt tk ov (zU fv cnt x) (zU fs cnt y) (zU fd cnt 0) fo F fg fp Y) C pX4_43 0 rfl rfl rfl (Nat.le_of_ble_eq_true rfl) rfl dX4_addStamp_91 ?_
          refine g_aload_n C dX4_addStamp_94 0 rfl ?_
          refine g_getf C fX4_43 0 rfl rfl dX4_addStamp_95 ?_
          refine g_iconst C dX4_addStamp_98 ?_
          refine g_isub C dX4_addStamp_99 ?_
          refine g_top (cnt : Int) (by omega) ?_
          exact ret _ _ _ _ _ _ (by decide) (by decide) dX4_addStamp_100 (Or.inl ⟨hv9, by omega, hh9, rfl, ⟨_, _, _, _, _, rfl⟩⟩)
        · have hc9 : 8 ≤ cnt ∨ hasB fv x cnt = true := by
            rcases hh with hh | hh
            · exact Or.inr hh.2
            · exact absurd hh.1 c_45
          refine g_aload_n C dX4_addStamp_48 0 rfl ?_
          refine g_iconst C dX4_addStamp_49 ?_
          refine g_callV (wr := ([] : va_W)) (st := []) [0, 1, 2, 3, 4, 5, 6, 7, 8, 9, 10, 11, 12, 13, 14, 15, 16, 17, 18, 19, 20, 21, 22, 23, 24, 25, 26, 27, 28, 29, 30] [] C cX4_80 (met_X4_no l D cI cG cJ ad 0 cnt hc rm lt tk ov fv fs fd fo F fg fp Y 2) ⟨rfl, rfl, by decide, by decide, by decide⟩ (q0 := 0) rfl rfl (by decide) (by decide) rfl rfl (Nat.le_of_ble_eq_true rfl) dX4_addStamp_50 ?_
          rintro v9 w9 ⟨z9, rfl, rfl, rfl⟩
          refine g_ws (w' := wM ad cI cG 2 (cnt : Int) rm lt tk ov fv fs fd fo F fg fp Y) (st' := [.int (zI 0)]) rfl rfl ?_
          exact ret _ _ _ _ _ _ (by decide) (by decide) dX4_addStamp_53 (Or.inr (Or.inr ⟨hv9, hc9, rfl, ⟨_, _, _, _, _, rfl⟩⟩))
    · have hy9 := if0 c_22
      have hb9 : ¬ (1 ≤ x ∧ x ≤ 60 ∧ 0 ≤ y ∧ y ≤ 99) := fun w => hy9 ⟨w.2.2.1, w.2.2.2⟩
      refine g_aload_n C dX4_addStamp_25 0 rfl ?_
      refine g_iconst C dX4_addStamp_26 ?_
      refine g_callV (wr := ([] : va_W)) (st := []) [0, 1, 2, 3, 4, 5, 6, 7, 8, 9, 10, 11, 12, 13, 14, 15, 16, 17, 18, 19, 20, 21, 22, 23, 24, 25, 26, 27, 28, 29, 30] [] C cX4_80 (met_X4_no l D cI cG cJ ad 0 cnt hc rm lt tk ov fv fs fd fo F fg fp Y 1) ⟨rfl, rfl, by decide, by decide, by decide⟩ (q0 := 0) rfl rfl (by decide) (by decide) rfl rfl (Nat.le_of_ble_eq_true rfl) dX4_addStamp_27 ?_
      rintro v9 w9 ⟨z9, rfl, rfl, rfl⟩
      refine g_ws (w' := wM ad cI cG 1 (cnt : Int) rm lt tk ov fv fs fd fo F fg fp Y) (st' := [.int (zI 0)]) rfl rfl ?_
      exact ret _ _ _ _ _ _ (by decide) (by decide) dX4_addStamp_30 (Or.inr (Or.inl ⟨hb9, rfl, ⟨_, _, _, _, _, rfl⟩⟩))
abbrev rmX4_close : Room := { frames := 0, cells := 0, slots := 0, locals := 0 }
set_option maxHeartbeats 4000000 in
set_option maxRecDepth 100000 in
theorem met_X4_close_fv (l : Launch) (D : va_G) (cI cG cJ : ClassId) (ad : Nat → Nat) (th : Int) (c : Int) (rm lt tk ov : Int) (fv fs fd fo : Nat → Int) (F : Nat → Nat → Int) (fg fp : Nat → Int) (Y : Nat → Nat → Int) (s n : Nat) (hs : s ≤ n) (hn : n ≤ 7)  : gMet l yX4_close cX4_close 4 none rmX4_close D cI cG cJ [.ref (ad 1), .int (zI (s : Int)), .int (zI (n : Int))] (wM ad cI cG th c rm lt tk ov fv fs fd fo F fg fp Y) (gN (fun w9 => w9 = wM ad cI cG th c rm lt tk ov (rmv fv s n) fs fd fo F fg fp Y)) := by
  refine gMet_N (by decide) rfl (Nat.le_of_ble_eq_true rfl) (fun E C ret => ?_)
  refine g_iload_n C dX4_close_0 1 rfl ?_
  refine g_istore_n (L' := [(3, .int (zI (s : Int))), (0, .ref (ad 1)), (1, .int (zI (s : Int))), (2, .int (zI (n : Int)))]) C dX4_close_1 (by decide) rfl ?_
  have loop_2 : ∀ (fu : Nat) (i : Nat), (hi1 : s ≤ i) → (hi2 : i ≤ n) → n - i < fu → gW E 0 0 (wM ad cI cG th c rm lt tk ov (rmv fv s i) fs fd fo F fg fp Y) 2 [(3, .int (zI (i : Int))), (0, .ref (ad 1)), (1, .int (zI (s : Int))), (2, .int (zI (n : Int)))] [] := by
    intro fu
    induction fu with
    | zero => intro i hi1 hi2 h9; exact absurd h9 (Nat.not_lt_zero _)
    | succ fu ih_2 =>
      intro i hi1 hi2 hmu_2
      refine g_iload_n C dX4_close_2 0 rfl ?_
      refine g_iload_n C dX4_close_3 3 rfl ?_
      refine g_icmp_ge 21 C dX4_close_4 (by decide) (zr_i (by omega) (by omega)) (zr_i (by omega) (by omega)) (fun c_4 => ?_) (fun c_4 => ?_)
      · have e9 : n = i := by omega
        subst e9
        exact ret _ _ _ _ _ (by decide) (by decide) dX4_close_21 (rfl)
      · refine g_aload_n C dX4_close_7 1 rfl ?_
        refine g_iload_n C dX4_close_8 0 rfl ?_
        refine g_aload_n C dX4_close_9 1 rfl ?_
        refine g_iload_n C dX4_close_10 0 rfl ?_
        refine g_iconst C dX4_close_11 ?_
        refine g_iadd C dX4_close_12 ?_
        refine g_iald C 1 rfl (by decide) (by omega) (by omega) (v := ((rmv fv s i) (i + 1))) rfl dX4_close_13 ?_
        refine g_iast (w' := wM ad cI cG th c rm lt tk ov (zU (rmv fv s i) i ((rmv fv s i) (i + 1))) fs fd fo F fg fp Y) C 1 rfl (by decide) (by omega) (by omega) rfl dX4_close_14 ?_
        refine g_iinc (L' := [(3, .int (zI ((i : Int) + 1))), (0, .ref (ad 1)), (1, .int (zI (s : Int))), (2, .int (zI (n : Int)))]) C dX4_close_15 0 rfl (by decide) rfl ?_
        refine g_goto 2 C dX4_close_18 (by decide) ?_
        refine g_loc (L' := [(3, .int (zI ((i : Int) + 1))), (0, .ref (ad 1)), (1, .int (zI (s : Int))), (2, .int (zI (n : Int)))]) [0, 1, 2, 3] rfl ?_
        refine g_ws (w' := wM ad cI cG th c rm lt tk ov (rmv fv s (i + 1)) fs fd fo F fg fp Y) (by rw [rmv_s hi1]) rfl ?_
        exact ih_2 (i + 1) (by omega) (by omega) (by omega)
  refine g_loc (L' := [(3, .int (zI (s : Int))), (0, .ref (ad 1)), (1, .int (zI (s : Int))), (2, .int (zI (n : Int)))]) [0, 1, 2, 3] rfl ?_
  refine g_ws (w' := wM ad cI cG th c rm lt tk ov (rmv fv s s) fs fd fo F fg fp Y) (by rw [rmv_0]) rfl ?_
  exact loop_2 _ s (Nat.le_refl _) hs (Nat.lt_succ_self _)
set_option maxHeartbeats 4000000 in
set_option maxRecDepth 100000 in
theorem met_X4_close_fs (l : Launch) (D : va_G) (cI cG cJ : ClassId) (ad : Nat → Nat) (th : Int) (c : Int) (rm lt tk ov : Int) (fv fs fd fo : Nat → Int) (F : Nat → Nat → Int) (fg fp : Nat → Int) (Y : Nat → Nat → Int) (s n : Nat) (hs : s ≤ n) (hn : n ≤ 7)  : gMet l yX4_close cX4_close 4 none rmX4_close D cI cG cJ [.ref (ad 2), .int (zI (s : Int)), .int (zI (n : Int))] (wM ad cI cG th c rm lt tk ov fv fs fd fo F fg fp Y) (gN (fun w9 => w9 = wM ad cI cG th c rm lt tk ov fv (rmv fs s n) fd fo F fg fp Y)) := by
  refine gMet_N (by decide) rfl (Nat.le_of_ble_eq_true rfl) (fun E C ret => ?_)
  refine g_iload_n C dX4_close_0 1 rfl ?_
  refine g_istore_n (L' := [(3, .int (zI (s : Int))), (0, .ref (ad 2)), (1, .int (zI (s : Int))), (2, .int (zI (n : Int)))]) C dX4_close_1 (by decide) rfl ?_
  have loop_2 : ∀ (fu : Nat) (i : Nat), (hi1 : s ≤ i) → (hi2 : i ≤ n) → n - i < fu → gW E 0 0 (wM ad cI cG th c rm lt tk ov fv (rmv fs s i) fd fo F fg fp Y) 2 [(3, .int (zI (i : Int))), (0, .ref (ad 2)), (1, .int (zI (s : Int))), (2, .int (zI (n : Int)))] [] := by
    intro fu
    induction fu with
    | zero => intro i hi1 hi2 h9; exact absurd h9 (Nat.not_lt_zero _)
    | succ fu ih_2 =>
      intro i hi1 hi2 hmu_2
      refine g_iload_n C dX4_close_2 0 rfl ?_
      refine g_iload_n C dX4_close_3 3 rfl ?_
      refine g_icmp_ge 21 C dX4_close_4 (by decide) (zr_i (by omega) (by omega)) (zr_i (by omega) (by omega)) (fun c_4 => ?_) (fun c_4 => ?_)
      · have e9 : n = i := by omega
        subst e9
        exact ret _ _ _ _ _ (by decide) (by decide) dX4_close_21 (rfl)
      · refine g_aload_n C dX4_close_7 1 rfl ?_
        refine g_iload_n C dX4_close_8 0 rfl ?_
        refine g_aload_n C dX4_close_9 1 rfl ?_
        refine g_iload_n C dX4_close_10 0 rfl ?_
        refine g_iconst C dX4_close_11 ?_
        refine g_iadd C dX4_close_12 ?_
        refine g_iald C 2 rfl (by decide) (by omega) (by omega) (v := ((rmv fs s i) (i + 1))) rfl dX4_close_13 ?_
        refine g_iast (w' := wM ad cI cG th c rm lt tk ov fv (zU (rmv fs s i) i ((rmv fs s i) (i + 1))) fd fo F fg fp Y) C 2 rfl (by decide) (by omega) (by omega) rfl dX4_close_14 ?_
        refine g_iinc (L' := [(3, .int (zI ((i : Int) + 1))), (0, .ref (ad 2)), (1, .int (zI (s : Int))), (2, .int (zI (n : Int)))]) C dX4_close_15 0 rfl (by decide) rfl ?_
        refine g_goto 2 C dX4_close_18 (by decide) ?_
        refine g_loc (L' := [(3, .int (zI ((i : Int) + 1))), (0, .ref (ad 2)), (1, .int (zI (s : Int))), (2, .int (zI (n : Int)))]) [0, 1, 2, 3] rfl ?_
        refine g_ws (w' := wM ad cI cG th c rm lt tk ov fv (rmv fs s (i + 1)) fd fo F fg fp Y) (by rw [rmv_s hi1]) rfl ?_
        exact ih_2 (i + 1) (by omega) (by omega) (by omega)
  refine g_loc (L' := [(3, .int (zI (s : Int))), (0, .ref (ad 2)), (1, .int (zI (s : Int))), (2, .int (zI (n : Int)))]) [0, 1, 2, 3] rfl ?_
  refine g_ws (w' := wM ad cI cG th c rm lt tk ov fv (rmv fs s s) fd fo F fg fp Y) (by rw [rmv_0]) rfl ?_
  exact loop_2 _ s (Nat.le_refl _) hs (Nat.lt_succ_self _)
set_option maxHeartbeats 4000000 in
set_option maxRecDepth 100000 in
theorem met_X4_close_fd (l : Launch) (D : va_G) (cI cG cJ : ClassId) (ad : Nat → Nat) (th : Int) (c : Int) (rm lt tk ov : Int) (fv fs fd fo : Nat → Int) (F : Nat → Nat → Int) (fg fp : Nat → Int) (Y : Nat → Nat → Int) (s n : Nat) (hs : s ≤ n) (hn : n ≤ 7)  : gMet l yX4_close cX4_close 4 none rmX4_close D cI cG cJ [.ref (ad 3), .int (zI (s : Int)), .int (zI (n : Int))] (wM ad cI cG th c rm lt tk ov fv fs fd fo F fg fp Y) (gN (fun w9 => w9 = wM ad cI cG th c rm lt tk ov fv fs (rmv fd s n) fo F fg fp Y)) := by
  refine gMet_N (by decide) rfl (Nat.le_of_ble_eq_true rfl) (fun E C ret => ?_)
  refine g_iload_n C dX4_close_0 1 rfl ?_
  refine g_istore_n (L' := [(3, .int (zI (s : Int))), (0, .ref (ad 3)), (1, .int (zI (s : Int))), (2, .int (zI (n : Int)))]) C dX4_close_1 (by decide) rfl ?_
  have loop_2 : ∀ (fu : Nat) (i : Nat), (hi1 : s ≤ i) → (hi2 : i ≤ n) → n - i < fu → gW E 0 0 (wM ad cI cG th c rm lt tk ov fv fs (rmv fd s i) fo F fg fp Y) 2 [(3, .int (zI (i : Int))), (0, .ref (ad 3)), (1, .int (zI (s : Int))), (2, .int (zI (n : Int)))] [] := by
    intro fu
    induction fu with
    | zero => intro i hi1 hi2 h9; exact absurd h9 (Nat.not_lt_zero _)
    | succ fu ih_2 =>
      intro i hi1 hi2 hmu_2
      refine g_iload_n C dX4_close_2 0 rfl ?_
      refine g_iload_n C dX4_close_3 3 rfl ?_
      refine g_icmp_ge 21 C dX4_close_4 (by decide) (zr_i (by omega) (by omega)) (zr_i (by omega) (by omega)) (fun c_4 => ?_) (fun c_4 => ?_)
      · have e9 : n = i := by omega
        subst e9
        exact ret _ _ _ _ _ (by decide) (by decide) dX4_close_21 (rfl)
      · refine g_aload_n C dX4_close_7 1 rfl ?_
        refine g_iload_n C dX4_close_8 0 rfl ?_
        refine g_aload_n C dX4_close_9 1 rfl ?_
        refine g_iload_n C dX4_close_10 0 rfl ?_
        refine g_iconst C dX4_close_11 ?_
        refine g_iadd C dX4_close_12 ?_
        refine g_iald C 3 rfl (by decide) (by omega) (by omega) (v := ((rmv fd s i) (i + 1))) rfl dX4_close_13 ?_
        refine g_iast (w' := wM ad cI cG th c rm lt tk ov fv fs (zU (rmv fd s i) i ((rmv fd s i) (i + 1))) fo F fg fp Y) C 3 rfl (by decide) (by omega) (by omega) rfl dX4_close_14 ?_
        refine g_iinc (L' := [(3, .int (zI ((i : Int) + 1))), (0, .ref (ad 3)), (1, .int (zI (s : Int))), (2, .int (zI (n : Int)))]) C dX4_close_15 0 rfl (by decide) rfl ?_
        refine g_goto 2 C dX4_close_18 (by decide) ?_
        refine g_loc (L' := [(3, .int (zI ((i : Int) + 1))), (0, .ref (ad 3)), (1, .int (zI (s : Int))), (2, .int (zI (n : Int)))]) [0, 1, 2, 3] rfl ?_
        refine g_ws (w' := wM ad cI cG th c rm lt tk ov fv fs (rmv fd s (i + 1)) fo F fg fp Y) (by rw [rmv_s hi1]) rfl ?_
        exact ih_2 (i + 1) (by omega) (by omega) (by omega)
  refine g_loc (L' := [(3, .int (zI (s : Int))), (0, .ref (ad 3)), (1, .int (zI (s : Int))), (2, .int (zI (n : Int)))]) [0, 1, 2, 3] rfl ?_
  refine g_ws (w' := wM ad cI cG th c rm lt tk ov fv fs (rmv fd s s) fo F fg fp Y) (by rw [rmv_0]) rfl ?_
  exact loop_2 _ s (Nat.le_refl _) hs (Nat.lt_succ_self _)
abbrev rmX4_withdraw : Room := { frames := 2, cells := 0, slots := 0, locals := 43 }
set_option maxHeartbeats 4000000 in
set_option maxRecDepth 100000 in
theorem met_X4_withdraw (l : Launch) (D : va_G) (cI cG cJ : ClassId) (ad : Nat → Nat) (th : Int) (cnt : Nat) (hc : cnt ≤ 8) (rm lt tk ov : Int) (fv fs fd fo : Nat → Int) (F : Nat → Nat → Int) (fg fp : Nat → Int) (Y : Nat → Nat → Int) (hI : XI cnt fv fs rm) (s : Int) (hs : zr s)  : gMet l yX4_withdraw cX4_withdraw 3 (some .int) rmX4_withdraw D cI cG cJ [.ref (ad 0), .int (zI s)] (wM ad cI cG th (cnt : Int) rm lt tk ov fv fs fd fo F fg fp Y) (gI (fun z w9 => ((0 ≤ s ∧ s < (cnt : Int)) ∧ z = fs s.toNat ∧ MW ad cI cG 0 (cnt - 1) rm lt tk ov (rmv fv s.toNat (cnt - 1)) (rmv fs s.toNat (cnt - 1)) (rmv fd s.toNat (cnt - 1)) w9) ∨ (¬ (0 ≤ s ∧ s < (cnt : Int)) ∧ z = 0 ∧ MW ad cI cG 1 cnt rm lt tk ov fv fs fd w9))) := by
  obtain ⟨hc8, hS, hb99, hr1, hr2⟩ := id hI
  have h99 : ∀ j, j < cnt → fs j ≤ 99 := hb99
  have hr : 1 ≤ rm ∧ rm ≤ 12 := ⟨hr1, hr2⟩
  have hr9 : 0 ≤ rm ∧ rm ≤ 12 := ⟨by omega, hr.2⟩
  have hv : ∀ j, j < cnt → 1 ≤ fv j ∧ fv j ≤ 60 := hS.1
  have hv1 : ∀ j, j < cnt → 1 ≤ fv j := fun j hj => (hS.1 j hj).1
  have hs9 : ∀ j, j < cnt → 0 ≤ fs j ∧ fs j ≤ 119 := hS.2.1
  refine gMet_I (by decide) rfl (Nat.le_of_ble_eq_true rfl) (fun E C ret => ?_)
  refine g_aload_n C dX4_withdraw_0 0 rfl ?_
  refine g_iconst C dX4_withdraw_1 ?_
  refine g_putf (w' := wM ad cI cG 0 (cnt : Int) rm lt tk ov fv fs fd fo F fg fp Y) C pX4_40 0 rfl rfl rfl (Nat.le_of_ble_eq_true rfl) rfl dX4_withdraw_2 ?_
  refine g_aload_n C dX4_withdraw_5 0 rfl ?_
  refine g_iload_n C dX4_withdraw_6 1 rfl ?_
  refine g_callV (wr := ([] : va_W)) (st := []) [0, 1, 2, 3, 4, 5, 6, 7, 8, 9, 10, 11, 12, 13, 14, 15, 16, 17, 18, 19, 20, 21, 22, 23, 24, 25, 26, 27, 28, 29, 30] [] C cX4_86 (met_X4_isStamp l D cI cG cJ ad 0 cnt hc rm lt tk ov fv fs fd fo F fg fp Y s hs) ⟨rfl, rfl, by decide, by decide, by decide⟩ (q0 := 0) rfl rfl (by decide) (by decide) rfl rfl (Nat.le_of_ble_eq_true rfl) dX4_withdraw_7 ?_
  rintro v9 w9 ⟨z9, rfl, rfl, rfl⟩
  refine g_ws (w' := wM ad cI cG 0 (cnt : Int) rm lt tk ov fv fs fd fo F fg fp Y) (st' := [.int (zI (if 0 ≤ s ∧ s < (cnt : Int) then (1 : Int) else 0))]) rfl rfl ?_
  refine g_if_ne 19 C dX4_withdraw_10 (by decide) zr01 (fun c_10 => ?_) (fun c_10 => ?_)
  · have hs8 := if1 c_10
    obtain ⟨j, rfl⟩ : ∃ j : Nat, s = (j : Int) := ⟨s.toNat, by omega⟩
    refine g_aload_n C dX4_withdraw_19 0 rfl ?_
    refine g_getf C fX4_17 0 rfl rfl dX4_withdraw_20 ?_
    refine g_iload_n C dX4_withdraw_23 1 rfl ?_
    refine g_iald C 2 rfl (by decide) (by omega) (by omega) (v := (fs j)) rfl dX4_withdraw_24 ?_
    refine g_istore_n (L' := [(2, .int (zI (fs j))), (0, .ref (ad 0)), (1, .int (zI (j : Int)))]) C dX4_withdraw_25 (by decide) rfl ?_
    refine g_aload_n C dX4_withdraw_26 1 rfl ?_
    refine g_dup C dX4_withdraw_27 rfl ?_
    refine g_getf C fX4_43 0 rfl rfl dX4_withdraw_28 ?_
    refine g_iconst C dX4_withdraw_31 ?_
    refine g_isub C dX4_withdraw_32 ?_
    refine g_putf (w' := wM ad cI cG 0 ((cnt : Int) - 1) rm lt tk ov fv fs fd fo F fg fp Y) C pX4_43 0 rfl rfl rfl (Nat.le_of_ble_eq_true rfl) rfl dX4_withdraw_33 ?_
    refine g_aload_n C dX4_withdraw_36 1 rfl ?_
    refine g_getf C fX4_13 0 rfl rfl dX4_withdraw_37 ?_
    refine g_iload_n C dX4_withdraw_40 2 rfl ?_
    refine g_aload_n C dX4_withdraw_41 1 rfl ?_
    refine g_getf C fX4_43 0 rfl rfl dX4_withdraw_42 ?_
    refine g_top ((cnt - 1 : Nat) : Int) (by omega) ?_
    refine g_callS (wr := ([] : va_W)) (st := []) [0, 1, 2, 3, 4, 5, 6, 7, 8, 9, 10, 11, 12, 13, 14, 15, 16, 17, 18, 19, 20, 21, 22, 23, 24, 25, 26, 27, 28, 29, 30] [] C cX4_89 (met_X4_close_fv l D cI cG cJ ad 0 ((cnt : Int) - 1) rm lt tk ov fv fs fd fo F fg fp Y j (cnt - 1) (by omega) (by omega)) ⟨rfl, rfl, by decide, by decide, by decide⟩ (by decide) (by decide) rfl rfl (Nat.le_of_ble_eq_true rfl) dX4_withdraw_45 ?_
    rintro v9 w9 ⟨rfl, rfl⟩
    refine g_ws (w' := wM ad cI cG 0 ((cnt : Int) - 1) rm lt tk ov (rmv fv j (cnt - 1)) fs fd fo F fg fp Y) (st' := []) rfl rfl ?_
    refine g_aload_n C dX4_withdraw_48 1 rfl ?_
    refine g_getf C fX4_17 0 rfl rfl dX4_withdraw_49 ?_
    refine g_iload_n C dX4_withdraw_52 2 rfl ?_
    refine g_aload_n C dX4_withdraw_53 1 rfl ?_
    refine g_getf C fX4_43 0 rfl rfl dX4_withdraw_54 ?_
    refine g_top ((cnt - 1 : Nat) : Int) (by omega) ?_
    refine g_callS (wr := ([] : va_W)) (st := []) [0, 1, 2, 3, 4, 5, 6, 7, 8, 9, 10, 11, 12, 13, 14, 15, 16, 17, 18, 19, 20, 21, 22, 23, 24, 25, 26, 27, 28, 29, 30] [] C cX4_89 (met_X4_close_fs l D cI cG cJ ad 0 ((cnt : Int) - 1) rm lt tk ov (rmv fv j (cnt - 1)) fs fd fo F fg fp Y j (cnt - 1) (by omega) (by omega)) ⟨rfl, rfl, by decide, by decide, by decide⟩ (by decide) (by decide) rfl rfl (Nat.le_of_ble_eq_true rfl) dX4_withdraw_57 ?_
    rintro v9 w9 ⟨rfl, rfl⟩
    refine g_ws (w' := wM ad cI cG 0 ((cnt : Int) - 1) rm lt tk ov (rmv fv j (cnt - 1)) (rmv fs j (cnt - 1)) fd fo F fg fp Y) (st' := []) rfl rfl ?_
    refine g_aload_n C dX4_withdraw_60 1 rfl ?_
    refine g_getf C fX4_20 0 rfl rfl dX4_withdraw_61 ?_
    refine g_iload_n C dX4_withdraw_64 2 rfl ?_
    refine g_aload_n C dX4_withdraw_65 1 rfl ?_
    refine g_getf C fX4_43 0 rfl rfl dX4_withdraw_66 ?_
    refine g_top ((cnt - 1 : Nat) : Int) (by omega) ?_
    refine g_callS (wr := ([] : va_W)) (st := []) [0, 1, 2, 3, 4, 5, 6, 7, 8, 9, 10, 11, 12, 13, 14, 15, 16, 17, 18, 19, 20, 21, 22, 23, 24, 25, 26, 27, 28, 29, 30] [] C cX4_89 (met_X4_close_fd l D cI cG cJ ad 0 ((cnt : Int) - 1) rm lt tk ov (rmv fv j (cnt - 1)) (rmv fs j (cnt - 1)) fd fo F fg fp Y j (cnt - 1) (by omega) (by omega)) ⟨rfl, rfl, by decide, by decide, by decide⟩ (by decide) (by decide) rfl rfl (Nat.le_of_ble_eq_true rfl) dX4_withdraw_69 ?_
    rintro v9 w9 ⟨rfl, rfl⟩
    refine g_ws (w' := wM ad cI cG 0 ((cnt : Int) - 1) rm lt tk ov (rmv fv j (cnt - 1)) (rmv fs j (cnt - 1)) (rmv fd j (cnt - 1)) fo F fg fp Y) (st' := []) rfl rfl ?_
    refine g_iload_n C dX4_withdraw_72 0 rfl ?_
    exact ret _ _ _ _ _ _ (by decide) (by decide) dX4_withdraw_73 (Or.inl ⟨hs8, rfl, fo, F, fg, fp, Y, by rw [show (cnt : Int) - 1 = ((cnt - 1 : Nat) : Int) by omega]; rfl⟩)
  · have hs8 := if0 c_10
    refine g_aload_n C dX4_withdraw_13 0 rfl ?_
    refine g_iconst C dX4_withdraw_14 ?_
    refine g_callV (wr := ([] : va_W)) (st := []) [0, 1, 2, 3, 4, 5, 6, 7, 8, 9, 10, 11, 12, 13, 14, 15, 16, 17, 18, 19, 20, 21, 22, 23, 24, 25, 26, 27, 28, 29, 30] [] C cX4_80 (met_X4_no l D cI cG cJ ad 0 cnt hc rm lt tk ov fv fs fd fo F fg fp Y 1) ⟨rfl, rfl, by decide, by decide, by decide⟩ (q0 := 0) rfl rfl (by decide) (by decide) rfl rfl (Nat.le_of_ble_eq_true rfl) dX4_withdraw_15 ?_
    rintro v9 w9 ⟨z9, rfl, rfl, rfl⟩
    refine g_ws (w' := wM ad cI cG 1 (cnt : Int) rm lt tk ov fv fs fd fo F fg fp Y) (st' := [.int (zI 0)]) rfl rfl ?_
    exact ret _ _ _ _ _ _ (by decide) (by decide) dX4_withdraw_18 (Or.inr ⟨hs8, rfl, ⟨_, _, _, _, _, rfl⟩⟩)
abbrev rmX4_print : Room := { frames := 2, cells := 0, slots := 0, locals := 43 }
set_option maxHeartbeats 4000000 in
set_option maxRecDepth 100000 in
theorem met_X4_print (l : Launch) (D : va_G) (cI cG cJ : ClassId) (ad : Nat → Nat) (th : Int) (cnt : Nat) (hc : cnt ≤ 8) (rm lt tk ov : Int) (fv fs fd fo : Nat → Int) (F : Nat → Nat → Int) (fg fp : Nat → Int) (Y : Nat → Nat → Int) (hI : XI cnt fv fs rm) (s y : Int) (hs : zr s) (hy : zr y)  : gMet l yX4_print cX4_print 3 (some .int) rmX4_print D cI cG cJ [.ref (ad 0), .int (zI s), .int (zI y)] (wM ad cI cG th (cnt : Int) rm lt tk ov fv fs fd fo F fg fp Y) (gI (fun z w9 => ((0 ≤ s ∧ s < (cnt : Int)) ∧ (1 ≤ y ∧ y ≤ 99) ∧ z = (min (fs s.toNat + y) 99) ∧ MW ad cI cG 0 cnt rm lt tk ov fv (zU fs s.toNat (min (fs s.toNat + y) 99)) fd w9) ∨ (¬ (0 ≤ s ∧ s < (cnt : Int)) ∧ z = 0 ∧ MW ad cI cG 1 cnt rm lt tk ov fv fs fd w9) ∨ ((0 ≤ s ∧ s < (cnt : Int)) ∧ ¬ (1 ≤ y ∧ y ≤ 99) ∧ z = 0 ∧ MW ad cI cG 2 cnt rm lt tk ov fv fs fd w9))) := by
  obtain ⟨hc8, hS, hb99, hr1, hr2⟩ := id hI
  have h99 : ∀ j, j < cnt → fs j ≤ 99 := hb99
  have hr : 1 ≤ rm ∧ rm ≤ 12 := ⟨hr1, hr2⟩
  have hr9 : 0 ≤ rm ∧ rm ≤ 12 := ⟨by omega, hr.2⟩
  have hv : ∀ j, j < cnt → 1 ≤ fv j ∧ fv j ≤ 60 := hS.1
  have hv1 : ∀ j, j < cnt → 1 ≤ fv j := fun j hj => (hS.1 j hj).1
  have hs9 : ∀ j, j < cnt → 0 ≤ fs j ∧ fs j ≤ 119 := hS.2.1
  refine gMet_I (by decide) rfl (Nat.le_of_ble_eq_true rfl) (fun E C ret => ?_)
  refine g_aload_n C dX4_print_0 0 rfl ?_
  refine g_iconst C dX4_print_1 ?_
  refine g_putf (w' := wM ad cI cG 0 (cnt : Int) rm lt tk ov fv fs fd fo F fg fp Y) C pX4_40 0 rfl rfl rfl (Nat.le_of_ble_eq_true rfl) rfl dX4_print_2 ?_
  refine g_aload_n C dX4_print_5 0 rfl ?_
  refine g_iload_n C dX4_print_6 1 rfl ?_
  refine g_callV (wr := ([] : va_W)) (st := []) [0, 1, 2, 3, 4, 5, 6, 7, 8, 9, 10, 11, 12, 13, 14, 15, 16, 17, 18, 19, 20, 21, 22, 23, 24, 25, 26, 27, 28, 29, 30] [] C cX4_86 (met_X4_isStamp l D cI cG cJ ad 0 cnt hc rm lt tk ov fv fs fd fo F fg fp Y s hs) ⟨rfl, rfl, by decide, by decide, by decide⟩ (q0 := 0) rfl rfl (by decide) (by decide) rfl rfl (Nat.le_of_ble_eq_true rfl) dX4_print_7 ?_
  rintro v9 w9 ⟨z9, rfl, rfl, rfl⟩
  refine g_ws (w' := wM ad cI cG 0 (cnt : Int) rm lt tk ov fv fs fd fo F fg fp Y) (st' := [.int (zI (if 0 ≤ s ∧ s < (cnt : Int) then (1 : Int) else 0))]) rfl rfl ?_
  refine g_if_ne 19 C dX4_print_10 (by decide) zr01 (fun c_10 => ?_) (fun c_10 => ?_)
  · have hs8 := if1 c_10
    obtain ⟨j, rfl⟩ : ∃ j : Nat, s = (j : Int) := ⟨s.toNat, by omega⟩
    refine g_iload_n C dX4_print_19 2 rfl ?_
    refine g_iconst C dX4_print_20 ?_
    refine g_bipush C dX4_print_21 (by decide) ?_
    refine g_callS (wr := wM ad cI cG 0 (cnt : Int) rm lt tk ov fv fs fd fo F fg fp Y) (st := []) [] [0, 1, 2, 3, 4, 5, 6, 7, 8, 9, 10, 11, 12, 13, 14, 15, 16, 17, 18, 19, 20, 21, 22, 23, 24, 25, 26, 27, 28, 29, 30] C cX4_46 (met_X4_isIn l D cI cG cJ y 1 99 (hy) (zr_i (by omega) (by omega)) (zr_i (by omega) (by omega))) ⟨rfl, rfl, by decide, by decide, by decide⟩ (by decide) (by decide) rfl rfl (Nat.le_of_ble_eq_true rfl) dX4_print_23 ?_
    rintro v9 w9 ⟨z9, rfl, rfl, rfl⟩
    refine g_ws (w' := wM ad cI cG 0 (cnt : Int) rm lt tk ov fv fs fd fo F fg fp Y) (st' := [.int (zI (if 1 ≤ y ∧ y ≤ 99 then (1 : Int) else 0))]) rfl rfl ?_
    refine g_if_ne 35 C dX4_print_26 (by decide) zr01 (fun c_26 => ?_) (fun c_26 => ?_)
    · have hy9 := if1 c_26
      have hs7 := hs9 j (by omega)
      refine g_aload_n C dX4_print_35 0 rfl ?_
      refine g_getf C fX4_17 0 rfl rfl dX4_print_36 ?_
      refine g_iload_n C dX4_print_39 1 rfl ?_
      refine g_bipush C dX4_print_40 (by decide) ?_
      refine g_aload_n C dX4_print_42 0 rfl ?_
      refine g_getf C fX4_17 0 rfl rfl dX4_print_43 ?_
      refine g_iload_n C dX4_print_46 1 rfl ?_
      refine g_iald C 2 rfl (by decide) (by omega) (by omega) (v := (fs j)) rfl dX4_print_47 ?_
      refine g_iload_n C dX4_print_48 2 rfl ?_
      refine g_iadd C dX4_print_49 ?_
      refine g_min C mX4_50 (zr_i (by omega) (by omega)) (zr_i (by omega) (by omega)) (by decide) (Nat.le_of_ble_eq_true rfl) dX4_print_50 ?_
      refine g_top (min (fs j + y) 99) (Int.min_comm _ _) ?_
      refine g_iast (w' := wM ad cI cG 0 (cnt : Int) rm lt tk ov fv (zU fs j (min (fs j + y) 99)) fd fo F fg fp Y) C 2 rfl (by decide) (by omega) (by omega) rfl dX4_print_53 ?_
      refine g_aload_n C dX4_print_54 0 rfl ?_
      refine g_getf C fX4_17 0 rfl rfl dX4_print_55 ?_
      refine g_iload_n C dX4_print_58 1 rfl ?_
      refine g_iald C 2 rfl (by decide) (by omega) (by omega) (v := ((zU fs j (min (fs j + y) 99)) j)) rfl dX4_print_59 ?_
      refine g_top (min (fs j + y) 99) (if_pos rfl) ?_
      exact ret _ _ _ _ _ _ (by decide) (by decide) dX4_print_60 (Or.inl ⟨hs8, hy9, rfl, ⟨_, _, _, _, _, rfl⟩⟩)
    · have hy9 := if0 c_26
      refine g_aload_n C dX4_print_29 0 rfl ?_
      refine g_iconst C dX4_print_30 ?_
      refine g_callV (wr := ([] : va_W)) (st := []) [0, 1, 2, 3, 4, 5, 6, 7, 8, 9, 10, 11, 12, 13, 14, 15, 16, 17, 18, 19, 20, 21, 22, 23, 24, 25, 26, 27, 28, 29, 30] [] C cX4_80 (met_X4_no l D cI cG cJ ad 0 cnt hc rm lt tk ov fv fs fd fo F fg fp Y 2) ⟨rfl, rfl, by decide, by decide, by decide⟩ (q0 := 0) rfl rfl (by decide) (by decide) rfl rfl (Nat.le_of_ble_eq_true rfl) dX4_print_31 ?_
      rintro v9 w9 ⟨z9, rfl, rfl, rfl⟩
      refine g_ws (w' := wM ad cI cG 2 (cnt : Int) rm lt tk ov fv fs fd fo F fg fp Y) (st' := [.int (zI 0)]) rfl rfl ?_
      exact ret _ _ _ _ _ _ (by decide) (by decide) dX4_print_34 (Or.inr (Or.inr ⟨hs8, hy9, rfl, ⟨_, _, _, _, _, rfl⟩⟩))
  · have hs8 := if0 c_10
    refine g_aload_n C dX4_print_13 0 rfl ?_
    refine g_iconst C dX4_print_14 ?_
    refine g_callV (wr := ([] : va_W)) (st := []) [0, 1, 2, 3, 4, 5, 6, 7, 8, 9, 10, 11, 12, 13, 14, 15, 16, 17, 18, 19, 20, 21, 22, 23, 24, 25, 26, 27, 28, 29, 30] [] C cX4_80 (met_X4_no l D cI cG cJ ad 0 cnt hc rm lt tk ov fv fs fd fo F fg fp Y 1) ⟨rfl, rfl, by decide, by decide, by decide⟩ (q0 := 0) rfl rfl (by decide) (by decide) rfl rfl (Nat.le_of_ble_eq_true rfl) dX4_print_15 ?_
    rintro v9 w9 ⟨z9, rfl, rfl, rfl⟩
    refine g_ws (w' := wM ad cI cG 1 (cnt : Int) rm lt tk ov fv fs fd fo F fg fp Y) (st' := [.int (zI 0)]) rfl rfl ?_
    exact ret _ _ _ _ _ _ (by decide) (by decide) dX4_print_18 (Or.inr (Or.inl ⟨hs8, rfl, ⟨_, _, _, _, _, rfl⟩⟩))
abbrev rmX4_meanValue : Room := { frames := 0, cells := 0, slots := 0, locals := 0 }
set_option maxHeartbeats 4000000 in
set_option maxRecDepth 100000 in
theorem met_X4_meanValue (l : Launch) (D : va_G) (cI cG cJ : ClassId) (ad : Nat → Nat) (th : Int) (cnt : Nat) (hc : cnt ≤ 8) (rm lt tk ov : Int) (fv fs fd fo : Nat → Int) (F : Nat → Nat → Int) (fg fp : Nat → Int) (Y : Nat → Nat → Int) (hI : XI cnt fv fs rm)  : gMet l yX4_meanValue cX4_meanValue 3 (some .double) rmX4_meanValue D cI cG cJ [.ref (ad 0)] (wM ad cI cG th (cnt : Int) rm lt tk ov fv fs fd fo F fg fp Y) (gB (fun z w9 => z = mean fv cnt ∧ MW ad cI cG 0 cnt rm lt tk ov fv fs fd w9)) := by
  obtain ⟨hc8, hS, hb99, hr1, hr2⟩ := id hI
  have h99 : ∀ j, j < cnt → fs j ≤ 99 := hb99
  have hr : 1 ≤ rm ∧ rm ≤ 12 := ⟨hr1, hr2⟩
  have hr9 : 0 ≤ rm ∧ rm ≤ 12 := ⟨by omega, hr.2⟩
  have hv : ∀ j, j < cnt → 1 ≤ fv j ∧ fv j ≤ 60 := hS.1
  have hv1 : ∀ j, j < cnt → 1 ≤ fv j := fun j hj => (hS.1 j hj).1
  have hs9 : ∀ j, j < cnt → 0 ≤ fs j ∧ fs j ≤ 119 := hS.2.1
  refine gMet_B (by decide) rfl (Nat.le_of_ble_eq_true rfl) (fun E C ret => ?_)
  refine g_aload_n C dX4_meanValue_0 0 rfl ?_
  refine g_iconst C dX4_meanValue_1 ?_
  refine g_putf (w' := wM ad cI cG 0 (cnt : Int) rm lt tk ov fv fs fd fo F fg fp Y) C pX4_40 0 rfl rfl rfl (Nat.le_of_ble_eq_true rfl) rfl dX4_meanValue_2 ?_
  refine g_iconst C dX4_meanValue_5 ?_
  refine g_istore_n (L' := [(1, .int (zI 0)), (0, .ref (ad 0))]) C dX4_meanValue_6 (by decide) rfl ?_
  refine g_iconst C dX4_meanValue_7 ?_
  refine g_istore_n (L' := [(2, .int (zI 0)), (1, .int (zI 0)), (0, .ref (ad 0))]) C dX4_meanValue_8 (by decide) rfl ?_
  have loop_9 : ∀ (fu : Nat) (i : Nat), (hi : i ≤ cnt) → cnt - i < fu → gW E 0 0 (wM ad cI cG 0 (cnt : Int) rm lt tk ov fv fs fd fo F fg fp Y) 9 [(2, .int (zI (i : Int))), (1, .int (zI (vsum fv i))), (0, .ref (ad 0))] [] := by
    intro fu
    induction fu with
    | zero => intro i hi h9; exact absurd h9 (Nat.not_lt_zero _)
    | succ fu ih_9 =>
      intro i hi hmu_9
      refine g_iload_n C dX4_meanValue_9 0 rfl ?_
      refine g_aload_n C dX4_meanValue_10 2 rfl ?_
      refine g_getf C fX4_43 0 rfl rfl dX4_meanValue_11 ?_
      refine g_icmp_ge 32 C dX4_meanValue_14 (by decide) (zr_i (by omega) (by omega)) (zr_i (by omega) (by omega)) (fun c_14 => ?_) (fun c_14 => ?_)
      · have e9 : cnt = i := by omega
        subst e9
        refine g_aload_n C dX4_meanValue_32 2 rfl ?_
        refine g_getf C fX4_43 0 rfl rfl dX4_meanValue_33 ?_
        refine g_if_ne 43 C dX4_meanValue_36 (by decide) (zr_i (by omega) (by omega)) (fun c_36 => ?_) (fun c_36 => ?_)
        · refine g_iload_n C dX4_meanValue_43 1 rfl ?_
          refine g_i2d C dX4_meanValue_44 ?_
          refine g_aload_n C dX4_meanValue_45 2 rfl ?_
          refine g_getf C fX4_43 0 rfl rfl dX4_meanValue_46 ?_
          refine g_i2d C dX4_meanValue_49 ?_
          refine g_ddiv C dX4_meanValue_50 (mean_ok hc (by omega) hS.1) ?_
          exact ret _ _ _ _ _ _ (by decide) (by decide) dX4_meanValue_51 (⟨(if_neg (by omega)).symm, ⟨_, _, _, _, _, rfl⟩⟩)
        · refine g_dconst0 C dX4_meanValue_39 ?_
          refine g_goto 51 C dX4_meanValue_40 (by decide) ?_
          exact ret _ _ _ _ _ _ (by decide) (by decide) dX4_meanValue_51 (⟨(if_pos (by omega)).symm, ⟨_, _, _, _, _, rfl⟩⟩)
      · refine g_iload_n C dX4_meanValue_17 1 rfl ?_
        refine g_aload_n C dX4_meanValue_18 2 rfl ?_
        refine g_getf C fX4_13 0 rfl rfl dX4_meanValue_19 ?_
        refine g_iload_n C dX4_meanValue_22 0 rfl ?_
        refine g_iald C 1 rfl (by decide) (by omega) (by omega) (v := (fv i)) rfl dX4_meanValue_23 ?_
        refine g_iadd C dX4_meanValue_24 ?_
        refine g_istore_n (L' := [(1, .int (zI ((vsum fv i) + (fv i)))), (2, .int (zI (i : Int))), (0, .ref (ad 0))]) C dX4_meanValue_25 (by decide) rfl ?_
        refine g_iinc (L' := [(2, .int (zI ((i : Int) + 1))), (1, .int (zI ((vsum fv i) + (fv i)))), (0, .ref (ad 0))]) C dX4_meanValue_26 1 rfl (by decide) rfl ?_
        refine g_goto 9 C dX4_meanValue_29 (by decide) ?_
        refine g_loc (L' := [(2, .int (zI ((i : Int) + 1))), (1, .int (zI ((vsum fv i) + (fv i)))), (0, .ref (ad 0))]) [0, 1, 2] rfl ?_
        exact ih_9 (i + 1) (by omega) (by omega)
  refine g_loc (L' := [(2, .int (zI 0)), (1, .int (zI 0)), (0, .ref (ad 0))]) [0, 1, 2] rfl ?_
  exact loop_9 _ 0 (Nat.zero_le _) (Nat.lt_succ_self _)
