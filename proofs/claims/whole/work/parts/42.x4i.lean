abbrev rmX4_lettersOf : Room := { frames := 4, cells := 1, slots := 8, locals := 91 }
set_option maxHeartbeats 4000000 in
set_option maxRecDepth 100000 in
theorem met_X4_lettersOf (l : Launch) (D : va_G) (cI cG cJ : ClassId) (ad : Nat → Nat) (th : Int) (cnt : Nat) (hc : cnt ≤ 8) (rm lt tk ov : Int) (fv fs fd fo : Nat → Int) (F : Nat → Nat → Int) (fg fp : Nat → Int) (Y : Nat → Nat → Int) (hI : XI cnt fv fs rm) (p : Int) (hp : zr p)  : gMet l yX4_lettersOf cX4_lettersOf 4 (some .int) rmX4_lettersOf D cI cG cJ [.ref (ad 0), .int (zI p)] (wM ad cI cG th (cnt : Int) rm lt tk ov fv fs fd fo F fg fp Y) (gI (fun z w9 => ((1 ≤ p ∧ p ≤ 300) ∧ z = ((ltr cnt fv rm p.toNat 50 fs : Nat) : Int) ∧ MW ad cI cG 0 cnt rm lt tk ov fv fs fd w9) ∨ (¬ (1 ≤ p ∧ p ≤ 300) ∧ z = 0 ∧ MW ad cI cG 1 cnt rm lt tk ov fv fs fd w9))) := by
  obtain ⟨hc8, hS, hb99, hr1, hr2⟩ := id hI
  have h99 : ∀ j, j < cnt → fs j ≤ 99 := hb99
  have hr : 1 ≤ rm ∧ rm ≤ 12 := ⟨hr1, hr2⟩
  have hr9 : 0 ≤ rm ∧ rm ≤ 12 := ⟨by omega, hr.2⟩
  have hv : ∀ j, j < cnt → 1 ≤ fv j ∧ fv j ≤ 60 := hS.1
  have hv1 : ∀ j, j < cnt → 1 ≤ fv j := fun j hj => (hS.1 j hj).1
  have hs9 : ∀ j, j < cnt → 0 ≤ fs j ∧ fs j ≤ 119 := hS.2.1
  refine gMet_I (by decide) rfl (Nat.le_of_ble_eq_true rfl) (fun E C ret => ?_)
  refine g_aload_n C dX4_lettersOf_0 0 rfl ?_
  refine g_iconst C dX4_lettersOf_1 ?_
  refine g_putf (w' := wM ad cI cG 0 (cnt : Int) rm lt tk ov fv fs fd fo F fg fp Y) C pX4_40 0 rfl rfl rfl (Nat.le_of_ble_eq_true rfl) rfl dX4_lettersOf_2 ?_
  refine g_iload_n C dX4_lettersOf_5 1 rfl ?_
  refine g_callS (wr := wM ad cI cG 0 (cnt : Int) rm lt tk ov fv fs fd fo F fg fp Y) (st := []) [] [0, 1, 2, 3, 4, 5, 6, 7, 8, 9, 10, 11, 12, 13, 14, 15, 16, 17, 18, 19, 20, 21, 22, 23, 24, 25, 26, 27, 28, 29, 30] C cX4_93 (met_X4_isPostage l D cI cG cJ p hp) ⟨rfl, rfl, by decide, by decide, by decide⟩ (by decide) (by decide) rfl rfl (Nat.le_of_ble_eq_true rfl) dX4_lettersOf_6 ?_
  rintro v9 w9 ⟨z9, rfl, rfl, rfl⟩
  refine g_ws (w' := wM ad cI cG 0 (cnt : Int) rm lt tk ov fv fs fd fo F fg fp Y) (st' := [.int (zI (if 1 ≤ p ∧ p ≤ 300 then (1 : Int) else 0))]) rfl rfl ?_
  refine g_if_ne 18 C dX4_lettersOf_9 (by decide) zr01 (fun c_9 => ?_) (fun c_9 => ?_)
  · have hp9 := if1 c_9
    obtain ⟨q, rfl⟩ : ∃ q : Nat, p = (q : Int) := ⟨p.toNat, by omega⟩
    refine g_bipush C dX4_lettersOf_18 (by decide) ?_
    refine g_newi (N := 8) C arrI (by decide) ⟨Nat.le_of_ble_eq_true rfl, Nat.le_of_ble_eq_true rfl⟩ dX4_lettersOf_20 (fun y1 => ?_)
    refine g_ws (w' := (wM ad cI cG 0 (cnt : Int) rm lt tk ov fv fs fd fo F fg fp Y) ++ ([(y1, .inl (cI, 8, .inl (zA (fun _ => 0))))])) rfl rfl ?_
    refine g_astore_n (L' := [(2, .ref y1), (0, .ref (ad 0)), (1, .int (zI (q : Int)))]) C dX4_lettersOf_22 (by decide) rfl ?_
    refine g_aload_n C dX4_lettersOf_23 1 rfl ?_
    refine g_getf C fX4_17 0 rfl rfl dX4_lettersOf_24 ?_
    refine g_iconst C dX4_lettersOf_27 ?_
    refine g_aload_n C dX4_lettersOf_28 0 rfl ?_
    refine g_iconst C dX4_lettersOf_29 ?_
    refine g_bipush C dX4_lettersOf_30 (by decide) ?_
    refine g_copy8 (w' := (wM ad cI cG 0 (cnt : Int) rm lt tk ov fv fs fd fo F fg fp Y) ++ ([(y1, .inl (cI, 8, .inl (zA (cpy (fun _ => 0) fs 8))))])) C cpI 2 31 rfl rfl ⟨Nat.le_of_ble_eq_true rfl, Nat.le_of_ble_eq_true rfl⟩ rfl dX4_lettersOf_32 ?_
    refine g_iconst C dX4_lettersOf_35 ?_
    refine g_istore_n (L' := [(3, .int (zI 0)), (2, .ref y1), (0, .ref (ad 0)), (1, .int (zI (q : Int)))]) C dX4_lettersOf_36 (by decide) rfl ?_
    have loop_37 : ∀ (fu : Nat) (i : Nat) (fo2 : Nat → Int) (F2 : Nat → Nat → Int) (fg2 : Nat → Int) (fs2 : Nat → Int), (hi : i ≤ 50) → (hS2 : Sok cnt fv fs2) → (hT : ∀ j, 8 ≤ j → fs2 j = fs j) → (hL : ltr cnt fv rm q 50 fs = i + ltr cnt fv rm q (50 - i) fs2) → 50 - i < fu → gW E 1 8 ((wM ad cI cG 0 (cnt : Int) rm lt tk ov fv fs2 fd fo2 F2 fg2 fp Y) ++ ([(y1, .inl (cI, 8, .inl (zA (cpy (fun _ => 0) fs 8))))])) 37 [(3, .int (zI (i : Int))), (0, .ref (ad 0)), (1, .int (zI (q : Int))), (2, .ref y1)] [] := by
      intro fu
      induction fu with
      | zero => intro i fo2 F2 fg2 fs2 hi hS2 hT hL h9; exact absurd h9 (Nat.not_lt_zero _)
      | succ fu ih_37 =>
        intro i fo2 F2 fg2 fs2 hi hS2 hT hL hmu_37
        refine g_iload_n C dX4_lettersOf_37 0 rfl ?_
        refine g_bipush C dX4_lettersOf_38 (by decide) ?_
        refine g_icmp_ge 58 C dX4_lettersOf_40 (by decide) (zr_i (by omega) (by omega)) (zr_i (by omega) (by omega)) (fun c_40 => ?_) (fun c_40 => ?_)
        · have hz : ((ltr cnt fv rm q 50 fs : Nat) : Int) = (i : Int) := by
            rw [hL, show 50 - i = 0 by omega]
            rfl
          have hT3 : ∀ j, 8 ≤ j → fs2 j = fs j := hT
          refine g_aload_n C dX4_lettersOf_58 3 rfl ?_
          refine g_iconst C dX4_lettersOf_59 ?_
          refine g_aload_n C dX4_lettersOf_60 1 rfl ?_
          refine g_getf C fX4_17 0 rfl rfl dX4_lettersOf_61 ?_
          refine g_iconst C dX4_lettersOf_64 ?_
          refine g_bipush C dX4_lettersOf_65 (by decide) ?_
          refine g_copy8 (w' := (wM ad cI cG 0 (cnt : Int) rm lt tk ov fv (cpy fs2 (cpy (fun _ => 0) fs 8) 8) fd fo2 F2 fg2 fp Y) ++ ([(y1, .inl (cI, 8, .inl (zA (cpy (fun _ => 0) fs 8))))])) C cpI 31 2 rfl rfl ⟨Nat.le_of_ble_eq_true rfl, Nat.le_of_ble_eq_true rfl⟩ rfl dX4_lettersOf_67 ?_
          refine g_ws (w' := (wM ad cI cG 0 (cnt : Int) rm lt tk ov fv fs fd fo2 F2 fg2 fp Y) ++ ([(y1, .inl (cI, 8, .inl (zA (cpy (fun _ => 0) fs 8))))])) (by rw [cpy_rest hT3]) rfl ?_
          refine g_perm (w' := wM ad cI cG 0 (cnt : Int) rm lt tk ov fv fs fd fo2 F2 fg2 fp Y) [0, 1, 2, 3, 4, 5, 6, 7, 8, 9, 10, 11, 12, 13, 14, 15, 16, 17, 18, 19, 20, 21, 22, 23, 24, 25, 26, 27, 28, 29, 30] (by decide) rfl ?_
          refine g_iload_n C dX4_lettersOf_70 0 rfl ?_
          exact ret _ _ _ _ _ _ (by decide) (by decide) dX4_lettersOf_71 (Or.inl ⟨hp9, hz.symm, ⟨_, _, _, _, _, rfl⟩⟩)
        · refine g_aload_n C dX4_lettersOf_43 1 rfl ?_
          refine g_iload_n C dX4_lettersOf_44 2 rfl ?_
          refine g_callV (wr := [(y1, .inl (cI, 8, .inl (zA (cpy (fun _ => 0) fs 8))))]) (st := []) [0, 1, 2, 3, 4, 5, 6, 7, 8, 9, 10, 11, 12, 13, 14, 15, 16, 17, 18, 19, 20, 21, 22, 23, 24, 25, 26, 27, 28, 29, 30] [31] C cX4_96 (met_X4_give l D cI cG cJ ad 0 cnt hc rm lt tk ov fv fs2 fd fo2 F2 fg2 fp Y hS2 hr q (by omega)) ⟨rfl, rfl, by decide, by decide, by decide⟩ (q0 := 0) rfl rfl (by decide) (by decide) rfl rfl (Nat.le_of_ble_eq_true rfl) dX4_lettersOf_45 ?_
          rintro v9 w9 ⟨z8, rfl, rfl, fo3, F3, fg3, fs3, hh, rfl⟩
          have hl := LSm_rg (cnt := cnt) (fv := fv) (fs := fs2) (rm := rm) (p := q) (by omega)
          refine g_ws (w' := ([(y1, .inl (cI, 8, .inl (zA (cpy (fun _ => 0) fs 8))))]) ++ (wM ad cI cG 0 (cnt : Int) rm lt tk ov fv fs3 fd fo3 F3 fg3 fp Y)) (st' := [.int (zI (LSm cnt fv fs2 rm q))]) rfl rfl ?_
          refine g_perm (w' := (wM ad cI cG 0 (cnt : Int) rm lt tk ov fv fs3 fd fo3 F3 fg3 fp Y) ++ ([(y1, .inl (cI, 8, .inl (zA (cpy (fun _ => 0) fs 8))))])) [1, 2, 3, 4, 5, 6, 7, 8, 9, 10, 11, 12, 13, 14, 15, 16, 17, 18, 19, 20, 21, 22, 23, 24, 25, 26, 27, 28, 29, 30, 31, 0] (by decide) rfl ?_
          refine g_iconst C dX4_lettersOf_48 ?_
          refine g_icmp_eq 58 C dX4_lettersOf_49 (by decide) (zr_i (by omega) (by omega)) (zr_i (by omega) (by omega)) (fun c_49 => ?_) (fun c_49 => ?_)
          · have hf := (hh.resolve_right (fun w => w.1 c_49)).2
            have hz : ((ltr cnt fv rm q 50 fs : Nat) : Int) = (i : Int) := by rw [hL, ltr_0 c_49, Nat.add_zero]
            have hT3 : ∀ j, 8 ≤ j → fs3 j = fs j := fun j hj => by rw [hf]; exact hT j hj
            refine g_aload_n C dX4_lettersOf_58 3 rfl ?_
            refine g_iconst C dX4_lettersOf_59 ?_
            refine g_aload_n C dX4_lettersOf_60 1 rfl ?_
            refine g_getf C fX4_17 0 rfl rfl dX4_lettersOf_61 ?_
            refine g_iconst C dX4_lettersOf_64 ?_
            refine g_bipush C dX4_lettersOf_65 (by decide) ?_
            refine g_copy8 (w' := (wM ad cI cG 0 (cnt : Int) rm lt tk ov fv (cpy fs3 (cpy (fun _ => 0) fs 8) 8) fd fo3 F3 fg3 fp Y) ++ ([(y1, .inl (cI, 8, .inl (zA (cpy (fun _ => 0) fs 8))))])) C cpI 31 2 rfl rfl ⟨Nat.le_of_ble_eq_true rfl, Nat.le_of_ble_eq_true rfl⟩ rfl dX4_lettersOf_67 ?_
            refine g_ws (w' := (wM ad cI cG 0 (cnt : Int) rm lt tk ov fv fs fd fo3 F3 fg3 fp Y) ++ ([(y1, .inl (cI, 8, .inl (zA (cpy (fun _ => 0) fs 8))))])) (by rw [cpy_rest hT3]) rfl ?_
            refine g_perm (w' := wM ad cI cG 0 (cnt : Int) rm lt tk ov fv fs fd fo3 F3 fg3 fp Y) [0, 1, 2, 3, 4, 5, 6, 7, 8, 9, 10, 11, 12, 13, 14, 15, 16, 17, 18, 19, 20, 21, 22, 23, 24, 25, 26, 27, 28, 29, 30] (by decide) rfl ?_
            refine g_iload_n C dX4_lettersOf_70 0 rfl ?_
            exact ret _ _ _ _ _ _ (by decide) (by decide) dX4_lettersOf_71 (Or.inl ⟨hp9, hz.symm, ⟨_, _, _, _, _, rfl⟩⟩)
          · obtain ⟨hn, hg, hf⟩ := hh.resolve_left (fun w => c_49 w.1)
            refine g_iinc (L' := [(3, .int (zI ((i : Int) + 1))), (0, .ref (ad 0)), (1, .int (zI (q : Int))), (2, .ref y1)]) C dX4_lettersOf_52 0 rfl (by decide) rfl ?_
            refine g_goto 37 C dX4_lettersOf_55 (by decide) ?_
            refine g_loc (L' := [(3, .int (zI ((i : Int) + 1))), (0, .ref (ad 0)), (1, .int (zI (q : Int))), (2, .ref y1)]) [0, 1, 2, 3] rfl ?_
            exact ih_37 (i + 1) fo3 F3 fg3 fs3 (by omega) (by rw [hf]; exact sok_sb hS2 hr9) (fun j hj => by rw [hf, sb_hi (by omega)]; exact hT j hj) (by rw [hL, show 50 - i = (50 - (i + 1)) + 1 by omega, ltr_s c_49, hf]; omega) (by omega)
    refine g_loc (L' := [(3, .int (zI 0)), (0, .ref (ad 0)), (1, .int (zI (q : Int))), (2, .ref y1)]) [0, 2, 3, 1] rfl ?_
    exact loop_37 _ 0 fo F fg fs (Nat.zero_le _) hS (fun _ _ => rfl) (by rw [Nat.zero_add]) (Nat.lt_succ_self _)
  · have hp9 := if0 c_9
    refine g_aload_n C dX4_lettersOf_12 0 rfl ?_
    refine g_iconst C dX4_lettersOf_13 ?_
    refine g_callV (wr := ([] : va_W)) (st := []) [0, 1, 2, 3, 4, 5, 6, 7, 8, 9, 10, 11, 12, 13, 14, 15, 16, 17, 18, 19, 20, 21, 22, 23, 24, 25, 26, 27, 28, 29, 30] [] C cX4_80 (met_X4_no l D cI cG cJ ad 0 cnt hc rm lt tk ov fv fs fd fo F fg fp Y 1) ⟨rfl, rfl, by decide, by decide, by decide⟩ (q0 := 0) rfl rfl (by decide) (by decide) rfl rfl (Nat.le_of_ble_eq_true rfl) dX4_lettersOf_14 ?_
    rintro v9 w9 ⟨z9, rfl, rfl, rfl⟩
    refine g_ws (w' := wM ad cI cG 1 (cnt : Int) rm lt tk ov fv fs fd fo F fg fp Y) (st' := [.int (zI 0)]) rfl rfl ?_
    exact ret _ _ _ _ _ _ (by decide) (by decide) dX4_lettersOf_17 (Or.inr ⟨hp9, rfl, ⟨_, _, _, _, _, rfl⟩⟩)
abbrev rmX4_digest : Room := { frames := 5, cells := 1, slots := 11, locals := 134 }
set_option maxHeartbeats 4000000 in
set_option maxRecDepth 100000 in
theorem met_X4_digest (l : Launch) (D : va_G) (cI cG cJ : ClassId) (ad : Nat → Nat) (th : Int) (cnt : Nat) (hc : cnt ≤ 8) (rm lt tk ov : Int) (fv fs fd fo : Nat → Int) (F : Nat → Nat → Int) (fg fp : Nat → Int) (Y : Nat → Nat → Int) (hI : XI cnt fv fs rm)  : gMet l yX4_digest cX4_digest 8 (some .long) rmX4_digest D cI cG cJ [.ref (ad 0)] (wM ad cI cG th (cnt : Int) rm lt tk ov fv fs fd fo F fg fp Y) (gJ (fun z w9 => z = dgF cnt fv fs fd rm lt tk ov ∧ MW ad cI cG 0 cnt rm lt tk ov fv fs fd w9)) := by
  obtain ⟨hc8, hS, hb99, hr1, hr2⟩ := id hI
  have h99 : ∀ j, j < cnt → fs j ≤ 99 := hb99
  have hr : 1 ≤ rm ∧ rm ≤ 12 := ⟨hr1, hr2⟩
  have hr9 : 0 ≤ rm ∧ rm ≤ 12 := ⟨by omega, hr.2⟩
  have hv : ∀ j, j < cnt → 1 ≤ fv j ∧ fv j ≤ 60 := hS.1
  have hv1 : ∀ j, j < cnt → 1 ≤ fv j := fun j hj => (hS.1 j hj).1
  have hs9 : ∀ j, j < cnt → 0 ≤ fs j ∧ fs j ≤ 119 := hS.2.1
  refine gMet_J (by decide) rfl (Nat.le_of_ble_eq_true rfl) (fun E C ret => ?_)
  refine g_aload_n C dX4_digest_0 0 rfl ?_
  refine g_iconst C dX4_digest_1 ?_
  refine g_putf (w' := wM ad cI cG 0 (cnt : Int) rm lt tk ov fv fs fd fo F fg fp Y) C pX4_40 0 rfl rfl rfl (Nat.le_of_ble_eq_true rfl) rfl dX4_digest_2 ?_
  refine g_bipush C dX4_digest_5 (by decide) ?_
  refine g_newi (N := 11) C arrI (by decide) ⟨Nat.le_of_ble_eq_true rfl, Nat.le_of_ble_eq_true rfl⟩ dX4_digest_7 (fun y1 => ?_)
  refine g_ws (w' := (wM ad cI cG 0 (cnt : Int) rm lt tk ov fv fs fd fo F fg fp Y) ++ ([(y1, .inl (cI, 11, .inl (zA (fun _ => 0))))])) rfl rfl ?_
  refine g_dup C dX4_digest_9 rfl ?_
  refine g_iconst C dX4_digest_10 ?_
  refine g_aload_n C dX4_digest_11 0 rfl ?_
  refine g_getf C fX4_43 0 rfl rfl dX4_digest_12 ?_
  refine g_iast (w' := (wM ad cI cG 0 (cnt : Int) rm lt tk ov fv fs fd fo F fg fp Y) ++ ([(y1, .inl (cI, 11, .inl (zA (zU (fun _ => 0) 0 (cnt : Int)))))])) C 31 rfl (by decide) (by omega) (by omega) rfl dX4_digest_15 ?_
  refine g_dup C dX4_digest_16 rfl ?_
  refine g_iconst C dX4_digest_17 ?_
  refine g_aload_n C dX4_digest_18 0 rfl ?_
  refine g_getf C fX4_9 0 rfl rfl dX4_digest_19 ?_
  refine g_iast (w' := (wM ad cI cG 0 (cnt : Int) rm lt tk ov fv fs fd fo F fg fp Y) ++ ([(y1, .inl (cI, 11, .inl (zA (zU (zU (fun _ => 0) 0 (cnt : Int)) 1 rm))))])) C 31 rfl (by decide) (by omega) (by omega) rfl dX4_digest_22 ?_
  refine g_dup C dX4_digest_23 rfl ?_
  refine g_iconst C dX4_digest_24 ?_
  refine g_aload_n C dX4_digest_25 0 rfl ?_
  refine g_getf C fX4_99 0 rfl rfl dX4_digest_26 ?_
  refine g_iast (w' := (wM ad cI cG 0 (cnt : Int) rm lt tk ov fv fs fd fo F fg fp Y) ++ ([(y1, .inl (cI, 11, .inl (zA (zU (zU (zU (fun _ => 0) 0 (cnt : Int)) 1 rm) 2 lt))))])) C 31 rfl (by decide) (by omega) (by omega) rfl dX4_digest_29 ?_
  refine g_dup C dX4_digest_30 rfl ?_
  refine g_iconst C dX4_digest_31 ?_
  refine g_aload_n C dX4_digest_32 0 rfl ?_
  refine g_getf C fX4_102 0 rfl rfl dX4_digest_33 ?_
  refine g_iast (w' := (wM ad cI cG 0 (cnt : Int) rm lt tk ov fv fs fd fo F fg fp Y) ++ ([(y1, .inl (cI, 11, .inl (zA (zU (zU (zU (zU (fun _ => 0) 0 (cnt : Int)) 1 rm) 2 lt) 3 tk))))])) C 31 rfl (by decide) (by omega) (by omega) rfl dX4_digest_36 ?_
  refine g_dup C dX4_digest_37 rfl ?_
  refine g_iconst C dX4_digest_38 ?_
  refine g_aload_n C dX4_digest_39 0 rfl ?_
  refine g_getf C fX4_105 0 rfl rfl dX4_digest_40 ?_
  refine g_iast (w' := (wM ad cI cG 0 (cnt : Int) rm lt tk ov fv fs fd fo F fg fp Y) ++ ([(y1, .inl (cI, 11, .inl (zA (zU (zU (zU (zU (zU (fun _ => 0) 0 (cnt : Int)) 1 rm) 2 lt) 3 tk) 4 ov))))])) C 31 rfl (by decide) (by omega) (by omega) rfl dX4_digest_43 ?_
  refine g_dup C dX4_digest_44 rfl ?_
  refine g_iconst C dX4_digest_45 ?_
  refine g_aload_n C dX4_digest_46 0 rfl ?_
  refine g_callV (wr := [(y1, .inl (cI, 11, .inl (zA (zU (zU (zU (zU (zU (fun _ => 0) 0 (cnt : Int)) 1 rm) 2 lt) 3 tk) 4 ov))))]) (st := [.int (zI 5), .ref y1, .ref y1]) [0, 1, 2, 3, 4, 5, 6, 7, 8, 9, 10, 11, 12, 13, 14, 15, 16, 17, 18, 19, 20, 21, 22, 23, 24, 25, 26, 27, 28, 29, 30] [31] C cX4_115 (met_X4_scarce l D cI cG cJ ad 0 cnt hc rm lt tk ov fv fs fd fo F fg fp Y (fun j hj => ⟨(hs9 j hj).1, h99 j hj⟩)) ⟨rfl, rfl, by decide, by decide, by decide⟩ (q0 := 0) rfl rfl (by decide) (by decide) rfl rfl (Nat.le_of_ble_eq_true rfl) dX4_digest_47 ?_
  rintro v9 w9 ⟨z9, rfl, rfl, rfl⟩
  refine g_ws (w' := ([(y1, .inl (cI, 11, .inl (zA (zU (zU (zU (zU (zU (fun _ => 0) 0 (cnt : Int)) 1 rm) 2 lt) 3 tk) 4 ov))))]) ++ (wM ad cI cG 0 (cnt : Int) rm lt tk ov fv fs fd fo F fg fp Y)) (st' := [.int (zI ((scF fs cnt).1)), .int (zI 5), .ref y1, .ref y1]) rfl rfl ?_
  refine g_perm (w' := (wM ad cI cG 0 (cnt : Int) rm lt tk ov fv fs fd fo F fg fp Y) ++ ([(y1, .inl (cI, 11, .inl (zA (zU (zU (zU (zU (zU (fun _ => 0) 0 (cnt : Int)) 1 rm) 2 lt) 3 tk) 4 ov))))])) [1, 2, 3, 4, 5, 6, 7, 8, 9, 10, 11, 12, 13, 14, 15, 16, 17, 18, 19, 20, 21, 22, 23, 24, 25, 26, 27, 28, 29, 30, 31, 0] (by decide) rfl ?_
  refine g_iast (w' := (wM ad cI cG 0 (cnt : Int) rm lt tk ov fv fs fd fo F fg fp Y) ++ ([(y1, .inl (cI, 11, .inl (zA (zU (zU (zU (zU (zU (zU (fun _ => 0) 0 (cnt : Int)) 1 rm) 2 lt) 3 tk) 4 ov) 5 ((scF fs cnt).1)))))])) C 31 rfl (by decide) (by omega) (by omega) rfl dX4_digest_50 ?_
  refine g_dup C dX4_digest_51 rfl ?_
  refine g_bipush C dX4_digest_52 (by decide) ?_
  refine g_aload_n C dX4_digest_54 0 rfl ?_
  refine g_callV (wr := [(y1, .inl (cI, 11, .inl (zA (zU (zU (zU (zU (zU (zU (fun _ => 0) 0 (cnt : Int)) 1 rm) 2 lt) 3 tk) 4 ov) 5 ((scF fs cnt).1)))))]) (st := [.int (zI 6), .ref y1, .ref y1]) [0, 1, 2, 3, 4, 5, 6, 7, 8, 9, 10, 11, 12, 13, 14, 15, 16, 17, 18, 19, 20, 21, 22, 23, 24, 25, 26, 27, 28, 29, 30] [31] C cX4_128 (met_X4_reached l D cI cG cJ ad 0 cnt hc rm lt tk ov fv fs fd fo F fg fp Y hS hr) ⟨rfl, rfl, by decide, by decide, by decide⟩ (q0 := 0) rfl rfl (by decide) (by decide) rfl rfl (Nat.le_of_ble_eq_true rfl) dX4_digest_55 ?_
  rintro v9 w9 ⟨z9, rfl, rfl, fo1, F1, rfl⟩
  refine g_ws (w' := ([(y1, .inl (cI, 11, .inl (zA (zU (zU (zU (zU (zU (zU (fun _ => 0) 0 (cnt : Int)) 1 rm) 2 lt) 3 tk) 4 ov) 5 ((scF fs cnt).1)))))]) ++ (wM ad cI cG 0 (cnt : Int) rm lt tk ov fv fs fd fo1 F1 fg fp Y)) (st' := [.int (zI (RC cnt fv fs rm : Int)), .int (zI 6), .ref y1, .ref y1]) rfl rfl ?_
  refine g_perm (w' := (wM ad cI cG 0 (cnt : Int) rm lt tk ov fv fs fd fo1 F1 fg fp Y) ++ ([(y1, .inl (cI, 11, .inl (zA (zU (zU (zU (zU (zU (zU (fun _ => 0) 0 (cnt : Int)) 1 rm) 2 lt) 3 tk) 4 ov) 5 ((scF fs cnt).1)))))])) [1, 2, 3, 4, 5, 6, 7, 8, 9, 10, 11, 12, 13, 14, 15, 16, 17, 18, 19, 20, 21, 22, 23, 24, 25, 26, 27, 28, 29, 30, 31, 0] (by decide) rfl ?_
  refine g_iast (w' := (wM ad cI cG 0 (cnt : Int) rm lt tk ov fv fs fd fo1 F1 fg fp Y) ++ ([(y1, .inl (cI, 11, .inl (zA (zU (zU (zU (zU (zU (zU (zU (fun _ => 0) 0 (cnt : Int)) 1 rm) 2 lt) 3 tk) 4 ov) 5 ((scF fs cnt).1)) 6 (RC cnt fv fs rm : Int)))))])) C 31 rfl (by decide) (by omega) (by omega) rfl dX4_digest_58 ?_
  refine g_dup C dX4_digest_59 rfl ?_
  refine g_bipush C dX4_digest_60 (by decide) ?_
  refine g_aload_n C dX4_digest_62 0 rfl ?_
  refine g_callV (wr := [(y1, .inl (cI, 11, .inl (zA (zU (zU (zU (zU (zU (zU (zU (fun _ => 0) 0 (cnt : Int)) 1 rm) 2 lt) 3 tk) 4 ov) 5 ((scF fs cnt).1)) 6 (RC cnt fv fs rm : Int)))))]) (st := [.int (zI 7), .ref y1, .ref y1]) [0, 1, 2, 3, 4, 5, 6, 7, 8, 9, 10, 11, 12, 13, 14, 15, 16, 17, 18, 19, 20, 21, 22, 23, 24, 25, 26, 27, 28, 29, 30] [31] C cX4_131 (met_X4_greatest l D cI cG cJ ad 0 cnt hc rm lt tk ov fv fs fd fo1 F1 fg fp Y hS hr) ⟨rfl, rfl, by decide, by decide, by decide⟩ (q0 := 0) rfl rfl (by decide) (by decide) rfl rfl (Nat.le_of_ble_eq_true rfl) dX4_digest_63 ?_
  rintro v9 w9 ⟨z9, rfl, rfl, fo2, rfl⟩
  refine g_ws (w' := ([(y1, .inl (cI, 11, .inl (zA (zU (zU (zU (zU (zU (zU (zU (fun _ => 0) 0 (cnt : Int)) 1 rm) 2 lt) 3 tk) 4 ov) 5 ((scF fs cnt).1)) 6 (RC cnt fv fs rm : Int)))))]) ++ (wM ad cI cG 0 (cnt : Int) rm lt tk ov fv fs fd fo2 F1 fg fp Y)) (st' := [.int (zI (GS cnt fv fs rm)), .int (zI 7), .ref y1, .ref y1]) rfl rfl ?_
  refine g_perm (w' := (wM ad cI cG 0 (cnt : Int) rm lt tk ov fv fs fd fo2 F1 fg fp Y) ++ ([(y1, .inl (cI, 11, .inl (zA (zU (zU (zU (zU (zU (zU (zU (fun _ => 0) 0 (cnt : Int)) 1 rm) 2 lt) 3 tk) 4 ov) 5 ((scF fs cnt).1)) 6 (RC cnt fv fs rm : Int)))))])) [1, 2, 3, 4, 5, 6, 7, 8, 9, 10, 11, 12, 13, 14, 15, 16, 17, 18, 19, 20, 21, 22, 23, 24, 25, 26, 27, 28, 29, 30, 31, 0] (by decide) rfl ?_
  refine g_iast (w' := (wM ad cI cG 0 (cnt : Int) rm lt tk ov fv fs fd fo2 F1 fg fp Y) ++ ([(y1, .inl (cI, 11, .inl (zA (zU (zU (zU (zU (zU (zU (zU (zU (fun _ => 0) 0 (cnt : Int)) 1 rm) 2 lt) 3 tk) 4 ov) 5 ((scF fs cnt).1)) 6 (RC cnt fv fs rm : Int)) 7 (GS cnt fv fs rm)))))])) C 31 rfl (by decide) (by omega) (by omega) rfl dX4_digest_66 ?_
  refine g_dup C dX4_digest_67 rfl ?_
  refine g_bipush C dX4_digest_68 (by decide) ?_
  refine g_aload_n C dX4_digest_70 0 rfl ?_
  refine g_iconst C dX4_digest_71 ?_
  refine g_aload_n C dX4_digest_72 0 rfl ?_
  refine g_getf C fX4_9 0 rfl rfl dX4_digest_73 ?_
  refine g_callV (wr := [(y1, .inl (cI, 11, .inl (zA (zU (zU (zU (zU (zU (zU (zU (zU (fun _ => 0) 0 (cnt : Int)) 1 rm) 2 lt) 3 tk) 4 ov) 5 ((scF fs cnt).1)) 6 (RC cnt fv fs rm : Int)) 7 (GS cnt fv fs rm)))))]) (st := [.int (zI 8), .ref y1, .ref y1]) [0, 1, 2, 3, 4, 5, 6, 7, 8, 9, 10, 11, 12, 13, 14, 15, 16, 17, 18, 19, 20, 21, 22, 23, 24, 25, 26, 27, 28, 29, 30] [31] C cX4_140 (met_X4_printReach l D cI cG cJ ad 0 cnt hc rm lt tk ov fv fs fd fo2 F1 fg fp Y hv 0 (by omega) rm (by omega)) ⟨rfl, rfl, by decide, by decide, by decide⟩ (q0 := 0) rfl rfl (by decide) (by decide) rfl rfl (Nat.le_of_ble_eq_true rfl) dX4_digest_76 ?_
  rintro v9 w9 ⟨z9, rfl, rfl, fp1, rfl⟩
  refine g_ws (w' := ([(y1, .inl (cI, 11, .inl (zA (zU (zU (zU (zU (zU (zU (zU (zU (fun _ => 0) 0 (cnt : Int)) 1 rm) 2 lt) 3 tk) 4 ov) 5 ((scF fs cnt).1)) 6 (RC cnt fv fs rm : Int)) 7 (GS cnt fv fs rm)))))]) ++ (wM ad cI cG 0 (cnt : Int) rm lt tk ov fv fs fd fo2 F1 fg fp1 Y)) (st' := [.int (zI (RP fv cnt 0 rm : Int)), .int (zI 8), .ref y1, .ref y1]) rfl rfl ?_
  refine g_perm (w' := (wM ad cI cG 0 (cnt : Int) rm lt tk ov fv fs fd fo2 F1 fg fp1 Y) ++ ([(y1, .inl (cI, 11, .inl (zA (zU (zU (zU (zU (zU (zU (zU (zU (fun _ => 0) 0 (cnt : Int)) 1 rm) 2 lt) 3 tk) 4 ov) 5 ((scF fs cnt).1)) 6 (RC cnt fv fs rm : Int)) 7 (GS cnt fv fs rm)))))])) [1, 2, 3, 4, 5, 6, 7, 8, 9, 10, 11, 12, 13, 14, 15, 16, 17, 18, 19, 20, 21, 22, 23, 24, 25, 26, 27, 28, 29, 30, 31, 0] (by decide) rfl ?_
  refine g_iast (w' := (wM ad cI cG 0 (cnt : Int) rm lt tk ov fv fs fd fo2 F1 fg fp1 Y) ++ ([(y1, .inl (cI, 11, .inl (zA (zU (zU (zU (zU (zU (zU (zU (zU (zU (fun _ => 0) 0 (cnt : Int)) 1 rm) 2 lt) 3 tk) 4 ov) 5 ((scF fs cnt).1)) 6 (RC cnt fv fs rm : Int)) 7 (GS cnt fv fs rm)) 8 (RP fv cnt 0 rm : Int)))))])) C 31 rfl (by decide) (by omega) (by omega) rfl dX4_digest_79 ?_
  refine g_dup C dX4_digest_80 rfl ?_
  refine g_bipush C dX4_digest_81 (by decide) ?_
  refine g_aload_n C dX4_digest_83 0 rfl ?_
  refine g_callV (wr := [(y1, .inl (cI, 11, .inl (zA (zU (zU (zU (zU (zU (zU (zU (zU (zU (fun _ => 0) 0 (cnt : Int)) 1 rm) 2 lt) 3 tk) 4 ov) 5 ((scF fs cnt).1)) 6 (RC cnt fv fs rm : Int)) 7 (GS cnt fv fs rm)) 8 (RP fv cnt 0 rm : Int)))))]) (st := [.int (zI 9), .ref y1, .ref y1]) [0, 1, 2, 3, 4, 5, 6, 7, 8, 9, 10, 11, 12, 13, 14, 15, 16, 17, 18, 19, 20, 21, 22, 23, 24, 25, 26, 27, 28, 29, 30] [31] C cX4_149 (met_X4_valueBest l D cI cG cJ ad 0 cnt hc rm lt tk ov fv fs fd fo2 F1 fg fp1 Y hv hr) ⟨rfl, rfl, by decide, by decide, by decide⟩ (q0 := 0) rfl rfl (by decide) (by decide) rfl rfl (Nat.le_of_ble_eq_true rfl) dX4_digest_84 ?_
  rintro v9 w9 ⟨z9, rfl, rfl, fp2, rfl⟩
  refine g_ws (w' := ([(y1, .inl (cI, 11, .inl (zA (zU (zU (zU (zU (zU (zU (zU (zU (zU (fun _ => 0) 0 (cnt : Int)) 1 rm) 2 lt) 3 tk) 4 ov) 5 ((scF fs cnt).1)) 6 (RC cnt fv fs rm : Int)) 7 (GS cnt fv fs rm)) 8 (RP fv cnt 0 rm : Int)))))]) ++ (wM ad cI cG 0 (cnt : Int) rm lt tk ov fv fs fd fo2 F1 fg fp2 Y)) (st' := [.int (zI ((bvF fv cnt rm 60).1)), .int (zI 9), .ref y1, .ref y1]) rfl rfl ?_
  refine g_perm (w' := (wM ad cI cG 0 (cnt : Int) rm lt tk ov fv fs fd fo2 F1 fg fp2 Y) ++ ([(y1, .inl (cI, 11, .inl (zA (zU (zU (zU (zU (zU (zU (zU (zU (zU (fun _ => 0) 0 (cnt : Int)) 1 rm) 2 lt) 3 tk) 4 ov) 5 ((scF fs cnt).1)) 6 (RC cnt fv fs rm : Int)) 7 (GS cnt fv fs rm)) 8 (RP fv cnt 0 rm : Int)))))])) [1, 2, 3, 4, 5, 6, 7, 8, 9, 10, 11, 12, 13, 14, 15, 16, 17, 18, 19, 20, 21, 22, 23, 24, 25, 26, 27, 28, 29, 30, 31, 0] (by decide) rfl ?_
  refine g_iast (w' := (wM ad cI cG 0 (cnt : Int) rm lt tk ov fv fs fd fo2 F1 fg fp2 Y) ++ ([(y1, .inl (cI, 11, .inl (zA (zU (zU (zU (zU (zU (zU (zU (zU (zU (zU (fun _ => 0) 0 (cnt : Int)) 1 rm) 2 lt) 3 tk) 4 ov) 5 ((scF fs cnt).1)) 6 (RC cnt fv fs rm : Int)) 7 (GS cnt fv fs rm)) 8 (RP fv cnt 0 rm : Int)) 9 ((bvF fv cnt rm 60).1)))))])) C 31 rfl (by decide) (by omega) (by omega) rfl dX4_digest_87 ?_
  refine g_dup C dX4_digest_88 rfl ?_
  refine g_bipush C dX4_digest_89 (by decide) ?_
  refine g_aload_n C dX4_digest_91 0 rfl ?_
  refine g_callV (wr := [(y1, .inl (cI, 11, .inl (zA (zU (zU (zU (zU (zU (zU (zU (zU (zU (zU (fun _ => 0) 0 (cnt : Int)) 1 rm) 2 lt) 3 tk) 4 ov) 5 ((scF fs cnt).1)) 6 (RC cnt fv fs rm : Int)) 7 (GS cnt fv fs rm)) 8 (RP fv cnt 0 rm : Int)) 9 ((bvF fv cnt rm 60).1)))))]) (st := [.int (zI 10), .ref y1, .ref y1]) [0, 1, 2, 3, 4, 5, 6, 7, 8, 9, 10, 11, 12, 13, 14, 15, 16, 17, 18, 19, 20, 21, 22, 23, 24, 25, 26, 27, 28, 29, 30] [31] C cX4_152 (met_X4_toPrint l D cI cG cJ ad 0 cnt hc rm lt tk ov fv fs fd fo2 F1 fg fp2 Y hS hr h99) ⟨rfl, rfl, by decide, by decide, by decide⟩ (q0 := 0) rfl rfl (by decide) (by decide) rfl rfl (Nat.le_of_ble_eq_true rfl) dX4_digest_92 ?_
  rintro v9 w9 ⟨z9, rfl, rfl, fo3, F3, rfl⟩
  refine g_ws (w' := ([(y1, .inl (cI, 11, .inl (zA (zU (zU (zU (zU (zU (zU (zU (zU (zU (zU (fun _ => 0) 0 (cnt : Int)) 1 rm) 2 lt) 3 tk) 4 ov) 5 ((scF fs cnt).1)) 6 (RC cnt fv fs rm : Int)) 7 (GS cnt fv fs rm)) 8 (RP fv cnt 0 rm : Int)) 9 ((bvF fv cnt rm 60).1)))))]) ++ (wM ad cI cG 0 (cnt : Int) rm lt tk ov fv fs fd fo3 F3 fg fp2 Y)) (st' := [.int (zI ((bpF cnt fv fs rm cnt).1)), .int (zI 10), .ref y1, .ref y1]) rfl rfl ?_
  refine g_perm (w' := (wM ad cI cG 0 (cnt : Int) rm lt tk ov fv fs fd fo3 F3 fg fp2 Y) ++ ([(y1, .inl (cI, 11, .inl (zA (zU (zU (zU (zU (zU (zU (zU (zU (zU (zU (fun _ => 0) 0 (cnt : Int)) 1 rm) 2 lt) 3 tk) 4 ov) 5 ((scF fs cnt).1)) 6 (RC cnt fv fs rm : Int)) 7 (GS cnt fv fs rm)) 8 (RP fv cnt 0 rm : Int)) 9 ((bvF fv cnt rm 60).1)))))])) [1, 2, 3, 4, 5, 6, 7, 8, 9, 10, 11, 12, 13, 14, 15, 16, 17, 18, 19, 20, 21, 22, 23, 24, 25, 26, 27, 28, 29, 30, 31, 0] (by decide) rfl ?_
  refine g_iast (w' := (wM ad cI cG 0 (cnt : Int) rm lt tk ov fv fs fd fo3 F3 fg fp2 Y) ++ ([(y1, .inl (cI, 11, .inl (zA (zU (zU (zU (zU (zU (zU (zU (zU (zU (zU (zU (fun _ => 0) 0 (cnt : Int)) 1 rm) 2 lt) 3 tk) 4 ov) 5 ((scF fs cnt).1)) 6 (RC cnt fv fs rm : Int)) 7 (GS cnt fv fs rm)) 8 (RP fv cnt 0 rm : Int)) 9 ((bvF fv cnt rm 60).1)) 10 ((bpF cnt fv fs rm cnt).1)))))])) C 31 rfl (by decide) (by omega) (by omega) rfl dX4_digest_95 ?_
  refine g_astore_n (L' := [(1, .ref y1), (0, .ref (ad 0))]) C dX4_digest_96 (by decide) rfl ?_
  refine g_ldc2 C kX4_155 dX4_digest_97 ?_
  refine g_lstore_n (L' := [(2, .long (2129 : Int64)), (1, .ref y1), (0, .ref (ad 0))]) C dX4_digest_100 (by decide) rfl ?_
  have hfx : djF (zU (zU (zU (zU (zU (zU (zU (zU (zU (zU (zU (fun _ => 0) 0 (cnt : Int)) 1 rm) 2 lt) 3 tk) 4 ov) 5 ((scF fs cnt).1)) 6 (RC cnt fv fs rm : Int)) 7 (GS cnt fv fs rm)) 8 (RP fv cnt 0 rm : Int)) 9 ((bvF fv cnt rm 60).1)) 10 ((bpF cnt fv fs rm cnt).1)) 11 = (d11 cnt fv fs rm lt tk ov) := rfl
  generalize (zU (zU (zU (zU (zU (zU (zU (zU (zU (zU (zU (fun _ => 0) 0 (cnt : Int)) 1 rm) 2 lt) 3 tk) 4 ov) 5 ((scF fs cnt).1)) 6 (RC cnt fv fs rm : Int)) 7 (GS cnt fv fs rm)) 8 (RP fv cnt 0 rm : Int)) 9 ((bvF fv cnt rm 60).1)) 10 ((bpF cnt fv fs rm cnt).1)) = fx at hfx ⊢
  refine g_ws (w' := (wM ad cI cG 0 (cnt : Int) rm lt tk ov fv fs fd fo3 F3 fg fp2 Y) ++ ([(y1, .inl (cI, 11, .inl (zA fx)))])) (rfl) rfl ?_
  refine g_aload_n C dX4_digest_101 1 rfl ?_
  refine g_astore (L' := [(4, .ref y1), (2, .long (2129 : Int64)), (1, .ref y1), (0, .ref (ad 0))]) C dX4_digest_102 (by decide) rfl ?_
  refine g_aload C dX4_digest_104 0 rfl ?_
  refine g_alen (N := 11) C 31 rfl rfl dX4_digest_106 ?_
  refine g_istore (L' := [(5, .int (zI 11)), (4, .ref y1), (2, .long (2129 : Int64)), (1, .ref y1), (0, .ref (ad 0))]) C dX4_digest_107 (by decide) rfl ?_
  refine g_iconst C dX4_digest_109 ?_
  refine g_istore (L' := [(6, .int (zI 0)), (5, .int (zI 11)), (4, .ref y1), (2, .long (2129 : Int64)), (1, .ref y1), (0, .ref (ad 0))]) C dX4_digest_110 (by decide) rfl ?_
  have loop_112 : ∀ (fu : Nat) (i : Nat), (hi : i ≤ 11) → 11 - i < fu → gW E 1 11 ((wM ad cI cG 0 (cnt : Int) rm lt tk ov fv fs fd fo3 F3 fg fp2 Y) ++ ([(y1, .inl (cI, 11, .inl (zA fx)))])) 112 [(6, .int (zI (i : Int))), (5, .int (zI 11)), (4, .ref y1), (2, .long (djF fx i)), (1, .ref y1), (0, .ref (ad 0))] [] := by
    intro fu
    induction fu with
    | zero => intro i hi h9; exact absurd h9 (Nat.not_lt_zero _)
    | succ fu ih_112 =>
      intro i hi hmu_112
      refine g_iload C dX4_digest_112 0 rfl ?_
      refine g_iload C dX4_digest_114 1 rfl ?_
      refine g_icmp_ge 142 C dX4_digest_116 (by decide) (zr_i (by omega) (by omega)) (zr_i (by omega) (by omega)) (fun c_116 => ?_) (fun c_116 => ?_)
      · refine g_iconst C dX4_digest_142 ?_
        refine g_istore (L' := [(4, .int (zI 0)), (6, .int (zI (i : Int))), (5, .int (zI 11)), (2, .long (djF fx i)), (1, .ref y1), (0, .ref (ad 0))]) C dX4_digest_143 (by decide) rfl ?_
        have loop_145 : ∀ (fu : Nat) (i : Nat), (hi : i ≤ cnt) → cnt - i < fu → gW E 1 11 ((wM ad cI cG 0 (cnt : Int) rm lt tk ov fv fs fd fo3 F3 fg fp2 Y) ++ ([(y1, .inl (cI, 11, .inl (zA fx)))])) 145 [(4, .int (zI (i : Int))), (2, .long (dsF fv fs fd (d11 cnt fv fs rm lt tk ov) i)), (0, .ref (ad 0))] [] := by
          intro fu
          induction fu with
          | zero => intro i hi h9; exact absurd h9 (Nat.not_lt_zero _)
          | succ fu ih_145 =>
            intro i hi hmu_145
            refine g_iload C dX4_digest_145 0 rfl ?_
            refine g_aload_n C dX4_digest_147 2 rfl ?_
            refine g_getf C fX4_43 0 rfl rfl dX4_digest_148 ?_
            refine g_icmp_ge 201 C dX4_digest_151 (by decide) (zr_i (by omega) (by omega)) (zr_i (by omega) (by omega)) (fun c_151 => ?_) (fun c_151 => ?_)
            · have e9 : cnt = i := by omega
              subst e9
              refine g_aload_n C dX4_digest_201 2 rfl ?_
              refine g_callV (wr := [(y1, .inl (cI, 11, .inl (zA fx)))]) (st := []) [0, 1, 2, 3, 4, 5, 6, 7, 8, 9, 10, 11, 12, 13, 14, 15, 16, 17, 18, 19, 20, 21, 22, 23, 24, 25, 26, 27, 28, 29, 30] [31] C cX4_67 (met_X4_table l D cI cG cJ ad 0 cnt hc rm lt tk ov fv fs fd fo3 F3 fg fp2 Y hS hr) ⟨rfl, rfl, by decide, by decide, by decide⟩ (q0 := 0) rfl rfl (by decide) (by decide) rfl rfl (Nat.le_of_ble_eq_true rfl) dX4_digest_202 ?_
              rintro v9 w9 ⟨rfl, fo4, F4, ⟨hO, hF⟩, rfl⟩
              refine g_ws (w' := ([(y1, .inl (cI, 11, .inl (zA fx)))]) ++ (wM ad cI cG 0 (cnt : Int) rm lt tk ov fv fs fd fo4 F4 fg fp2 Y)) (st' := []) rfl rfl ?_
              refine g_perm (w' := (wM ad cI cG 0 (cnt : Int) rm lt tk ov fv fs fd fo4 F4 fg fp2 Y) ++ ([(y1, .inl (cI, 11, .inl (zA fx)))])) [1, 2, 3, 4, 5, 6, 7, 8, 9, 10, 11, 12, 13, 14, 15, 16, 17, 18, 19, 20, 21, 22, 23, 24, 25, 26, 27, 28, 29, 30, 31, 0] (by decide) rfl ?_
              refine g_aload_n C dX4_digest_205 2 rfl ?_
              refine g_iconst C dX4_digest_206 ?_
              refine g_callV (wr := [(y1, .inl (cI, 11, .inl (zA fx)))]) (st := []) [0, 1, 2, 3, 4, 5, 6, 7, 8, 9, 10, 11, 12, 13, 14, 15, 16, 17, 18, 19, 20, 21, 22, 23, 24, 25, 26, 27, 28, 29, 30] [31] C cX4_77 (met_X4_printed l D cI cG cJ ad 0 cnt hc rm lt tk ov fv fs fd fo4 F4 fg fp2 Y hv 0 (by omega)) ⟨rfl, rfl, by decide, by decide, by decide⟩ (q0 := 0) rfl rfl (by decide) (by decide) rfl rfl (Nat.le_of_ble_eq_true rfl) dX4_digest_207 ?_
              rintro v9 w9 ⟨rfl, fp4, hP, rfl⟩
              refine g_ws (w' := ([(y1, .inl (cI, 11, .inl (zA fx)))]) ++ (wM ad cI cG 0 (cnt : Int) rm lt tk ov fv fs fd fo4 F4 fg fp4 Y)) (st' := []) rfl rfl ?_
              refine g_perm (w' := (wM ad cI cG 0 (cnt : Int) rm lt tk ov fv fs fd fo4 F4 fg fp4 Y) ++ ([(y1, .inl (cI, 11, .inl (zA fx)))])) [1, 2, 3, 4, 5, 6, 7, 8, 9, 10, 11, 12, 13, 14, 15, 16, 17, 18, 19, 20, 21, 22, 23, 24, 25, 26, 27, 28, 29, 30, 31, 0] (by decide) rfl ?_
              refine g_bipush C dX4_digest_210 (by decide) ?_
              refine g_istore (L' := [(4, .int (zI 25)), (2, .long (dsF fv fs fd (d11 cnt fv fs rm lt tk ov) cnt)), (0, .ref (ad 0))]) C dX4_digest_212 (by decide) rfl ?_
              have loop_214 : ∀ (fu : Nat) (n : Nat), (hn : n ≤ 12) → 12 - n < fu → gW E 1 11 ((wM ad cI cG 0 (cnt : Int) rm lt tk ov fv fs fd fo4 F4 fg fp4 Y) ++ ([(y1, .inl (cI, 11, .inl (zA fx)))])) 214 [(4, .int (zI ((25 * (n + 1) : Nat) : Int))), (2, .long (dpF cnt fv fs rm (dsF fv fs fd (d11 cnt fv fs rm lt tk ov) cnt) n)), (0, .ref (ad 0))] [] := by
                intro fu
                induction fu with
                | zero => intro n hn h9; exact absurd h9 (Nat.not_lt_zero _)
                | succ fu ih_214 =>
                  intro n hn hmu_214
                  refine g_iload C dX4_digest_214 0 rfl ?_
                  refine g_sipush C dX4_digest_216 (by decide) ?_
                  refine g_icmp_gt 266 C dX4_digest_219 (by decide) (zr_i (by omega) (by omega)) (zr_i (by omega) (by omega)) (fun c_219 => ?_) (fun c_219 => ?_)
                  · have e9 : n = 12 := by omega
                    subst e9
                    refine g_perm (w' := wM ad cI cG 0 (cnt : Int) rm lt tk ov fv fs fd fo4 F4 fg fp4 Y) [0, 1, 2, 3, 4, 5, 6, 7, 8, 9, 10, 11, 12, 13, 14, 15, 16, 17, 18, 19, 20, 21, 22, 23, 24, 25, 26, 27, 28, 29, 30] (by decide) rfl ?_
                    refine g_lload_n C dX4_digest_266 1 rfl ?_
                    exact ret _ _ _ _ _ _ (by decide) (by decide) dX4_digest_267 (⟨rfl, ⟨_, _, _, _, _, rfl⟩⟩)
                  · refine g_lload_n C dX4_digest_222 1 rfl ?_
                    refine g_ldc2 C kX4_157 dX4_digest_223 ?_
                    refine g_lmul C dX4_digest_226 ?_
                    refine g_aload_n C dX4_digest_227 2 rfl ?_
                    refine g_iload C dX4_digest_228 0 rfl ?_
                    refine g_callV (wr := [(y1, .inl (cI, 11, .inl (zA fx)))]) (st := [.long ((dpF cnt fv fs rm (dsF fv fs fd (d11 cnt fv fs rm lt tk ov) cnt) n) * (31 : Int64))]) [0, 1, 2, 3, 4, 5, 6, 7, 8, 9, 10, 11, 12, 13, 14, 15, 16, 17, 18, 19, 20, 21, 22, 23, 24, 25, 26, 27, 28, 29, 30] [31] C cX4_122 (met_X4_over l D cI cG cJ ad 0 cnt hc rm lt tk ov fv fs fd fo4 F4 fg fp4 Y hS hr hF (25 * (n + 1)) (by omega)) ⟨rfl, rfl, by decide, by decide, by decide⟩ (q0 := 0) rfl rfl (by decide) (by decide) rfl rfl (Nat.le_of_ble_eq_true rfl) dX4_digest_230 ?_
                    rintro v9 w9 ⟨z9, rfl, rfl, rfl⟩
                    refine g_ws (w' := ([(y1, .inl (cI, 11, .inl (zA fx)))]) ++ (wM ad cI cG 0 (cnt : Int) rm lt tk ov fv fs fd fo4 F4 fg fp4 Y)) (st' := [.int (zI (dq1 cnt fv fs rm (25 * (n + 1)))), .long ((dpF cnt fv fs rm (dsF fv fs fd (d11 cnt fv fs rm lt tk ov) cnt) n) * (31 : Int64))]) rfl rfl ?_
                    refine g_perm (w' := (wM ad cI cG 0 (cnt : Int) rm lt tk ov fv fs fd fo4 F4 fg fp4 Y) ++ ([(y1, .inl (cI, 11, .inl (zA fx)))])) [1, 2, 3, 4, 5, 6, 7, 8, 9, 10, 11, 12, 13, 14, 15, 16, 17, 18, 19, 20, 21, 22, 23, 24, 25, 26, 27, 28, 29, 30, 31, 0] (by decide) rfl ?_
                    refine g_i2l C dX4_digest_233 ?_
                    refine g_ladd C dX4_digest_234 ?_
                    refine g_ldc2 C kX4_157 dX4_digest_235 ?_
                    refine g_lmul C dX4_digest_238 ?_
                    refine g_aload_n C dX4_digest_239 2 rfl ?_
                    refine g_iload C dX4_digest_240 0 rfl ?_
                    refine g_callV (wr := [(y1, .inl (cI, 11, .inl (zA fx)))]) (st := [.long ((((dpF cnt fv fs rm (dsF fv fs fd (d11 cnt fv fs rm lt tk ov) cnt) n) * (31 : Int64)) + (zI (dq1 cnt fv fs rm (25 * (n + 1)))).toInt64) * (31 : Int64))]) [0, 1, 2, 3, 4, 5, 6, 7, 8, 9, 10, 11, 12, 13, 14, 15, 16, 17, 18, 19, 20, 21, 22, 23, 24, 25, 26, 27, 28, 29, 30] [31] C cX4_125 (met_X4_many l D cI cG cJ ad 0 cnt hc rm lt tk ov fv fs fd fo4 F4 fg fp4 Y hS hr hF (25 * (n + 1)) (by omega)) ⟨rfl, rfl, by decide, by decide, by decide⟩ (q0 := 0) rfl rfl (by decide) (by decide) rfl rfl (Nat.le_of_ble_eq_true rfl) dX4_digest_242 ?_
                    rintro v9 w9 ⟨z9, rfl, rfl, rfl⟩
                    refine g_ws (w' := ([(y1, .inl (cI, 11, .inl (zA fx)))]) ++ (wM ad cI cG 0 (cnt : Int) rm lt tk ov fv fs fd fo4 F4 fg fp4 Y)) (st' := [.int (zI (dq2 cnt fv fs rm (25 * (n + 1)))), .long ((((dpF cnt fv fs rm (dsF fv fs fd (d11 cnt fv fs rm lt tk ov) cnt) n) * (31 : Int64)) + (zI (dq1 cnt fv fs rm (25 * (n + 1)))).toInt64) * (31 : Int64))]) rfl rfl ?_
                    refine g_perm (w' := (wM ad cI cG 0 (cnt : Int) rm lt tk ov fv fs fd fo4 F4 fg fp4 Y) ++ ([(y1, .inl (cI, 11, .inl (zA fx)))])) [1, 2, 3, 4, 5, 6, 7, 8, 9, 10, 11, 12, 13, 14, 15, 16, 17, 18, 19, 20, 21, 22, 23, 24, 25, 26, 27, 28, 29, 30, 31, 0] (by decide) rfl ?_
                    refine g_i2l C dX4_digest_245 ?_
                    refine g_ladd C dX4_digest_246 ?_
                    refine g_ldc2 C kX4_157 dX4_digest_247 ?_
                    refine g_lmul C dX4_digest_250 ?_
                    refine g_aload_n C dX4_digest_251 2 rfl ?_
                    refine g_iload C dX4_digest_252 0 rfl ?_
                    refine g_callV (wr := [(y1, .inl (cI, 11, .inl (zA fx)))]) (st := [.long ((((((dpF cnt fv fs rm (dsF fv fs fd (d11 cnt fv fs rm lt tk ov) cnt) n) * (31 : Int64)) + (zI (dq1 cnt fv fs rm (25 * (n + 1)))).toInt64) * (31 : Int64)) + (zI (dq2 cnt fv fs rm (25 * (n + 1)))).toInt64) * (31 : Int64))]) [0, 1, 2, 3, 4, 5, 6, 7, 8, 9, 10, 11, 12, 13, 14, 15, 16, 17, 18, 19, 20, 21, 22, 23, 24, 25, 26, 27, 28, 29, 30] [31] C cX4_134 (met_X4_fewestFor l D cI cG cJ ad 0 cnt hc rm lt tk ov fv fs fd fo4 F4 fg fp4 Y hS hr hP (25 * (n + 1)) (by omega)) ⟨rfl, rfl, by decide, by decide, by decide⟩ (q0 := 0) rfl rfl (by decide) (by decide) rfl rfl (Nat.le_of_ble_eq_true rfl) dX4_digest_254 ?_
                    rintro v9 w9 ⟨z9, rfl, rfl, rfl⟩
                    refine g_ws (w' := ([(y1, .inl (cI, 11, .inl (zA fx)))]) ++ (wM ad cI cG 0 (cnt : Int) rm lt tk ov fv fs fd fo4 F4 fg fp4 Y)) (st' := [.int (zI (dq3 cnt fv rm (25 * (n + 1)))), .long ((((((dpF cnt fv fs rm (dsF fv fs fd (d11 cnt fv fs rm lt tk ov) cnt) n) * (31 : Int64)) + (zI (dq1 cnt fv fs rm (25 * (n + 1)))).toInt64) * (31 : Int64)) + (zI (dq2 cnt fv fs rm (25 * (n + 1)))).toInt64) * (31 : Int64))]) rfl rfl ?_
                    refine g_perm (w' := (wM ad cI cG 0 (cnt : Int) rm lt tk ov fv fs fd fo4 F4 fg fp4 Y) ++ ([(y1, .inl (cI, 11, .inl (zA fx)))])) [1, 2, 3, 4, 5, 6, 7, 8, 9, 10, 11, 12, 13, 14, 15, 16, 17, 18, 19, 20, 21, 22, 23, 24, 25, 26, 27, 28, 29, 30, 31, 0] (by decide) rfl ?_
                    refine g_i2l C dX4_digest_257 ?_
                    refine g_ladd C dX4_digest_258 ?_
                    refine g_lstore_n (L' := [(2, .long (((((((dpF cnt fv fs rm (dsF fv fs fd (d11 cnt fv fs rm lt tk ov) cnt) n) * (31 : Int64)) + (zI (dq1 cnt fv fs rm (25 * (n + 1)))).toInt64) * (31 : Int64)) + (zI (dq2 cnt fv fs rm (25 * (n + 1)))).toInt64) * (31 : Int64)) + (zI (dq3 cnt fv rm (25 * (n + 1)))).toInt64)), (4, .int (zI ((25 * (n + 1) : Nat) : Int))), (0, .ref (ad 0))]) C dX4_digest_259 (by decide) rfl ?_
                    refine g_iinc (L' := [(4, .int (zI (((25 * (n + 1) : Nat) : Int) + 25))), (2, .long (((((((dpF cnt fv fs rm (dsF fv fs fd (d11 cnt fv fs rm lt tk ov) cnt) n) * (31 : Int64)) + (zI (dq1 cnt fv fs rm (25 * (n + 1)))).toInt64) * (31 : Int64)) + (zI (dq2 cnt fv fs rm (25 * (n + 1)))).toInt64) * (31 : Int64)) + (zI (dq3 cnt fv rm (25 * (n + 1)))).toInt64)), (0, .ref (ad 0))]) C dX4_digest_260 1 rfl (by decide) rfl ?_
                    refine g_goto 214 C dX4_digest_263 (by decide) ?_
                    refine g_loc (L' := [(4, .int (zI (((25 * (n + 1) : Nat) : Int) + 25))), (2, .long (((((((dpF cnt fv fs rm (dsF fv fs fd (d11 cnt fv fs rm lt tk ov) cnt) n) * (31 : Int64)) + (zI (dq1 cnt fv fs rm (25 * (n + 1)))).toInt64) * (31 : Int64)) + (zI (dq2 cnt fv fs rm (25 * (n + 1)))).toInt64) * (31 : Int64)) + (zI (dq3 cnt fv rm (25 * (n + 1)))).toInt64)), (0, .ref (ad 0))]) [0, 1, 2] rfl ?_
                    refine g_lw (w' := (wM ad cI cG 0 (cnt : Int) rm lt tk ov fv fs fd fo4 F4 fg fp4 Y) ++ ([(y1, .inl (cI, 11, .inl (zA fx)))])) (L' := [(4, .int (zI ((25 * (n + 1 + 1) : Nat) : Int))), (2, .long (dpF cnt fv fs rm (dsF fv fs fd (d11 cnt fv fs rm lt tk ov) cnt) (n + 1))), (0, .ref (ad 0))]) rfl (by rw [show ((25 * (n + 1) : Nat) : Int) + 25 = ((25 * (n + 1 + 1) : Nat) : Int) by omega]; rfl) ?_
                    exact ih_214 (n + 1) (by omega) (by omega)
              refine g_loc (L' := [(4, .int (zI 25)), (2, .long (dsF fv fs fd (d11 cnt fv fs rm lt tk ov) cnt)), (0, .ref (ad 0))]) [0, 1, 2] rfl ?_
              exact loop_214 _ 0 (Nat.zero_le _) (Nat.lt_succ_self _)
            · refine g_lload_n C dX4_digest_154 1 rfl ?_
              refine g_ldc2 C kX4_157 dX4_digest_155 ?_
              refine g_lmul C dX4_digest_158 ?_
              refine g_aload_n C dX4_digest_159 2 rfl ?_
              refine g_getf C fX4_13 0 rfl rfl dX4_digest_160 ?_
              refine g_iload C dX4_digest_163 0 rfl ?_
              refine g_iald C 1 rfl (by decide) (by omega) (by omega) (v := (fv i)) rfl dX4_digest_165 ?_
              refine g_i2l C dX4_digest_166 ?_
              refine g_ladd C dX4_digest_167 ?_
              refine g_ldc2 C kX4_157 dX4_digest_168 ?_
              refine g_lmul C dX4_digest_171 ?_
              refine g_aload_n C dX4_digest_172 2 rfl ?_
              refine g_getf C fX4_17 0 rfl rfl dX4_digest_173 ?_
              refine g_iload C dX4_digest_176 0 rfl ?_
              refine g_iald C 2 rfl (by decide) (by omega) (by omega) (v := (fs i)) rfl dX4_digest_178 ?_
              refine g_i2l C dX4_digest_179 ?_
              refine g_ladd C dX4_digest_180 ?_
              refine g_ldc2 C kX4_157 dX4_digest_181 ?_
              refine g_lmul C dX4_digest_184 ?_
              refine g_aload_n C dX4_digest_185 2 rfl ?_
              refine g_getf C fX4_20 0 rfl rfl dX4_digest_186 ?_
              refine g_iload C dX4_digest_189 0 rfl ?_
              refine g_iald C 3 rfl (by decide) (by omega) (by omega) (v := (fd i)) rfl dX4_digest_191 ?_
              refine g_i2l C dX4_digest_192 ?_
              refine g_ladd C dX4_digest_193 ?_
              refine g_lstore_n (L' := [(2, .long (((((((dsF fv fs fd (d11 cnt fv fs rm lt tk ov) i) * (31 : Int64)) + (zI (fv i)).toInt64) * (31 : Int64)) + (zI (fs i)).toInt64) * (31 : Int64)) + (zI (fd i)).toInt64)), (4, .int (zI (i : Int))), (0, .ref (ad 0))]) C dX4_digest_194 (by decide) rfl ?_
              refine g_iinc (L' := [(4, .int (zI ((i : Int) + 1))), (2, .long (((((((dsF fv fs fd (d11 cnt fv fs rm lt tk ov) i) * (31 : Int64)) + (zI (fv i)).toInt64) * (31 : Int64)) + (zI (fs i)).toInt64) * (31 : Int64)) + (zI (fd i)).toInt64)), (0, .ref (ad 0))]) C dX4_digest_195 1 rfl (by decide) rfl ?_
              refine g_goto 145 C dX4_digest_198 (by decide) ?_
              refine g_loc (L' := [(4, .int (zI ((i : Int) + 1))), (2, .long (((((((dsF fv fs fd (d11 cnt fv fs rm lt tk ov) i) * (31 : Int64)) + (zI (fv i)).toInt64) * (31 : Int64)) + (zI (fs i)).toInt64) * (31 : Int64)) + (zI (fd i)).toInt64)), (0, .ref (ad 0))]) [0, 1, 2] rfl ?_
              exact ih_145 (i + 1) (by omega) (by omega)
        refine g_loc (L' := [(4, .int (zI 0)), (2, .long (djF fx i)), (0, .ref (ad 0))]) [0, 3, 5] rfl ?_
        refine g_lw (w' := (wM ad cI cG 0 (cnt : Int) rm lt tk ov fv fs fd fo3 F3 fg fp2 Y) ++ ([(y1, .inl (cI, 11, .inl (zA fx)))])) (L' := [(4, .int (zI (0 : Int))), (2, .long (dsF fv fs fd (d11 cnt fv fs rm lt tk ov) 0)), (0, .ref (ad 0))]) rfl (by rw [show i = 11 by omega, hfx]; rfl) ?_
        exact loop_145 _ 0 (Nat.zero_le _) (Nat.lt_succ_self _)
      · refine g_aload C dX4_digest_119 2 rfl ?_
        refine g_iload C dX4_digest_121 0 rfl ?_
        refine g_iald C 31 rfl (by decide) (by omega) (by omega) (v := (fx i)) rfl dX4_digest_123 ?_
        refine g_istore (L' := [(7, .int (zI (fx i))), (6, .int (zI (i : Int))), (5, .int (zI 11)), (4, .ref y1), (2, .long (djF fx i)), (1, .ref y1), (0, .ref (ad 0))]) C dX4_digest_124 (by decide) rfl ?_
        refine g_lload_n C dX4_digest_126 4 rfl ?_
        refine g_ldc2 C kX4_157 dX4_digest_127 ?_
        refine g_lmul C dX4_digest_130 ?_
        refine g_iload C dX4_digest_131 0 rfl ?_
        refine g_i2l C dX4_digest_133 ?_
        refine g_ladd C dX4_digest_134 ?_
        refine g_lstore_n (L' := [(2, .long (((djF fx i) * (31 : Int64)) + (zI (fx i)).toInt64)), (7, .int (zI (fx i))), (6, .int (zI (i : Int))), (5, .int (zI 11)), (4, .ref y1), (1, .ref y1), (0, .ref (ad 0))]) C dX4_digest_135 (by decide) rfl ?_
        refine g_iinc (L' := [(6, .int (zI ((i : Int) + 1))), (2, .long (((djF fx i) * (31 : Int64)) + (zI (fx i)).toInt64)), (7, .int (zI (fx i))), (5, .int (zI 11)), (4, .ref y1), (1, .ref y1), (0, .ref (ad 0))]) C dX4_digest_136 2 rfl (by decide) rfl ?_
        refine g_goto 112 C dX4_digest_139 (by decide) ?_
        refine g_loc (L' := [(6, .int (zI ((i : Int) + 1))), (5, .int (zI 11)), (4, .ref y1), (2, .long (((djF fx i) * (31 : Int64)) + (zI (fx i)).toInt64)), (1, .ref y1), (0, .ref (ad 0))]) [0, 3, 4, 1, 5, 6] rfl ?_
        exact ih_112 (i + 1) (by omega) (by omega)
  refine g_loc (L' := [(6, .int (zI 0)), (5, .int (zI 11)), (4, .ref y1), (2, .long (2129 : Int64)), (1, .ref y1), (0, .ref (ad 0))]) [0, 1, 2, 3, 4, 5] rfl ?_
  exact loop_112 _ 0 (Nat.zero_le _) (Nat.lt_succ_self _)
