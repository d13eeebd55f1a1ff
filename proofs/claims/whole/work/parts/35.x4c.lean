abbrev rmX4_reached : Room := { frames := 3, cells := 0, slots := 0, locals := 68 }
set_option maxHeartbeats 4000000 in
set_option maxRecDepth 100000 in
theorem met_X4_reached (l : Launch) (D : va_G) (cI cG cJ : ClassId) (ad : Nat → Nat) (th : Int) (cnt : Nat) (hc : cnt ≤ 8) (rm lt tk ov : Int) (fv fs fd fo : Nat → Int) (F : Nat → Nat → Int) (fg fp : Nat → Int) (Y : Nat → Nat → Int) (hS : Sok cnt fv fs) (hr : 1 ≤ rm ∧ rm ≤ 12)  : gMet l yX4_reached cX4_reached 2 (some .int) rmX4_reached D cI cG cJ [.ref (ad 0)] (wM ad cI cG th (cnt : Int) rm lt tk ov fv fs fd fo F fg fp Y) (gI (fun z w9 => z = (RC cnt fv fs rm : Int) ∧ ∃ (fo1 : Nat → Int) (F1 : Nat → Nat → Int), w9 = wM ad cI cG th (cnt : Int) rm lt tk ov fv fs fd fo1 F1 fg fp Y)) := by
  have hr9 : 0 ≤ rm ∧ rm ≤ 12 := ⟨by omega, hr.2⟩
  have hv : ∀ j, j < cnt → 1 ≤ fv j ∧ fv j ≤ 60 := hS.1
  have hv1 : ∀ j, j < cnt → 1 ≤ fv j := fun j hj => (hS.1 j hj).1
  have hs9 : ∀ j, j < cnt → 0 ≤ fs j ∧ fs j ≤ 119 := hS.2.1
  refine gMet_I (by decide) rfl (Nat.le_of_ble_eq_true rfl) (fun E C ret => ?_)
  refine g_aload_n C dX4_reached_0 0 rfl ?_
  refine g_callV (wr := ([] : va_W)) (st := []) [0, 1, 2, 3, 4, 5, 6, 7, 8, 9, 10, 11, 12, 13, 14, 15, 16, 17, 18, 19, 20, 21, 22, 23, 24, 25, 26, 27, 28, 29, 30] [] C cX4_67 (met_X4_table l D cI cG cJ ad th cnt hc rm lt tk ov fv fs fd fo F fg fp Y hS hr) ⟨rfl, rfl, by decide, by decide, by decide⟩ (q0 := 0) rfl rfl (by decide) (by decide) rfl rfl (Nat.le_of_ble_eq_true rfl) dX4_reached_1 ?_
  rintro v9 w9 ⟨rfl, fo1, F1, ⟨hO, hF⟩, rfl⟩
  refine g_ws (w' := wM ad cI cG th (cnt : Int) rm lt tk ov fv fs fd fo1 F1 fg fp Y) (st' := []) rfl rfl ?_
  refine g_iconst C dX4_reached_4 ?_
  refine g_istore_n (L' := [(1, .int (zI 0)), (0, .ref (ad 0))]) C dX4_reached_5 (by decide) rfl ?_
  have loop_6 : ∀ (fu : Nat) (p : Nat), (hi : p ≤ 300) → (he : rch (F1 cnt) rm 300 0 = rch (F1 cnt) rm (300 - p) p) → 300 - p < fu → gW E 0 0 (wM ad cI cG th (cnt : Int) rm lt tk ov fv fs fd fo1 F1 fg fp Y) 6 [(1, .int (zI (p : Int))), (0, .ref (ad 0))] [] := by
    intro fu
    induction fu with
    | zero => intro p hi he h9; exact absurd h9 (Nat.not_lt_zero _)
    | succ fu ih_6 =>
      intro p hi he hmu_6
      refine g_iload_n C dX4_reached_6 0 rfl ?_
      refine g_sipush C dX4_reached_7 (by decide) ?_
      refine g_icmp_ge 29 C dX4_reached_10 (by decide) (zr_i (by omega) (by omega)) (zr_i (by omega) (by omega)) (fun c_10 => ?_) (fun c_10 => ?_)
      · refine g_iload_n C dX4_reached_29 0 rfl ?_
        exact ret _ _ _ _ _ _ (by decide) (by decide) dX4_reached_30 (⟨by rw [← hF.rc, he, show p = 300 by omega]; rfl, fo1, F1, rfl⟩)
      · refine g_aload_n C dX4_reached_13 1 rfl ?_
        refine g_iload_n C dX4_reached_14 0 rfl ?_
        refine g_iconst C dX4_reached_15 ?_
        refine g_iadd C dX4_reached_16 ?_
        refine g_callV (wr := ([] : va_W)) (st := []) [0, 1, 2, 3, 4, 5, 6, 7, 8, 9, 10, 11, 12, 13, 14, 15, 16, 17, 18, 19, 20, 21, 22, 23, 24, 25, 26, 27, 28, 29, 30] [] C cX4_63 (met_X4_pays l D cI cG cJ ad th cnt hc rm lt tk ov fv fs fd fo1 F1 fg fp Y hS hr hF (p + 1) (by omega)) ⟨rfl, rfl, by decide, by decide, by decide⟩ (q0 := 0) rfl rfl (by decide) (by decide) rfl rfl (Nat.le_of_ble_eq_true rfl) dX4_reached_17 ?_
        rintro v9 w9 ⟨z9, rfl, rfl, rfl⟩
        refine g_ws (w' := wM ad cI cG th (cnt : Int) rm lt tk ov fv fs fd fo1 F1 fg fp Y) (st' := [.int (zI (if F1 cnt (p + 1) ≤ rm then (1 : Int) else 0))]) rfl rfl ?_
        refine g_if_eq 29 C dX4_reached_20 (by decide) zr01 (fun c_20 => ?_) (fun c_20 => ?_)
        · refine g_iload_n C dX4_reached_29 0 rfl ?_
          exact ret _ _ _ _ _ _ (by decide) (by decide) dX4_reached_30 (⟨by rw [← hF.rc, he, rch_f (if0 c_20)], fo1, F1, rfl⟩)
        · refine g_iinc (L' := [(1, .int (zI ((p : Int) + 1))), (0, .ref (ad 0))]) C dX4_reached_23 0 rfl (by decide) rfl ?_
          refine g_goto 6 C dX4_reached_26 (by decide) ?_
          refine g_loc (L' := [(1, .int (zI ((p : Int) + 1))), (0, .ref (ad 0))]) [0, 1] rfl ?_
          exact ih_6 (p + 1) (by omega) (by rw [he, show 300 - p = (300 - (p + 1)) + 1 by omega, rch_t (if1 c_20)]) (by omega)
  refine g_loc (L' := [(1, .int (zI 0)), (0, .ref (ad 0))]) [0, 1] rfl ?_
  exact loop_6 _ 0 (Nat.zero_le _) rfl (Nat.lt_succ_self _)
abbrev rmX4_give : Room := { frames := 3, cells := 0, slots := 0, locals := 68 }
set_option maxHeartbeats 4000000 in
set_option maxRecDepth 100000 in
theorem met_X4_give (l : Launch) (D : va_G) (cI cG cJ : ClassId) (ad : Nat → Nat) (th : Int) (cnt : Nat) (hc : cnt ≤ 8) (rm lt tk ov : Int) (fv fs fd fo : Nat → Int) (F : Nat → Nat → Int) (fg fp : Nat → Int) (Y : Nat → Nat → Int) (hS : Sok cnt fv fs) (hr : 1 ≤ rm ∧ rm ≤ 12) (p : Nat) (hp : p ≤ 300)  : gMet l yX4_give cX4_give 4 (some .int) rmX4_give D cI cG cJ [.ref (ad 0), .int (zI (p : Int))] (wM ad cI cG th (cnt : Int) rm lt tk ov fv fs fd fo F fg fp Y) (gI (fun z w9 => z = LSm cnt fv fs rm p ∧ ∃ (fo1 : Nat → Int) (F1 : Nat → Nat → Int) (fg1 fs1 : Nat → Int), ((LSm cnt fv fs rm p = -1 ∧ fs1 = fs) ∨ (LSm cnt fv fs rm p ≠ -1 ∧ (∀ x, x < cnt → fg1 x = CH cnt fv fs rm (LSm cnt fv fs rm p).toNat x) ∧ fs1 = sbS cnt fs (CH cnt fv fs rm (LSm cnt fv fs rm p).toNat))) ∧ w9 = wM ad cI cG th (cnt : Int) rm lt tk ov fv fs1 fd fo1 F1 fg1 fp Y)) := by
  have hr9 : 0 ≤ rm ∧ rm ≤ 12 := ⟨by omega, hr.2⟩
  have hv : ∀ j, j < cnt → 1 ≤ fv j ∧ fv j ≤ 60 := hS.1
  have hv1 : ∀ j, j < cnt → 1 ≤ fv j := fun j hj => (hS.1 j hj).1
  have hs9 : ∀ j, j < cnt → 0 ≤ fs j ∧ fs j ≤ 119 := hS.2.1
  have hl := LSm_rg (cnt := cnt) (fv := fv) (fs := fs) (rm := rm) (p := p) (by omega)
  refine gMet_I (by decide) rfl (Nat.le_of_ble_eq_true rfl) (fun E C ret => ?_)
  refine g_aload_n C dX4_give_0 0 rfl ?_
  refine g_callV (wr := ([] : va_W)) (st := []) [0, 1, 2, 3, 4, 5, 6, 7, 8, 9, 10, 11, 12, 13, 14, 15, 16, 17, 18, 19, 20, 21, 22, 23, 24, 25, 26, 27, 28, 29, 30] [] C cX4_67 (met_X4_table l D cI cG cJ ad th cnt hc rm lt tk ov fv fs fd fo F fg fp Y hS hr) ⟨rfl, rfl, by decide, by decide, by decide⟩ (q0 := 0) rfl rfl (by decide) (by decide) rfl rfl (Nat.le_of_ble_eq_true rfl) dX4_give_1 ?_
  rintro v9 w9 ⟨rfl, fo1, F1, ⟨hO, hF⟩, rfl⟩
  refine g_ws (w' := wM ad cI cG th (cnt : Int) rm lt tk ov fv fs fd fo1 F1 fg fp Y) (st' := []) rfl rfl ?_
  refine g_aload_n C dX4_give_4 0 rfl ?_
  refine g_iload_n C dX4_give_5 1 rfl ?_
  refine g_callV (wr := ([] : va_W)) (st := []) [0, 1, 2, 3, 4, 5, 6, 7, 8, 9, 10, 11, 12, 13, 14, 15, 16, 17, 18, 19, 20, 21, 22, 23, 24, 25, 26, 27, 28, 29, 30] [] C cX4_70 (met_X4_covers l D cI cG cJ ad th cnt hc rm lt tk ov fv fs fd fo1 F1 fg fp Y hS hr hF p (hp)) ⟨rfl, rfl, by decide, by decide, by decide⟩ (q0 := 0) rfl rfl (by decide) (by decide) rfl rfl (Nat.le_of_ble_eq_true rfl) dX4_give_6 ?_
  rintro v9 w9 ⟨z9, rfl, rfl, rfl⟩
  refine g_ws (w' := wM ad cI cG th (cnt : Int) rm lt tk ov fv fs fd fo1 F1 fg fp Y) (st' := [.int (zI (LSm cnt fv fs rm p))]) rfl rfl ?_
  refine g_istore_n (L' := [(2, .int (zI (LSm cnt fv fs rm p))), (0, .ref (ad 0)), (1, .int (zI (p : Int)))]) C dX4_give_9 (by decide) rfl ?_
  refine g_iload_n C dX4_give_10 0 rfl ?_
  refine g_iconst C dX4_give_11 ?_
  refine g_icmp_ne 17 C dX4_give_12 (by decide) (zr_i (by omega) (by omega)) (zr_i (by omega) (by omega)) (fun c_12 => ?_) (fun c_12 => ?_)
  · refine g_aload_n C dX4_give_17 1 rfl ?_
    refine g_iload_n C dX4_give_18 0 rfl ?_
    refine g_top (((LSm cnt fv fs rm p).toNat : Nat) : Int) (by omega) ?_
    refine g_callV (wr := ([] : va_W)) (st := []) [0, 1, 2, 3, 4, 5, 6, 7, 8, 9, 10, 11, 12, 13, 14, 15, 16, 17, 18, 19, 20, 21, 22, 23, 24, 25, 26, 27, 28, 29, 30] [] C cX4_74 (met_X4_take l D cI cG cJ ad th cnt hc rm lt tk ov fv fs fd fo1 F1 fg fp Y hS hr hF hO (LSm cnt fv fs rm p).toNat (by omega)) ⟨rfl, rfl, by decide, by decide, by decide⟩ (q0 := 0) rfl rfl (by decide) (by decide) rfl rfl (Nat.le_of_ble_eq_true rfl) dX4_give_19 ?_
    rintro v9 w9 ⟨rfl, fg1, hg, rfl⟩
    refine g_ws (w' := wM ad cI cG th (cnt : Int) rm lt tk ov fv fs fd fo1 F1 fg1 fp Y) (st' := []) rfl rfl ?_
    refine g_iconst C dX4_give_22 ?_
    refine g_istore_n (L' := [(3, .int (zI 0)), (2, .int (zI (LSm cnt fv fs rm p))), (0, .ref (ad 0)), (1, .int (zI (p : Int)))]) C dX4_give_23 (by decide) rfl ?_
    have loop_24 : ∀ (fu : Nat) (i : Nat), (hi : i ≤ cnt) → cnt - i < fu → gW E 0 0 (wM ad cI cG th (cnt : Int) rm lt tk ov fv (cpy fs (fun j => fs j - fg1 j) i) fd fo1 F1 fg1 fp Y) 24 [(3, .int (zI (i : Int))), (0, .ref (ad 0)), (1, .int (zI (p : Int))), (2, .int (zI (LSm cnt fv fs rm p)))] [] := by
      intro fu
      induction fu with
      | zero => intro i hi h9; exact absurd h9 (Nat.not_lt_zero _)
      | succ fu ih_24 =>
        intro i hi hmu_24
        refine g_iload_n C dX4_give_24 0 rfl ?_
        refine g_aload_n C dX4_give_25 1 rfl ?_
        refine g_getf C fX4_43 0 rfl rfl dX4_give_26 ?_
        refine g_icmp_ge 53 C dX4_give_29 (by decide) (zr_i (by omega) (by omega)) (zr_i (by omega) (by omega)) (fun c_29 => ?_) (fun c_29 => ?_)
        · refine g_iload_n C dX4_give_53 3 rfl ?_
          exact ret _ _ _ _ _ _ (by decide) (by decide) dX4_give_54 (⟨rfl, fo1, F1, fg1, _, Or.inr ⟨c_12, hg, sb_eq hg⟩, by rw [show i = cnt by omega]⟩)
        · refine g_aload_n C dX4_give_32 1 rfl ?_
          refine g_getf C fX4_17 0 rfl rfl dX4_give_33 ?_
          refine g_iload_n C dX4_give_36 0 rfl ?_
          refine g_dup2 C dX4_give_37 rfl rfl ?_
          refine g_iald C 2 rfl (by decide) (by omega) (by omega) (v := ((cpy fs (fun j => fs j - fg1 j) i) i)) rfl dX4_give_38 ?_
          refine g_aload_n C dX4_give_39 1 rfl ?_
          refine g_getf C fX4_31 0 rfl rfl dX4_give_40 ?_
          refine g_iload_n C dX4_give_43 0 rfl ?_
          refine g_iald C 6 rfl (by decide) (by omega) (by omega) (v := (fg1 i)) rfl dX4_give_44 ?_
          refine g_isub C dX4_give_45 ?_
          refine g_top ((fun j => fs j - fg1 j) i) (by rw [cpy_g (Nat.le_refl _)]) ?_
          refine g_iast (w' := wM ad cI cG th (cnt : Int) rm lt tk ov fv (zU (cpy fs (fun j => fs j - fg1 j) i) i ((fun j => fs j - fg1 j) i)) fd fo1 F1 fg1 fp Y) C 2 rfl (by decide) (by omega) (by omega) rfl dX4_give_46 ?_
          refine g_iinc (L' := [(3, .int (zI ((i : Int) + 1))), (0, .ref (ad 0)), (1, .int (zI (p : Int))), (2, .int (zI (LSm cnt fv fs rm p)))]) C dX4_give_47 0 rfl (by decide) rfl ?_
          refine g_goto 24 C dX4_give_50 (by decide) ?_
          refine g_loc (L' := [(3, .int (zI ((i : Int) + 1))), (0, .ref (ad 0)), (1, .int (zI (p : Int))), (2, .int (zI (LSm cnt fv fs rm p)))]) [0, 1, 2, 3] rfl ?_
          refine g_ws (w' := wM ad cI cG th (cnt : Int) rm lt tk ov fv (cpy fs (fun j => fs j - fg1 j) (i + 1)) fd fo1 F1 fg1 fp Y) (by rw [cpy_s]) rfl ?_
          exact ih_24 (i + 1) (by omega) (by omega)
    refine g_loc (L' := [(3, .int (zI 0)), (0, .ref (ad 0)), (1, .int (zI (p : Int))), (2, .int (zI (LSm cnt fv fs rm p)))]) [0, 2, 3, 1] rfl ?_
    refine g_ws (w' := wM ad cI cG th (cnt : Int) rm lt tk ov fv (cpy fs (fun j => fs j - fg1 j) 0) fd fo1 F1 fg1 fp Y) (by rw [cpy_0]) rfl ?_
    exact loop_24 _ 0 (Nat.zero_le _) (Nat.lt_succ_self _)
  · refine g_iconst C dX4_give_15 ?_
    exact ret _ _ _ _ _ _ (by decide) (by decide) dX4_give_16 (⟨c_12.symm, fo1, F1, fg, fs, Or.inl ⟨c_12, rfl⟩, rfl⟩)
abbrev rmX4_printed : Room := { frames := 1, cells := 0, slots := 0, locals := 21 }
set_option maxHeartbeats 4000000 in
set_option maxRecDepth 100000 in
theorem met_X4_printed (l : Launch) (D : va_G) (cI cG cJ : ClassId) (ad : Nat → Nat) (th : Int) (cnt : Nat) (hc : cnt ≤ 8) (rm lt tk ov : Int) (fv fs fd fo : Nat → Int) (F : Nat → Nat → Int) (fg fp : Nat → Int) (Y : Nat → Nat → Int) (hv : ∀ j, j < cnt → 1 ≤ fv j ∧ fv j ≤ 60) (more : Int) (hm : 0 ≤ more ∧ more ≤ 60)  : gMet l yX4_printed cX4_printed 5 none rmX4_printed D cI cG cJ [.ref (ad 0), .int (zI more)] (wM ad cI cG th (cnt : Int) rm lt tk ov fv fs fd fo F fg fp Y) (gN (fun w9 => ∃ fp1 : Nat → Int, Pk fv cnt more fp1 301 ∧ w9 = wM ad cI cG th (cnt : Int) rm lt tk ov fv fs fd fo F fg fp1 Y)) := by
  have hv1 : ∀ j, j < cnt → 1 ≤ fv j := fun j hj => (hv j hj).1
  refine gMet_N (by decide) rfl (Nat.le_of_ble_eq_true rfl) (fun E C ret => ?_)
  refine g_aload_n C dX4_printed_0 0 rfl ?_
  refine g_getf C fX4_34 0 rfl rfl dX4_printed_1 ?_
  refine g_iconst C dX4_printed_4 ?_
  refine g_iconst C dX4_printed_5 ?_
  refine g_iast (w' := wM ad cI cG th (cnt : Int) rm lt tk ov fv fs fd fo F fg (zU fp 0 0) Y) C 7 rfl (by decide) (by omega) (by omega) rfl dX4_printed_6 ?_
  refine g_iconst C dX4_printed_7 ?_
  refine g_istore_n (L' := [(2, .int (zI 1)), (0, .ref (ad 0)), (1, .int (zI more))]) C dX4_printed_8 (by decide) rfl ?_
  have loop_9 : ∀ (fu : Nat) (p : Nat) (fp1 : Nat → Int), (hp1 : 1 ≤ p) → (hp : p ≤ 301) → (hP : Pk fv cnt more fp1 p) → 301 - p < fu → gW E 0 0 (wM ad cI cG th (cnt : Int) rm lt tk ov fv fs fd fo F fg fp1 Y) 9 [(2, .int (zI (p : Int))), (0, .ref (ad 0)), (1, .int (zI more))] [] := by
    intro fu
    induction fu with
    | zero => intro p fp1 hp1 hp hP h9; exact absurd h9 (Nat.not_lt_zero _)
    | succ fu ih_9 =>
      intro p fp1 hp1 hp hP hmu_9
      have hbd := hP.bd hv1
      refine g_iload_n C dX4_printed_9 0 rfl ?_
      refine g_sipush C dX4_printed_10 (by decide) ?_
      refine g_icmp_gt 105 C dX4_printed_13 (by decide) (zr_i (by omega) (by omega)) (zr_i (by omega) (by omega)) (fun c_13 => ?_) (fun c_13 => ?_)
      · have e9 : p = 301 := by omega
        subst e9
        exact ret _ _ _ _ _ (by decide) (by decide) dX4_printed_105 (⟨fp1, hP, rfl⟩)
      · refine g_iload_n C dX4_printed_16 2 rfl ?_
        refine g_if_le 38 C dX4_printed_17 (by decide) (zr_i (by omega) (by omega)) (fun c_17 => ?_) (fun c_17 => ?_)
        · refine g_sipush C dX4_printed_38 (by decide) ?_
          refine g_top (stM fp1 more p) (by first | exact (if_neg (by omega)).symm | exact (if_pos (by omega)).symm) ?_
          refine g_istore_n (L' := [(3, .int (zI (stM fp1 more p))), (2, .int (zI (p : Int))), (0, .ref (ad 0)), (1, .int (zI more))]) C dX4_printed_41 (by decide) rfl ?_
          refine g_iconst C dX4_printed_42 ?_
          refine g_istore (L' := [(4, .int (zI 0)), (3, .int (zI (stM fp1 more p))), (2, .int (zI (p : Int))), (0, .ref (ad 0)), (1, .int (zI more))]) C dX4_printed_43 (by decide) rfl ?_
          have loop_45 : ∀ (fu : Nat) (i : Nat), (hi : i ≤ cnt) → cnt - i < fu → gW E 0 0 (wM ad cI cG th (cnt : Int) rm lt tk ov fv fs fd fo F fg fp1 Y) 45 [(4, .int (zI (i : Int))), (3, .int (zI (pMin fp1 fv p (stM fp1 more p) i))), (2, .int (zI (p : Int))), (0, .ref (ad 0)), (1, .int (zI more))] [] := by
            intro fu
            induction fu with
            | zero => intro i hi h9; exact absurd h9 (Nat.not_lt_zero _)
            | succ fu ih_45 =>
              intro i hi hmu_45
              have hb2 := pr_bd hP hv1 i hi
              refine g_iload C dX4_printed_45 0 rfl ?_
              refine g_aload_n C dX4_printed_47 3 rfl ?_
              refine g_getf C fX4_43 0 rfl rfl dX4_printed_48 ?_
              refine g_icmp_ge 92 C dX4_printed_51 (by decide) (zr_i (by omega) (by omega)) (zr_i (by omega) (by omega)) (fun c_51 => ?_) (fun c_51 => ?_)
              · have e9 : cnt = i := by omega
                subst e9
                refine g_aload_n C dX4_printed_92 3 rfl ?_
                refine g_getf C fX4_34 0 rfl rfl dX4_printed_93 ?_
                refine g_iload_n C dX4_printed_96 2 rfl ?_
                refine g_iload_n C dX4_printed_97 1 rfl ?_
                refine g_iast (w' := wM ad cI cG th (cnt : Int) rm lt tk ov fv fs fd fo F fg (zU fp1 p (pMin fp1 fv p (stM fp1 more p) cnt)) Y) C 7 rfl (by decide) (by omega) (by omega) rfl dX4_printed_98 ?_
                refine g_iinc (L' := [(2, .int (zI ((p : Int) + 1))), (4, .int (zI (cnt : Int))), (3, .int (zI (pMin fp1 fv p (stM fp1 more p) cnt))), (0, .ref (ad 0)), (1, .int (zI more))]) C dX4_printed_99 2 rfl (by decide) rfl ?_
                refine g_goto 9 C dX4_printed_102 (by decide) ?_
                refine g_loc (L' := [(2, .int (zI ((p : Int) + 1))), (0, .ref (ad 0)), (1, .int (zI more))]) [0, 3, 4] rfl ?_
                exact ih_9 (p + 1) (zU fp1 p (pMin fp1 fv p (stM fp1 more p) cnt)) (by omega) (by omega) (hP.step hp1 hv1 rfl) (by omega)
              · refine g_aload_n C dX4_printed_54 3 rfl ?_
                refine g_getf C fX4_13 0 rfl rfl dX4_printed_55 ?_
                refine g_iload C dX4_printed_58 0 rfl ?_
                refine g_iald C 1 rfl (by decide) (by omega) (by omega) (v := (fv i)) rfl dX4_printed_60 ?_
                have hv9 := hv i (by omega)
                refine g_iload_n C dX4_printed_61 2 rfl ?_
                refine g_icmp_gt 86 C dX4_printed_62 (by decide) (zr_i (by omega) (by omega)) (zr_i (by omega) (by omega)) (fun c_62 => ?_) (fun c_62 => ?_)
                · refine g_iinc (L' := [(4, .int (zI ((i : Int) + 1))), (3, .int (zI (pMin fp1 fv p (stM fp1 more p) i))), (2, .int (zI (p : Int))), (0, .ref (ad 0)), (1, .int (zI more))]) C dX4_printed_86 0 rfl (by decide) rfl ?_
                  refine g_goto 45 C dX4_printed_89 (by decide) ?_
                  refine g_loc (L' := [(4, .int (zI ((i : Int) + 1))), (3, .int (zI (pMin fp1 fv p (stM fp1 more p) i))), (2, .int (zI (p : Int))), (0, .ref (ad 0)), (1, .int (zI more))]) [0, 1, 2, 3, 4] rfl ?_
                  refine g_lw (w' := wM ad cI cG th (cnt : Int) rm lt tk ov fv fs fd fo F fg fp1 Y) (L' := [(4, .int (zI ((i + 1 : Nat) : Int))), (3, .int (zI (pMin fp1 fv p (stM fp1 more p) (i + 1)))), (2, .int (zI (p : Int))), (0, .ref (ad 0)), (1, .int (zI more))]) rfl (by rw [pMin_f (show (p : Int) - fv i < 0 by omega)]; rfl) ?_
                  exact ih_45 (i + 1) (by omega) (by omega)
                · refine g_iload_n C dX4_printed_65 1 rfl ?_
                  refine g_aload_n C dX4_printed_66 3 rfl ?_
                  refine g_getf C fX4_34 0 rfl rfl dX4_printed_67 ?_
                  refine g_iload_n C dX4_printed_70 2 rfl ?_
                  refine g_aload_n C dX4_printed_71 3 rfl ?_
                  refine g_getf C fX4_13 0 rfl rfl dX4_printed_72 ?_
                  refine g_iload C dX4_printed_75 0 rfl ?_
                  refine g_iald C 1 rfl (by decide) (by omega) (by omega) (v := (fv i)) rfl dX4_printed_77 ?_
                  refine g_isub C dX4_printed_78 ?_
                  refine g_iald C 7 rfl (by decide) (by omega) (by omega) (v := (fp1 ((((p : Int) - (fv i))).toNat))) rfl dX4_printed_79 ?_
                  refine g_iconst C dX4_printed_80 ?_
                  have hb3 := hbd ((p : Int) - fv i).toNat (by omega)
                  refine g_iadd C dX4_printed_81 ?_
                  refine g_min C mX4_50 (zr_i (by omega) (by omega)) (zr_i (by omega) (by omega)) (by decide) (Nat.le_of_ble_eq_true rfl) dX4_printed_82 ?_
                  refine g_istore_n (L' := [(3, .int (zI (min (pMin fp1 fv p (stM fp1 more p) i) ((fp1 ((((p : Int) - (fv i))).toNat)) + 1)))), (4, .int (zI (i : Int))), (2, .int (zI (p : Int))), (0, .ref (ad 0)), (1, .int (zI more))]) C dX4_printed_85 (by decide) rfl ?_
                  refine g_iinc (L' := [(4, .int (zI ((i : Int) + 1))), (3, .int (zI (min (pMin fp1 fv p (stM fp1 more p) i) ((fp1 ((((p : Int) - (fv i))).toNat)) + 1)))), (2, .int (zI (p : Int))), (0, .ref (ad 0)), (1, .int (zI more))]) C dX4_printed_86 1 rfl (by decide) rfl ?_
                  refine g_goto 45 C dX4_printed_89 (by decide) ?_
                  refine g_loc (L' := [(4, .int (zI ((i : Int) + 1))), (3, .int (zI (min (pMin fp1 fv p (stM fp1 more p) i) ((fp1 ((((p : Int) - (fv i))).toNat)) + 1)))), (2, .int (zI (p : Int))), (0, .ref (ad 0)), (1, .int (zI more))]) [0, 1, 2, 3, 4] rfl ?_
                  refine g_lw (w' := wM ad cI cG th (cnt : Int) rm lt tk ov fv fs fd fo F fg fp1 Y) (L' := [(4, .int (zI ((i + 1 : Nat) : Int))), (3, .int (zI (pMin fp1 fv p (stM fp1 more p) (i + 1)))), (2, .int (zI (p : Int))), (0, .ref (ad 0)), (1, .int (zI more))]) rfl (by rw [← pMin_t (show ¬ (p : Int) - fv i < 0 by omega)]; rfl) ?_
                  exact ih_45 (i + 1) (by omega) (by omega)
          refine g_loc (L' := [(4, .int (zI 0)), (3, .int (zI (stM fp1 more p))), (2, .int (zI (p : Int))), (0, .ref (ad 0)), (1, .int (zI more))]) [0, 1, 2, 3, 4] rfl ?_
          exact loop_45 _ 0 (Nat.zero_le _) (Nat.lt_succ_self _)
        · refine g_iload_n C dX4_printed_20 2 rfl ?_
          refine g_iload_n C dX4_printed_21 0 rfl ?_
          refine g_icmp_gt 38 C dX4_printed_22 (by decide) (zr_i (by omega) (by omega)) (zr_i (by omega) (by omega)) (fun c_22 => ?_) (fun c_22 => ?_)
          · refine g_sipush C dX4_printed_38 (by decide) ?_
            refine g_top (stM fp1 more p) (by first | exact (if_neg (by omega)).symm | exact (if_pos (by omega)).symm) ?_
            refine g_istore_n (L' := [(3, .int (zI (stM fp1 more p))), (2, .int (zI (p : Int))), (0, .ref (ad 0)), (1, .int (zI more))]) C dX4_printed_41 (by decide) rfl ?_
            refine g_iconst C dX4_printed_42 ?_
            refine g_istore (L' := [(4, .int (zI 0)), (3, .int (zI (stM fp1 more p))), (2, .int (zI (p : Int))), (0, .ref (ad 0)), (1, .int (zI more))]) C dX4_printed_43 (by decide) rfl ?_
            have loop_45 : ∀ (fu : Nat) (i : Nat), (hi : i ≤ cnt) → cnt - i < fu → gW E 0 0 (wM ad cI cG th (cnt : Int) rm lt tk ov fv fs fd fo F fg fp1 Y) 45 [(4, .int (zI (i : Int))), (3, .int (zI (pMin fp1 fv p (stM fp1 more p) i))), (2, .int (zI (p : Int))), (0, .ref (ad 0)), (1, .int (zI more))] [] := by
              intro fu
              induction fu with
              | zero => intro i hi h9; exact absurd h9 (Nat.not_lt_zero _)
              | succ fu ih_45 =>
                intro i hi hmu_45
                have hb2 := pr_bd hP hv1 i hi
                refine g_iload C dX4_printed_45 0 rfl ?_
                refine g_aload_n C dX4_printed_47 3 rfl ?_
                refine g_getf C fX4_43 0 rfl rfl dX4_printed_48 ?_
                refine g_icmp_ge 92 C dX4_printed_51 (by decide) (zr_i (by omega) (by omega)) (zr_i (by omega) (by omega)) (fun c_51 => ?_) (fun c_51 => ?_)
                · have e9 : cnt = i := by omega
                  subst e9
                  refine g_aload_n C dX4_printed_92 3 rfl ?_
                  refine g_getf C fX4_34 0 rfl rfl dX4_printed_93 ?_
                  refine g_iload_n C dX4_printed_96 2 rfl ?_
                  refine g_iload_n C dX4_printed_97 1 rfl ?_
                  refine g_iast (w' := wM ad cI cG th (cnt : Int) rm lt tk ov fv fs fd fo F fg (zU fp1 p (pMin fp1 fv p (stM fp1 more p) cnt)) Y) C 7 rfl (by decide) (by omega) (by omega) rfl dX4_printed_98 ?_
                  refine g_iinc (L' := [(2, .int (zI ((p : Int) + 1))), (4, .int (zI (cnt : Int))), (3, .int (zI (pMin fp1 fv p (stM fp1 more p) cnt))), (0, .ref (ad 0)), (1, .int (zI more))]) C dX4_printed_99 2 rfl (by decide) rfl ?_
                  refine g_goto 9 C dX4_printed_102 (by decide) ?_
                  refine g_loc (L' := [(2, .int (zI ((p : Int) + 1))), (0, .ref (ad 0)), (1, .int (zI more))]) [0, 3, 4] rfl ?_
                  exact ih_9 (p + 1) (zU fp1 p (pMin fp1 fv p (stM fp1 more p) cnt)) (by omega) (by omega) (hP.step hp1 hv1 rfl) (by omega)
                · refine g_aload_n C dX4_printed_54 3 rfl ?_
                  refine g_getf C fX4_13 0 rfl rfl dX4_printed_55 ?_
                  refine g_iload C dX4_printed_58 0 rfl ?_
                  refine g_iald C 1 rfl (by decide) (by omega) (by omega) (v := (fv i)) rfl dX4_printed_60 ?_
                  have hv9 := hv i (by omega)
                  refine g_iload_n C dX4_printed_61 2 rfl ?_
                  refine g_icmp_gt 86 C dX4_printed_62 (by decide) (zr_i (by omega) (by omega)) (zr_i (by omega) (by omega)) (fun c_62 => ?_) (fun c_62 => ?_)
                  · refine g_iinc (L' := [(4, .int (zI ((i : Int) + 1))), (3, .int (zI (pMin fp1 fv p (stM fp1 more p) i))), (2, .int (zI (p : Int))), (0, .ref (ad 0)), (1, .int (zI more))]) C dX4_printed_86 0 rfl (by decide) rfl ?_
                    refine g_goto 45 C dX4_printed_89 (by decide) ?_
                    refine g_loc (L' := [(4, .int (zI ((i : Int) + 1))), (3, .int (zI (pMin fp1 fv p (stM fp1 more p) i))), (2, .int (zI (p : Int))), (0, .ref (ad 0)), (1, .int (zI more))]) [0, 1, 2, 3, 4] rfl ?_
                    refine g_lw (w' := wM ad cI cG th (cnt : Int) rm lt tk ov fv fs fd fo F fg fp1 Y) (L' := [(4, .int (zI ((i + 1 : Nat) : Int))), (3, .int (zI (pMin fp1 fv p (stM fp1 more p) (i + 1)))), (2, .int (zI (p : Int))), (0, .ref (ad 0)), (1, .int (zI more))]) rfl (by rw [pMin_f (show (p : Int) - fv i < 0 by omega)]; rfl) ?_
                    exact ih_45 (i + 1) (by omega) (by omega)
                  · refine g_iload_n C dX4_printed_65 1 rfl ?_
                    refine g_aload_n C dX4_printed_66 3 rfl ?_
                    refine g_getf C fX4_34 0 rfl rfl dX4_printed_67 ?_
                    refine g_iload_n C dX4_printed_70 2 rfl ?_
                    refine g_aload_n C dX4_printed_71 3 rfl ?_
                    refine g_getf C fX4_13 0 rfl rfl dX4_printed_72 ?_
                    refine g_iload C dX4_printed_75 0 rfl ?_
                    refine g_iald C 1 rfl (by decide) (by omega) (by omega) (v := (fv i)) rfl dX4_printed_77 ?_
                    refine g_isub C dX4_printed_78 ?_
                    refine g_iald C 7 rfl (by decide) (by omega) (by omega) (v := (fp1 ((((p : Int) - (fv i))).toNat))) rfl dX4_printed_79 ?_
                    refine g_iconst C dX4_printed_80 ?_
                    have hb3 := hbd ((p : Int) - fv i).toNat (by omega)
                    refine g_iadd C dX4_printed_81 ?_
                    refine g_min C mX4_50 (zr_i (by omega) (by omega)) (zr_i (by omega) (by omega)) (by decide) (Nat.le_of_ble_eq_true rfl) dX4_printed_82 ?_
                    refine g_istore_n (L' := [(3, .int (zI (min (pMin fp1 fv p (stM fp1 more p) i) ((fp1 ((((p : Int) - (fv i))).toNat)) + 1)))), (4, .int (zI (i : Int))), (2, .int (zI (p : Int))), (0, .ref (ad 0)), (1, .int (zI more))]) C dX4_printed_85 (by decide) rfl ?_
                    refine g_iinc (L' := [(4, .int (zI ((i : Int) + 1))), (3, .int (zI (min (pMin fp1 fv p (stM fp1 more p) i) ((fp1 ((((p : Int) - (fv i))).toNat)) + 1)))), (2, .int (zI (p : Int))), (0, .ref (ad 0)), (1, .int (zI more))]) C dX4_printed_86 1 rfl (by decide) rfl ?_
                    refine g_goto 45 C dX4_printed_89 (by decide) ?_
                    refine g_loc (L' := [(4, .int (zI ((i : Int) + 1))), (3, .int (zI (min (pMin fp1 fv p (stM fp1 more p) i) ((fp1 ((((p : Int) - (fv i))).toNat)) + 1)))), (2, .int (zI (p : Int))), (0, .ref (ad 0)), (1, .int (zI more))]) [0, 1, 2, 3, 4] rfl ?_
                    refine g_lw (w' := wM ad cI cG th (cnt : Int) rm lt tk ov fv fs fd fo F fg fp1 Y) (L' := [(4, .int (zI ((i + 1 : Nat) : Int))), (3, .int (zI (pMin fp1 fv p (stM fp1 more p) (i + 1)))), (2, .int (zI (p : Int))), (0, .ref (ad 0)), (1, .int (zI more))]) rfl (by rw [← pMin_t (show ¬ (p : Int) - fv i < 0 by omega)]; rfl) ?_
                    exact ih_45 (i + 1) (by omega) (by omega)
            refine g_loc (L' := [(4, .int (zI 0)), (3, .int (zI (stM fp1 more p))), (2, .int (zI (p : Int))), (0, .ref (ad 0)), (1, .int (zI more))]) [0, 1, 2, 3, 4] rfl ?_
            exact loop_45 _ 0 (Nat.zero_le _) (Nat.lt_succ_self _)
          · refine g_aload_n C dX4_printed_25 1 rfl ?_
            refine g_getf C fX4_34 0 rfl rfl dX4_printed_26 ?_
            refine g_iload_n C dX4_printed_29 0 rfl ?_
            refine g_iload_n C dX4_printed_30 2 rfl ?_
            refine g_isub C dX4_printed_31 ?_
            refine g_iald C 7 rfl (by decide) (by omega) (by omega) (v := (fp1 ((((p : Int) - more)).toNat))) rfl dX4_printed_32 ?_
            refine g_iconst C dX4_printed_33 ?_
            refine g_iadd C dX4_printed_34 ?_
            refine g_goto 41 C dX4_printed_35 (by decide) ?_
            refine g_top (stM fp1 more p) (by first | exact (if_neg (by omega)).symm | exact (if_pos (by omega)).symm) ?_
            refine g_istore_n (L' := [(3, .int (zI (stM fp1 more p))), (2, .int (zI (p : Int))), (0, .ref (ad 0)), (1, .int (zI more))]) C dX4_printed_41 (by decide) rfl ?_
            refine g_iconst C dX4_printed_42 ?_
            refine g_istore (L' := [(4, .int (zI 0)), (3, .int (zI (stM fp1 more p))), (2, .int (zI (p : Int))), (0, .ref (ad 0)), (1, .int (zI more))]) C dX4_printed_43 (by decide) rfl ?_
            have loop_45 : ∀ (fu : Nat) (i : Nat), (hi : i ≤ cnt) → cnt - i < fu → gW E 0 0 (wM ad cI cG th (cnt : Int) rm lt tk ov fv fs fd fo F fg fp1 Y) 45 [(4, .int (zI (i : Int))), (3, .int (zI (pMin fp1 fv p (stM fp1 more p) i))), (2, .int (zI (p : Int))), (0, .ref (ad 0)), (1, .int (zI more))] [] := by
              intro fu
              induction fu with
              | zero => intro i hi h9; exact absurd h9 (Nat.not_lt_zero _)
              | succ fu ih_45 =>
                intro i hi hmu_45
                have hb2 := pr_bd hP hv1 i hi
                refine g_iload C dX4_printed_45 0 rfl ?_
                refine g_aload_n C dX4_printed_47 3 rfl ?_
                refine g_getf C fX4_43 0 rfl rfl dX4_printed_48 ?_
                refine g_icmp_ge 92 C dX4_printed_51 (by decide) (zr_i (by omega) (by omega)) (zr_i (by omega) (by omega)) (fun c_51 => ?_) (fun c_51 => ?_)
                · have e9 : cnt = i := by omega
                  subst e9
                  refine g_aload_n C dX4_printed_92 3 rfl ?_
                  refine g_getf C fX4_34 0 rfl rfl dX4_printed_93 ?_
                  refine g_iload_n C dX4_printed_96 2 rfl ?_
                  refine g_iload_n C dX4_printed_97 1 rfl ?_
                  refine g_iast (w' := wM ad cI cG th (cnt : Int) rm lt tk ov fv fs fd fo F fg (zU fp1 p (pMin fp1 fv p (stM fp1 more p) cnt)) Y) C 7 rfl (by decide) (by omega) (by omega) rfl dX4_printed_98 ?_
                  refine g_iinc (L' := [(2, .int (zI ((p : Int) + 1))), (4, .int (zI (cnt : Int))), (3, .int (zI (pMin fp1 fv p (stM fp1 more p) cnt))), (0, .ref (ad 0)), (1, .int (zI more))]) C dX4_printed_99 2 rfl (by decide) rfl ?_
                  refine g_goto 9 C dX4_printed_102 (by decide) ?_
                  refine g_loc (L' := [(2, .int (zI ((p : Int) + 1))), (0, .ref (ad 0)), (1, .int (zI more))]) [0, 3, 4] rfl ?_
                  exact ih_9 (p + 1) (zU fp1 p (pMin fp1 fv p (stM fp1 more p) cnt)) (by omega) (by omega) (hP.step hp1 hv1 rfl) (by omega)
                · refine g_aload_n C dX4_printed_54 3 rfl ?_
                  refine g_getf C fX4_13 0 rfl rfl dX4_printed_55 ?_
                  refine g_iload C dX4_printed_58 0 rfl ?_
                  refine g_iald C 1 rfl (by decide) (by omega) (by omega) (v := (fv i)) rfl dX4_printed_60 ?_
                  have hv9 := hv i (by omega)
                  refine g_iload_n C dX4_printed_61 2 rfl ?_
                  refine g_icmp_gt 86 C dX4_printed_62 (by decide) (zr_i (by omega) (by omega)) (zr_i (by omega) (by omega)) (fun c_62 => ?_) (fun c_62 => ?_)
                  · refine g_iinc (L' := [(4, .int (zI ((i : Int) + 1))), (3, .int (zI (pMin fp1 fv p (stM fp1 more p) i))), (2, .int (zI (p : Int))), (0, .ref (ad 0)), (1, .int (zI more))]) C dX4_printed_86 0 rfl (by decide) rfl ?_
                    refine g_goto 45 C dX4_printed_89 (by decide) ?_
                    refine g_loc (L' := [(4, .int (zI ((i : Int) + 1))), (3, .int (zI (pMin fp1 fv p (stM fp1 more p) i))), (2, .int (zI (p : Int))), (0, .ref (ad 0)), (1, .int (zI more))]) [0, 1, 2, 3, 4] rfl ?_
                    refine g_lw (w' := wM ad cI cG th (cnt : Int) rm lt tk ov fv fs fd fo F fg fp1 Y) (L' := [(4, .int (zI ((i + 1 : Nat) : Int))), (3, .int (zI (pMin fp1 fv p (stM fp1 more p) (i + 1)))), (2, .int (zI (p : Int))), (0, .ref (ad 0)), (1, .int (zI more))]) rfl (by rw [pMin_f (show (p : Int) - fv i < 0 by omega)]; rfl) ?_
                    exact ih_45 (i + 1) (by omega) (by omega)
                  · refine g_iload_n C dX4_printed_65 1 rfl ?_
                    refine g_aload_n C dX4_printed_66 3 rfl ?_
                    refine g_getf C fX4_34 0 rfl rfl dX4_printed_67 ?_
                    refine g_iload_n C dX4_printed_70 2 rfl ?_
                    refine g_aload_n C dX4_printed_71 3 rfl ?_
                    refine g_getf C fX4_13 0 rfl rfl dX4_printed_72 ?_
                    refine g_iload C dX4_printed_75 0 rfl ?_
                    refine g_iald C 1 rfl (by decide) (by omega) (by omega) (v := (fv i)) rfl dX4_printed_77 ?_
                    refine g_isub C dX4_printed_78 ?_
                    refine g_iald C 7 rfl (by decide) (by omega) (by omega) (v := (fp1 ((((p : Int) - (fv i))).toNat))) rfl dX4_printed_79 ?_
                    refine g_iconst C dX4_printed_80 ?_
                    have hb3 := hbd ((p : Int) - fv i).toNat (by omega)
                    refine g_iadd C dX4_printed_81 ?_
                    refine g_min C mX4_50 (zr_i (by omega) (by omega)) (zr_i (by omega) (by omega)) (by decide) (Nat.le_of_ble_eq_true rfl) dX4_printed_82 ?_
                    refine g_istore_n (L' := [(3, .int (zI (min (pMin fp1 fv p (stM fp1 more p) i) ((fp1 ((((p : Int) - (fv i))).toNat)) + 1)))), (4, .int (zI (i : Int))), (2, .int (zI (p : Int))), (0, .ref (ad 0)), (1, .int (zI more))]) C dX4_printed_85 (by decide) rfl ?_
                    refine g_iinc (L' := [(4, .int (zI ((i : Int) + 1))), (3, .int (zI (min (pMin fp1 fv p (stM fp1 more p) i) ((fp1 ((((p : Int) - (fv i))).toNat)) + 1)))), (2, .int (zI (p : Int))), (0, .ref (ad 0)), (1, .int (zI more))]) C dX4_printed_86 1 rfl (by decide) rfl ?_
                    refine g_goto 45 C dX4_printed_89 (by decide) ?_
                    refine g_loc (L' := [(4, .int (zI ((i : Int) + 1))), (3, .int (zI (min (pMin fp1 fv p (stM fp1 more p) i) ((fp1 ((((p : Int) - (fv i))).toNat)) + 1)))), (2, .int (zI (p : Int))), (0, .ref (ad 0)), (1, .int (zI more))]) [0, 1, 2, 3, 4] rfl ?_
                    refine g_lw (w' := wM ad cI cG th (cnt : Int) rm lt tk ov fv fs fd fo F fg fp1 Y) (L' := [(4, .int (zI ((i + 1 : Nat) : Int))), (3, .int (zI (pMin fp1 fv p (stM fp1 more p) (i + 1)))), (2, .int (zI (p : Int))), (0, .ref (ad 0)), (1, .int (zI more))]) rfl (by rw [← pMin_t (show ¬ (p : Int) - fv i < 0 by omega)]; rfl) ?_
                    exact ih_45 (i + 1) (by omega) (by omega)
            refine g_loc (L' := [(4, .int (zI 0)), (3, .int (zI (stM fp1 more p))), (2, .int (zI (p : Int))), (0, .ref (ad 0)), (1, .int (zI more))]) [0, 1, 2, 3, 4] rfl ?_
            exact loop_45 _ 0 (Nat.zero_le _) (Nat.lt_succ_self _)
  refine g_loc (L' := [(2, .int (zI 1)), (0, .ref (ad 0)), (1, .int (zI more))]) [0, 1, 2] rfl ?_
  exact loop_9 _ 1 (zU fp 0 0) (Nat.le_refl _) (by omega) (⟨rfl, fun q h8 h9 => absurd h9 (by omega)⟩) (Nat.lt_succ_self _)
abbrev rmX4_printReach : Room := { frames := 2, cells := 0, slots := 0, locals := 45 }
set_option maxHeartbeats 4000000 in
set_option maxRecDepth 100000 in
theorem met_X4_printReach (l : Launch) (D : va_G) (cI cG cJ : ClassId) (ad : Nat → Nat) (th : Int) (cnt : Nat) (hc : cnt ≤ 8) (rm lt tk ov : Int) (fv fs fd fo : Nat → Int) (F : Nat → Nat → Int) (fg fp : Nat → Int) (Y : Nat → Nat → Int) (hv : ∀ j, j < cnt → 1 ≤ fv j ∧ fv j ≤ 60) (more : Int) (hm : 0 ≤ more ∧ more ≤ 60) (it : Int) (hit : 0 ≤ it ∧ it ≤ 12)  : gMet l yX4_printReach cX4_printReach 4 (some .int) rmX4_printReach D cI cG cJ [.ref (ad 0), .int (zI more), .int (zI it)] (wM ad cI cG th (cnt : Int) rm lt tk ov fv fs fd fo F fg fp Y) (gI (fun z w9 => z = (RP fv cnt more it : Int) ∧ ∃ fp1 : Nat → Int, w9 = wM ad cI cG th (cnt : Int) rm lt tk ov fv fs fd fo F fg fp1 Y)) := by
  have hv1 : ∀ j, j < cnt → 1 ≤ fv j := fun j hj => (hv j hj).1
  refine gMet_I (by decide) rfl (Nat.le_of_ble_eq_true rfl) (fun E C ret => ?_)
  refine g_aload_n C dX4_printReach_0 0 rfl ?_
  refine g_iload_n C dX4_printReach_1 1 rfl ?_
  refine g_callV (wr := ([] : va_W)) (st := []) [0, 1, 2, 3, 4, 5, 6, 7, 8, 9, 10, 11, 12, 13, 14, 15, 16, 17, 18, 19, 20, 21, 22, 23, 24, 25, 26, 27, 28, 29, 30] [] C cX4_77 (met_X4_printed l D cI cG cJ ad th cnt hc rm lt tk ov fv fs fd fo F fg fp Y hv more (hm)) ⟨rfl, rfl, by decide, by decide, by decide⟩ (q0 := 0) rfl rfl (by decide) (by decide) rfl rfl (Nat.le_of_ble_eq_true rfl) dX4_printReach_2 ?_
  rintro v9 w9 ⟨rfl, fp1, hP, rfl⟩
  refine g_ws (w' := wM ad cI cG th (cnt : Int) rm lt tk ov fv fs fd fo F fg fp1 Y) (st' := []) rfl rfl ?_
  have hrp : RP fv cnt more it = rch fp1 it 300 0 := rch_congr 300 0 (fun j h8 h9 => (hP.eq hv1 (by omega)).symm)
  refine g_iconst C dX4_printReach_5 ?_
  refine g_istore_n (L' := [(3, .int (zI 0)), (0, .ref (ad 0)), (1, .int (zI more)), (2, .int (zI it))]) C dX4_printReach_6 (by decide) rfl ?_
  have loop_7 : ∀ (fu : Nat) (p : Nat), (hi : p ≤ 300) → (he : rch fp1 it 300 0 = rch fp1 it (300 - p) p) → 300 - p < fu → gW E 0 0 (wM ad cI cG th (cnt : Int) rm lt tk ov fv fs fd fo F fg fp1 Y) 7 [(3, .int (zI (p : Int))), (0, .ref (ad 0)), (1, .int (zI more)), (2, .int (zI it))] [] := by
    intro fu
    induction fu with
    | zero => intro p hi he h9; exact absurd h9 (Nat.not_lt_zero _)
    | succ fu ih_7 =>
      intro p hi he hmu_7
      refine g_iload_n C dX4_printReach_7 0 rfl ?_
      refine g_sipush C dX4_printReach_8 (by decide) ?_
      refine g_icmp_ge 32 C dX4_printReach_11 (by decide) (zr_i (by omega) (by omega)) (zr_i (by omega) (by omega)) (fun c_11 => ?_) (fun c_11 => ?_)
      · refine g_iload_n C dX4_printReach_32 0 rfl ?_
        exact ret _ _ _ _ _ _ (by decide) (by decide) dX4_printReach_33 (⟨by rw [hrp, he, show p = 300 by omega]; rfl, fp1, rfl⟩)
      · refine g_aload_n C dX4_printReach_14 1 rfl ?_
        refine g_getf C fX4_34 0 rfl rfl dX4_printReach_15 ?_
        refine g_iload_n C dX4_printReach_18 0 rfl ?_
        refine g_iconst C dX4_printReach_19 ?_
        refine g_iadd C dX4_printReach_20 ?_
        refine g_iald C 7 rfl (by decide) (by omega) (by omega) (v := (fp1 (p + 1))) rfl dX4_printReach_21 ?_
        have hb9 := hP.bd hv1 (p + 1) (by omega)
        refine g_iload_n C dX4_printReach_22 3 rfl ?_
        refine g_icmp_gt 32 C dX4_printReach_23 (by decide) (zr_i (by omega) (by omega)) (zr_i (by omega) (by omega)) (fun c_23 => ?_) (fun c_23 => ?_)
        · refine g_iload_n C dX4_printReach_32 0 rfl ?_
          exact ret _ _ _ _ _ _ (by decide) (by decide) dX4_printReach_33 (⟨by rw [hrp, he, rch_f (by omega)], fp1, rfl⟩)
        · refine g_iinc (L' := [(3, .int (zI ((p : Int) + 1))), (0, .ref (ad 0)), (1, .int (zI more)), (2, .int (zI it))]) C dX4_printReach_26 0 rfl (by decide) rfl ?_
          refine g_goto 7 C dX4_printReach_29 (by decide) ?_
          refine g_loc (L' := [(3, .int (zI ((p : Int) + 1))), (0, .ref (ad 0)), (1, .int (zI more)), (2, .int (zI it))]) [0, 1, 2, 3] rfl ?_
          exact ih_7 (p + 1) (by omega) (by rw [he, show 300 - p = (300 - (p + 1)) + 1 by omega, rch_t (by omega)]) (by omega)
  refine g_loc (L' := [(3, .int (zI 0)), (0, .ref (ad 0)), (1, .int (zI more)), (2, .int (zI it))]) [0, 1, 2, 3] rfl ?_
  exact loop_7 _ 0 (Nat.zero_le _) rfl (Nat.lt_succ_self _)
