abbrev rmX0_fill : Room := { frames := 1, cells := 0, slots := 0, locals := 21 }
set_option maxHeartbeats 4000000 in
set_option maxRecDepth 100000 in
theorem met_X0_fill (l : Launch) (D : va_G) (cI cG cJ : ClassId) (ad : Nat → Nat) (cnt : Nat) (hc : cnt ≤ 8) (fv fs fd : Nat → Int) (hv : ∀ j, j < cnt → 1 ≤ fv j ∧ fv j ≤ 60) (bd : Nat → Nat) (fa fb : Nat → Int) (M : Nat → Nat → Int)  : gMet l yX0_fill cX0_fill 6 none rmX0_fill D cI cG cJ [.ref (bd 0), .ref (ad 0)] ((wP bd cI cG fa fb M) ++ (wS ad cI (cnt : Int) fv fs fd)) (gN (fun w9 => ∃ fa1 : Nat → Int, Pk fv cnt 0 fa1 301 ∧ w9 = (wP bd cI cG fa1 fb M) ++ (wS ad cI (cnt : Int) fv fs fd))) := by
  refine gMet_N (by decide) rfl (Nat.le_of_ble_eq_true rfl) (fun E C ret => ?_)
  refine g_aload_n C dX0_fill_0 0 rfl ?_
  refine g_getf C fX0_9 0 rfl rfl dX0_fill_1 ?_
  refine g_iconst C dX0_fill_4 ?_
  refine g_iconst C dX0_fill_5 ?_
  refine g_iast (w' := (wP bd cI cG (zU fa 0 0) fb M) ++ (wS ad cI (cnt : Int) fv fs fd)) C 1 rfl (by decide) (by omega) (by omega) rfl dX0_fill_6 ?_
  refine g_iconst C dX0_fill_7 ?_
  refine g_istore_n (L' := [(2, .int (zI 1)), (0, .ref (bd 0)), (1, .ref (ad 0))]) C dX0_fill_8 (by decide) rfl ?_
  have loop_9 : ∀ (fu : Nat) (p : Nat) (fa1 : Nat → Int), (hp1 : 1 ≤ p) → (hp : p ≤ 301) → (hP : Pk fv cnt 0 fa1 p) → 301 - p < fu → gW E 0 0 ((wP bd cI cG fa1 fb M) ++ (wS ad cI (cnt : Int) fv fs fd)) 9 [(2, .int (zI (p : Int))), (0, .ref (bd 0)), (1, .ref (ad 0))] [] := by
    intro fu
    induction fu with
    | zero => intro p fa1 hp1 hp hP h9; exact absurd h9 (Nat.not_lt_zero _)
    | succ fu ih_9 =>
      intro p fa1 hp1 hp hP hmu_9
      have hbd := hP.bd (fun j hj => (hv j hj).1)
      refine g_iload_n C dX0_fill_9 0 rfl ?_
      refine g_sipush C dX0_fill_10 (by decide) ?_
      refine g_icmp_gt 81 C dX0_fill_13 (by decide) (zr_i (by omega) (by omega)) (zr_i (by omega) (by omega)) (fun c_13 => ?_) (fun c_13 => ?_)
      · have e9 : p = 301 := by omega
        subst e9
        exact ret _ _ _ _ _ (by decide) (by decide) dX0_fill_81 (⟨fa1, hP, rfl⟩)
      · refine g_sipush C dX0_fill_16 (by decide) ?_
        refine g_istore_n (L' := [(3, .int (zI 1000)), (2, .int (zI (p : Int))), (0, .ref (bd 0)), (1, .ref (ad 0))]) C dX0_fill_19 (by decide) rfl ?_
        refine g_iconst C dX0_fill_20 ?_
        refine g_istore (L' := [(4, .int (zI 0)), (3, .int (zI 1000)), (2, .int (zI (p : Int))), (0, .ref (bd 0)), (1, .ref (ad 0))]) C dX0_fill_21 (by decide) rfl ?_
        have loop_23 : ∀ (fu : Nat) (i : Nat), (hi : i ≤ cnt) → cnt - i < fu → gW E 0 0 ((wP bd cI cG fa1 fb M) ++ (wS ad cI (cnt : Int) fv fs fd)) 23 [(4, .int (zI (i : Int))), (3, .int (zI (pMin fa1 fv p 1000 i))), (2, .int (zI (p : Int))), (0, .ref (bd 0)), (1, .ref (ad 0))] [] := by
          intro fu
          induction fu with
          | zero => intro i hi h9; exact absurd h9 (Nat.not_lt_zero _)
          | succ fu ih_23 =>
            intro i hi hmu_23
            have hb2 := pMin_bd (f := fa1) (fv := fv) (p := p) (x := 1000) (by omega) i (fun j hj => (hv j (by omega)).1) (fun q hq => (hbd q hq).1)
            refine g_iload C dX0_fill_23 0 rfl ?_
            refine g_aload_n C dX0_fill_25 4 rfl ?_
            refine g_getf C fX0_23 17 rfl rfl dX0_fill_26 ?_
            refine g_icmp_ge 68 C dX0_fill_29 (by decide) (zr_i (by omega) (by omega)) (zr_i (by omega) (by omega)) (fun c_29 => ?_) (fun c_29 => ?_)
            · have e9 : cnt = i := by omega
              subst e9
              refine g_aload_n C dX0_fill_68 3 rfl ?_
              refine g_getf C fX0_9 0 rfl rfl dX0_fill_69 ?_
              refine g_iload_n C dX0_fill_72 2 rfl ?_
              refine g_iload_n C dX0_fill_73 1 rfl ?_
              refine g_iast (w' := (wP bd cI cG (zU fa1 p (pMin fa1 fv p 1000 cnt)) fb M) ++ (wS ad cI (cnt : Int) fv fs fd)) C 1 rfl (by decide) (by omega) (by omega) rfl dX0_fill_74 ?_
              refine g_iinc (L' := [(2, .int (zI ((p : Int) + 1))), (4, .int (zI (cnt : Int))), (3, .int (zI (pMin fa1 fv p 1000 cnt))), (0, .ref (bd 0)), (1, .ref (ad 0))]) C dX0_fill_75 2 rfl (by decide) rfl ?_
              refine g_goto 9 C dX0_fill_78 (by decide) ?_
              refine g_loc (L' := [(2, .int (zI ((p : Int) + 1))), (0, .ref (bd 0)), (1, .ref (ad 0))]) [0, 3, 4] rfl ?_
              exact ih_9 (p + 1) (zU fa1 p (pMin fa1 fv p 1000 cnt)) (by omega) (by omega) (hP.step hp1 (fun j hj => (hv j hj).1) (by rw [stM_0])) (by omega)
            · refine g_iload_n C dX0_fill_32 2 rfl ?_
              refine g_aload_n C dX0_fill_33 4 rfl ?_
              refine g_getf C fX0_29 17 rfl rfl dX0_fill_34 ?_
              refine g_iload C dX0_fill_37 0 rfl ?_
              refine g_iald C 18 rfl (by decide) (by omega) (by omega) (v := (fv i)) rfl dX0_fill_39 ?_
              have hv9 := hv i (by omega)
              refine g_isub C dX0_fill_40 ?_
              refine g_istore (L' := [(5, .int (zI ((p : Int) - (fv i)))), (4, .int (zI (i : Int))), (3, .int (zI (pMin fa1 fv p 1000 i))), (2, .int (zI (p : Int))), (0, .ref (bd 0)), (1, .ref (ad 0))]) C dX0_fill_41 (by decide) rfl ?_
              refine g_iload C dX0_fill_43 0 rfl ?_
              refine g_if_lt 62 C dX0_fill_45 (by decide) (zr_i (by omega) (by omega)) (fun c_45 => ?_) (fun c_45 => ?_)
              · refine g_iinc (L' := [(4, .int (zI ((i : Int) + 1))), (5, .int (zI ((p : Int) - (fv i)))), (3, .int (zI (pMin fa1 fv p 1000 i))), (2, .int (zI (p : Int))), (0, .ref (bd 0)), (1, .ref (ad 0))]) C dX0_fill_62 1 rfl (by decide) rfl ?_
                refine g_goto 23 C dX0_fill_65 (by decide) ?_
                refine g_loc (L' := [(4, .int (zI ((i : Int) + 1))), (3, .int (zI (pMin fa1 fv p 1000 i))), (2, .int (zI (p : Int))), (0, .ref (bd 0)), (1, .ref (ad 0))]) [0, 2, 3, 4, 5] rfl ?_
                refine g_lw (w' := (wP bd cI cG fa1 fb M) ++ (wS ad cI (cnt : Int) fv fs fd)) (L' := [(4, .int (zI ((i + 1 : Nat) : Int))), (3, .int (zI (pMin fa1 fv p 1000 (i + 1)))), (2, .int (zI (p : Int))), (0, .ref (bd 0)), (1, .ref (ad 0))]) rfl (by rw [pMin_f c_45]; rfl) ?_
                exact ih_23 (i + 1) (by omega) (by omega)
              · refine g_iload_n C dX0_fill_48 2 rfl ?_
                refine g_aload_n C dX0_fill_49 4 rfl ?_
                refine g_getf C fX0_9 0 rfl rfl dX0_fill_50 ?_
                refine g_iload C dX0_fill_53 0 rfl ?_
                refine g_iald C 1 rfl (by decide) (by omega) (by omega) (v := (fa1 ((((p : Int) - (fv i))).toNat))) rfl dX0_fill_55 ?_
                have hb3 := hbd ((p : Int) - fv i).toNat (by omega)
                refine g_iconst C dX0_fill_56 ?_
                refine g_iadd C dX0_fill_57 ?_
                refine g_min C mX0_32 (zr_i (by omega) (by omega)) (zr_i (by omega) (by omega)) (by decide) (Nat.le_of_ble_eq_true rfl) dX0_fill_58 ?_
                refine g_istore_n (L' := [(3, .int (zI (min (pMin fa1 fv p 1000 i) ((fa1 ((((p : Int) - (fv i))).toNat)) + 1)))), (5, .int (zI ((p : Int) - (fv i)))), (4, .int (zI (i : Int))), (2, .int (zI (p : Int))), (0, .ref (bd 0)), (1, .ref (ad 0))]) C dX0_fill_61 (by decide) rfl ?_
                refine g_iinc (L' := [(4, .int (zI ((i : Int) + 1))), (3, .int (zI (min (pMin fa1 fv p 1000 i) ((fa1 ((((p : Int) - (fv i))).toNat)) + 1)))), (5, .int (zI ((p : Int) - (fv i)))), (2, .int (zI (p : Int))), (0, .ref (bd 0)), (1, .ref (ad 0))]) C dX0_fill_62 2 rfl (by decide) rfl ?_
                refine g_goto 23 C dX0_fill_65 (by decide) ?_
                refine g_loc (L' := [(4, .int (zI ((i : Int) + 1))), (3, .int (zI (min (pMin fa1 fv p 1000 i) ((fa1 ((((p : Int) - (fv i))).toNat)) + 1)))), (2, .int (zI (p : Int))), (0, .ref (bd 0)), (1, .ref (ad 0))]) [0, 1, 3, 4, 5] rfl ?_
                refine g_lw (w' := (wP bd cI cG fa1 fb M) ++ (wS ad cI (cnt : Int) fv fs fd)) (L' := [(4, .int (zI ((i + 1 : Nat) : Int))), (3, .int (zI (pMin fa1 fv p 1000 (i + 1)))), (2, .int (zI (p : Int))), (0, .ref (bd 0)), (1, .ref (ad 0))]) rfl (by rw [← pMin_t c_45]; rfl) ?_
                exact ih_23 (i + 1) (by omega) (by omega)
        refine g_loc (L' := [(4, .int (zI 0)), (3, .int (zI 1000)), (2, .int (zI (p : Int))), (0, .ref (bd 0)), (1, .ref (ad 0))]) [0, 1, 2, 3, 4] rfl ?_
        exact loop_23 _ 0 (Nat.zero_le _) (Nat.lt_succ_self _)
  refine g_loc (L' := [(2, .int (zI 1)), (0, .ref (bd 0)), (1, .ref (ad 0))]) [0, 1, 2] rfl ?_
  exact loop_9 _ 1 (zU fa 0 0) (Nat.le_refl _) (by omega) (⟨rfl, fun q h8 h9 => absurd h9 (by omega)⟩) (Nat.lt_succ_self _)
abbrev rmX0_fewestWithin : Room := { frames := 0, cells := 0, slots := 0, locals := 0 }
set_option maxHeartbeats 4000000 in
set_option maxRecDepth 100000 in
theorem met_X0_fewestWithin (l : Launch) (D : va_G) (cI cG cJ : ClassId) (bd : Nat → Nat) (fa fb : Nat → Int) (M : Nat → Nat → Int) (ha : ∀ q, q < 301 → 0 ≤ fa q ∧ fa q ≤ 2000) (rm : Int) (hr : 0 ≤ rm ∧ rm ≤ 12) (p : Nat) (hp : p < 301) : gMet l yX0_fewestWithin cX0_fewestWithin 3 (some .int) rmX0_fewestWithin D cI cG cJ [.ref (bd 0), .int (zI (p : Int)), .int (zI rm)] (wP bd cI cG fa fb M) (gI (fun z w9 => z = (if fa p ≤ rm then fa p else (-1)) ∧ w9 = wP bd cI cG fa fb M)) := by
  have ha9 := ha p hp
  refine gMet_I (by decide) rfl (Nat.le_of_ble_eq_true rfl) (fun E C ret => ?_)
  refine g_aload_n C dX0_fewestWithin_0 0 rfl ?_
  refine g_getf C fX0_9 0 rfl rfl dX0_fewestWithin_1 ?_
  refine g_iload_n C dX0_fewestWithin_4 1 rfl ?_
  refine g_iald C 1 rfl (by decide) (by omega) (by omega) (v := (fa p)) rfl dX0_fewestWithin_5 ?_
  refine g_iload_n C dX0_fewestWithin_6 2 rfl ?_
  refine g_icmp_gt 19 C dX0_fewestWithin_7 (by decide) (zr_i (by omega) (by omega)) (zr_i (by omega) (by omega)) (fun c_7 => ?_) (fun c_7 => ?_)
  · refine g_iconst C dX0_fewestWithin_19 ?_
    exact ret _ _ _ _ _ _ (by decide) (by decide) dX0_fewestWithin_20 (⟨(if_neg (by omega)).symm, rfl⟩)
  · refine g_aload_n C dX0_fewestWithin_10 0 rfl ?_
    refine g_getf C fX0_9 0 rfl rfl dX0_fewestWithin_11 ?_
    refine g_iload_n C dX0_fewestWithin_14 1 rfl ?_
    refine g_iald C 1 rfl (by decide) (by omega) (by omega) (v := (fa p)) rfl dX0_fewestWithin_15 ?_
    refine g_goto 20 C dX0_fewestWithin_16 (by decide) ?_
    exact ret _ _ _ _ _ _ (by decide) (by decide) dX0_fewestWithin_20 (⟨(if_pos (by omega)).symm, rfl⟩)
abbrev rmX0_firstGap : Room := { frames := 0, cells := 0, slots := 0, locals := 0 }
set_option maxHeartbeats 4000000 in
set_option maxRecDepth 100000 in
theorem met_X0_firstGap (l : Launch) (D : va_G) (cI cG cJ : ClassId) (bd : Nat → Nat) (fa fb : Nat → Int) (M : Nat → Nat → Int) (ha : ∀ q, q < 301 → 0 ≤ fa q ∧ fa q ≤ 2000) (rm : Int) (hr : 0 ≤ rm ∧ rm ≤ 12) (p : Nat) (hp : p ≤ 301) : gMet l yX0_firstGap cX0_firstGap 4 (some .int) rmX0_firstGap D cI cG cJ [.ref (bd 0), .int (zI (p : Int)), .int (zI rm)] (wP bd cI cG fa fb M) (gI (fun z w9 => z = fgp fa rm (301 - p) p ∧ w9 = wP bd cI cG fa fb M)) := by
  refine gMet_I (by decide) rfl (Nat.le_of_ble_eq_true rfl) (fun E C ret => ?_)
  refine g_iload_n C dX0_firstGap_0 1 rfl ?_
  refine g_istore_n (L' := [(3, .int (zI (p : Int))), (0, .ref (bd 0)), (1, .int (zI (p : Int))), (2, .int (zI rm))]) C dX0_firstGap_1 (by decide) rfl ?_
  have loop_2 : ∀ (fu : Nat) (s : Nat), (hs : s ≤ 301) → (he : fgp fa rm (301 - p) p = fgp fa rm (301 - s) s) → 301 - s < fu → gW E 0 0 (wP bd cI cG fa fb M) 2 [(3, .int (zI (s : Int))), (0, .ref (bd 0)), (1, .int (zI (p : Int))), (2, .int (zI rm))] [] := by
    intro fu
    induction fu with
    | zero => intro s hs he h9; exact absurd h9 (Nat.not_lt_zero _)
    | succ fu ih_2 =>
      intro s hs he hmu_2
      refine g_iload_n C dX0_firstGap_2 0 rfl ?_
      refine g_sipush C dX0_firstGap_3 (by decide) ?_
      refine g_icmp_gt 27 C dX0_firstGap_6 (by decide) (zr_i (by omega) (by omega)) (zr_i (by omega) (by omega)) (fun c_6 => ?_) (fun c_6 => ?_)
      · refine g_iconst C dX0_firstGap_27 ?_
        exact ret _ _ _ _ _ _ (by decide) (by decide) dX0_firstGap_28 (⟨by rw [he, show s = 301 by omega]; rfl, rfl⟩)
      · refine g_aload_n C dX0_firstGap_9 1 rfl ?_
        refine g_getf C fX0_9 0 rfl rfl dX0_firstGap_10 ?_
        refine g_iload_n C dX0_firstGap_13 0 rfl ?_
        refine g_iald C 1 rfl (by decide) (by omega) (by omega) (v := (fa s)) rfl dX0_firstGap_14 ?_
        have ha9 := ha s (by omega)
        refine g_iload_n C dX0_firstGap_15 3 rfl ?_
        refine g_icmp_le 21 C dX0_firstGap_16 (by decide) (zr_i (by omega) (by omega)) (zr_i (by omega) (by omega)) (fun c_16 => ?_) (fun c_16 => ?_)
        · refine g_iinc (L' := [(3, .int (zI ((s : Int) + 1))), (0, .ref (bd 0)), (1, .int (zI (p : Int))), (2, .int (zI rm))]) C dX0_firstGap_21 0 rfl (by decide) rfl ?_
          refine g_goto 2 C dX0_firstGap_24 (by decide) ?_
          refine g_loc (L' := [(3, .int (zI ((s : Int) + 1))), (0, .ref (bd 0)), (1, .int (zI (p : Int))), (2, .int (zI rm))]) [0, 1, 2, 3] rfl ?_
          exact ih_2 (s + 1) (by omega) (by rw [he, show 301 - s = (301 - (s + 1)) + 1 by omega, fgp_f (by omega)]) (by omega)
        · refine g_iload_n C dX0_firstGap_19 0 rfl ?_
          exact ret _ _ _ _ _ _ (by decide) (by decide) dX0_firstGap_20 (⟨by rw [he, show 301 - s = (301 - (s + 1)) + 1 by omega, fgp_t (by omega)], rfl⟩)
  refine g_loc (L' := [(3, .int (zI (p : Int))), (0, .ref (bd 0)), (1, .int (zI (p : Int))), (2, .int (zI rm))]) [0, 1, 2, 3] rfl ?_
  exact loop_2 _ p hp rfl (Nat.lt_succ_self _)
abbrev rmX0_reachWithin : Room := { frames := 1, cells := 0, slots := 0, locals := 23 }
set_option maxHeartbeats 4000000 in
set_option maxRecDepth 100000 in
theorem met_X0_reachWithin (l : Launch) (D : va_G) (cI cG cJ : ClassId) (bd : Nat → Nat) (fa fb : Nat → Int) (M : Nat → Nat → Int) (ha : ∀ q, q < 301 → 0 ≤ fa q ∧ fa q ≤ 2000) (rm : Int) (hr : 0 ≤ rm ∧ rm ≤ 12)  : gMet l yX0_reachWithin cX0_reachWithin 3 (some .int) rmX0_reachWithin D cI cG cJ [.ref (bd 0), .int (zI rm)] (wP bd cI cG fa fb M) (gI (fun z w9 => z = (if fgp fa rm 300 1 = -1 then (300 : Int) else fgp fa rm 300 1 - 1) ∧ w9 = wP bd cI cG fa fb M)) := by
  refine gMet_I (by decide) rfl (Nat.le_of_ble_eq_true rfl) (fun E C ret => ?_)
  refine g_aload_n C dX0_reachWithin_0 0 rfl ?_
  refine g_iconst C dX0_reachWithin_1 ?_
  refine g_iload_n C dX0_reachWithin_2 1 rfl ?_
  refine g_callV (wr := ([] : va_W)) (st := []) [0, 1, 2, 3, 4, 5, 6, 7, 8, 9, 10, 11, 12, 13, 14, 15, 16] [] C cX0_38 (met_X0_firstGap l D cI cG cJ bd fa fb M ha rm hr 1 (by omega)) ⟨rfl, rfl, by decide, by decide, by decide⟩ (q0 := 0) rfl rfl (by decide) (by decide) rfl rfl (Nat.le_of_ble_eq_true rfl) dX0_reachWithin_3 ?_
  rintro v9 w9 ⟨z9, rfl, rfl, rfl⟩
  refine g_ws (w' := wP bd cI cG fa fb M) (st' := [.int (zI (fgp fa rm 300 1))]) rfl rfl ?_
  refine g_istore_n (L' := [(2, .int (zI (fgp fa rm 300 1))), (0, .ref (bd 0)), (1, .int (zI rm))]) C dX0_reachWithin_6 (by decide) rfl ?_
  refine g_iload_n C dX0_reachWithin_7 0 rfl ?_
  refine g_iconst C dX0_reachWithin_8 ?_
  refine g_icmp_ne 18 C dX0_reachWithin_9 (by decide) (by rcases fgp_bd (f := fa) (rm := rm) 300 1 with hq | ⟨j9, h1, h2, hq⟩ <;> (rw [hq]; exact zr_i (by omega) (by omega))) (zr_i (by omega) (by omega)) (fun c_9 => ?_) (fun c_9 => ?_)
  · refine g_iload_n C dX0_reachWithin_18 0 rfl ?_
    refine g_iconst C dX0_reachWithin_19 ?_
    refine g_isub C dX0_reachWithin_20 ?_
    exact ret _ _ _ _ _ _ (by decide) (by decide) dX0_reachWithin_21 (⟨(if_neg c_9).symm, rfl⟩)
  · refine g_sipush C dX0_reachWithin_12 (by decide) ?_
    refine g_goto 21 C dX0_reachWithin_15 (by decide) ?_
    exact ret _ _ _ _ _ _ (by decide) (by decide) dX0_reachWithin_21 (⟨(if_pos c_9).symm, rfl⟩)
abbrev rmX0_countGaps : Room := { frames := 0, cells := 0, slots := 0, locals := 0 }
set_option maxHeartbeats 4000000 in
set_option maxRecDepth 100000 in
theorem met_X0_countGaps (l : Launch) (D : va_G) (cI cG cJ : ClassId) (bd : Nat → Nat) (fa fb : Nat → Int) (M : Nat → Nat → Int) (ha : ∀ q, q < 301 → 0 ≤ fa q ∧ fa q ≤ 2000) (rm : Int) (hr : 0 ≤ rm ∧ rm ≤ 12) (p : Nat) (hp : p < 301) : gMet l yX0_countGaps cX0_countGaps 5 (some .int) rmX0_countGaps D cI cG cJ [.ref (bd 0), .int (zI (p : Int)), .int (zI rm)] (wP bd cI cG fa fb M) (gI (fun z w9 => z = ((cgp fa rm p : Nat) : Int) ∧ w9 = wP bd cI cG fa fb M)) := by
  refine gMet_I (by decide) rfl (Nat.le_of_ble_eq_true rfl) (fun E C ret => ?_)
  refine g_iconst C dX0_countGaps_0 ?_
  refine g_istore_n (L' := [(3, .int (zI 0)), (0, .ref (bd 0)), (1, .int (zI (p : Int))), (2, .int (zI rm))]) C dX0_countGaps_1 (by decide) rfl ?_
  refine g_iconst C dX0_countGaps_2 ?_
  refine g_istore (L' := [(4, .int (zI 1)), (3, .int (zI 0)), (0, .ref (bd 0)), (1, .int (zI (p : Int))), (2, .int (zI rm))]) C dX0_countGaps_3 (by decide) rfl ?_
  have loop_5 : ∀ (fu : Nat) (s : Nat), (hs : s ≤ p) → p - s < fu → gW E 0 0 (wP bd cI cG fa fb M) 5 [(4, .int (zI ((s + 1 : Nat) : Int))), (3, .int (zI ((cgp fa rm s : Nat) : Int))), (0, .ref (bd 0)), (1, .int (zI (p : Int))), (2, .int (zI rm))] [] := by
    intro fu
    induction fu with
    | zero => intro s hs h9; exact absurd h9 (Nat.not_lt_zero _)
    | succ fu ih_5 =>
      intro s hs hmu_5
      refine g_iload C dX0_countGaps_5 0 rfl ?_
      refine g_iload_n C dX0_countGaps_7 3 rfl ?_
      refine g_icmp_gt 31 C dX0_countGaps_8 (by decide) (zr_i (by omega) (by omega)) (zr_i (by omega) (by omega)) (fun c_8 => ?_) (fun c_8 => ?_)
      · refine g_iload_n C dX0_countGaps_31 1 rfl ?_
        exact ret _ _ _ _ _ _ (by decide) (by decide) dX0_countGaps_32 (⟨by rw [show s = p by omega], rfl⟩)
      · refine g_aload_n C dX0_countGaps_11 2 rfl ?_
        refine g_getf C fX0_9 0 rfl rfl dX0_countGaps_12 ?_
        refine g_iload C dX0_countGaps_15 0 rfl ?_
        refine g_iald C 1 rfl (by decide) (by omega) (by omega) (v := (fa (s + 1))) rfl dX0_countGaps_17 ?_
        have ha9 := ha (s + 1) (by omega)
        refine g_iload_n C dX0_countGaps_18 4 rfl ?_
        refine g_icmp_le 25 C dX0_countGaps_19 (by decide) (zr_i (by omega) (by omega)) (zr_i (by omega) (by omega)) (fun c_19 => ?_) (fun c_19 => ?_)
        · refine g_iinc (L' := [(4, .int (zI (((s + 1 : Nat) : Int) + 1))), (3, .int (zI ((cgp fa rm s : Nat) : Int))), (0, .ref (bd 0)), (1, .int (zI (p : Int))), (2, .int (zI rm))]) C dX0_countGaps_25 0 rfl (by decide) rfl ?_
          refine g_goto 5 C dX0_countGaps_28 (by decide) ?_
          refine g_loc (L' := [(4, .int (zI (((s + 1 : Nat) : Int) + 1))), (3, .int (zI ((cgp fa rm s : Nat) : Int))), (0, .ref (bd 0)), (1, .int (zI (p : Int))), (2, .int (zI rm))]) [0, 1, 2, 3, 4] rfl ?_
          refine g_lw (w' := wP bd cI cG fa fb M) (L' := [(4, .int (zI ((s + 1 + 1 : Nat) : Int))), (3, .int (zI ((cgp fa rm (s + 1) : Nat) : Int))), (0, .ref (bd 0)), (1, .int (zI (p : Int))), (2, .int (zI rm))]) rfl (by rw [cgp_f (by omega)]; rfl) ?_
          exact ih_5 (s + 1) (by omega) (by omega)
        · refine g_iinc (L' := [(3, .int (zI (((cgp fa rm s : Nat) : Int) + 1))), (4, .int (zI ((s + 1 : Nat) : Int))), (0, .ref (bd 0)), (1, .int (zI (p : Int))), (2, .int (zI rm))]) C dX0_countGaps_22 1 rfl (by decide) rfl ?_
          refine g_iinc (L' := [(4, .int (zI (((s + 1 : Nat) : Int) + 1))), (3, .int (zI (((cgp fa rm s : Nat) : Int) + 1))), (0, .ref (bd 0)), (1, .int (zI (p : Int))), (2, .int (zI rm))]) C dX0_countGaps_25 1 rfl (by decide) rfl ?_
          refine g_goto 5 C dX0_countGaps_28 (by decide) ?_
          refine g_loc (L' := [(4, .int (zI (((s + 1 : Nat) : Int) + 1))), (3, .int (zI (((cgp fa rm s : Nat) : Int) + 1))), (0, .ref (bd 0)), (1, .int (zI (p : Int))), (2, .int (zI rm))]) [0, 1, 2, 3, 4] rfl ?_
          refine g_lw (w' := wP bd cI cG fa fb M) (L' := [(4, .int (zI ((s + 1 + 1 : Nat) : Int))), (3, .int (zI ((cgp fa rm (s + 1) : Nat) : Int))), (0, .ref (bd 0)), (1, .int (zI (p : Int))), (2, .int (zI rm))]) rfl (by rw [cgp_t (by omega)]; rfl) ?_
          exact ih_5 (s + 1) (by omega) (by omega)
  refine g_loc (L' := [(4, .int (zI 1)), (3, .int (zI 0)), (0, .ref (bd 0)), (1, .int (zI (p : Int))), (2, .int (zI rm))]) [0, 1, 2, 3, 4] rfl ?_
  exact loop_5 _ 0 (Nat.zero_le _) (Nat.lt_succ_self _)
abbrev rmX0_reachWithValue : Room := { frames := 1, cells := 0, slots := 0, locals := 21 }
set_option maxHeartbeats 4000000 in
set_option maxRecDepth 100000 in
theorem met_X0_reachWithValue (l : Launch) (D : va_G) (cI cG cJ : ClassId) (bd : Nat → Nat) (fa fb : Nat → Int) (M : Nat → Nat → Int) (ha : ∀ q, q < 301 → 0 ≤ fa q ∧ fa q ≤ 2000) (rm : Int) (hr : 0 ≤ rm ∧ rm ≤ 12) (v : Int) (hv : 1 ≤ v ∧ v ≤ 60)  : gMet l yX0_reachWithValue cX0_reachWithValue 5 (some .int) rmX0_reachWithValue D cI cG cJ [.ref (bd 0), .int (zI v), .int (zI rm)] (wP bd cI cG fa fb M) (gI (fun z w9 => ∃ (r : Nat) (fb1 : Nat → Int), (z = (r : Int) ∧ r ≤ 300 ∧ Gk fa v fb1 (r + 1) ∧ (∀ q, 1 ≤ q → q < r + 1 → fb1 q ≤ rm) ∧ (r < 300 → rm < gSt fa v fb1 (r + 1))) ∧ w9 = wP bd cI cG fa fb1 M)) := by
  refine gMet_I (by decide) rfl (Nat.le_of_ble_eq_true rfl) (fun E C ret => ?_)
  refine g_aload_n C dX0_reachWithValue_0 0 rfl ?_
  refine g_getf C fX0_15 0 rfl rfl dX0_reachWithValue_1 ?_
  refine g_iconst C dX0_reachWithValue_4 ?_
  refine g_iconst C dX0_reachWithValue_5 ?_
  refine g_iast (w' := wP bd cI cG fa (zU fb 0 0) M) C 2 rfl (by decide) (by omega) (by omega) rfl dX0_reachWithValue_6 ?_
  refine g_iconst C dX0_reachWithValue_7 ?_
  refine g_istore_n (L' := [(3, .int (zI 1)), (0, .ref (bd 0)), (1, .int (zI v)), (2, .int (zI rm))]) C dX0_reachWithValue_8 (by decide) rfl ?_
  have loop_9 : ∀ (fu : Nat) (p : Nat) (fb1 : Nat → Int), (hp1 : 1 ≤ p) → (hp : p ≤ 301) → (hG : Gk fa v fb1 p) → (hle : ∀ q, 1 ≤ q → q < p → fb1 q ≤ rm) → 301 - p < fu → gW E 0 0 (wP bd cI cG fa fb1 M) 9 [(3, .int (zI (p : Int))), (0, .ref (bd 0)), (1, .int (zI v)), (2, .int (zI rm))] [] := by
    intro fu
    induction fu with
    | zero => intro p fb1 hp1 hp hG hle h9; exact absurd h9 (Nat.not_lt_zero _)
    | succ fu ih_9 =>
      intro p fb1 hp1 hp hG hle hmu_9
      have hbd := hG.bd hv.1 (fun q hq => ha q (by omega))
      refine g_iload_n C dX0_reachWithValue_9 0 rfl ?_
      refine g_sipush C dX0_reachWithValue_10 (by decide) ?_
      refine g_icmp_gt 70 C dX0_reachWithValue_13 (by decide) (zr_i (by omega) (by omega)) (zr_i (by omega) (by omega)) (fun c_13 => ?_) (fun c_13 => ?_)
      · refine g_sipush C dX0_reachWithValue_70 (by decide) ?_
        exact ret _ _ _ _ _ _ (by decide) (by decide) dX0_reachWithValue_73 (⟨300, fb1, ⟨rfl, Nat.le_refl _, by rw [show 300 + 1 = p by omega]; exact hG, by rw [show 300 + 1 = p by omega]; exact hle, fun q => absurd q (Nat.lt_irrefl _)⟩, rfl⟩)
      · refine g_aload_n C dX0_reachWithValue_16 1 rfl ?_
        refine g_getf C fX0_9 0 rfl rfl dX0_reachWithValue_17 ?_
        refine g_iload_n C dX0_reachWithValue_20 0 rfl ?_
        refine g_iald C 1 rfl (by decide) (by omega) (by omega) (v := (fa p)) rfl dX0_reachWithValue_21 ?_
        have ha9 := ha p (by omega)
        have hg9 := gSt_bd (fa := fa) (v := v) (f := fb1) (p := p) ha9 (fun h => (hbd _ (by omega)).1)
        refine g_istore (L' := [(4, .int (zI (fa p))), (3, .int (zI (p : Int))), (0, .ref (bd 0)), (1, .int (zI v)), (2, .int (zI rm))]) C dX0_reachWithValue_22 (by decide) rfl ?_
        refine g_iload_n C dX0_reachWithValue_24 1 rfl ?_
        refine g_iload_n C dX0_reachWithValue_25 3 rfl ?_
        refine g_icmp_lt 46 C dX0_reachWithValue_26 (by decide) (zr_i (by omega) (by omega)) (zr_i (by omega) (by omega)) (fun c_26 => ?_) (fun c_26 => ?_)
        · have eg : fa p = gSt fa v fb1 p := (if_neg (by omega)).symm
          refine g_iload C dX0_reachWithValue_46 0 rfl ?_
          refine g_top (gSt fa v fb1 p) (eg) ?_
          refine g_iload_n C dX0_reachWithValue_48 4 rfl ?_
          refine g_icmp_le 56 C dX0_reachWithValue_49 (by decide) (zr_i (by omega) (by omega)) (zr_i (by omega) (by omega)) (fun c_49 => ?_) (fun c_49 => ?_)
          · refine g_aload_n C dX0_reachWithValue_56 2 rfl ?_
            refine g_getf C fX0_15 0 rfl rfl dX0_reachWithValue_57 ?_
            refine g_iload_n C dX0_reachWithValue_60 1 rfl ?_
            refine g_iload C dX0_reachWithValue_61 0 rfl ?_
            refine g_top (gSt fa v fb1 p) (eg) ?_
            refine g_iast (w' := wP bd cI cG fa (zU fb1 p (gSt fa v fb1 p)) M) C 2 rfl (by decide) (by omega) (by omega) rfl dX0_reachWithValue_63 ?_
            refine g_iinc (L' := [(3, .int (zI ((p : Int) + 1))), (4, .int (zI (fa p))), (0, .ref (bd 0)), (1, .int (zI v)), (2, .int (zI rm))]) C dX0_reachWithValue_64 1 rfl (by decide) rfl ?_
            refine g_goto 9 C dX0_reachWithValue_67 (by decide) ?_
            refine g_loc (L' := [(3, .int (zI ((p : Int) + 1))), (0, .ref (bd 0)), (1, .int (zI v)), (2, .int (zI rm))]) [0, 2, 3, 4] rfl ?_
            exact ih_9 (p + 1) (zU fb1 p (gSt fa v fb1 p)) (by omega) (by omega) (hG.step hp1 hv.1 rfl) (fun q h8 h9 => by
      by_cases e : q = p
      · subst e; rw [show zU fb1 q (gSt fa v fb1 q) q = gSt fa v fb1 q from if_pos rfl]; omega
      · rw [show zU fb1 p (gSt fa v fb1 p) q = fb1 q from if_neg e]; exact hle q h8 (by omega)) (by omega)
          · refine g_iload_n C dX0_reachWithValue_52 1 rfl ?_
            refine g_iconst C dX0_reachWithValue_53 ?_
            refine g_isub C dX0_reachWithValue_54 ?_
            exact ret _ _ _ _ _ _ (by decide) (by decide) dX0_reachWithValue_55 (⟨p - 1, fb1, ⟨by omega, by omega, by rw [show p - 1 + 1 = p by omega]; exact hG, by rw [show p - 1 + 1 = p by omega]; exact hle, fun _ => by rw [show p - 1 + 1 = p by omega]; omega⟩, rfl⟩)
        · have eg : gSt fa v fb1 p = gSt fa v fb1 p := rfl
          refine g_iload C dX0_reachWithValue_29 0 rfl ?_
          refine g_aload_n C dX0_reachWithValue_31 2 rfl ?_
          refine g_getf C fX0_15 0 rfl rfl dX0_reachWithValue_32 ?_
          refine g_iload_n C dX0_reachWithValue_35 1 rfl ?_
          refine g_iload_n C dX0_reachWithValue_36 3 rfl ?_
          refine g_isub C dX0_reachWithValue_37 ?_
          refine g_iald C 2 rfl (by decide) (by omega) (by omega) (v := (fb1 ((((p : Int) - v)).toNat))) rfl dX0_reachWithValue_38 ?_
          have hb9 := hbd ((p : Int) - v).toNat (by omega)
          refine g_iconst C dX0_reachWithValue_39 ?_
          refine g_iadd C dX0_reachWithValue_40 ?_
          refine g_min C mX0_32 (zr_i (by omega) (by omega)) (zr_i (by omega) (by omega)) (by decide) (Nat.le_of_ble_eq_true rfl) dX0_reachWithValue_41 ?_
          refine g_top (gSt fa v fb1 p) ((if_pos (by omega)).symm) ?_
          refine g_istore (L' := [(4, .int (zI (gSt fa v fb1 p))), (3, .int (zI (p : Int))), (0, .ref (bd 0)), (1, .int (zI v)), (2, .int (zI rm))]) C dX0_reachWithValue_44 (by decide) rfl ?_
          refine g_iload C dX0_reachWithValue_46 0 rfl ?_
          refine g_top (gSt fa v fb1 p) (eg) ?_
          refine g_iload_n C dX0_reachWithValue_48 4 rfl ?_
          refine g_icmp_le 56 C dX0_reachWithValue_49 (by decide) (zr_i (by omega) (by omega)) (zr_i (by omega) (by omega)) (fun c_49 => ?_) (fun c_49 => ?_)
          · refine g_aload_n C dX0_reachWithValue_56 2 rfl ?_
            refine g_getf C fX0_15 0 rfl rfl dX0_reachWithValue_57 ?_
            refine g_iload_n C dX0_reachWithValue_60 1 rfl ?_
            refine g_iload C dX0_reachWithValue_61 0 rfl ?_
            refine g_top (gSt fa v fb1 p) (eg) ?_
            refine g_iast (w' := wP bd cI cG fa (zU fb1 p (gSt fa v fb1 p)) M) C 2 rfl (by decide) (by omega) (by omega) rfl dX0_reachWithValue_63 ?_
            refine g_iinc (L' := [(3, .int (zI ((p : Int) + 1))), (4, .int (zI (gSt fa v fb1 p))), (0, .ref (bd 0)), (1, .int (zI v)), (2, .int (zI rm))]) C dX0_reachWithValue_64 1 rfl (by decide) rfl ?_
            refine g_goto 9 C dX0_reachWithValue_67 (by decide) ?_
            refine g_loc (L' := [(3, .int (zI ((p : Int) + 1))), (0, .ref (bd 0)), (1, .int (zI v)), (2, .int (zI rm))]) [0, 2, 3, 4] rfl ?_
            exact ih_9 (p + 1) (zU fb1 p (gSt fa v fb1 p)) (by omega) (by omega) (hG.step hp1 hv.1 rfl) (fun q h8 h9 => by
      by_cases e : q = p
      · subst e; rw [show zU fb1 q (gSt fa v fb1 q) q = gSt fa v fb1 q from if_pos rfl]; omega
      · rw [show zU fb1 p (gSt fa v fb1 p) q = fb1 q from if_neg e]; exact hle q h8 (by omega)) (by omega)
          · refine g_iload_n C dX0_reachWithValue_52 1 rfl ?_
            refine g_iconst C dX0_reachWithValue_53 ?_
            refine g_isub C dX0_reachWithValue_54 ?_
            exact ret _ _ _ _ _ _ (by decide) (by decide) dX0_reachWithValue_55 (⟨p - 1, fb1, ⟨by omega, by omega, by rw [show p - 1 + 1 = p by omega]; exact hG, by rw [show p - 1 + 1 = p by omega]; exact hle, fun _ => by rw [show p - 1 + 1 = p by omega]; omega⟩, rfl⟩)
  refine g_loc (L' := [(3, .int (zI 1)), (0, .ref (bd 0)), (1, .int (zI v)), (2, .int (zI rm))]) [0, 1, 2, 3] rfl ?_
  exact loop_9 _ 1 (zU fb 0 0) (Nat.le_refl _) (by omega) (⟨rfl, fun q h8 h9 => absurd h9 (by omega)⟩) (fun q h8 h9 => absurd h9 (by omega)) (Nat.lt_succ_self _)
abbrev rmX0_clearChoices : Room := { frames := 0, cells := 0, slots := 0, locals := 0 }
set_option maxHeartbeats 4000000 in
set_option maxRecDepth 100000 in
theorem met_X0_clearChoices (l : Launch) (D : va_G) (cI cG cJ : ClassId) (bd : Nat → Nat) (fa fb : Nat → Int) (M : Nat → Nat → Int) (rn : Nat) (hr : rn ≤ 12) (pg : Nat) (hp : pg ≤ 300)  : gMet l yX0_clearChoices cX0_clearChoices 5 none rmX0_clearChoices D cI cG cJ [.ref (bd 0), .int (zI (rn : Int)), .int (zI (pg : Int))] (wP bd cI cG fa fb M) (gN (fun w9 => ∃ M1 : Nat → Nat → Int, (∀ a q, a ≤ rn → q ≤ pg → M1 a q = w0 a q) ∧ w9 = wP bd cI cG fa fb M1)) := by
  refine gMet_N (by decide) rfl (Nat.le_of_ble_eq_true rfl) (fun E C ret => ?_)
  refine g_iconst C dX0_clearChoices_0 ?_
  refine g_istore_n (L' := [(3, .int (zI 0)), (0, .ref (bd 0)), (1, .int (zI (rn : Int))), (2, .int (zI (pg : Int)))]) C dX0_clearChoices_1 (by decide) rfl ?_
  have loop_2 : ∀ (fu : Nat) (k : Nat) (M1 : Nat → Nat → Int), (hk : k ≤ rn + 1) → (h0 : ∀ a q, (a < k ∨ (a = k ∧ q < 0)) → q ≤ pg → M1 a q = 0) → rn + 1 - k < fu → gW E 0 0 (wP bd cI cG fa fb M1) 2 [(3, .int (zI (k : Int))), (0, .ref (bd 0)), (1, .int (zI (rn : Int))), (2, .int (zI (pg : Int)))] [] := by
    intro fu
    induction fu with
    | zero => intro k M1 hk h0 h9; exact absurd h9 (Nat.not_lt_zero _)
    | succ fu ih_2 =>
      intro k M1 hk h0 hmu_2
      refine g_iload_n C dX0_clearChoices_2 0 rfl ?_
      refine g_iload_n C dX0_clearChoices_3 2 rfl ?_
      refine g_icmp_gt 38 C dX0_clearChoices_4 (by decide) (zr_i (by omega) (by omega)) (zr_i (by omega) (by omega)) (fun c_4 => ?_) (fun c_4 => ?_)
      · refine g_aload_n C dX0_clearChoices_38 1 rfl ?_
        refine g_getf C fX0_20 0 rfl rfl dX0_clearChoices_39 ?_
        refine g_iconst C dX0_clearChoices_42 ?_
        refine g_aald (y := bd (4 + 0)) C 3 rfl (by decide) (by omega) (by omega) (wR_at (by omega)) dX0_clearChoices_43 ?_
        refine g_iconst C dX0_clearChoices_44 ?_
        refine g_iconst C dX0_clearChoices_45 ?_
        refine g_iast (w' := wP bd cI cG fa fb (gU M1 0 0 1)) C (4 + 0) (wP_row1 (by omega)) (by decide) (by omega) (by omega) (wP_set1 (by omega) 0 1) dX0_clearChoices_46 ?_
        exact ret _ _ _ _ _ (by decide) (by decide) dX0_clearChoices_47 (⟨gU M1 0 0 1, fun a q h8 h9 => by
          by_cases e : a = 0 ∧ q = 0
          · rw [e.1, e.2, gU_eq]; rfl
          · rw [gU_ne (fun e2 e3 => e ⟨e2, e3⟩), h0 a q (by omega) h9]; exact (if_neg e).symm, rfl⟩)
      · refine g_iconst C dX0_clearChoices_7 ?_
        refine g_istore (L' := [(4, .int (zI 0)), (3, .int (zI (k : Int))), (0, .ref (bd 0)), (1, .int (zI (rn : Int))), (2, .int (zI (pg : Int)))]) C dX0_clearChoices_8 (by decide) rfl ?_
        have loop_10 : ∀ (fu : Nat) (p : Nat) (M1 : Nat → Nat → Int), (hq : p ≤ pg + 1) → (h1 : ∀ a q, (a < k ∨ (a = k ∧ q < p)) → q ≤ pg → M1 a q = 0) → pg + 1 - p < fu → gW E 0 0 (wP bd cI cG fa fb M1) 10 [(4, .int (zI (p : Int))), (3, .int (zI (k : Int))), (0, .ref (bd 0)), (1, .int (zI (rn : Int))), (2, .int (zI (pg : Int)))] [] := by
          intro fu
          induction fu with
          | zero => intro p M1 hq h1 h9; exact absurd h9 (Nat.not_lt_zero _)
          | succ fu ih_10 =>
            intro p M1 hq h1 hmu_10
            refine g_iload C dX0_clearChoices_10 0 rfl ?_
            refine g_iload_n C dX0_clearChoices_12 4 rfl ?_
            refine g_icmp_gt 32 C dX0_clearChoices_13 (by decide) (zr_i (by omega) (by omega)) (zr_i (by omega) (by omega)) (fun c_13 => ?_) (fun c_13 => ?_)
            · refine g_iinc (L' := [(3, .int (zI ((k : Int) + 1))), (4, .int (zI (p : Int))), (0, .ref (bd 0)), (1, .int (zI (rn : Int))), (2, .int (zI (pg : Int)))]) C dX0_clearChoices_32 1 rfl (by decide) rfl ?_
              refine g_goto 2 C dX0_clearChoices_35 (by decide) ?_
              refine g_loc (L' := [(3, .int (zI ((k : Int) + 1))), (0, .ref (bd 0)), (1, .int (zI (rn : Int))), (2, .int (zI (pg : Int)))]) [0, 2, 3, 4] rfl ?_
              exact ih_2 (k + 1) M1 (by omega) (fun a q h8 h9 => h1 a q (by omega) h9) (by omega)
            · refine g_aload_n C dX0_clearChoices_16 2 rfl ?_
              refine g_getf C fX0_20 0 rfl rfl dX0_clearChoices_17 ?_
              refine g_iload_n C dX0_clearChoices_20 1 rfl ?_
              refine g_aald (y := bd (4 + k)) C 3 rfl (by decide) (by omega) (by omega) (wR_at (by omega)) dX0_clearChoices_21 ?_
              refine g_iload C dX0_clearChoices_22 0 rfl ?_
              refine g_iconst C dX0_clearChoices_24 ?_
              refine g_iast (w' := wP bd cI cG fa fb (gU M1 k p 0)) C (4 + k) (wP_row1 (by omega)) (by decide) (by omega) (by omega) (wP_set1 (by omega) p 0) dX0_clearChoices_25 ?_
              refine g_iinc (L' := [(4, .int (zI ((p : Int) + 1))), (3, .int (zI (k : Int))), (0, .ref (bd 0)), (1, .int (zI (rn : Int))), (2, .int (zI (pg : Int)))]) C dX0_clearChoices_26 0 rfl (by decide) rfl ?_
              refine g_goto 10 C dX0_clearChoices_29 (by decide) ?_
              refine g_loc (L' := [(4, .int (zI ((p : Int) + 1))), (3, .int (zI (k : Int))), (0, .ref (bd 0)), (1, .int (zI (rn : Int))), (2, .int (zI (pg : Int)))]) [0, 1, 2, 3, 4] rfl ?_
              exact ih_10 (p + 1) (gU M1 k p 0) (by omega) (fun a q h8 h9 => by
      by_cases e : a = k ∧ q = p
      · rw [e.1, e.2]; exact gU_eq
      · rw [gU_ne (fun e2 e3 => e ⟨e2, e3⟩)]; exact h1 a q (by omega) h9) (by omega)
        refine g_loc (L' := [(4, .int (zI 0)), (3, .int (zI (k : Int))), (0, .ref (bd 0)), (1, .int (zI (rn : Int))), (2, .int (zI (pg : Int)))]) [0, 1, 2, 3, 4] rfl ?_
        exact loop_10 _ 0 M1 (Nat.zero_le _) h0 (Nat.lt_succ_self _)
  refine g_loc (L' := [(3, .int (zI 0)), (0, .ref (bd 0)), (1, .int (zI (rn : Int))), (2, .int (zI (pg : Int)))]) [0, 1, 2, 3] rfl ?_
  exact loop_2 _ 0 M (Nat.zero_le _) (fun a q h8 h9 => absurd h8 (by omega)) (Nat.lt_succ_self _)
abbrev rmX0_addChoicesWith : Room := { frames := 0, cells := 0, slots := 0, locals := 0 }
set_option maxHeartbeats 4000000 in
set_option maxRecDepth 100000 in
theorem met_X0_addChoicesWith (l : Launch) (D : va_G) (cI cG cJ : ClassId) (bd : Nat → Nat) (fa fb : Nat → Int) (M : Nat → Nat → Int) (rn : Nat) (hr : rn ≤ 12) (v : Nat) (hv : 1 ≤ v) (hv2 : v ≤ 60) (pg : Nat) (hp : pg ≤ 300)  : gMet l yX0_addChoicesWith cX0_addChoicesWith 6 none rmX0_addChoicesWith D cI cG cJ [.ref (bd 0), .int (zI (v : Int)), .int (zI (rn : Int)), .int (zI (pg : Int))] (wP bd cI cG fa fb M) (gN (fun w9 => ∃ M1 : Nat → Nat → Int, (∀ a q, a ≤ rn → q ≤ pg → M1 a q = nw M v a q) ∧ w9 = wP bd cI cG fa fb M1)) := by
  refine gMet_N (by decide) rfl (Nat.le_of_ble_eq_true rfl) (fun E C ret => ?_)
  refine g_iconst C dX0_addChoicesWith_0 ?_
  refine g_istore (L' := [(4, .int (zI 1)), (0, .ref (bd 0)), (1, .int (zI (v : Int))), (2, .int (zI (rn : Int))), (3, .int (zI (pg : Int)))]) C dX0_addChoicesWith_1 (by decide) rfl ?_
  have loop_3 : ∀ (fu : Nat) (k : Nat) (M1 : Nat → Nat → Int), (hk : k ≤ rn) → (h0 : W1 M M1 v pg (k + 1) 0) → rn + 1 - k < fu → gW E 0 0 (wP bd cI cG fa fb M1) 3 [(4, .int (zI ((k + 1 : Nat) : Int))), (0, .ref (bd 0)), (1, .int (zI (v : Int))), (2, .int (zI (rn : Int))), (3, .int (zI (pg : Int)))] [] := by
    intro fu
    induction fu with
    | zero => intro k M1 hk h0 h9; exact absurd h9 (Nat.not_lt_zero _)
    | succ fu ih_3 =>
      intro k M1 hk h0 hmu_3
      refine g_iload C dX0_addChoicesWith_3 0 rfl ?_
      refine g_iload_n C dX0_addChoicesWith_5 3 rfl ?_
      refine g_icmp_gt 57 C dX0_addChoicesWith_6 (by decide) (zr_i (by omega) (by omega)) (zr_i (by omega) (by omega)) (fun c_6 => ?_) (fun c_6 => ?_)
      · exact ret _ _ _ _ _ (by decide) (by decide) dX0_addChoicesWith_57 (⟨M1, fun a q h8 h9 => by rw [h0 a q h9, if_pos (by omega)], rfl⟩)
      · refine g_iload_n C dX0_addChoicesWith_9 2 rfl ?_
        refine g_istore (L' := [(5, .int (zI (v : Int))), (4, .int (zI ((k + 1 : Nat) : Int))), (0, .ref (bd 0)), (1, .int (zI (v : Int))), (2, .int (zI (rn : Int))), (3, .int (zI (pg : Int)))]) C dX0_addChoicesWith_10 (by decide) rfl ?_
        have loop_12 : ∀ (fu : Nat) (p : Nat) (M1 : Nat → Nat → Int), (hq : v ≤ p) → (hq2 : p ≤ 361) → (h1 : W1 M M1 v pg (k + 1) p) → 301 - p < fu → gW E 0 0 (wP bd cI cG fa fb M1) 12 [(5, .int (zI (p : Int))), (4, .int (zI ((k + 1 : Nat) : Int))), (0, .ref (bd 0)), (1, .int (zI (v : Int))), (2, .int (zI (rn : Int))), (3, .int (zI (pg : Int)))] [] := by
          intro fu
          induction fu with
          | zero => intro p M1 hq hq2 h1 h9; exact absurd h9 (Nat.not_lt_zero _)
          | succ fu ih_12 =>
            intro p M1 hq hq2 h1 hmu_12
            refine g_iload C dX0_addChoicesWith_12 0 rfl ?_
            refine g_iload_n C dX0_addChoicesWith_14 5 rfl ?_
            refine g_icmp_gt 51 C dX0_addChoicesWith_15 (by decide) (zr_i (by omega) (by omega)) (zr_i (by omega) (by omega)) (fun c_15 => ?_) (fun c_15 => ?_)
            · refine g_iinc (L' := [(4, .int (zI (((k + 1 : Nat) : Int) + 1))), (5, .int (zI (p : Int))), (0, .ref (bd 0)), (1, .int (zI (v : Int))), (2, .int (zI (rn : Int))), (3, .int (zI (pg : Int)))]) C dX0_addChoicesWith_51 1 rfl (by decide) rfl ?_
              refine g_goto 3 C dX0_addChoicesWith_54 (by decide) ?_
              refine g_loc (L' := [(4, .int (zI (((k + 1 : Nat) : Int) + 1))), (0, .ref (bd 0)), (1, .int (zI (v : Int))), (2, .int (zI (rn : Int))), (3, .int (zI (pg : Int)))]) [0, 2, 3, 4, 5] rfl ?_
              exact ih_3 (k + 1) M1 (by omega) (h1.next (by omega)) (by omega)
            · refine g_aload_n C dX0_addChoicesWith_18 2 rfl ?_
              refine g_getf C fX0_20 0 rfl rfl dX0_addChoicesWith_19 ?_
              refine g_iload C dX0_addChoicesWith_22 1 rfl ?_
              refine g_aald (y := bd (4 + (k + 1))) C 3 rfl (by decide) (by omega) (by omega) (wR_at (by omega)) dX0_addChoicesWith_24 ?_
              refine g_iload C dX0_addChoicesWith_25 0 rfl ?_
              refine g_dup2 C dX0_addChoicesWith_27 rfl rfl ?_
              refine g_iald C (4 + (k + 1)) (wP_row1 (by omega)) (by decide) (by omega) (by omega) (v := (M1 (k + 1) p)) rfl dX0_addChoicesWith_28 ?_
              refine g_aload_n C dX0_addChoicesWith_29 2 rfl ?_
              refine g_getf C fX0_20 0 rfl rfl dX0_addChoicesWith_30 ?_
              refine g_iload C dX0_addChoicesWith_33 1 rfl ?_
              refine g_iconst C dX0_addChoicesWith_35 ?_
              refine g_isub C dX0_addChoicesWith_36 ?_
              refine g_top (k : Int) (by omega) ?_
              refine g_aald (y := bd (4 + k)) C 3 rfl (by decide) (by omega) (by omega) (wR_at (by omega)) dX0_addChoicesWith_37 ?_
              refine g_iload C dX0_addChoicesWith_38 0 rfl ?_
              refine g_iload_n C dX0_addChoicesWith_40 3 rfl ?_
              refine g_isub C dX0_addChoicesWith_41 ?_
              refine g_top ((p - v : Nat) : Int) (by omega) ?_
              refine g_iald C (4 + k) (wP_row1 (by omega)) (by decide) (by omega) (by omega) (v := (M1 k (p - v))) rfl dX0_addChoicesWith_42 ?_
              refine g_iadd C dX0_addChoicesWith_43 ?_
              refine g_iast (w' := wP bd cI cG fa fb (gU M1 (k + 1) p ((M1 (k + 1) p) + (M1 k (p - v))))) C (4 + (k + 1)) (wP_row1 (by omega)) (by decide) (by omega) (by omega) (wP_set1 (by omega) p ((M1 (k + 1) p) + (M1 k (p - v)))) dX0_addChoicesWith_44 ?_
              refine g_iinc (L' := [(5, .int (zI ((p : Int) + 1))), (4, .int (zI ((k + 1 : Nat) : Int))), (0, .ref (bd 0)), (1, .int (zI (v : Int))), (2, .int (zI (rn : Int))), (3, .int (zI (pg : Int)))]) C dX0_addChoicesWith_45 0 rfl (by decide) rfl ?_
              refine g_goto 12 C dX0_addChoicesWith_48 (by decide) ?_
              refine g_loc (L' := [(5, .int (zI ((p : Int) + 1))), (4, .int (zI ((k + 1 : Nat) : Int))), (0, .ref (bd 0)), (1, .int (zI (v : Int))), (2, .int (zI (rn : Int))), (3, .int (zI (pg : Int)))]) [0, 1, 2, 3, 4, 5] rfl ?_
              exact ih_12 (p + 1) (gU M1 (k + 1) p (M1 (k + 1) p + M1 k (p - v))) (by omega) (by omega) (h1.step hq hv (by omega)) (by omega)
        refine g_loc (L' := [(5, .int (zI (v : Int))), (4, .int (zI ((k + 1 : Nat) : Int))), (0, .ref (bd 0)), (1, .int (zI (v : Int))), (2, .int (zI (rn : Int))), (3, .int (zI (pg : Int)))]) [0, 1, 2, 3, 4, 5] rfl ?_
        exact loop_12 _ v M1 (Nat.le_refl _) (by omega) (h0.begin (by omega)) (Nat.lt_succ_self _)
  refine g_loc (L' := [(4, .int (zI 1)), (0, .ref (bd 0)), (1, .int (zI (v : Int))), (2, .int (zI (rn : Int))), (3, .int (zI (pg : Int)))]) [0, 1, 2, 3, 4] rfl ?_
  exact loop_3 _ 0 M (Nat.zero_le _) W1.first (Nat.lt_succ_self _)
abbrev rmX0_countChoices : Room := { frames := 1, cells := 0, slots := 0, locals := 25 }
set_option maxHeartbeats 4000000 in
set_option maxRecDepth 100000 in
theorem met_X0_countChoices (l : Launch) (D : va_G) (cI cG cJ : ClassId) (ad : Nat → Nat) (cnt : Nat) (hc : cnt ≤ 8) (fv fs fd : Nat → Int) (hv : ∀ j, j < cnt → 1 ≤ fv j ∧ fv j ≤ 60) (bd : Nat → Nat) (fa fb : Nat → Int) (M : Nat → Nat → Int) (rn : Nat) (hr : rn ≤ 12) (pg : Nat) (hp : pg ≤ 300)  : gMet l yX0_countChoices cX0_countChoices 6 (some .int) rmX0_countChoices D cI cG cJ [.ref (bd 0), .ref (ad 0), .int (zI (rn : Int)), .int (zI (pg : Int))] ((wP bd cI cG fa fb M) ++ (wS ad cI (cnt : Int) fv fs fd)) (gI (fun z w9 => ∃ M1 : Nat → Nat → Int, z = wsum (wy fv cnt) pg (rn + 1) ∧ w9 = (wP bd cI cG fa fb M1) ++ (wS ad cI (cnt : Int) fv fs fd))) := by
  refine gMet_I (by decide) rfl (Nat.le_of_ble_eq_true rfl) (fun E C ret => ?_)
  refine g_aload_n C dX0_countChoices_0 0 rfl ?_
  refine g_iload_n C dX0_countChoices_1 2 rfl ?_
  refine g_iload_n C dX0_countChoices_2 3 rfl ?_
  refine g_callV (wr := wS ad cI (cnt : Int) fv fs fd) (st := []) [0, 1, 2, 3, 4, 5, 6, 7, 8, 9, 10, 11, 12, 13, 14, 15, 16] [17, 18, 19, 20] C cX0_41 (met_X0_clearChoices l D cI cG cJ bd fa fb M rn hr pg hp) ⟨rfl, rfl, by decide, by decide, by decide⟩ (q0 := 0) rfl rfl (by decide) (by decide) rfl rfl (Nat.le_of_ble_eq_true rfl) dX0_countChoices_3 ?_
  rintro v9 w9 ⟨rfl, M1, h1, rfl⟩
  refine g_ws (w' := (wS ad cI (cnt : Int) fv fs fd) ++ (wP bd cI cG fa fb M1)) (st' := []) rfl rfl ?_
  refine g_perm (w' := (wP bd cI cG fa fb M1) ++ (wS ad cI (cnt : Int) fv fs fd)) [4, 5, 6, 7, 8, 9, 10, 11, 12, 13, 14, 15, 16, 17, 18, 19, 20, 0, 1, 2, 3] (by decide) rfl ?_
  refine g_iconst C dX0_countChoices_6 ?_
  refine g_istore (L' := [(4, .int (zI 0)), (0, .ref (bd 0)), (1, .ref (ad 0)), (2, .int (zI (rn : Int))), (3, .int (zI (pg : Int)))]) C dX0_countChoices_7 (by decide) rfl ?_
  have loop_9 : ∀ (fu : Nat) (i : Nat) (M2 : Nat → Nat → Int), (hi : i ≤ cnt) → (h2 : ∀ a q, a ≤ rn → q ≤ pg → M2 a q = wy fv i a q) → cnt - i < fu → gW E 0 0 ((wP bd cI cG fa fb M2) ++ (wS ad cI (cnt : Int) fv fs fd)) 9 [(4, .int (zI (i : Int))), (0, .ref (bd 0)), (1, .ref (ad 0)), (2, .int (zI (rn : Int))), (3, .int (zI (pg : Int)))] [] := by
    intro fu
    induction fu with
    | zero => intro i M2 hi h2 h9; exact absurd h9 (Nat.not_lt_zero _)
    | succ fu ih_9 =>
      intro i M2 hi h2 hmu_9
      refine g_iload C dX0_countChoices_9 0 rfl ?_
      refine g_aload_n C dX0_countChoices_11 2 rfl ?_
      refine g_getf C fX0_23 17 rfl rfl dX0_countChoices_12 ?_
      refine g_icmp_ge 37 C dX0_countChoices_15 (by decide) (zr_i (by omega) (by omega)) (zr_i (by omega) (by omega)) (fun c_15 => ?_) (fun c_15 => ?_)
      · refine g_iconst C dX0_countChoices_37 ?_
        refine g_istore (L' := [(4, .int (zI 0)), (0, .ref (bd 0)), (1, .ref (ad 0)), (2, .int (zI (rn : Int))), (3, .int (zI (pg : Int)))]) C dX0_countChoices_38 (by decide) rfl ?_
        refine g_iconst C dX0_countChoices_40 ?_
        refine g_istore (L' := [(5, .int (zI 0)), (4, .int (zI 0)), (0, .ref (bd 0)), (1, .ref (ad 0)), (2, .int (zI (rn : Int))), (3, .int (zI (pg : Int)))]) C dX0_countChoices_41 (by decide) rfl ?_
        have loop_43 : ∀ (fu : Nat) (k : Nat), (hk : k ≤ rn + 1) → rn + 1 - k < fu → gW E 0 0 ((wP bd cI cG fa fb M2) ++ (wS ad cI (cnt : Int) fv fs fd)) 43 [(5, .int (zI (k : Int))), (4, .int (zI (wsum (wy fv i) pg k))), (0, .ref (bd 0)), (1, .ref (ad 0)), (2, .int (zI (rn : Int))), (3, .int (zI (pg : Int)))] [] := by
          intro fu
          induction fu with
          | zero => intro k hk h9; exact absurd h9 (Nat.not_lt_zero _)
          | succ fu ih_43 =>
            intro k hk hmu_43
            refine g_iload C dX0_countChoices_43 0 rfl ?_
            refine g_iload_n C dX0_countChoices_45 4 rfl ?_
            refine g_icmp_gt 69 C dX0_countChoices_46 (by decide) (zr_i (by omega) (by omega)) (zr_i (by omega) (by omega)) (fun c_46 => ?_) (fun c_46 => ?_)
            · have e9 : k = rn + 1 := by omega
              subst e9
              refine g_iload C dX0_countChoices_69 1 rfl ?_
              exact ret _ _ _ _ _ _ (by decide) (by decide) dX0_countChoices_71 (⟨M2, by rw [show cnt = i by omega], rfl⟩)
            · refine g_iload C dX0_countChoices_49 1 rfl ?_
              refine g_aload_n C dX0_countChoices_51 2 rfl ?_
              refine g_getf C fX0_20 0 rfl rfl dX0_countChoices_52 ?_
              refine g_iload C dX0_countChoices_55 0 rfl ?_
              refine g_aald (y := bd (4 + k)) C 3 rfl (by decide) (by omega) (by omega) (wR_at (by omega)) dX0_countChoices_57 ?_
              refine g_iload_n C dX0_countChoices_58 5 rfl ?_
              refine g_iald C (4 + k) (wP_row (by omega)) (by decide) (by omega) (by omega) (v := (M2 k pg)) rfl dX0_countChoices_59 ?_
              refine g_top (wy fv i k pg) (h2 k pg (by omega) (Nat.le_refl _)) ?_
              refine g_iadd C dX0_countChoices_60 ?_
              refine g_istore (L' := [(4, .int (zI ((wsum (wy fv i) pg k) + (wy fv i k pg)))), (5, .int (zI (k : Int))), (0, .ref (bd 0)), (1, .ref (ad 0)), (2, .int (zI (rn : Int))), (3, .int (zI (pg : Int)))]) C dX0_countChoices_61 (by decide) rfl ?_
              refine g_iinc (L' := [(5, .int (zI ((k : Int) + 1))), (4, .int (zI ((wsum (wy fv i) pg k) + (wy fv i k pg)))), (0, .ref (bd 0)), (1, .ref (ad 0)), (2, .int (zI (rn : Int))), (3, .int (zI (pg : Int)))]) C dX0_countChoices_63 1 rfl (by decide) rfl ?_
              refine g_goto 43 C dX0_countChoices_66 (by decide) ?_
              refine g_loc (L' := [(5, .int (zI ((k : Int) + 1))), (4, .int (zI ((wsum (wy fv i) pg k) + (wy fv i k pg)))), (0, .ref (bd 0)), (1, .ref (ad 0)), (2, .int (zI (rn : Int))), (3, .int (zI (pg : Int)))]) [0, 1, 2, 3, 4, 5] rfl ?_
              exact ih_43 (k + 1) (by omega) (by omega)
        refine g_loc (L' := [(5, .int (zI 0)), (4, .int (zI 0)), (0, .ref (bd 0)), (1, .ref (ad 0)), (2, .int (zI (rn : Int))), (3, .int (zI (pg : Int)))]) [0, 1, 2, 3, 4, 5] rfl ?_
        exact loop_43 _ 0 (Nat.zero_le _) (Nat.lt_succ_self _)
      · refine g_aload_n C dX0_countChoices_18 1 rfl ?_
        refine g_aload_n C dX0_countChoices_19 2 rfl ?_
        refine g_getf C fX0_29 17 rfl rfl dX0_countChoices_20 ?_
        refine g_iload C dX0_countChoices_23 0 rfl ?_
        have hv9 := hv i (by omega)
        refine g_iald C 18 rfl (by decide) (by omega) (by omega) (v := (fv i)) rfl dX0_countChoices_25 ?_
        refine g_top (((fv i).toNat : Nat) : Int) (by omega) ?_
        refine g_iload_n C dX0_countChoices_26 3 rfl ?_
        refine g_iload_n C dX0_countChoices_27 4 rfl ?_
        refine g_callV (wr := wS ad cI (cnt : Int) fv fs fd) (st := []) [0, 1, 2, 3, 4, 5, 6, 7, 8, 9, 10, 11, 12, 13, 14, 15, 16] [17, 18, 19, 20] C cX0_45 (met_X0_addChoicesWith l D cI cG cJ bd fa fb M2 rn hr (fv i).toNat (by omega) (by omega) pg hp) ⟨rfl, rfl, by decide, by decide, by decide⟩ (q0 := 0) rfl rfl (by decide) (by decide) rfl rfl (Nat.le_of_ble_eq_true rfl) dX0_countChoices_28 ?_
        rintro v9 w9 ⟨rfl, M3, h3, rfl⟩
        refine g_ws (w' := (wS ad cI (cnt : Int) fv fs fd) ++ (wP bd cI cG fa fb M3)) (st' := []) rfl rfl ?_
        refine g_perm (w' := (wP bd cI cG fa fb M3) ++ (wS ad cI (cnt : Int) fv fs fd)) [4, 5, 6, 7, 8, 9, 10, 11, 12, 13, 14, 15, 16, 17, 18, 19, 20, 0, 1, 2, 3] (by decide) rfl ?_
        refine g_iinc (L' := [(4, .int (zI ((i : Int) + 1))), (0, .ref (bd 0)), (1, .ref (ad 0)), (2, .int (zI (rn : Int))), (3, .int (zI (pg : Int)))]) C dX0_countChoices_31 0 rfl (by decide) rfl ?_
        refine g_goto 9 C dX0_countChoices_34 (by decide) ?_
        refine g_loc (L' := [(4, .int (zI ((i : Int) + 1))), (0, .ref (bd 0)), (1, .ref (ad 0)), (2, .int (zI (rn : Int))), (3, .int (zI (pg : Int)))]) [0, 1, 2, 3, 4] rfl ?_
        exact ih_9 (i + 1) M3 (by omega) (fun a q h8 h9 => by rw [h3 a q h8 h9]; exact nw_congr a (fun b r hb hr2 => h2 b r (by omega) hr2) q h9) (by omega)
  refine g_loc (L' := [(4, .int (zI 0)), (0, .ref (bd 0)), (1, .ref (ad 0)), (2, .int (zI (rn : Int))), (3, .int (zI (pg : Int)))]) [0, 1, 2, 3, 4] rfl ?_
  exact loop_9 _ 0 M1 (Nat.zero_le _) h1 (Nat.lt_succ_self _)
