abbrev rmX2_pays : Room := { frames := 0, cells := 0, slots := 0, locals := 0 }
set_option maxHeartbeats 4000000 in
set_option maxRecDepth 100000 in
theorem met_X2_pays (l : Launch) (D : va_G) (cI cG cJ : ClassId) (bd : Nat → Nat) (cnt : Nat) (hc : cnt ≤ 8) (rm : Int) (hr : 0 ≤ rm ∧ rm ≤ 12) (ft tv tu fc : Nat → Int) (M : Nat → Nat → Int) (hM : ∀ r j, r ≤ cnt → j < 360 → 0 ≤ M r j ∧ M r j ≤ 1000) (s : Nat) (hs : s < 360) : gMet l yX2_pays cX2_pays 2 (some .boolean) rmX2_pays D cI cG cJ [.ref (bd 0), .int (zI (s : Int))] (wT bd cI cG (cnt : Int) rm ft tv tu fc M) (gI (fun z w9 => z = (if M 0 s ≤ rm then (1 : Int) else 0) ∧ w9 = wT bd cI cG (cnt : Int) rm ft tv tu fc M)) := by
  have h0 := hM 0 s (Nat.zero_le _) hs
  refine gMet_Z (by decide) rfl (Nat.le_of_ble_eq_true rfl) (fun E C ret => ?_)
  refine g_aload_n C dX2_pays_0 0 rfl ?_
  refine g_getf C fX2_11 0 rfl rfl dX2_pays_1 ?_
  refine g_iconst C dX2_pays_4 ?_
  refine g_aald (y := bd (6 + 0)) C 1 rfl (by decide) (by omega) (by omega) (wR_at (by omega)) dX2_pays_5 ?_
  refine g_iload_n C dX2_pays_6 1 rfl ?_
  refine g_iald C (6 + 0) (wT_row1 (by omega)) (by decide) (by omega) (by omega) (v := (M 0 s)) rfl dX2_pays_7 ?_
  refine g_aload_n C dX2_pays_8 0 rfl ?_
  refine g_getf C fX2_30 0 rfl rfl dX2_pays_9 ?_
  refine g_icmp_gt 19 C dX2_pays_12 (by decide) (zr_i (by omega) (by omega)) (zr_i (by omega) (by omega)) (fun c_12 => ?_) (fun c_12 => ?_)
  · refine g_iconst C dX2_pays_19 ?_
    exact ret _ _ _ _ _ _ (by decide) (by decide) dX2_pays_20 (Or.inl rfl) (⟨(if_neg (by omega)).symm, rfl⟩)
  · refine g_iconst C dX2_pays_15 ?_
    refine g_goto 20 C dX2_pays_16 (by decide) ?_
    exact ret _ _ _ _ _ _ (by decide) (by decide) dX2_pays_20 (Or.inr rfl) (⟨(if_pos (by omega)).symm, rfl⟩)
abbrev rmX2_leastSum : Room := { frames := 1, cells := 0, slots := 0, locals := 21 }
set_option maxHeartbeats 4000000 in
set_option maxRecDepth 100000 in
theorem met_X2_leastSum (l : Launch) (D : va_G) (cI cG cJ : ClassId) (bd : Nat → Nat) (cnt : Nat) (hc : cnt ≤ 8) (rm : Int) (hr : 0 ≤ rm ∧ rm ≤ 12) (ft tv tu fc : Nat → Int) (M : Nat → Nat → Int) (hM : ∀ r j, r ≤ cnt → j < 360 → 0 ≤ M r j ∧ M r j ≤ 1000) (p : Nat) (hp : p ≤ 360) : gMet l yX2_leastSum cX2_leastSum 3 (some .int) rmX2_leastSum D cI cG cJ [.ref (bd 0), .int (zI (p : Int))] (wT bd cI cG (cnt : Int) rm ft tv tu fc M) (gI (fun z w9 => z = fsm (M 0) rm (360 - p) p ∧ w9 = wT bd cI cG (cnt : Int) rm ft tv tu fc M)) := by
  refine gMet_I (by decide) rfl (Nat.le_of_ble_eq_true rfl) (fun E C ret => ?_)
  refine g_iload_n C dX2_leastSum_0 1 rfl ?_
  refine g_istore_n (L' := [(2, .int (zI (p : Int))), (0, .ref (bd 0)), (1, .int (zI (p : Int)))]) C dX2_leastSum_1 (by decide) rfl ?_
  have loop_2 : ∀ (fu : Nat) (s : Nat), (hi : s ≤ 360) → (he : fsm (M 0) rm (360 - p) p = fsm (M 0) rm (360 - s) s) → 360 - s < fu → gW E 0 0 (wT bd cI cG (cnt : Int) rm ft tv tu fc M) 2 [(2, .int (zI (s : Int))), (0, .ref (bd 0)), (1, .int (zI (p : Int)))] [] := by
    intro fu
    induction fu with
    | zero => intro s hi he h9; exact absurd h9 (Nat.not_lt_zero _)
    | succ fu ih_2 =>
      intro s hi he hmu_2
      refine g_iload_n C dX2_leastSum_2 0 rfl ?_
      refine g_sipush C dX2_leastSum_3 (by decide) ?_
      refine g_icmp_gt 25 C dX2_leastSum_6 (by decide) (zr_i (by omega) (by omega)) (zr_i (by omega) (by omega)) (fun c_6 => ?_) (fun c_6 => ?_)
      · refine g_iconst C dX2_leastSum_25 ?_
        exact ret _ _ _ _ _ _ (by decide) (by decide) dX2_leastSum_26 (⟨by rw [he, show s = 360 by omega]; rfl, rfl⟩)
      · refine g_aload_n C dX2_leastSum_9 1 rfl ?_
        refine g_iload_n C dX2_leastSum_10 0 rfl ?_
        refine g_callV (wr := ([] : va_W)) (st := []) [0, 1, 2, 3, 4, 5, 6, 7, 8, 9, 10, 11, 12, 13, 14] [] C cX2_63 (met_X2_pays l D cI cG cJ bd cnt hc rm hr ft tv tu fc M hM s (by omega)) ⟨rfl, rfl, by decide, by decide, by decide⟩ (q0 := 0) rfl rfl (by decide) (by decide) rfl rfl (Nat.le_of_ble_eq_true rfl) dX2_leastSum_11 ?_
        rintro v9 w9 ⟨z9, rfl, rfl, rfl⟩
        refine g_ws (w' := wT bd cI cG (cnt : Int) rm ft tv tu fc M) (st' := [.int (zI (if M 0 s ≤ rm then (1 : Int) else 0))]) rfl rfl ?_
        refine g_if_eq 19 C dX2_leastSum_14 (by decide) (by split <;> exact zr_i (by omega) (by omega)) (fun c_14 => ?_) (fun c_14 => ?_)
        · have c9 : ¬ M 0 s ≤ rm := fun q => by rw [if_pos q] at c_14; exact absurd c_14 (by decide)
          refine g_iinc (L' := [(2, .int (zI ((s : Int) + 1))), (0, .ref (bd 0)), (1, .int (zI (p : Int)))]) C dX2_leastSum_19 0 rfl (by decide) rfl ?_
          refine g_goto 2 C dX2_leastSum_22 (by decide) ?_
          refine g_loc (L' := [(2, .int (zI ((s : Int) + 1))), (0, .ref (bd 0)), (1, .int (zI (p : Int)))]) [0, 1, 2] rfl ?_
          exact ih_2 (s + 1) (by omega) (by rw [he, show 360 - s = (360 - (s + 1)) + 1 by omega, fsm_f c9]) (by omega)
        · have c9 : M 0 s ≤ rm := Decidable.byContradiction fun q => c_14 (if_neg q)
          refine g_iload_n C dX2_leastSum_17 0 rfl ?_
          exact ret _ _ _ _ _ _ (by decide) (by decide) dX2_leastSum_18 (⟨by rw [he, show 360 - s = (360 - (s + 1)) + 1 by omega, fsm_t c9], rfl⟩)
  refine g_loc (L' := [(2, .int (zI (p : Int))), (0, .ref (bd 0)), (1, .int (zI (p : Int)))]) [0, 1, 2] rfl ?_
  exact loop_2 _ p hp rfl (Nat.lt_succ_self _)
abbrev rmX2_moreThan : Room := { frames := 2, cells := 0, slots := 0, locals := 43 }
set_option maxHeartbeats 4000000 in
set_option maxRecDepth 100000 in
theorem met_X2_moreThan (l : Launch) (D : va_G) (cI cG cJ : ClassId) (bd : Nat → Nat) (cnt : Nat) (hc : cnt ≤ 8) (rm : Int) (hr : 0 ≤ rm ∧ rm ≤ 12) (ft tv tu fc : Nat → Int) (M : Nat → Nat → Int) (hM : ∀ r j, r ≤ cnt → j < 360 → 0 ≤ M r j ∧ M r j ≤ 1000) (p : Nat) (hp : p ≤ 360) : gMet l yX2_moreThan cX2_moreThan 3 (some .int) rmX2_moreThan D cI cG cJ [.ref (bd 0), .int (zI (p : Int))] (wT bd cI cG (cnt : Int) rm ft tv tu fc M) (gI (fun z w9 => z = (if fsm (M 0) rm (360 - p) p = -1 then (-1 : Int) else fsm (M 0) rm (360 - p) p - (p : Int)) ∧ w9 = wT bd cI cG (cnt : Int) rm ft tv tu fc M)) := by
  refine gMet_I (by decide) rfl (Nat.le_of_ble_eq_true rfl) (fun E C ret => ?_)
  refine g_aload_n C dX2_moreThan_0 0 rfl ?_
  refine g_iload_n C dX2_moreThan_1 1 rfl ?_
  refine g_callV (wr := ([] : va_W)) (st := []) [0, 1, 2, 3, 4, 5, 6, 7, 8, 9, 10, 11, 12, 13, 14] [] C cX2_67 (met_X2_leastSum l D cI cG cJ bd cnt hc rm hr ft tv tu fc M hM p (hp)) ⟨rfl, rfl, by decide, by decide, by decide⟩ (q0 := 0) rfl rfl (by decide) (by decide) rfl rfl (Nat.le_of_ble_eq_true rfl) dX2_moreThan_2 ?_
  rintro v9 w9 ⟨z9, rfl, rfl, rfl⟩
  refine g_ws (w' := wT bd cI cG (cnt : Int) rm ft tv tu fc M) (st' := [.int (zI (fsm (M 0) rm (360 - p) p))]) rfl rfl ?_
  refine g_istore_n (L' := [(2, .int (zI (fsm (M 0) rm (360 - p) p))), (0, .ref (bd 0)), (1, .int (zI (p : Int)))]) C dX2_moreThan_5 (by decide) rfl ?_
  refine g_iload_n C dX2_moreThan_6 0 rfl ?_
  refine g_iconst C dX2_moreThan_7 ?_
  refine g_icmp_ne 15 C dX2_moreThan_8 (by decide) (by rcases fsm_bd (f := M 0) (rm := rm) (360 - p) p with hq | ⟨j9, h1, h2, hq, h4⟩ <;> (rw [hq]; exact zr_i (by omega) (by omega))) (zr_i (by omega) (by omega)) (fun c_8 => ?_) (fun c_8 => ?_)
  · refine g_iload_n C dX2_moreThan_15 0 rfl ?_
    refine g_iload_n C dX2_moreThan_16 2 rfl ?_
    refine g_isub C dX2_moreThan_17 ?_
    exact ret _ _ _ _ _ _ (by decide) (by decide) dX2_moreThan_18 (⟨(if_neg c_8).symm, rfl⟩)
  · refine g_iconst C dX2_moreThan_11 ?_
    refine g_goto 18 C dX2_moreThan_12 (by decide) ?_
    exact ret _ _ _ _ _ _ (by decide) (by decide) dX2_moreThan_18 (⟨(if_pos c_8).symm, rfl⟩)
abbrev rmX2_stampsOnLetter : Room := { frames := 2, cells := 0, slots := 0, locals := 43 }
set_option maxHeartbeats 4000000 in
set_option maxRecDepth 100000 in
theorem met_X2_stampsOnLetter (l : Launch) (D : va_G) (cI cG cJ : ClassId) (bd : Nat → Nat) (cnt : Nat) (hc : cnt ≤ 8) (rm : Int) (hr : 0 ≤ rm ∧ rm ≤ 12) (ft tv tu fc : Nat → Int) (M : Nat → Nat → Int) (hM : ∀ r j, r ≤ cnt → j < 360 → 0 ≤ M r j ∧ M r j ≤ 1000) (p : Nat) (hp : p ≤ 360) : gMet l yX2_stampsOnLetter cX2_stampsOnLetter 3 (some .int) rmX2_stampsOnLetter D cI cG cJ [.ref (bd 0), .int (zI (p : Int))] (wT bd cI cG (cnt : Int) rm ft tv tu fc M) (gI (fun z w9 => z = (if fsm (M 0) rm (360 - p) p = -1 then (0 : Int) else M 0 (fsm (M 0) rm (360 - p) p).toNat) ∧ w9 = wT bd cI cG (cnt : Int) rm ft tv tu fc M)) := by
  refine gMet_I (by decide) rfl (Nat.le_of_ble_eq_true rfl) (fun E C ret => ?_)
  refine g_aload_n C dX2_stampsOnLetter_0 0 rfl ?_
  refine g_iload_n C dX2_stampsOnLetter_1 1 rfl ?_
  refine g_callV (wr := ([] : va_W)) (st := []) [0, 1, 2, 3, 4, 5, 6, 7, 8, 9, 10, 11, 12, 13, 14] [] C cX2_67 (met_X2_leastSum l D cI cG cJ bd cnt hc rm hr ft tv tu fc M hM p (hp)) ⟨rfl, rfl, by decide, by decide, by decide⟩ (q0 := 0) rfl rfl (by decide) (by decide) rfl rfl (Nat.le_of_ble_eq_true rfl) dX2_stampsOnLetter_2 ?_
  rintro v9 w9 ⟨z9, rfl, rfl, rfl⟩
  refine g_ws (w' := wT bd cI cG (cnt : Int) rm ft tv tu fc M) (st' := [.int (zI (fsm (M 0) rm (360 - p) p))]) rfl rfl ?_
  refine g_istore_n (L' := [(2, .int (zI (fsm (M 0) rm (360 - p) p))), (0, .ref (bd 0)), (1, .int (zI (p : Int)))]) C dX2_stampsOnLetter_5 (by decide) rfl ?_
  refine g_iload_n C dX2_stampsOnLetter_6 0 rfl ?_
  refine g_iconst C dX2_stampsOnLetter_7 ?_
  refine g_icmp_ne 15 C dX2_stampsOnLetter_8 (by decide) (by rcases fsm_bd (f := M 0) (rm := rm) (360 - p) p with hq | ⟨j9, h1, h2, hq, h4⟩ <;> (rw [hq]; exact zr_i (by omega) (by omega))) (zr_i (by omega) (by omega)) (fun c_8 => ?_) (fun c_8 => ?_)
  · have hq2 : 0 ≤ fsm (M 0) rm (360 - p) p ∧ fsm (M 0) rm (360 - p) p < 360 := by
      rcases fsm_bd (f := M 0) (rm := rm) (360 - p) p with hq | ⟨j9, h1, h2, hq, h4⟩
      · exact absurd hq c_8
      · rw [hq]; omega
    refine g_aload_n C dX2_stampsOnLetter_15 1 rfl ?_
    refine g_getf C fX2_11 0 rfl rfl dX2_stampsOnLetter_16 ?_
    refine g_iconst C dX2_stampsOnLetter_19 ?_
    refine g_aald (y := bd (6 + 0)) C 1 rfl (by decide) (by omega) (by omega) (wR_at (by omega)) dX2_stampsOnLetter_20 ?_
    refine g_iload_n C dX2_stampsOnLetter_21 0 rfl ?_
    refine g_iald C (6 + 0) (wT_row1 (by omega)) (by decide) (by omega) (by omega) (v := (M 0 (((fsm (M 0) rm (360 - p) p)).toNat))) rfl dX2_stampsOnLetter_22 ?_
    exact ret _ _ _ _ _ _ (by decide) (by decide) dX2_stampsOnLetter_23 (⟨(if_neg c_8).symm, rfl⟩)
  · refine g_iconst C dX2_stampsOnLetter_11 ?_
    refine g_goto 23 C dX2_stampsOnLetter_12 (by decide) ?_
    exact ret _ _ _ _ _ _ (by decide) (by decide) dX2_stampsOnLetter_23 (⟨(if_pos c_8).symm, rfl⟩)
abbrev rmX2_reachOfStock : Room := { frames := 1, cells := 0, slots := 0, locals := 21 }
set_option maxHeartbeats 4000000 in
set_option maxRecDepth 100000 in
theorem met_X2_reachOfStock (l : Launch) (D : va_G) (cI cG cJ : ClassId) (bd : Nat → Nat) (cnt : Nat) (hc : cnt ≤ 8) (rm : Int) (hr : 0 ≤ rm ∧ rm ≤ 12) (ft tv tu fc : Nat → Int) (M : Nat → Nat → Int) (hM : ∀ r j, r ≤ cnt → j < 360 → 0 ≤ M r j ∧ M r j ≤ 1000)  : gMet l yX2_reachOfStock cX2_reachOfStock 2 (some .int) rmX2_reachOfStock D cI cG cJ [.ref (bd 0)] (wT bd cI cG (cnt : Int) rm ft tv tu fc M) (gI (fun z w9 => z = ((rch (M 0) rm 300 0 : Nat) : Int) ∧ w9 = wT bd cI cG (cnt : Int) rm ft tv tu fc M)) := by
  refine gMet_I (by decide) rfl (Nat.le_of_ble_eq_true rfl) (fun E C ret => ?_)
  refine g_iconst C dX2_reachOfStock_0 ?_
  refine g_istore_n (L' := [(1, .int (zI 0)), (0, .ref (bd 0))]) C dX2_reachOfStock_1 (by decide) rfl ?_
  have loop_2 : ∀ (fu : Nat) (p : Nat), (hi : p ≤ 300) → (he : rch (M 0) rm 300 0 = rch (M 0) rm (300 - p) p) → 300 - p < fu → gW E 0 0 (wT bd cI cG (cnt : Int) rm ft tv tu fc M) 2 [(1, .int (zI (p : Int))), (0, .ref (bd 0))] [] := by
    intro fu
    induction fu with
    | zero => intro p hi he h9; exact absurd h9 (Nat.not_lt_zero _)
    | succ fu ih_2 =>
      intro p hi he hmu_2
      refine g_iload_n C dX2_reachOfStock_2 0 rfl ?_
      refine g_sipush C dX2_reachOfStock_3 (by decide) ?_
      refine g_icmp_ge 25 C dX2_reachOfStock_6 (by decide) (zr_i (by omega) (by omega)) (zr_i (by omega) (by omega)) (fun c_6 => ?_) (fun c_6 => ?_)
      · refine g_iload_n C dX2_reachOfStock_25 0 rfl ?_
        exact ret _ _ _ _ _ _ (by decide) (by decide) dX2_reachOfStock_26 (⟨by rw [he, show p = 300 by omega]; rfl, rfl⟩)
      · refine g_aload_n C dX2_reachOfStock_9 1 rfl ?_
        refine g_iload_n C dX2_reachOfStock_10 0 rfl ?_
        refine g_iconst C dX2_reachOfStock_11 ?_
        refine g_iadd C dX2_reachOfStock_12 ?_
        refine g_callV (wr := ([] : va_W)) (st := []) [0, 1, 2, 3, 4, 5, 6, 7, 8, 9, 10, 11, 12, 13, 14] [] C cX2_63 (met_X2_pays l D cI cG cJ bd cnt hc rm hr ft tv tu fc M hM (p + 1) (by omega)) ⟨rfl, rfl, by decide, by decide, by decide⟩ (q0 := 0) rfl rfl (by decide) (by decide) rfl rfl (Nat.le_of_ble_eq_true rfl) dX2_reachOfStock_13 ?_
        rintro v9 w9 ⟨z9, rfl, rfl, rfl⟩
        refine g_ws (w' := wT bd cI cG (cnt : Int) rm ft tv tu fc M) (st' := [.int (zI (if M 0 (p + 1) ≤ rm then (1 : Int) else 0))]) rfl rfl ?_
        refine g_if_eq 25 C dX2_reachOfStock_16 (by decide) (by split <;> exact zr_i (by omega) (by omega)) (fun c_16 => ?_) (fun c_16 => ?_)
        · have c9 : ¬ M 0 (p + 1) ≤ rm := fun q => by rw [if_pos q] at c_16; exact absurd c_16 (by decide)
          refine g_iload_n C dX2_reachOfStock_25 0 rfl ?_
          exact ret _ _ _ _ _ _ (by decide) (by decide) dX2_reachOfStock_26 (⟨by rw [he, rch_f c9], rfl⟩)
        · have c9 : M 0 (p + 1) ≤ rm := Decidable.byContradiction fun q => c_16 (if_neg q)
          refine g_iinc (L' := [(1, .int (zI ((p : Int) + 1))), (0, .ref (bd 0))]) C dX2_reachOfStock_19 0 rfl (by decide) rfl ?_
          refine g_goto 2 C dX2_reachOfStock_22 (by decide) ?_
          refine g_loc (L' := [(1, .int (zI ((p : Int) + 1))), (0, .ref (bd 0))]) [0, 1] rfl ?_
          exact ih_2 (p + 1) (by omega) (by rw [he, show 300 - p = (300 - (p + 1)) + 1 by omega, rch_t c9]) (by omega)
  refine g_loc (L' := [(1, .int (zI 0)), (0, .ref (bd 0))]) [0, 1] rfl ?_
  exact loop_2 _ 0 (Nat.zero_le _) rfl (Nat.lt_succ_self _)
abbrev rmX2_mostOf : Room := { frames := 0, cells := 0, slots := 0, locals := 0 }
set_option maxHeartbeats 4000000 in
set_option maxRecDepth 100000 in
theorem met_X2_mostOf (l : Launch) (D : va_G) (cI cG cJ : ClassId) (bd : Nat → Nat) (cnt : Nat) (hc : cnt ≤ 8) (rm : Int) (hr : 0 ≤ rm ∧ rm ≤ 12) (ft tv tu fc : Nat → Int) (M : Nat → Nat → Int) (hM : ∀ r j, r ≤ cnt → j < 360 → 0 ≤ M r j ∧ M r j ≤ 1000) (hv : ∀ r, r < cnt → 1 ≤ tv r ∧ tv r ≤ 60) (hu : ∀ r, r < cnt → 0 ≤ tu r ∧ tu r ≤ 12) (r : Nat) (hr9 : r < cnt) (s : Nat) (hs : s < 360) : gMet l yX2_mostOf cX2_mostOf 8 (some .int) rmX2_mostOf D cI cG cJ [.ref (bd 0), .int (zI (r : Int)), .int (zI (s : Int))] (wT bd cI cG (cnt : Int) rm ft tv tu fc M) (gI (fun z w9 => z = ((mo (M (r + 1)) (tv r) (M r s) s (tu r).toNat : Nat) : Int) ∧ w9 = wT bd cI cG (cnt : Int) rm ft tv tu fc M)) := by
  have hv9 := hv r hr9
  have hu9 := hu r hr9
  have hM9 := hM r s (by omega) hs
  refine gMet_I (by decide) rfl (Nat.le_of_ble_eq_true rfl) (fun E C ret => ?_)
  refine g_aload_n C dX2_mostOf_0 0 rfl ?_
  refine g_getf C fX2_20 0 rfl rfl dX2_mostOf_1 ?_
  refine g_iload_n C dX2_mostOf_4 1 rfl ?_
  refine g_iald C 3 rfl (by decide) (by omega) (by omega) (v := (tv r)) rfl dX2_mostOf_5 ?_
  refine g_istore_n (L' := [(3, .int (zI (tv r))), (0, .ref (bd 0)), (1, .int (zI (r : Int))), (2, .int (zI (s : Int)))]) C dX2_mostOf_6 (by decide) rfl ?_
  refine g_aload_n C dX2_mostOf_7 1 rfl ?_
  refine g_getf C fX2_11 0 rfl rfl dX2_mostOf_8 ?_
  refine g_iload_n C dX2_mostOf_11 2 rfl ?_
  refine g_aald (y := bd (6 + r)) C 1 rfl (by decide) (by omega) (by omega) (wR_at (by omega)) dX2_mostOf_12 ?_
  refine g_iload_n C dX2_mostOf_13 3 rfl ?_
  refine g_iald C (6 + r) (wT_row1 (by omega)) (by decide) (by omega) (by omega) (v := (M r s)) rfl dX2_mostOf_14 ?_
  refine g_istore (L' := [(4, .int (zI (M r s))), (3, .int (zI (tv r))), (0, .ref (bd 0)), (1, .int (zI (r : Int))), (2, .int (zI (s : Int)))]) C dX2_mostOf_15 (by decide) rfl ?_
  refine g_aload_n C dX2_mostOf_17 2 rfl ?_
  refine g_getf C fX2_11 0 rfl rfl dX2_mostOf_18 ?_
  refine g_iload_n C dX2_mostOf_21 3 rfl ?_
  refine g_iconst C dX2_mostOf_22 ?_
  refine g_iadd C dX2_mostOf_23 ?_
  refine g_aald (y := bd (6 + (r + 1))) C 1 rfl (by decide) (by omega) (by omega) (wR_at (by omega)) dX2_mostOf_24 ?_
  refine g_astore (L' := [(5, .ref (bd (6 + (r + 1)))), (4, .int (zI (M r s))), (3, .int (zI (tv r))), (0, .ref (bd 0)), (1, .int (zI (r : Int))), (2, .int (zI (s : Int)))]) C dX2_mostOf_25 (by decide) rfl ?_
  refine g_aload_n C dX2_mostOf_27 3 rfl ?_
  refine g_getf C fX2_23 0 rfl rfl dX2_mostOf_28 ?_
  refine g_iload_n C dX2_mostOf_31 4 rfl ?_
  refine g_iald C 4 rfl (by decide) (by omega) (by omega) (v := (tu r)) rfl dX2_mostOf_32 ?_
  refine g_top (((tu r).toNat : Nat) : Int) (by omega) ?_
  refine g_istore (L' := [(6, .int (zI (((tu r).toNat : Nat) : Int))), (5, .ref (bd (6 + (r + 1)))), (4, .int (zI (M r s))), (3, .int (zI (tv r))), (0, .ref (bd 0)), (1, .int (zI (r : Int))), (2, .int (zI (s : Int)))]) C dX2_mostOf_33 (by decide) rfl ?_
  have loop_35 : ∀ (fu : Nat) (m : Nat), (hi : m ≤ 12) → (he : mo (M (r + 1)) (tv r) (M r s) s (tu r).toNat = mo (M (r + 1)) (tv r) (M r s) s m) → m < fu → gW E 0 0 (wT bd cI cG (cnt : Int) rm ft tv tu fc M) 35 [(6, .int (zI (m : Int))), (5, .ref (bd (6 + (r + 1)))), (4, .int (zI (M r s))), (3, .int (zI (tv r))), (0, .ref (bd 0)), (1, .int (zI (r : Int))), (2, .int (zI (s : Int)))] [] := by
    intro fu
    induction fu with
    | zero => intro m hi he h9; exact absurd h9 (Nat.not_lt_zero _)
    | succ fu ih_35 =>
      intro m hi he hmu_35
      have hp := mul_bd0 hv9.1 hv9.2 (by omega : m ≤ 13)
      refine g_iload C dX2_mostOf_35 0 rfl ?_
      refine g_if_le 75 C dX2_mostOf_37 (by decide) (zr_i (by omega) (by omega)) (fun c_37 => ?_) (fun c_37 => ?_)
      · refine g_iconst C dX2_mostOf_75 ?_
        exact ret _ _ _ _ _ _ (by decide) (by decide) dX2_mostOf_76 (⟨by rw [he, show m = 0 by omega]; rfl, rfl⟩)
      · refine g_iload_n C dX2_mostOf_40 6 rfl ?_
        refine g_iload C dX2_mostOf_41 0 rfl ?_
        refine g_iload_n C dX2_mostOf_43 3 rfl ?_
        refine g_imul C dX2_mostOf_44 ?_
        refine g_isub C dX2_mostOf_45 ?_
        refine g_istore (L' := [(7, .int (zI ((s : Int) - ((m : Int) * (tv r))))), (6, .int (zI (m : Int))), (5, .ref (bd (6 + (r + 1)))), (4, .int (zI (M r s))), (3, .int (zI (tv r))), (0, .ref (bd 0)), (1, .int (zI (r : Int))), (2, .int (zI (s : Int)))]) C dX2_mostOf_46 (by decide) rfl ?_
        refine g_iload C dX2_mostOf_48 0 rfl ?_
        refine g_if_lt 69 C dX2_mostOf_50 (by decide) (zr_i (by omega) (by omega)) (fun c_50 => ?_) (fun c_50 => ?_)
        · refine g_iinc (L' := [(6, .int (zI ((m : Int) + (-1)))), (7, .int (zI ((s : Int) - ((m : Int) * (tv r))))), (5, .ref (bd (6 + (r + 1)))), (4, .int (zI (M r s))), (3, .int (zI (tv r))), (0, .ref (bd 0)), (1, .int (zI (r : Int))), (2, .int (zI (s : Int)))]) C dX2_mostOf_69 1 rfl (by decide) rfl ?_
          refine g_goto 35 C dX2_mostOf_72 (by decide) ?_
          refine g_loc (L' := [(6, .int (zI ((m : Int) + (-1)))), (5, .ref (bd (6 + (r + 1)))), (4, .int (zI (M r s))), (3, .int (zI (tv r))), (0, .ref (bd 0)), (1, .int (zI (r : Int))), (2, .int (zI (s : Int)))]) [0, 2, 3, 4, 5, 6, 7] rfl ?_
          refine g_lw (w' := wT bd cI cG (cnt : Int) rm ft tv tu fc M) (L' := [(6, .int (zI ((m - 1 : Nat) : Int))), (5, .ref (bd (6 + (r + 1)))), (4, .int (zI (M r s))), (3, .int (zI (tv r))), (0, .ref (bd 0)), (1, .int (zI (r : Int))), (2, .int (zI (s : Int)))]) rfl (by rw [show ((m : Int) + (-1)) = ((m - 1 : Nat) : Int) by omega]) ?_
          exact ih_35 (m - 1) (by omega) (he.trans (mo_n c_37 (fun q => by omega))) (by omega)
        · refine g_aload C dX2_mostOf_53 2 rfl ?_
          refine g_iload C dX2_mostOf_55 0 rfl ?_
          refine g_iald C (6 + (r + 1)) (wT_row1 (by omega)) (by decide) (by omega) (by omega) (v := (M (r + 1) ((((s : Int) - ((m : Int) * (tv r)))).toNat))) rfl dX2_mostOf_57 ?_
          refine g_iload C dX2_mostOf_58 1 rfl ?_
          have hM8 := hM (r + 1) ((s : Int) - (m : Int) * tv r).toNat (by omega) (by omega)
          refine g_iadd C dX2_mostOf_60 ?_
          refine g_iload C dX2_mostOf_61 3 rfl ?_
          refine g_icmp_ne 69 C dX2_mostOf_63 (by decide) (zr_i (by omega) (by omega)) (zr_i (by omega) (by omega)) (fun c_63 => ?_) (fun c_63 => ?_)
          · refine g_iinc (L' := [(6, .int (zI ((m : Int) + (-1)))), (7, .int (zI ((s : Int) - ((m : Int) * (tv r))))), (5, .ref (bd (6 + (r + 1)))), (4, .int (zI (M r s))), (3, .int (zI (tv r))), (0, .ref (bd 0)), (1, .int (zI (r : Int))), (2, .int (zI (s : Int)))]) C dX2_mostOf_69 1 rfl (by decide) rfl ?_
            refine g_goto 35 C dX2_mostOf_72 (by decide) ?_
            refine g_loc (L' := [(6, .int (zI ((m : Int) + (-1)))), (5, .ref (bd (6 + (r + 1)))), (4, .int (zI (M r s))), (3, .int (zI (tv r))), (0, .ref (bd 0)), (1, .int (zI (r : Int))), (2, .int (zI (s : Int)))]) [0, 2, 3, 4, 5, 6, 7] rfl ?_
            refine g_lw (w' := wT bd cI cG (cnt : Int) rm ft tv tu fc M) (L' := [(6, .int (zI ((m - 1 : Nat) : Int))), (5, .ref (bd (6 + (r + 1)))), (4, .int (zI (M r s))), (3, .int (zI (tv r))), (0, .ref (bd 0)), (1, .int (zI (r : Int))), (2, .int (zI (s : Int)))]) rfl (by rw [show ((m : Int) + (-1)) = ((m - 1 : Nat) : Int) by omega]) ?_
            exact ih_35 (m - 1) (by omega) (he.trans (mo_n c_37 (fun q => c_63 q.2))) (by omega)
          · refine g_iload C dX2_mostOf_66 1 rfl ?_
            exact ret _ _ _ _ _ _ (by decide) (by decide) dX2_mostOf_68 (⟨by rw [he, mo_p c_37 (by omega) c_63], rfl⟩)
  refine g_loc (L' := [(6, .int (zI (((tu r).toNat : Nat) : Int))), (5, .ref (bd (6 + (r + 1)))), (4, .int (zI (M r s))), (3, .int (zI (tv r))), (0, .ref (bd 0)), (1, .int (zI (r : Int))), (2, .int (zI (s : Int)))]) [0, 1, 2, 3, 4, 5, 6] rfl ?_
  exact loop_35 _ ((tu r).toNat) (by omega) rfl (Nat.lt_succ_self _)
abbrev rmX2_choose : Room := { frames := 1, cells := 0, slots := 0, locals := 27 }
set_option maxHeartbeats 4000000 in
set_option maxRecDepth 100000 in
theorem met_X2_choose (l : Launch) (D : va_G) (cI cG cJ : ClassId) (bd : Nat → Nat) (cnt : Nat) (hc : cnt ≤ 8) (rm : Int) (hr : 0 ≤ rm ∧ rm ≤ 12) (ft tv tu fc : Nat → Int) (M : Nat → Nat → Int) (hM : ∀ r j, r ≤ cnt → j < 360 → 0 ≤ M r j ∧ M r j ≤ 1000) (hv : ∀ r, r < cnt → 1 ≤ tv r ∧ tv r ≤ 60) (hu : ∀ r, r < cnt → 0 ≤ tu r ∧ tu r ≤ 12) (hf : ∀ r, r < cnt → 0 ≤ ft r ∧ ft r < 8) (s : Nat) (hs : s < 360) : gMet l yX2_choose cX2_choose 5 none rmX2_choose D cI cG cJ [.ref (bd 0), .int (zI (s : Int))] (wT bd cI cG (cnt : Int) rm ft tv tu fc M) (gN (fun w9 => w9 = wT bd cI cG (cnt : Int) rm ft tv tu (chU M ft tv tu fc s cnt) M)) := by
  refine gMet_N (by decide) rfl (Nat.le_of_ble_eq_true rfl) (fun E C ret => ?_)
  refine g_iload_n C dX2_choose_0 1 rfl ?_
  refine g_istore_n (L' := [(2, .int (zI (s : Int))), (0, .ref (bd 0)), (1, .int (zI (s : Int)))]) C dX2_choose_1 (by decide) rfl ?_
  refine g_iconst C dX2_choose_2 ?_
  refine g_istore_n (L' := [(3, .int (zI 0)), (2, .int (zI (s : Int))), (0, .ref (bd 0)), (1, .int (zI (s : Int)))]) C dX2_choose_3 (by decide) rfl ?_
  have loop_4 : ∀ (fu : Nat) (r : Nat), (hi : r ≤ cnt) → cnt - r < fu → gW E 0 0 (wT bd cI cG (cnt : Int) rm ft tv tu (chU M ft tv tu fc s r) M) 4 [(3, .int (zI (r : Int))), (2, .int (zI ((rst M tv tu s r : Nat) : Int))), (0, .ref (bd 0)), (1, .int (zI (s : Int)))] [] := by
    intro fu
    induction fu with
    | zero => intro r hi h9; exact absurd h9 (Nat.not_lt_zero _)
    | succ fu ih_4 =>
      intro r hi hmu_4
      have hle := rst_le (M := M) (tv := tv) (tu := tu) (s := s) r (fun j hj => by have := hv j (by omega); omega)
      refine g_iload_n C dX2_choose_4 0 rfl ?_
      refine g_aload_n C dX2_choose_5 2 rfl ?_
      refine g_getf C fX2_26 0 rfl rfl dX2_choose_6 ?_
      refine g_icmp_ge 51 C dX2_choose_9 (by decide) (zr_i (by omega) (by omega)) (zr_i (by omega) (by omega)) (fun c_9 => ?_) (fun c_9 => ?_)
      · have e9 : r = cnt := by omega
        subst e9
        exact ret _ _ _ _ _ (by decide) (by decide) dX2_choose_51 (rfl)
      · refine g_aload_n C dX2_choose_12 2 rfl ?_
        refine g_iload_n C dX2_choose_13 0 rfl ?_
        refine g_iload_n C dX2_choose_14 1 rfl ?_
        refine g_callV (wr := ([] : va_W)) (st := []) [0, 1, 2, 3, 4, 5, 6, 7, 8, 9, 10, 11, 12, 13, 14] [] C cX2_70 (met_X2_mostOf l D cI cG cJ bd cnt hc rm hr ft tv tu (chU M ft tv tu fc s r) M hM hv hu r (by omega) (rst M tv tu s r) (by omega)) ⟨rfl, rfl, by decide, by decide, by decide⟩ (q0 := 0) rfl rfl (by decide) (by decide) rfl rfl (Nat.le_of_ble_eq_true rfl) dX2_choose_15 ?_
        rintro v9 w9 ⟨z9, rfl, rfl, rfl⟩
        refine g_ws (w' := wT bd cI cG (cnt : Int) rm ft tv tu (chU M ft tv tu fc s r) M) (st' := [.int (zI ((chm M tv tu s r : Nat) : Int))]) rfl rfl ?_
        refine g_istore (L' := [(4, .int (zI ((chm M tv tu s r : Nat) : Int))), (3, .int (zI (r : Int))), (2, .int (zI ((rst M tv tu s r : Nat) : Int))), (0, .ref (bd 0)), (1, .int (zI (s : Int)))]) C dX2_choose_18 (by decide) rfl ?_
        refine g_aload_n C dX2_choose_20 3 rfl ?_
        refine g_getf C fX2_33 0 rfl rfl dX2_choose_21 ?_
        refine g_aload_n C dX2_choose_24 3 rfl ?_
        refine g_getf C fX2_16 0 rfl rfl dX2_choose_25 ?_
        refine g_iload_n C dX2_choose_28 1 rfl ?_
        have hf9 := hf r (by omega)
        refine g_iald C 2 rfl (by decide) (by omega) (by omega) (v := (ft r)) rfl dX2_choose_29 ?_
        refine g_iload C dX2_choose_30 0 rfl ?_
        refine g_iast (w' := wT bd cI cG (cnt : Int) rm ft tv tu (zU (chU M ft tv tu fc s r) (((ft r)).toNat) ((chm M tv tu s r : Nat) : Int)) M) C 5 rfl (by decide) (by omega) (by omega) rfl dX2_choose_32 ?_
        refine g_iload_n C dX2_choose_33 2 rfl ?_
        refine g_iload C dX2_choose_34 0 rfl ?_
        refine g_aload_n C dX2_choose_36 3 rfl ?_
        refine g_getf C fX2_20 0 rfl rfl dX2_choose_37 ?_
        refine g_iload_n C dX2_choose_40 1 rfl ?_
        refine g_iald C 3 rfl (by decide) (by omega) (by omega) (v := (tv r)) rfl dX2_choose_41 ?_
        refine g_imul C dX2_choose_42 ?_
        refine g_isub C dX2_choose_43 ?_
        refine g_istore_n (L' := [(2, .int (zI (((rst M tv tu s r : Nat) : Int) - (((chm M tv tu s r : Nat) : Int) * (tv r))))), (4, .int (zI ((chm M tv tu s r : Nat) : Int))), (3, .int (zI (r : Int))), (0, .ref (bd 0)), (1, .int (zI (s : Int)))]) C dX2_choose_44 (by decide) rfl ?_
        refine g_iinc (L' := [(3, .int (zI ((r : Int) + 1))), (2, .int (zI (((rst M tv tu s r : Nat) : Int) - (((chm M tv tu s r : Nat) : Int) * (tv r))))), (4, .int (zI ((chm M tv tu s r : Nat) : Int))), (0, .ref (bd 0)), (1, .int (zI (s : Int)))]) C dX2_choose_45 2 rfl (by decide) rfl ?_
        refine g_goto 4 C dX2_choose_48 (by decide) ?_
        refine g_loc (L' := [(3, .int (zI ((r : Int) + 1))), (2, .int (zI (((rst M tv tu s r : Nat) : Int) - (((chm M tv tu s r : Nat) : Int) * (tv r))))), (0, .ref (bd 0)), (1, .int (zI (s : Int)))]) [0, 1, 3, 4] rfl ?_
        refine g_lw (w' := wT bd cI cG (cnt : Int) rm ft tv tu (zU (chU M ft tv tu fc s r) (((ft r)).toNat) ((chm M tv tu s r : Nat) : Int)) M) (L' := [(3, .int (zI ((r + 1 : Nat) : Int))), (2, .int (zI ((rst M tv tu s (r + 1) : Nat) : Int))), (0, .ref (bd 0)), (1, .int (zI (s : Int)))]) rfl (by rw [rst_s]; rfl) ?_
        exact ih_4 (r + 1) (by omega) (by omega)
  refine g_loc (L' := [(3, .int (zI 0)), (2, .int (zI (s : Int))), (0, .ref (bd 0)), (1, .int (zI (s : Int)))]) [0, 1, 2, 3] rfl ?_
  exact loop_4 _ 0 (Nat.zero_le _) (Nat.lt_succ_self _)
abbrev rmX2_greatestSum : Room := { frames := 1, cells := 0, slots := 0, locals := 21 }
set_option maxHeartbeats 4000000 in
set_option maxRecDepth 100000 in
theorem met_X2_greatestSum (l : Launch) (D : va_G) (cI cG cJ : ClassId) (bd : Nat → Nat) (cnt : Nat) (hc : cnt ≤ 8) (rm : Int) (hr : 0 ≤ rm ∧ rm ≤ 12) (ft tv tu fc : Nat → Int) (M : Nat → Nat → Int) (hv : ∀ r, r < cnt → 1 ≤ tv r ∧ tv r ≤ 60) (hu : ∀ r, r < cnt → 0 ≤ tu r ∧ tu r ≤ 99)  : gMet l yX2_greatestSum cX2_greatestSum 5 (some .int) rmX2_greatestSum D cI cG cJ [.ref (bd 0)] (wT bd cI cG (cnt : Int) rm ft tv tu fc M) (gI (fun z w9 => z = (gsm tv tu rm cnt).2 ∧ w9 = wT bd cI cG (cnt : Int) rm ft tv tu fc M)) := by
  refine gMet_I (by decide) rfl (Nat.le_of_ble_eq_true rfl) (fun E C ret => ?_)
  refine g_aload_n C dX2_greatestSum_0 0 rfl ?_
  refine g_getf C fX2_30 0 rfl rfl dX2_greatestSum_1 ?_
  refine g_istore_n (L' := [(1, .int (zI rm)), (0, .ref (bd 0))]) C dX2_greatestSum_4 (by decide) rfl ?_
  refine g_iconst C dX2_greatestSum_5 ?_
  refine g_istore_n (L' := [(2, .int (zI 0)), (1, .int (zI rm)), (0, .ref (bd 0))]) C dX2_greatestSum_6 (by decide) rfl ?_
  refine g_iconst C dX2_greatestSum_7 ?_
  refine g_istore_n (L' := [(3, .int (zI 0)), (2, .int (zI 0)), (1, .int (zI rm)), (0, .ref (bd 0))]) C dX2_greatestSum_8 (by decide) rfl ?_
  have loop_9 : ∀ (fu : Nat) (r : Nat), (hi : r ≤ cnt) → cnt - r < fu → gW E 0 0 (wT bd cI cG (cnt : Int) rm ft tv tu fc M) 9 [(3, .int (zI (r : Int))), (2, .int (zI ((gsm tv tu rm r).2))), (1, .int (zI ((gsm tv tu rm r).1))), (0, .ref (bd 0))] [] := by
    intro fu
    induction fu with
    | zero => intro r hi h9; exact absurd h9 (Nat.not_lt_zero _)
    | succ fu ih_9 =>
      intro r hi hmu_9
      have hb := gsm_bd (tv := tv) (tu := tu) hr.1 r (fun j hj => (hu j (by omega)).1)
      refine g_iload_n C dX2_greatestSum_9 0 rfl ?_
      refine g_aload_n C dX2_greatestSum_10 3 rfl ?_
      refine g_getf C fX2_26 0 rfl rfl dX2_greatestSum_11 ?_
      refine g_icmp_ge 52 C dX2_greatestSum_14 (by decide) (zr_i (by omega) (by omega)) (zr_i (by omega) (by omega)) (fun c_14 => ?_) (fun c_14 => ?_)
      · have e9 : r = cnt := by omega
        subst e9
        refine g_iload_n C dX2_greatestSum_52 1 rfl ?_
        exact ret _ _ _ _ _ _ (by decide) (by decide) dX2_greatestSum_53 (⟨rfl, rfl⟩)
      · refine g_aload_n C dX2_greatestSum_17 3 rfl ?_
        refine g_getf C fX2_23 0 rfl rfl dX2_greatestSum_18 ?_
        refine g_iload_n C dX2_greatestSum_21 0 rfl ?_
        refine g_iald C 4 rfl (by decide) (by omega) (by omega) (v := (tu r)) rfl dX2_greatestSum_22 ?_
        have hu9 := hu r (by omega)
        refine g_iload_n C dX2_greatestSum_23 2 rfl ?_
        refine g_min C mX2_49 (zr_i (by omega) (by omega)) (zr_i (by omega) (by omega)) (by decide) (Nat.le_of_ble_eq_true rfl) dX2_greatestSum_24 ?_
        refine g_istore (L' := [(4, .int (zI (min (tu r) ((gsm tv tu rm r).1)))), (3, .int (zI (r : Int))), (2, .int (zI ((gsm tv tu rm r).2))), (1, .int (zI ((gsm tv tu rm r).1))), (0, .ref (bd 0))]) C dX2_greatestSum_27 (by decide) rfl ?_
        refine g_iload_n C dX2_greatestSum_29 2 rfl ?_
        refine g_iload C dX2_greatestSum_30 0 rfl ?_
        refine g_aload_n C dX2_greatestSum_32 4 rfl ?_
        refine g_getf C fX2_20 0 rfl rfl dX2_greatestSum_33 ?_
        refine g_iload_n C dX2_greatestSum_36 1 rfl ?_
        refine g_iald C 3 rfl (by decide) (by omega) (by omega) (v := (tv r)) rfl dX2_greatestSum_37 ?_
        refine g_imul C dX2_greatestSum_38 ?_
        refine g_iadd C dX2_greatestSum_39 ?_
        refine g_istore_n (L' := [(2, .int (zI ((gsm tv tu rm r).2 + ((min (tu r) ((gsm tv tu rm r).1)) * (tv r))))), (4, .int (zI (min (tu r) ((gsm tv tu rm r).1)))), (3, .int (zI (r : Int))), (1, .int (zI ((gsm tv tu rm r).1))), (0, .ref (bd 0))]) C dX2_greatestSum_40 (by decide) rfl ?_
        refine g_iload_n C dX2_greatestSum_41 3 rfl ?_
        refine g_iload C dX2_greatestSum_42 1 rfl ?_
        refine g_isub C dX2_greatestSum_44 ?_
        refine g_istore_n (L' := [(1, .int (zI ((gsm tv tu rm r).1 - (min (tu r) ((gsm tv tu rm r).1))))), (2, .int (zI ((gsm tv tu rm r).2 + ((min (tu r) ((gsm tv tu rm r).1)) * (tv r))))), (4, .int (zI (min (tu r) ((gsm tv tu rm r).1)))), (3, .int (zI (r : Int))), (0, .ref (bd 0))]) C dX2_greatestSum_45 (by decide) rfl ?_
        refine g_iinc (L' := [(3, .int (zI ((r : Int) + 1))), (1, .int (zI ((gsm tv tu rm r).1 - (min (tu r) ((gsm tv tu rm r).1))))), (2, .int (zI ((gsm tv tu rm r).2 + ((min (tu r) ((gsm tv tu rm r).1)) * (tv r))))), (4, .int (zI (min (tu r) ((gsm tv tu rm r).1)))), (0, .ref (bd 0))]) C dX2_greatestSum_46 3 rfl (by decide) rfl ?_
        refine g_goto 9 C dX2_greatestSum_49 (by decide) ?_
        refine g_loc (L' := [(3, .int (zI ((r : Int) + 1))), (2, .int (zI ((gsm tv tu rm r).2 + ((min (tu r) ((gsm tv tu rm r).1)) * (tv r))))), (1, .int (zI ((gsm tv tu rm r).1 - (min (tu r) ((gsm tv tu rm r).1))))), (0, .ref (bd 0))]) [0, 2, 1, 4] rfl ?_
        exact ih_9 (r + 1) (by omega) (by omega)
  refine g_loc (L' := [(3, .int (zI 0)), (2, .int (zI 0)), (1, .int (zI rm)), (0, .ref (bd 0))]) [0, 1, 2, 3] rfl ?_
  exact loop_9 _ 0 (Nat.zero_le _) (Nat.lt_succ_self _)
