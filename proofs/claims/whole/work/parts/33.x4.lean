abbrev rmX4_no : Room := { frames := 0, cells := 0, slots := 0, locals := 0 }
set_option maxHeartbeats 4000000 in
set_option maxRecDepth 100000 in
theorem met_X4_no (l : Launch) (D : va_G) (cI cG cJ : ClassId) (ad : Nat → Nat) (th : Int) (cnt : Nat) (hc : cnt ≤ 8) (rm lt tk ov : Int) (fv fs fd fo : Nat → Int) (F : Nat → Nat → Int) (fg fp : Nat → Int) (Y : Nat → Nat → Int) (n : Int)  : gMet l yX4_no cX4_no 2 (some .int) rmX4_no D cI cG cJ [.ref (ad 0), .int (zI n)] (wM ad cI cG th (cnt : Int) rm lt tk ov fv fs fd fo F fg fp Y) (gI (fun z w9 => z = 0 ∧ w9 = wM ad cI cG n (cnt : Int) rm lt tk ov fv fs fd fo F fg fp Y)) := by
  refine gMet_I (by decide) rfl (Nat.le_of_ble_eq_true rfl) (fun E C ret => ?_)
  refine g_aload_n C dX4_no_0 0 rfl ?_
  refine g_iload_n C dX4_no_1 1 rfl ?_
  refine g_putf (w' := wM ad cI cG n (cnt : Int) rm lt tk ov fv fs fd fo F fg fp Y) C pX4_40 0 rfl rfl rfl (Nat.le_of_ble_eq_true rfl) rfl dX4_no_2 ?_
  refine g_iconst C dX4_no_5 ?_
  exact ret _ _ _ _ _ _ (by decide) (by decide) dX4_no_6 (⟨rfl, rfl⟩)
abbrev rmX4_isNot : Room := { frames := 0, cells := 0, slots := 0, locals := 0 }
set_option maxHeartbeats 4000000 in
set_option maxRecDepth 100000 in
theorem met_X4_isNot (l : Launch) (D : va_G) (cI cG cJ : ClassId) (ad : Nat → Nat) (th : Int) (cnt : Nat) (hc : cnt ≤ 8) (rm lt tk ov : Int) (fv fs fd fo : Nat → Int) (F : Nat → Nat → Int) (fg fp : Nat → Int) (Y : Nat → Nat → Int) (n : Int)  : gMet l yX4_isNot cX4_isNot 2 (some .boolean) rmX4_isNot D cI cG cJ [.ref (ad 0), .int (zI n)] (wM ad cI cG th (cnt : Int) rm lt tk ov fv fs fd fo F fg fp Y) (gI (fun z w9 => z = 0 ∧ w9 = wM ad cI cG n (cnt : Int) rm lt tk ov fv fs fd fo F fg fp Y)) := by
  refine gMet_Z (by decide) rfl (Nat.le_of_ble_eq_true rfl) (fun E C ret => ?_)
  refine g_aload_n C dX4_isNot_0 0 rfl ?_
  refine g_iload_n C dX4_isNot_1 1 rfl ?_
  refine g_putf (w' := wM ad cI cG n (cnt : Int) rm lt tk ov fv fs fd fo F fg fp Y) C pX4_40 0 rfl rfl rfl (Nat.le_of_ble_eq_true rfl) rfl dX4_isNot_2 ?_
  refine g_iconst C dX4_isNot_5 ?_
  exact ret _ _ _ _ _ _ (by decide) (by decide) dX4_isNot_6 (Or.inl rfl) (⟨rfl, rfl⟩)
abbrev rmX4_ok : Room := { frames := 0, cells := 0, slots := 0, locals := 0 }
set_option maxHeartbeats 4000000 in
set_option maxRecDepth 100000 in
theorem met_X4_ok (l : Launch) (D : va_G) (cI cG cJ : ClassId) (ad : Nat → Nat) (th : Int) (cnt : Nat) (hc : cnt ≤ 8) (rm lt tk ov : Int) (fv fs fd fo : Nat → Int) (F : Nat → Nat → Int) (fg fp : Nat → Int) (Y : Nat → Nat → Int) (n : Int)  : gMet l yX4_ok cX4_ok 2 (some .int) rmX4_ok D cI cG cJ [.ref (ad 0), .int (zI n)] (wM ad cI cG th (cnt : Int) rm lt tk ov fv fs fd fo F fg fp Y) (gI (fun z w9 => z = n ∧ w9 = wM ad cI cG 0 (cnt : Int) rm lt tk ov fv fs fd fo F fg fp Y)) := by
  refine gMet_I (by decide) rfl (Nat.le_of_ble_eq_true rfl) (fun E C ret => ?_)
  refine g_aload_n C dX4_ok_0 0 rfl ?_
  refine g_iconst C dX4_ok_1 ?_
  refine g_putf (w' := wM ad cI cG 0 (cnt : Int) rm lt tk ov fv fs fd fo F fg fp Y) C pX4_40 0 rfl rfl rfl (Nat.le_of_ble_eq_true rfl) rfl dX4_ok_2 ?_
  refine g_iload_n C dX4_ok_5 1 rfl ?_
  exact ret _ _ _ _ _ _ (by decide) (by decide) dX4_ok_6 (⟨rfl, rfl⟩)
abbrev rmX4_isIn : Room := { frames := 0, cells := 0, slots := 0, locals := 0 }
set_option maxHeartbeats 4000000 in
set_option maxRecDepth 100000 in
theorem met_X4_isIn (l : Launch) (D : va_G) (cI cG cJ : ClassId) (v a b : Int) (hv : zr v) (ha : zr a) (hb : zr b)  : gMet l yX4_isIn cX4_isIn 3 (some .boolean) rmX4_isIn D cI cG cJ [.int (zI v), .int (zI a), .int (zI b)] (([] : va_W)) (gI (fun z w9 => z = (if a ≤ v ∧ v ≤ b then (1 : Int) else 0) ∧ w9 = [])) := by
  refine gMet_Z (by decide) rfl (Nat.le_of_ble_eq_true rfl) (fun E C ret => ?_)
  refine g_iload_n C dX4_isIn_0 0 rfl ?_
  refine g_iload_n C dX4_isIn_1 1 rfl ?_
  refine g_icmp_lt 14 C dX4_isIn_2 (by decide) hv ha (fun c_2 => ?_) (fun c_2 => ?_)
  · refine g_iconst C dX4_isIn_14 ?_
    exact ret _ _ _ _ _ _ (by decide) (by decide) dX4_isIn_15 (Or.inl rfl) (⟨(if_neg (by omega)).symm, rfl⟩)
  · refine g_iload_n C dX4_isIn_5 0 rfl ?_
    refine g_iload_n C dX4_isIn_6 2 rfl ?_
    refine g_icmp_gt 14 C dX4_isIn_7 (by decide) hv hb (fun c_7 => ?_) (fun c_7 => ?_)
    · refine g_iconst C dX4_isIn_14 ?_
      exact ret _ _ _ _ _ _ (by decide) (by decide) dX4_isIn_15 (Or.inl rfl) (⟨(if_neg (by omega)).symm, rfl⟩)
    · refine g_iconst C dX4_isIn_10 ?_
      refine g_goto 15 C dX4_isIn_11 (by decide) ?_
      exact ret _ _ _ _ _ _ (by decide) (by decide) dX4_isIn_15 (Or.inr rfl) (⟨(if_pos ⟨by omega, by omega⟩).symm, rfl⟩)
abbrev rmX4_isStamp : Room := { frames := 1, cells := 0, slots := 0, locals := 22 }
set_option maxHeartbeats 4000000 in
set_option maxRecDepth 100000 in
theorem met_X4_isStamp (l : Launch) (D : va_G) (cI cG cJ : ClassId) (ad : Nat → Nat) (th : Int) (cnt : Nat) (hc : cnt ≤ 8) (rm lt tk ov : Int) (fv fs fd fo : Nat → Int) (F : Nat → Nat → Int) (fg fp : Nat → Int) (Y : Nat → Nat → Int) (s : Int) (hs : zr s)  : gMet l yX4_isStamp cX4_isStamp 2 (some .boolean) rmX4_isStamp D cI cG cJ [.ref (ad 0), .int (zI s)] (wM ad cI cG th (cnt : Int) rm lt tk ov fv fs fd fo F fg fp Y) (gI (fun z w9 => z = (if 0 ≤ s ∧ s < (cnt : Int) then (1 : Int) else 0) ∧ w9 = wM ad cI cG th (cnt : Int) rm lt tk ov fv fs fd fo F fg fp Y)) := by
  refine gMet_Z (by decide) rfl (Nat.le_of_ble_eq_true rfl) (fun E C ret => ?_)
  refine g_iload_n C dX4_isStamp_0 1 rfl ?_
  refine g_iconst C dX4_isStamp_1 ?_
  refine g_aload_n C dX4_isStamp_2 0 rfl ?_
  refine g_getf C fX4_43 0 rfl rfl dX4_isStamp_3 ?_
  refine g_iconst C dX4_isStamp_6 ?_
  refine g_isub C dX4_isStamp_7 ?_
  refine g_callS (wr := wM ad cI cG th (cnt : Int) rm lt tk ov fv fs fd fo F fg fp Y) (st := []) [] [0, 1, 2, 3, 4, 5, 6, 7, 8, 9, 10, 11, 12, 13, 14, 15, 16, 17, 18, 19, 20, 21, 22, 23, 24, 25, 26, 27, 28, 29, 30] C cX4_46 (met_X4_isIn l D cI cG cJ s 0 ((cnt : Int) - 1) (hs) (zr_i (by omega) (by omega)) (zr_i (by omega) (by omega))) ⟨rfl, rfl, by decide, by decide, by decide⟩ (by decide) (by decide) rfl rfl (Nat.le_of_ble_eq_true rfl) dX4_isStamp_8 ?_
  rintro v9 w9 ⟨z9, rfl, rfl, rfl⟩
  refine g_ws (w' := wM ad cI cG th (cnt : Int) rm lt tk ov fv fs fd fo F fg fp Y) (st' := [.int (zI (if 0 ≤ s ∧ s ≤ ((cnt : Int) - 1) then (1 : Int) else 0))]) rfl rfl ?_
  refine g_top (if 0 ≤ s ∧ s < (cnt : Int) then (1 : Int) else 0) (st01) ?_
  exact ret _ _ _ _ _ _ (by decide) (by decide) dX4_isStamp_11 (if01) (⟨rfl, rfl⟩)
abbrev rmX4_isPostage : Room := { frames := 1, cells := 0, slots := 0, locals := 22 }
set_option maxHeartbeats 4000000 in
set_option maxRecDepth 100000 in
theorem met_X4_isPostage (l : Launch) (D : va_G) (cI cG cJ : ClassId) (p : Int) (hp : zr p)  : gMet l yX4_isPostage cX4_isPostage 1 (some .boolean) rmX4_isPostage D cI cG cJ [.int (zI p)] (([] : va_W)) (gI (fun z w9 => z = (if 1 ≤ p ∧ p ≤ 300 then (1 : Int) else 0) ∧ w9 = [])) := by
  refine gMet_Z (by decide) rfl (Nat.le_of_ble_eq_true rfl) (fun E C ret => ?_)
  refine g_iload_n C dX4_isPostage_0 0 rfl ?_
  refine g_iconst C dX4_isPostage_1 ?_
  refine g_sipush C dX4_isPostage_2 (by decide) ?_
  refine g_callS (wr := ([] : va_W)) (st := []) [] [] C cX4_46 (met_X4_isIn l D cI cG cJ p 1 300 (hp) (zr_i (by omega) (by omega)) (zr_i (by omega) (by omega))) ⟨rfl, rfl, by decide, by decide, by decide⟩ (by decide) (by decide) rfl rfl (Nat.le_of_ble_eq_true rfl) dX4_isPostage_5 ?_
  rintro v9 w9 ⟨z9, rfl, rfl, rfl⟩
  refine g_ws (w' := ([] : va_W)) (st' := [.int (zI (if 1 ≤ p ∧ p ≤ 300 then (1 : Int) else 0))]) rfl rfl ?_
  exact ret _ _ _ _ _ _ (by decide) (by decide) dX4_isPostage_8 (if01) (⟨rfl, rfl⟩)
abbrev rmX4_isThere : Room := { frames := 0, cells := 0, slots := 0, locals := 0 }
set_option maxHeartbeats 4000000 in
set_option maxRecDepth 100000 in
theorem met_X4_isThere (l : Launch) (D : va_G) (cI cG cJ : ClassId) (ad : Nat → Nat) (th : Int) (cnt : Nat) (hc : cnt ≤ 8) (rm lt tk ov : Int) (fv fs fd fo : Nat → Int) (F : Nat → Nat → Int) (fg fp : Nat → Int) (Y : Nat → Nat → Int) (hv : ∀ j, j < cnt → 1 ≤ fv j ∧ fv j ≤ 60) (x : Int) (hx : zr x)  : gMet l yX4_isThere cX4_isThere 3 (some .boolean) rmX4_isThere D cI cG cJ [.ref (ad 0), .int (zI x)] (wM ad cI cG th (cnt : Int) rm lt tk ov fv fs fd fo F fg fp Y) (gI (fun z w9 => ((z = 1 ∧ hasB fv x cnt = true) ∨ (z = 0 ∧ hasB fv x cnt = false)) ∧ w9 = wM ad cI cG th (cnt : Int) rm lt tk ov fv fs fd fo F fg fp Y)) := by
  refine gMet_Z (by decide) rfl (Nat.le_of_ble_eq_true rfl) (fun E C ret => ?_)
  refine g_iconst C dX4_isThere_0 ?_
  refine g_istore_n (L' := [(2, .int (zI 0)), (0, .ref (ad 0)), (1, .int (zI x))]) C dX4_isThere_1 (by decide) rfl ?_
  have loop_2 : ∀ (fu : Nat) (i : Nat), (hi : i ≤ cnt) → (hn : ∀ j, j < i → fv j ≠ x) → cnt - i < fu → gW E 0 0 (wM ad cI cG th (cnt : Int) rm lt tk ov fv fs fd fo F fg fp Y) 2 [(2, .int (zI (i : Int))), (0, .ref (ad 0)), (1, .int (zI x))] [] := by
    intro fu
    induction fu with
    | zero => intro i hi hn h9; exact absurd h9 (Nat.not_lt_zero _)
    | succ fu ih_2 =>
      intro i hi hn hmu_2
      refine g_iload_n C dX4_isThere_2 0 rfl ?_
      refine g_aload_n C dX4_isThere_3 1 rfl ?_
      refine g_getf C fX4_43 0 rfl rfl dX4_isThere_4 ?_
      refine g_icmp_ge 28 C dX4_isThere_7 (by decide) (zr_i (by omega) (by omega)) (zr_i (by omega) (by omega)) (fun c_7 => ?_) (fun c_7 => ?_)
      · refine g_iconst C dX4_isThere_28 ?_
        exact ret _ _ _ _ _ _ (by decide) (by decide) dX4_isThere_29 (Or.inl rfl) (⟨hasV_hasB (Or.inr ⟨rfl, fun j h => hn j (by omega)⟩), rfl⟩)
      · refine g_aload_n C dX4_isThere_10 1 rfl ?_
        refine g_getf C fX4_13 0 rfl rfl dX4_isThere_11 ?_
        refine g_iload_n C dX4_isThere_14 0 rfl ?_
        refine g_iald C 1 rfl (by decide) (by omega) (by omega) (v := (fv i)) rfl dX4_isThere_15 ?_
        have hv9 := hv i (by omega)
        refine g_iload_n C dX4_isThere_16 2 rfl ?_
        refine g_icmp_ne 22 C dX4_isThere_17 (by decide) (zr_i (by omega) (by omega)) hx (fun c_17 => ?_) (fun c_17 => ?_)
        · refine g_iinc (L' := [(2, .int (zI ((i : Int) + 1))), (0, .ref (ad 0)), (1, .int (zI x))]) C dX4_isThere_22 0 rfl (by decide) rfl ?_
          refine g_goto 2 C dX4_isThere_25 (by decide) ?_
          refine g_loc (L' := [(2, .int (zI ((i : Int) + 1))), (0, .ref (ad 0)), (1, .int (zI x))]) [0, 1, 2] rfl ?_
          exact ih_2 (i + 1) (by omega) (fun j h => lt_or h hn c_17) (by omega)
        · refine g_iconst C dX4_isThere_20 ?_
          exact ret _ _ _ _ _ _ (by decide) (by decide) dX4_isThere_21 (Or.inr rfl) (⟨hasV_hasB (Or.inl ⟨rfl, i, by omega, c_17⟩), rfl⟩)
  refine g_loc (L' := [(2, .int (zI 0)), (0, .ref (ad 0)), (1, .int (zI x))]) [0, 1, 2] rfl ?_
  exact loop_2 _ 0 (Nat.zero_le _) (fun j h => absurd h (Nat.not_lt_zero _)) (Nat.lt_succ_self _)
abbrev rmX4_sort : Room := { frames := 0, cells := 0, slots := 0, locals := 0 }
set_option maxHeartbeats 4000000 in
set_option maxRecDepth 100000 in
theorem met_X4_sort (l : Launch) (D : va_G) (cI cG cJ : ClassId) (ad : Nat → Nat) (th : Int) (cnt : Nat) (hc : cnt ≤ 8) (rm lt tk ov : Int) (fv fs fd fo : Nat → Int) (F : Nat → Nat → Int) (fg fp : Nat → Int) (Y : Nat → Nat → Int) (hv : ∀ j, j < cnt → 1 ≤ fv j ∧ fv j ≤ 60)  : gMet l yX4_sort cX4_sort 3 none rmX4_sort D cI cG cJ [.ref (ad 0)] (wM ad cI cG th (cnt : Int) rm lt tk ov fv fs fd fo F fg fp Y) (gN (fun w9 => ∃ fo1 : Nat → Int, Ook fv cnt fo1 ∧ w9 = wM ad cI cG th (cnt : Int) rm lt tk ov fv fs fd fo1 F fg fp Y)) := by
  refine gMet_N (by decide) rfl (Nat.le_of_ble_eq_true rfl) (fun E C ret => ?_)
  refine g_iconst C dX4_sort_0 ?_
  refine g_istore_n (L' := [(1, .int (zI 0)), (0, .ref (ad 0))]) C dX4_sort_1 (by decide) rfl ?_
  have loop_2 : ∀ (fu : Nat) (i : Nat) (fo1 : Nat → Int), (hi : i ≤ cnt) → (hO : Ook fv i fo1) → cnt - i < fu → gW E 0 0 (wM ad cI cG th (cnt : Int) rm lt tk ov fv fs fd fo1 F fg fp Y) 2 [(1, .int (zI (i : Int))), (0, .ref (ad 0))] [] := by
    intro fu
    induction fu with
    | zero => intro i fo1 hi hO h9; exact absurd h9 (Nat.not_lt_zero _)
    | succ fu ih_2 =>
      intro i fo1 hi hO hmu_2
      refine g_iload_n C dX4_sort_2 0 rfl ?_
      refine g_aload_n C dX4_sort_3 1 rfl ?_
      refine g_getf C fX4_43 0 rfl rfl dX4_sort_4 ?_
      refine g_icmp_ge 71 C dX4_sort_7 (by decide) (zr_i (by omega) (by omega)) (zr_i (by omega) (by omega)) (fun c_7 => ?_) (fun c_7 => ?_)
      · have e9 : cnt = i := by omega
        subst e9
        exact ret _ _ _ _ _ (by decide) (by decide) dX4_sort_71 (⟨fo1, hO, rfl⟩)
      · refine g_iload_n C dX4_sort_10 0 rfl ?_
        refine g_istore_n (L' := [(2, .int (zI (i : Int))), (1, .int (zI (i : Int))), (0, .ref (ad 0))]) C dX4_sort_11 (by decide) rfl ?_
        have loop_12 : ∀ (fu : Nat) (a : Nat) (fo2 : Nat → Int), (hai : a ≤ i) → (hA : ∀ j, j < a → fo2 j = ((ordF fv i j : Nat) : Int)) → (hB : ∀ j, a < j → j ≤ i → fo2 j = ((ordF fv i (j - 1) : Nat) : Int)) → (he : ptI fv (ordF fv i) (fv i) i = ptI fv (ordF fv i) (fv i) a) → a < fu → gW E 0 0 (wM ad cI cG th (cnt : Int) rm lt tk ov fv fs fd fo2 F fg fp Y) 12 [(2, .int (zI (a : Int))), (1, .int (zI (i : Int))), (0, .ref (ad 0))] [] := by
          intro fu
          induction fu with
          | zero => intro a fo2 hai hA hB he h9; exact absurd h9 (Nat.not_lt_zero _)
          | succ fu ih_12 =>
            intro a fo2 hai hA hB he hmu_12
            refine g_iload_n C dX4_sort_12 0 rfl ?_
            refine g_if_le 58 C dX4_sort_13 (by decide) (zr_i (by omega) (by omega)) (fun c_13 => ?_) (fun c_13 => ?_)
            · have e9 : ptI fv (ordF fv i) (fv i) i = a := by rw [he, show a = 0 by omega]; rfl
              refine g_aload_n C dX4_sort_58 2 rfl ?_
              refine g_getf C fX4_23 0 rfl rfl dX4_sort_59 ?_
              refine g_iload_n C dX4_sort_62 0 rfl ?_
              refine g_iload_n C dX4_sort_63 1 rfl ?_
              refine g_iast (w' := wM ad cI cG th (cnt : Int) rm lt tk ov fv fs fd (zU fo2 a (i : Int)) F fg fp Y) C 4 rfl (by decide) (by omega) (by omega) rfl dX4_sort_64 ?_
              refine g_iinc (L' := [(1, .int (zI ((i : Int) + 1))), (2, .int (zI (a : Int))), (0, .ref (ad 0))]) C dX4_sort_65 1 rfl (by decide) rfl ?_
              refine g_goto 2 C dX4_sort_68 (by decide) ?_
              refine g_loc (L' := [(1, .int (zI ((i : Int) + 1))), (0, .ref (ad 0))]) [0, 2] rfl ?_
              exact ih_2 (i + 1) (zU fo2 a (i : Int)) (by omega) (sort_fin hai hA hB e9) (by omega)
            · refine g_aload_n C dX4_sort_16 2 rfl ?_
              refine g_getf C fX4_13 0 rfl rfl dX4_sort_17 ?_
              refine g_aload_n C dX4_sort_20 2 rfl ?_
              refine g_getf C fX4_23 0 rfl rfl dX4_sort_21 ?_
              refine g_iload_n C dX4_sort_24 0 rfl ?_
              refine g_iconst C dX4_sort_25 ?_
              refine g_isub C dX4_sort_26 ?_
              refine g_iald C 4 rfl (by decide) (by omega) (by omega) (v := (fo2 ((((a : Int) - 1)).toNat))) rfl dX4_sort_27 ?_
              have ho9 := ordF_lt fv i (a - 1) (by omega)
              refine g_top ((ordF fv i (a - 1) : Nat) : Int) (by rw [show ((a : Int) - 1).toNat = a - 1 by omega]; exact hA (a - 1) (by omega)) ?_
              refine g_iald C 1 rfl (by decide) (by omega) (by omega) (v := (fv (ordF fv i (a - 1)))) rfl dX4_sort_28 ?_
              refine g_aload_n C dX4_sort_29 2 rfl ?_
              refine g_getf C fX4_13 0 rfl rfl dX4_sort_30 ?_
              refine g_iload_n C dX4_sort_33 1 rfl ?_
              refine g_iald C 1 rfl (by decide) (by omega) (by omega) (v := (fv i)) rfl dX4_sort_34 ?_
              have hv8 := hv (ordF fv i (a - 1)) (by omega)
              have hv9 := hv i (by omega)
              refine g_icmp_le 58 C dX4_sort_35 (by decide) (zr_i (by omega) (by omega)) (zr_i (by omega) (by omega)) (fun c_35 => ?_) (fun c_35 => ?_)
              · have e9 : ptI fv (ordF fv i) (fv i) i = a := he.trans (ptI_f (by omega) (by omega))
                refine g_aload_n C dX4_sort_58 2 rfl ?_
                refine g_getf C fX4_23 0 rfl rfl dX4_sort_59 ?_
                refine g_iload_n C dX4_sort_62 0 rfl ?_
                refine g_iload_n C dX4_sort_63 1 rfl ?_
                refine g_iast (w' := wM ad cI cG th (cnt : Int) rm lt tk ov fv fs fd (zU fo2 a (i : Int)) F fg fp Y) C 4 rfl (by decide) (by omega) (by omega) rfl dX4_sort_64 ?_
                refine g_iinc (L' := [(1, .int (zI ((i : Int) + 1))), (2, .int (zI (a : Int))), (0, .ref (ad 0))]) C dX4_sort_65 1 rfl (by decide) rfl ?_
                refine g_goto 2 C dX4_sort_68 (by decide) ?_
                refine g_loc (L' := [(1, .int (zI ((i : Int) + 1))), (0, .ref (ad 0))]) [0, 2] rfl ?_
                exact ih_2 (i + 1) (zU fo2 a (i : Int)) (by omega) (sort_fin hai hA hB e9) (by omega)
              · refine g_aload_n C dX4_sort_38 2 rfl ?_
                refine g_getf C fX4_23 0 rfl rfl dX4_sort_39 ?_
                refine g_iload_n C dX4_sort_42 0 rfl ?_
                refine g_aload_n C dX4_sort_43 2 rfl ?_
                refine g_getf C fX4_23 0 rfl rfl dX4_sort_44 ?_
                refine g_iload_n C dX4_sort_47 0 rfl ?_
                refine g_iconst C dX4_sort_48 ?_
                refine g_isub C dX4_sort_49 ?_
                refine g_iald C 4 rfl (by decide) (by omega) (by omega) (v := (fo2 ((((a : Int) - 1)).toNat))) rfl dX4_sort_50 ?_
                refine g_iast (w' := wM ad cI cG th (cnt : Int) rm lt tk ov fv fs fd (zU fo2 a (fo2 ((((a : Int) - 1)).toNat))) F fg fp Y) C 4 rfl (by decide) (by omega) (by omega) rfl dX4_sort_51 ?_
                refine g_iinc (L' := [(2, .int (zI ((a : Int) + (-1)))), (1, .int (zI (i : Int))), (0, .ref (ad 0))]) C dX4_sort_52 0 rfl (by decide) rfl ?_
                refine g_goto 12 C dX4_sort_55 (by decide) ?_
                refine g_loc (L' := [(2, .int (zI ((a : Int) + (-1)))), (1, .int (zI (i : Int))), (0, .ref (ad 0))]) [0, 1, 2] rfl ?_
                refine g_lw (w' := wM ad cI cG th (cnt : Int) rm lt tk ov fv fs fd (zU fo2 a (fo2 ((((a : Int) - 1)).toNat))) F fg fp Y) (L' := [(2, .int (zI ((a - 1 : Nat) : Int))), (1, .int (zI (i : Int))), (0, .ref (ad 0))]) rfl (by rw [show ((a : Int) + (-1)) = ((a - 1 : Nat) : Int) by omega]) ?_
                exact ih_12 (a - 1) (zU fo2 a (fo2 ((a : Int) - 1).toNat)) (by omega) (fun j hj => by rw [show zU fo2 a (fo2 ((a : Int) - 1).toNat) j = fo2 j from if_neg (by omega)]; exact hA j (by omega)) (fun j h1 h2 => by
                      by_cases e : j = a
                      · subst e; rw [show zU fo2 j (fo2 ((j : Int) - 1).toNat) j = fo2 ((j : Int) - 1).toNat from if_pos rfl, show ((j : Int) - 1).toNat = j - 1 by omega]; exact hA (j - 1) (by omega)
                      · rw [show zU fo2 a (fo2 ((a : Int) - 1).toNat) j = fo2 j from if_neg e]; exact hB j (by omega) h2) (he.trans (ptI_t (by omega) (by omega))) (by omega)
        refine g_loc (L' := [(2, .int (zI (i : Int))), (1, .int (zI (i : Int))), (0, .ref (ad 0))]) [0, 1, 2] rfl ?_
        exact loop_12 _ i fo1 (Nat.le_refl _) hO (fun j h1 h2 => absurd h2 (by omega)) rfl (Nat.lt_succ_self _)
  refine g_loc (L' := [(1, .int (zI 0)), (0, .ref (ad 0))]) [0, 1] rfl ?_
  exact loop_2 _ 0 fo (Nat.zero_le _) (fun j h => absurd h (Nat.not_lt_zero _)) (Nat.lt_succ_self _)
abbrev rmX4_with : Room := { frames := 1, cells := 0, slots := 0, locals := 21 }
set_option maxHeartbeats 4000000 in
set_option maxRecDepth 100000 in
theorem met_X4_with (l : Launch) (D : va_G) (cI cG cJ : ClassId) (ad : Nat → Nat) (th : Int) (cnt : Nat) (hc : cnt ≤ 8) (rm lt tk ov : Int) (fv fs fd fo : Nat → Int) (F : Nat → Nat → Int) (fg fp : Nat → Int) (Y : Nat → Nat → Int) (hS : Sok cnt fv fs) (hr : 1 ≤ rm ∧ rm ≤ 12) (hO : Ook fv cnt fo) (k : Nat) (hk : k < cnt) (hF : Fok fv fs cnt rm F k)  : gMet l yX4_with cX4_with 7 none rmX4_with D cI cG cJ [.ref (ad 0), .int (zI (k : Int))] (wM ad cI cG th (cnt : Int) rm lt tk ov fv fs fd fo F fg fp Y) (gN (fun w9 => w9 = wM ad cI cG th (cnt : Int) rm lt tk ov fv fs fd fo (gR F (k + 1) (tRow (F k) (vsF fv cnt k) (usF fv fs cnt rm k)) 721) fg fp Y)) := by
  have hr9 : 0 ≤ rm ∧ rm ≤ 12 := ⟨by omega, hr.2⟩
  have hv : ∀ j, j < cnt → 1 ≤ fv j ∧ fv j ≤ 60 := hS.1
  have hv1 : ∀ j, j < cnt → 1 ≤ fv j := fun j hj => (hS.1 j hj).1
  have hs9 : ∀ j, j < cnt → 0 ≤ fs j ∧ fs j ≤ 119 := hS.2.1
  have ho9 := ordF_lt fv cnt k hk
  have hvk := hS.vs hk
  have huk := hS.us hr9 hk
  have hs8 := hs9 (ordF fv cnt k) ho9
  have hM : ∀ j, j < 721 → 0 ≤ F k j ∧ F k j ≤ 1000 := fun j hj => hF.bd hS (by omega) (Nat.le_refl _) hj
  refine gMet_N (by decide) rfl (Nat.le_of_ble_eq_true rfl) (fun E C ret => ?_)
  refine g_aload_n C dX4_with_0 0 rfl ?_
  refine g_getf C fX4_13 0 rfl rfl dX4_with_1 ?_
  refine g_aload_n C dX4_with_4 0 rfl ?_
  refine g_getf C fX4_23 0 rfl rfl dX4_with_5 ?_
  refine g_iload_n C dX4_with_8 1 rfl ?_
  refine g_iald C 4 rfl (by decide) (by omega) (by omega) (v := (fo k)) rfl dX4_with_9 ?_
  refine g_top ((ordF fv cnt k : Nat) : Int) (hO k hk) ?_
  refine g_iald C 1 rfl (by decide) (by omega) (by omega) (v := (fv (ordF fv cnt k))) rfl dX4_with_10 ?_
  refine g_top (vsF fv cnt k) (rfl) ?_
  refine g_istore_n (L' := [(2, .int (zI (vsF fv cnt k))), (0, .ref (ad 0)), (1, .int (zI (k : Int)))]) C dX4_with_11 (by decide) rfl ?_
  refine g_aload_n C dX4_with_12 1 rfl ?_
  refine g_getf C fX4_9 0 rfl rfl dX4_with_13 ?_
  refine g_aload_n C dX4_with_16 1 rfl ?_
  refine g_getf C fX4_17 0 rfl rfl dX4_with_17 ?_
  refine g_aload_n C dX4_with_20 1 rfl ?_
  refine g_getf C fX4_23 0 rfl rfl dX4_with_21 ?_
  refine g_iload_n C dX4_with_24 2 rfl ?_
  refine g_iald C 4 rfl (by decide) (by omega) (by omega) (v := (fo k)) rfl dX4_with_25 ?_
  refine g_top ((ordF fv cnt k : Nat) : Int) (hO k hk) ?_
  refine g_iald C 2 rfl (by decide) (by omega) (by omega) (v := (fs (ordF fv cnt k))) rfl dX4_with_26 ?_
  refine g_min C mX4_50 (zr_i (by omega) (by omega)) (zr_i (by omega) (by omega)) (by decide) (Nat.le_of_ble_eq_true rfl) dX4_with_27 ?_
  refine g_top (usF fv fs cnt rm k) (Int.min_comm _ _) ?_
  refine g_istore_n (L' := [(3, .int (zI (usF fv fs cnt rm k))), (2, .int (zI (vsF fv cnt k))), (0, .ref (ad 0)), (1, .int (zI (k : Int)))]) C dX4_with_30 (by decide) rfl ?_
  refine g_iconst C dX4_with_31 ?_
  refine g_istore (L' := [(4, .int (zI 0)), (3, .int (zI (usF fv fs cnt rm k))), (2, .int (zI (vsF fv cnt k))), (0, .ref (ad 0)), (1, .int (zI (k : Int)))]) C dX4_with_32 (by decide) rfl ?_
  have loop_34 : ∀ (fu : Nat) (i : Nat), (hi : i ≤ 721) → 721 - i < fu → gW E 0 0 (wM ad cI cG th (cnt : Int) rm lt tk ov fv fs fd fo (gR F (k + 1) (tRow (F k) (vsF fv cnt k) (usF fv fs cnt rm k)) i) fg fp Y) 34 [(4, .int (zI (i : Int))), (3, .int (zI (usF fv fs cnt rm k))), (2, .int (zI (vsF fv cnt k))), (1, .int (zI (k : Int))), (0, .ref (ad 0))] [] := by
    intro fu
    induction fu with
    | zero => intro i hi h9; exact absurd h9 (Nat.not_lt_zero _)
    | succ fu ih_34 =>
      intro i hi hmu_34
      have hMi : i < 721 → ∀ j, j ≤ i → 0 ≤ F k j ∧ F k j ≤ 1000 := fun h j hj => hM j (by omega)
      refine g_iload C dX4_with_34 0 rfl ?_
      refine g_sipush C dX4_with_36 (by decide) ?_
      refine g_icmp_ge 120 C dX4_with_39 (by decide) (zr_i (by omega) (by omega)) (zr_i (by omega) (by omega)) (fun c_39 => ?_) (fun c_39 => ?_)
      · have e9 : i = 721 := by omega
        subst e9
        exact ret _ _ _ _ _ (by decide) (by decide) dX4_with_120 (rfl)
      · refine g_aload_n C dX4_with_42 4 rfl ?_
        refine g_getf C fX4_28 0 rfl rfl dX4_with_43 ?_
        refine g_iload_n C dX4_with_46 3 rfl ?_
        refine g_aald (y := ad (9 + k)) C 5 rfl (by decide) (by omega) (by omega) (wR_at (by omega)) dX4_with_47 ?_
        refine g_iload C dX4_with_48 0 rfl ?_
        refine g_iald C (9 + k) (wMF_row1 (by omega)) (by decide) (by omega) (by omega) (v := ((gR F (k + 1) (tRow (F k) (vsF fv cnt k) (usF fv fs cnt rm k)) i) k i)) rfl dX4_with_50 ?_
        refine g_top (tIn (F k) (vsF fv cnt k) (usF fv fs cnt rm k) i 0) (gR_ne (by omega)) ?_
        refine g_istore (L' := [(5, .int (zI (tIn (F k) (vsF fv cnt k) (usF fv fs cnt rm k) i 0))), (4, .int (zI (i : Int))), (3, .int (zI (usF fv fs cnt rm k))), (2, .int (zI (vsF fv cnt k))), (1, .int (zI (k : Int))), (0, .ref (ad 0))]) C dX4_with_51 (by decide) rfl ?_
        refine g_iconst C dX4_with_53 ?_
        refine g_istore (L' := [(6, .int (zI 1)), (5, .int (zI (tIn (F k) (vsF fv cnt k) (usF fv fs cnt rm k) i 0))), (4, .int (zI (i : Int))), (3, .int (zI (usF fv fs cnt rm k))), (2, .int (zI (vsF fv cnt k))), (1, .int (zI (k : Int))), (0, .ref (ad 0))]) C dX4_with_54 (by decide) rfl ?_
        have loop_56 : ∀ (fu : Nat) (m : Nat), (hm : m ≤ 12) → 13 - m < fu → gW E 0 0 (wM ad cI cG th (cnt : Int) rm lt tk ov fv fs fd fo (gR F (k + 1) (tRow (F k) (vsF fv cnt k) (usF fv fs cnt rm k)) i) fg fp Y) 56 [(6, .int (zI ((m + 1 : Nat) : Int))), (5, .int (zI (tIn (F k) (vsF fv cnt k) (usF fv fs cnt rm k) i m))), (4, .int (zI (i : Int))), (3, .int (zI (usF fv fs cnt rm k))), (2, .int (zI (vsF fv cnt k))), (1, .int (zI (k : Int))), (0, .ref (ad 0))] [] := by
          intro fu
          induction fu with
          | zero => intro m hm h9; exact absurd h9 (Nat.not_lt_zero _)
          | succ fu ih_56 =>
            intro m hm hmu_56
            have hb := tIn_bd (u := usF fv fs cnt rm k) (by omega : 0 ≤ vsF fv cnt k) (hMi (by omega)) m
            have hb2 := hM i (by omega)
            have hp := mul_bd hvk.1 hvk.2 hm
            refine g_iload C dX4_with_56 0 rfl ?_
            refine g_iload_n C dX4_with_58 3 rfl ?_
            refine g_icmp_gt 101 C dX4_with_59 (by decide) (zr_i (by omega) (by omega)) (zr_i (by omega) (by omega)) (fun c_59 => ?_) (fun c_59 => ?_)
            · have ex := tIn_x (f := F k) (s := i) (by omega : 0 ≤ vsF fv cnt k) hm (Or.inl c_59)
              refine g_aload_n C dX4_with_101 6 rfl ?_
              refine g_getf C fX4_28 0 rfl rfl dX4_with_102 ?_
              refine g_iload_n C dX4_with_105 5 rfl ?_
              refine g_iconst C dX4_with_106 ?_
              refine g_iadd C dX4_with_107 ?_
              refine g_aald (y := ad (9 + (k + 1))) C 5 rfl (by decide) (by omega) (by omega) (wR_at (by omega)) dX4_with_108 ?_
              refine g_iload C dX4_with_109 2 rfl ?_
              refine g_iload C dX4_with_111 1 rfl ?_
              refine g_top ((tRow (F k) (vsF fv cnt k) (usF fv fs cnt rm k)) i) (ex) ?_
              refine g_iast (w' := wM ad cI cG th (cnt : Int) rm lt tk ov fv fs fd fo (gU (gR F (k + 1) (tRow (F k) (vsF fv cnt k) (usF fv fs cnt rm k)) i) (k + 1) i ((tRow (F k) (vsF fv cnt k) (usF fv fs cnt rm k)) i)) fg fp Y) C (9 + (k + 1)) (wMF_row1 (by omega)) (by decide) (by omega) (by omega) (wMF_set1 (by omega) i ((tRow (F k) (vsF fv cnt k) (usF fv fs cnt rm k)) i)) dX4_with_113 ?_
              refine g_iinc (L' := [(4, .int (zI ((i : Int) + 1))), (6, .int (zI ((m + 1 : Nat) : Int))), (5, .int (zI (tIn (F k) (vsF fv cnt k) (usF fv fs cnt rm k) i m))), (3, .int (zI (usF fv fs cnt rm k))), (2, .int (zI (vsF fv cnt k))), (1, .int (zI (k : Int))), (0, .ref (ad 0))]) C dX4_with_114 2 rfl (by decide) rfl ?_
              refine g_goto 34 C dX4_with_117 (by decide) ?_
              refine g_loc (L' := [(4, .int (zI ((i : Int) + 1))), (3, .int (zI (usF fv fs cnt rm k))), (2, .int (zI (vsF fv cnt k))), (1, .int (zI (k : Int))), (0, .ref (ad 0))]) [0, 3, 4, 5, 6] rfl ?_
              refine g_ws (w' := wM ad cI cG th (cnt : Int) rm lt tk ov fv fs fd fo (gR F (k + 1) (tRow (F k) (vsF fv cnt k) (usF fv fs cnt rm k)) (i + 1)) fg fp Y) (by rw [gR_s]) rfl ?_
              exact ih_34 (i + 1) (by omega) (by omega)
            · refine g_iload C dX4_with_62 0 rfl ?_
              refine g_iload_n C dX4_with_64 4 rfl ?_
              refine g_imul C dX4_with_65 ?_
              refine g_iload C dX4_with_66 2 rfl ?_
              refine g_icmp_gt 101 C dX4_with_68 (by decide) (zr_i (by omega) (by omega)) (zr_i (by omega) (by omega)) (fun c_68 => ?_) (fun c_68 => ?_)
              · have ex := tIn_x (f := F k) (u := usF fv fs cnt rm k) (by omega : 0 ≤ vsF fv cnt k) hm (Or.inr c_68)
                refine g_aload_n C dX4_with_101 6 rfl ?_
                refine g_getf C fX4_28 0 rfl rfl dX4_with_102 ?_
                refine g_iload_n C dX4_with_105 5 rfl ?_
                refine g_iconst C dX4_with_106 ?_
                refine g_iadd C dX4_with_107 ?_
                refine g_aald (y := ad (9 + (k + 1))) C 5 rfl (by decide) (by omega) (by omega) (wR_at (by omega)) dX4_with_108 ?_
                refine g_iload C dX4_with_109 2 rfl ?_
                refine g_iload C dX4_with_111 1 rfl ?_
                refine g_top ((tRow (F k) (vsF fv cnt k) (usF fv fs cnt rm k)) i) (ex) ?_
                refine g_iast (w' := wM ad cI cG th (cnt : Int) rm lt tk ov fv fs fd fo (gU (gR F (k + 1) (tRow (F k) (vsF fv cnt k) (usF fv fs cnt rm k)) i) (k + 1) i ((tRow (F k) (vsF fv cnt k) (usF fv fs cnt rm k)) i)) fg fp Y) C (9 + (k + 1)) (wMF_row1 (by omega)) (by decide) (by omega) (by omega) (wMF_set1 (by omega) i ((tRow (F k) (vsF fv cnt k) (usF fv fs cnt rm k)) i)) dX4_with_113 ?_
                refine g_iinc (L' := [(4, .int (zI ((i : Int) + 1))), (6, .int (zI ((m + 1 : Nat) : Int))), (5, .int (zI (tIn (F k) (vsF fv cnt k) (usF fv fs cnt rm k) i m))), (3, .int (zI (usF fv fs cnt rm k))), (2, .int (zI (vsF fv cnt k))), (1, .int (zI (k : Int))), (0, .ref (ad 0))]) C dX4_with_114 2 rfl (by decide) rfl ?_
                refine g_goto 34 C dX4_with_117 (by decide) ?_
                refine g_loc (L' := [(4, .int (zI ((i : Int) + 1))), (3, .int (zI (usF fv fs cnt rm k))), (2, .int (zI (vsF fv cnt k))), (1, .int (zI (k : Int))), (0, .ref (ad 0))]) [0, 3, 4, 5, 6] rfl ?_
                refine g_ws (w' := wM ad cI cG th (cnt : Int) rm lt tk ov fv fs fd fo (gR F (k + 1) (tRow (F k) (vsF fv cnt k) (usF fv fs cnt rm k)) (i + 1)) fg fp Y) (by rw [gR_s]) rfl ?_
                exact ih_34 (i + 1) (by omega) (by omega)
              · refine g_iload C dX4_with_71 1 rfl ?_
                refine g_aload_n C dX4_with_73 6 rfl ?_
                refine g_getf C fX4_28 0 rfl rfl dX4_with_74 ?_
                refine g_iload_n C dX4_with_77 5 rfl ?_
                refine g_aald (y := ad (9 + k)) C 5 rfl (by decide) (by omega) (by omega) (wR_at (by omega)) dX4_with_78 ?_
                refine g_iload C dX4_with_79 2 rfl ?_
                refine g_iload C dX4_with_81 0 rfl ?_
                refine g_iload_n C dX4_with_83 4 rfl ?_
                refine g_imul C dX4_with_84 ?_
                refine g_isub C dX4_with_85 ?_
                refine g_iald C (9 + k) (wMF_row1 (by omega)) (by decide) (by omega) (by omega) (v := ((gR F (k + 1) (tRow (F k) (vsF fv cnt k) (usF fv fs cnt rm k)) i) k ((((i : Int) - (((m + 1 : Nat) : Int) * (vsF fv cnt k)))).toNat))) rfl dX4_with_86 ?_
                refine g_top (F k ((i : Int) - ((m + 1 : Nat) : Int) * vsF fv cnt k).toNat) (gR_ne (by omega)) ?_
                refine g_iload C dX4_with_87 0 rfl ?_
                refine g_iadd C dX4_with_89 ?_
                have hb3 := hM ((i : Int) - ((m + 1 : Nat) : Int) * vsF fv cnt k).toNat (by omega)
                refine g_min C mX4_50 (zr_i (by omega) (by omega)) (zr_i (by omega) (by omega)) (by decide) (Nat.le_of_ble_eq_true rfl) dX4_with_90 ?_
                refine g_top (tIn (F k) (vsF fv cnt k) (usF fv fs cnt rm k) i (m + 1)) (tIn_s (by omega) (by omega)) ?_
                refine g_istore (L' := [(5, .int (zI (tIn (F k) (vsF fv cnt k) (usF fv fs cnt rm k) i (m + 1)))), (6, .int (zI ((m + 1 : Nat) : Int))), (4, .int (zI (i : Int))), (3, .int (zI (usF fv fs cnt rm k))), (2, .int (zI (vsF fv cnt k))), (1, .int (zI (k : Int))), (0, .ref (ad 0))]) C dX4_with_93 (by decide) rfl ?_
                refine g_iinc (L' := [(6, .int (zI (((m + 1 : Nat) : Int) + 1))), (5, .int (zI (tIn (F k) (vsF fv cnt k) (usF fv fs cnt rm k) i (m + 1)))), (4, .int (zI (i : Int))), (3, .int (zI (usF fv fs cnt rm k))), (2, .int (zI (vsF fv cnt k))), (1, .int (zI (k : Int))), (0, .ref (ad 0))]) C dX4_with_95 1 rfl (by decide) rfl ?_
                refine g_goto 56 C dX4_with_98 (by decide) ?_
                refine g_loc (L' := [(6, .int (zI (((m + 1 : Nat) : Int) + 1))), (5, .int (zI (tIn (F k) (vsF fv cnt k) (usF fv fs cnt rm k) i (m + 1)))), (4, .int (zI (i : Int))), (3, .int (zI (usF fv fs cnt rm k))), (2, .int (zI (vsF fv cnt k))), (1, .int (zI (k : Int))), (0, .ref (ad 0))]) [0, 1, 2, 3, 4, 5, 6] rfl ?_
                exact ih_56 (m + 1) (by omega) (by omega)
        refine g_loc (L' := [(6, .int (zI 1)), (5, .int (zI (tIn (F k) (vsF fv cnt k) (usF fv fs cnt rm k) i 0))), (4, .int (zI (i : Int))), (3, .int (zI (usF fv fs cnt rm k))), (2, .int (zI (vsF fv cnt k))), (1, .int (zI (k : Int))), (0, .ref (ad 0))]) [0, 1, 2, 3, 4, 5, 6] rfl ?_
        exact loop_56 _ 0 (Nat.zero_le _) (Nat.lt_succ_self _)
  refine g_loc (L' := [(4, .int (zI 0)), (3, .int (zI (usF fv fs cnt rm k))), (2, .int (zI (vsF fv cnt k))), (1, .int (zI (k : Int))), (0, .ref (ad 0))]) [0, 1, 2, 4, 3] rfl ?_
  refine g_ws (w' := wM ad cI cG th (cnt : Int) rm lt tk ov fv fs fd fo (gR F (k + 1) (tRow (F k) (vsF fv cnt k) (usF fv fs cnt rm k)) 0) fg fp Y) (by rw [gR_0]) rfl ?_
  exact loop_34 _ 0 (Nat.zero_le _) (Nat.lt_succ_self _)
