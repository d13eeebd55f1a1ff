abbrev rmX4_table : Room := { frames := 2, cells := 0, slots := 0, locals := 47 }
set_option maxHeartbeats 4000000 in
set_option maxRecDepth 100000 in
theorem met_X4_table (l : Launch) (D : va_G) (cI cG cJ : ClassId) (ad : Nat → Nat) (th : Int) (cnt : Nat) (hc : cnt ≤ 8) (rm lt tk ov : Int) (fv fs fd fo : Nat → Int) (F : Nat → Nat → Int) (fg fp : Nat → Int) (Y : Nat → Nat → Int) (hS : Sok cnt fv fs) (hr : 1 ≤ rm ∧ rm ≤ 12)  : gMet l yX4_table cX4_table 2 none rmX4_table D cI cG cJ [.ref (ad 0)] (wM ad cI cG th (cnt : Int) rm lt tk ov fv fs fd fo F fg fp Y) (gN (fun w9 => ∃ (fo1 : Nat → Int) (F1 : Nat → Nat → Int), (Ook fv cnt fo1 ∧ Fok fv fs cnt rm F1 cnt) ∧ w9 = wM ad cI cG th (cnt : Int) rm lt tk ov fv fs fd fo1 F1 fg fp Y)) := by
  have hr9 : 0 ≤ rm ∧ rm ≤ 12 := ⟨by omega, hr.2⟩
  have hv : ∀ j, j < cnt → 1 ≤ fv j ∧ fv j ≤ 60 := hS.1
  have hv1 : ∀ j, j < cnt → 1 ≤ fv j := fun j hj => (hS.1 j hj).1
  have hs9 : ∀ j, j < cnt → 0 ≤ fs j ∧ fs j ≤ 119 := hS.2.1
  refine gMet_N (by decide) rfl (Nat.le_of_ble_eq_true rfl) (fun E C ret => ?_)
  refine g_aload_n C dX4_table_0 0 rfl ?_
  refine g_callV (wr := ([] : va_W)) (st := []) [0, 1, 2, 3, 4, 5, 6, 7, 8, 9, 10, 11, 12, 13, 14, 15, 16, 17, 18, 19, 20, 21, 22, 23, 24, 25, 26, 27, 28, 29, 30] [] C cX4_56 (met_X4_sort l D cI cG cJ ad th cnt hc rm lt tk ov fv fs fd fo F fg fp Y hv) ⟨rfl, rfl, by decide, by decide, by decide⟩ (q0 := 0) rfl rfl (by decide) (by decide) rfl rfl (Nat.le_of_ble_eq_true rfl) dX4_table_1 ?_
  rintro v9 w9 ⟨rfl, fo1, hO, rfl⟩
  refine g_ws (w' := wM ad cI cG th (cnt : Int) rm lt tk ov fv fs fd fo1 F fg fp Y) (st' := []) rfl rfl ?_
  refine g_iconst C dX4_table_4 ?_
  refine g_istore_n (L' := [(1, .int (zI 0)), (0, .ref (ad 0))]) C dX4_table_5 (by decide) rfl ?_
  have loop_6 : ∀ (fu : Nat) (i : Nat) (F1 : Nat → Nat → Int), (hi : i ≤ 721) → (h1 : ∀ s, s < i → F1 0 s = if s = 0 then (0 : Int) else 1000) → 721 - i < fu → gW E 0 0 (wM ad cI cG th (cnt : Int) rm lt tk ov fv fs fd fo1 F1 fg fp Y) 6 [(1, .int (zI (i : Int))), (0, .ref (ad 0))] [] := by
    intro fu
    induction fu with
    | zero => intro i F1 hi h1 h9; exact absurd h9 (Nat.not_lt_zero _)
    | succ fu ih_6 =>
      intro i F1 hi h1 hmu_6
      refine g_iload_n C dX4_table_6 0 rfl ?_
      refine g_sipush C dX4_table_7 (by decide) ?_
      refine g_icmp_ge 38 C dX4_table_10 (by decide) (zr_i (by omega) (by omega)) (zr_i (by omega) (by omega)) (fun c_10 => ?_) (fun c_10 => ?_)
      · refine g_iconst C dX4_table_38 ?_
        refine g_istore_n (L' := [(1, .int (zI 0)), (0, .ref (ad 0))]) C dX4_table_39 (by decide) rfl ?_
        have loop_40 : ∀ (fu : Nat) (k : Nat) (F2 : Nat → Nat → Int), (hk : k ≤ cnt) → (hF : Fok fv fs cnt rm F2 k) → cnt - k < fu → gW E 0 0 (wM ad cI cG th (cnt : Int) rm lt tk ov fv fs fd fo1 F2 fg fp Y) 40 [(1, .int (zI (k : Int))), (0, .ref (ad 0))] [] := by
          intro fu
          induction fu with
          | zero => intro k F2 hk hF h9; exact absurd h9 (Nat.not_lt_zero _)
          | succ fu ih_40 =>
            intro k F2 hk hF hmu_40
            refine g_iload_n C dX4_table_40 0 rfl ?_
            refine g_aload_n C dX4_table_41 1 rfl ?_
            refine g_getf C fX4_43 0 rfl rfl dX4_table_42 ?_
            refine g_icmp_ge 59 C dX4_table_45 (by decide) (zr_i (by omega) (by omega)) (zr_i (by omega) (by omega)) (fun c_45 => ?_) (fun c_45 => ?_)
            · have e9 : cnt = k := by omega
              subst e9
              exact ret _ _ _ _ _ (by decide) (by decide) dX4_table_59 (⟨fo1, F2, ⟨hO, hF⟩, rfl⟩)
            · refine g_aload_n C dX4_table_48 1 rfl ?_
              refine g_iload_n C dX4_table_49 0 rfl ?_
              refine g_callV (wr := ([] : va_W)) (st := []) [0, 1, 2, 3, 4, 5, 6, 7, 8, 9, 10, 11, 12, 13, 14, 15, 16, 17, 18, 19, 20, 21, 22, 23, 24, 25, 26, 27, 28, 29, 30] [] C cX4_59 (met_X4_with l D cI cG cJ ad th cnt hc rm lt tk ov fv fs fd fo1 F2 fg fp Y hS hr hO k (by omega) hF) ⟨rfl, rfl, by decide, by decide, by decide⟩ (q0 := 0) rfl rfl (by decide) (by decide) rfl rfl (Nat.le_of_ble_eq_true rfl) dX4_table_50 ?_
              rintro v9 w9 ⟨rfl, rfl⟩
              refine g_ws (w' := wM ad cI cG th (cnt : Int) rm lt tk ov fv fs fd fo1 (gR F2 (k + 1) (tRow (F2 k) (vsF fv cnt k) (usF fv fs cnt rm k)) 721) fg fp Y) (st' := []) rfl rfl ?_
              refine g_iinc (L' := [(1, .int (zI ((k : Int) + 1))), (0, .ref (ad 0))]) C dX4_table_53 0 rfl (by decide) rfl ?_
              refine g_goto 40 C dX4_table_56 (by decide) ?_
              refine g_loc (L' := [(1, .int (zI ((k : Int) + 1))), (0, .ref (ad 0))]) [0, 1] rfl ?_
              exact ih_40 (k + 1) (gR F2 (k + 1) (tRow (F2 k) (vsF fv cnt k) (usF fv fs cnt rm k)) 721) (by omega) (hF.step hS (by omega)) (by omega)
        refine g_loc (L' := [(1, .int (zI 0)), (0, .ref (ad 0))]) [0, 1] rfl ?_
        exact loop_40 _ 0 F1 (Nat.zero_le _) (fun k hk s hs => by
              have e : k = 0 := by omega
              subst e
              exact h1 s (by omega)) (Nat.lt_succ_self _)
      · refine g_aload_n C dX4_table_13 1 rfl ?_
        refine g_getf C fX4_28 0 rfl rfl dX4_table_14 ?_
        refine g_iconst C dX4_table_17 ?_
        refine g_aald (y := ad (9 + 0)) C 5 rfl (by decide) (by omega) (by omega) (wR_at (by omega)) dX4_table_18 ?_
        refine g_iload_n C dX4_table_19 0 rfl ?_
        refine g_iload_n C dX4_table_20 0 rfl ?_
        refine g_if_ne 28 C dX4_table_21 (by decide) (zr_i (by omega) (by omega)) (fun c_21 => ?_) (fun c_21 => ?_)
        · refine g_sipush C dX4_table_28 (by decide) ?_
          refine g_iast (w' := wM ad cI cG th (cnt : Int) rm lt tk ov fv fs fd fo1 (gU F1 0 i 1000) fg fp Y) C (9 + 0) (wMF_row1 (by omega)) (by decide) (by omega) (by omega) (wMF_set1 (by omega) i 1000) dX4_table_31 ?_
          refine g_iinc (L' := [(1, .int (zI ((i : Int) + 1))), (0, .ref (ad 0))]) C dX4_table_32 0 rfl (by decide) rfl ?_
          refine g_goto 6 C dX4_table_35 (by decide) ?_
          refine g_loc (L' := [(1, .int (zI ((i : Int) + 1))), (0, .ref (ad 0))]) [0, 1] rfl ?_
          exact ih_6 (i + 1) (gU F1 0 i 1000) (by omega) (fun s h => by
                by_cases e : s = i
                · subst e; rw [gU_eq, if_neg (by omega)]
                · rw [gU_ne (fun _ => e)]; exact h1 s (by omega)) (by omega)
        · refine g_iconst C dX4_table_24 ?_
          refine g_goto 31 C dX4_table_25 (by decide) ?_
          refine g_iast (w' := wM ad cI cG th (cnt : Int) rm lt tk ov fv fs fd fo1 (gU F1 0 i 0) fg fp Y) C (9 + 0) (wMF_row1 (by omega)) (by decide) (by omega) (by omega) (wMF_set1 (by omega) i 0) dX4_table_31 ?_
          refine g_iinc (L' := [(1, .int (zI ((i : Int) + 1))), (0, .ref (ad 0))]) C dX4_table_32 0 rfl (by decide) rfl ?_
          refine g_goto 6 C dX4_table_35 (by decide) ?_
          refine g_loc (L' := [(1, .int (zI ((i : Int) + 1))), (0, .ref (ad 0))]) [0, 1] rfl ?_
          exact ih_6 (i + 1) (gU F1 0 i 0) (by omega) (fun s h => by
                by_cases e : s = i
                · subst e; rw [gU_eq, if_pos (by omega)]
                · rw [gU_ne (fun _ => e)]; exact h1 s (by omega)) (by omega)
  refine g_loc (L' := [(1, .int (zI 0)), (0, .ref (ad 0))]) [0, 1] rfl ?_
  exact loop_6 _ 0 F (Nat.zero_le _) (fun s h => absurd h (Nat.not_lt_zero _)) (Nat.lt_succ_self _)
abbrev rmX4_pays : Room := { frames := 0, cells := 0, slots := 0, locals := 0 }
set_option maxHeartbeats 4000000 in
set_option maxRecDepth 100000 in
theorem met_X4_pays (l : Launch) (D : va_G) (cI cG cJ : ClassId) (ad : Nat → Nat) (th : Int) (cnt : Nat) (hc : cnt ≤ 8) (rm lt tk ov : Int) (fv fs fd fo : Nat → Int) (F : Nat → Nat → Int) (fg fp : Nat → Int) (Y : Nat → Nat → Int) (hS : Sok cnt fv fs) (hr : 1 ≤ rm ∧ rm ≤ 12) (hF : Fok fv fs cnt rm F cnt) (s : Nat) (hs : s < 721)  : gMet l yX4_pays cX4_pays 2 (some .boolean) rmX4_pays D cI cG cJ [.ref (ad 0), .int (zI (s : Int))] (wM ad cI cG th (cnt : Int) rm lt tk ov fv fs fd fo F fg fp Y) (gI (fun z w9 => z = (if F cnt s ≤ rm then (1 : Int) else 0) ∧ w9 = wM ad cI cG th (cnt : Int) rm lt tk ov fv fs fd fo F fg fp Y)) := by
  have h0 := hF.bd hS (Nat.le_refl _) (Nat.le_refl _) hs
  refine gMet_Z (by decide) rfl (Nat.le_of_ble_eq_true rfl) (fun E C ret => ?_)
  refine g_aload_n C dX4_pays_0 0 rfl ?_
  refine g_getf C fX4_28 0 rfl rfl dX4_pays_1 ?_
  refine g_aload_n C dX4_pays_4 0 rfl ?_
  refine g_getf C fX4_43 0 rfl rfl dX4_pays_5 ?_
  refine g_aald (y := ad (9 + cnt)) C 5 rfl (by decide) (by omega) (by omega) (wR_at (by omega)) dX4_pays_8 ?_
  refine g_iload_n C dX4_pays_9 1 rfl ?_
  refine g_iald C (9 + cnt) (wMF_row1 (by omega)) (by decide) (by omega) (by omega) (v := (F cnt s)) rfl dX4_pays_10 ?_
  refine g_aload_n C dX4_pays_11 0 rfl ?_
  refine g_getf C fX4_9 0 rfl rfl dX4_pays_12 ?_
  refine g_icmp_gt 22 C dX4_pays_15 (by decide) (zr_i (by omega) (by omega)) (zr_i (by omega) (by omega)) (fun c_15 => ?_) (fun c_15 => ?_)
  · refine g_iconst C dX4_pays_22 ?_
    exact ret _ _ _ _ _ _ (by decide) (by decide) dX4_pays_23 (Or.inl rfl) (⟨(if_neg (by omega)).symm, rfl⟩)
  · refine g_iconst C dX4_pays_18 ?_
    refine g_goto 23 C dX4_pays_19 (by decide) ?_
    exact ret _ _ _ _ _ _ (by decide) (by decide) dX4_pays_23 (Or.inr rfl) (⟨(if_pos (by omega)).symm, rfl⟩)
abbrev rmX4_covers : Room := { frames := 1, cells := 0, slots := 0, locals := 21 }
set_option maxHeartbeats 4000000 in
set_option maxRecDepth 100000 in
theorem met_X4_covers (l : Launch) (D : va_G) (cI cG cJ : ClassId) (ad : Nat → Nat) (th : Int) (cnt : Nat) (hc : cnt ≤ 8) (rm lt tk ov : Int) (fv fs fd fo : Nat → Int) (F : Nat → Nat → Int) (fg fp : Nat → Int) (Y : Nat → Nat → Int) (hS : Sok cnt fv fs) (hr : 1 ≤ rm ∧ rm ≤ 12) (hF : Fok fv fs cnt rm F cnt) (p : Nat) (hp : p ≤ 300)  : gMet l yX4_covers cX4_covers 3 (some .int) rmX4_covers D cI cG cJ [.ref (ad 0), .int (zI (p : Int))] (wM ad cI cG th (cnt : Int) rm lt tk ov fv fs fd fo F fg fp Y) (gI (fun z w9 => z = LSm cnt fv fs rm p ∧ w9 = wM ad cI cG th (cnt : Int) rm lt tk ov fv fs fd fo F fg fp Y)) := by
  have hr9 : 0 ≤ rm ∧ rm ≤ 12 := ⟨by omega, hr.2⟩
  have hv : ∀ j, j < cnt → 1 ≤ fv j ∧ fv j ≤ 60 := hS.1
  have hv1 : ∀ j, j < cnt → 1 ≤ fv j := fun j hj => (hS.1 j hj).1
  have hs9 : ∀ j, j < cnt → 0 ≤ fs j ∧ fs j ≤ 119 := hS.2.1
  refine gMet_I (by decide) rfl (Nat.le_of_ble_eq_true rfl) (fun E C ret => ?_)
  refine g_iload_n C dX4_covers_0 1 rfl ?_
  refine g_istore_n (L' := [(2, .int (zI (p : Int))), (0, .ref (ad 0)), (1, .int (zI (p : Int)))]) C dX4_covers_1 (by decide) rfl ?_
  have loop_2 : ∀ (fu : Nat) (s : Nat), (hi : s ≤ 721) → (he : fsm (F cnt) rm (721 - p) p = fsm (F cnt) rm (721 - s) s) → 721 - s < fu → gW E 0 0 (wM ad cI cG th (cnt : Int) rm lt tk ov fv fs fd fo F fg fp Y) 2 [(2, .int (zI (s : Int))), (0, .ref (ad 0)), (1, .int (zI (p : Int)))] [] := by
    intro fu
    induction fu with
    | zero => intro s hi he h9; exact absurd h9 (Nat.not_lt_zero _)
    | succ fu ih_2 =>
      intro s hi he hmu_2
      refine g_iload_n C dX4_covers_2 0 rfl ?_
      refine g_sipush C dX4_covers_3 (by decide) ?_
      refine g_icmp_ge 25 C dX4_covers_6 (by decide) (zr_i (by omega) (by omega)) (zr_i (by omega) (by omega)) (fun c_6 => ?_) (fun c_6 => ?_)
      · refine g_iconst C dX4_covers_25 ?_
        exact ret _ _ _ _ _ _ (by decide) (by decide) dX4_covers_26 (⟨by rw [← hF.ls hS hr9 hp, he, show s = 721 by omega]; rfl, rfl⟩)
      · refine g_aload_n C dX4_covers_9 1 rfl ?_
        refine g_iload_n C dX4_covers_10 0 rfl ?_
        refine g_callV (wr := ([] : va_W)) (st := []) [0, 1, 2, 3, 4, 5, 6, 7, 8, 9, 10, 11, 12, 13, 14, 15, 16, 17, 18, 19, 20, 21, 22, 23, 24, 25, 26, 27, 28, 29, 30] [] C cX4_63 (met_X4_pays l D cI cG cJ ad th cnt hc rm lt tk ov fv fs fd fo F fg fp Y hS hr hF s (by omega)) ⟨rfl, rfl, by decide, by decide, by decide⟩ (q0 := 0) rfl rfl (by decide) (by decide) rfl rfl (Nat.le_of_ble_eq_true rfl) dX4_covers_11 ?_
        rintro v9 w9 ⟨z9, rfl, rfl, rfl⟩
        refine g_ws (w' := wM ad cI cG th (cnt : Int) rm lt tk ov fv fs fd fo F fg fp Y) (st' := [.int (zI (if F cnt s ≤ rm then (1 : Int) else 0))]) rfl rfl ?_
        refine g_if_eq 19 C dX4_covers_14 (by decide) zr01 (fun c_14 => ?_) (fun c_14 => ?_)
        · refine g_iinc (L' := [(2, .int (zI ((s : Int) + 1))), (0, .ref (ad 0)), (1, .int (zI (p : Int)))]) C dX4_covers_19 0 rfl (by decide) rfl ?_
          refine g_goto 2 C dX4_covers_22 (by decide) ?_
          refine g_loc (L' := [(2, .int (zI ((s : Int) + 1))), (0, .ref (ad 0)), (1, .int (zI (p : Int)))]) [0, 1, 2] rfl ?_
          exact ih_2 (s + 1) (by omega) (by rw [he, show 721 - s = (721 - (s + 1)) + 1 by omega, fsm_f (if0 c_14)]) (by omega)
        · refine g_iload_n C dX4_covers_17 0 rfl ?_
          exact ret _ _ _ _ _ _ (by decide) (by decide) dX4_covers_18 (⟨by rw [← hF.ls hS hr9 hp, he, show 721 - s = (721 - (s + 1)) + 1 by omega, fsm_t (if1 c_14)], rfl⟩)
  refine g_loc (L' := [(2, .int (zI (p : Int))), (0, .ref (ad 0)), (1, .int (zI (p : Int)))]) [0, 1, 2] rfl ?_
  exact loop_2 _ p (by omega) rfl (Nat.lt_succ_self _)
abbrev rmX4_take : Room := { frames := 1, cells := 0, slots := 0, locals := 21 }
set_option maxHeartbeats 4000000 in
set_option maxRecDepth 100000 in
theorem met_X4_take (l : Launch) (D : va_G) (cI cG cJ : ClassId) (ad : Nat → Nat) (th : Int) (cnt : Nat) (hc : cnt ≤ 8) (rm lt tk ov : Int) (fv fs fd fo : Nat → Int) (F : Nat → Nat → Int) (fg fp : Nat → Int) (Y : Nat → Nat → Int) (hS : Sok cnt fv fs) (hr : 1 ≤ rm ∧ rm ≤ 12) (hF : Fok fv fs cnt rm F cnt) (hO : Ook fv cnt fo) (s : Nat) (hs : s < 721)  : gMet l yX4_take cX4_take 6 none rmX4_take D cI cG cJ [.ref (ad 0), .int (zI (s : Int))] (wM ad cI cG th (cnt : Int) rm lt tk ov fv fs fd fo F fg fp Y) (gN (fun w9 => ∃ fg1 : Nat → Int, (∀ x, x < cnt → fg1 x = CH cnt fv fs rm s x) ∧ w9 = wM ad cI cG th (cnt : Int) rm lt tk ov fv fs fd fo F fg1 fp Y)) := by
  have hr9 : 0 ≤ rm ∧ rm ≤ 12 := ⟨by omega, hr.2⟩
  have hv : ∀ j, j < cnt → 1 ≤ fv j ∧ fv j ≤ 60 := hS.1
  have hv1 : ∀ j, j < cnt → 1 ≤ fv j := fun j hj => (hS.1 j hj).1
  have hs9 : ∀ j, j < cnt → 0 ≤ fs j ∧ fs j ≤ 119 := hS.2.1
  refine gMet_N (by decide) rfl (Nat.le_of_ble_eq_true rfl) (fun E C ret => ?_)
  refine g_iload_n C dX4_take_0 1 rfl ?_
  refine g_istore_n (L' := [(2, .int (zI (s : Int))), (0, .ref (ad 0)), (1, .int (zI (s : Int)))]) C dX4_take_1 (by decide) rfl ?_
  refine g_aload_n C dX4_take_2 1 rfl ?_
  refine g_getf C fX4_43 0 rfl rfl dX4_take_3 ?_
  refine g_iconst C dX4_take_6 ?_
  refine g_isub C dX4_take_7 ?_
  refine g_istore_n (L' := [(3, .int (zI ((cnt : Int) - 1))), (2, .int (zI (s : Int))), (0, .ref (ad 0)), (1, .int (zI (s : Int)))]) C dX4_take_8 (by decide) rfl ?_
  have loop_9 : ∀ (fu : Nat) (r : Nat) (q : Nat), (hi : r ≤ cnt) → (hq : q = rst (RM cnt fv fs rm) (RV cnt fv) (RU cnt fv fs rm) s r) → cnt - r < fu → gW E 0 0 (wM ad cI cG th (cnt : Int) rm lt tk ov fv fs fd fo F (gtU cnt fv fs rm s fg r) fp Y) 9 [(3, .int (zI ((cnt : Int) - 1 - (r : Int)))), (2, .int (zI (q : Int))), (0, .ref (ad 0)), (1, .int (zI (s : Int)))] [] := by
    intro fu
    induction fu with
    | zero => intro r q hi hq h9; exact absurd h9 (Nat.not_lt_zero _)
    | succ fu ih_9 =>
      intro r q hi hq hmu_9
      have hqs : q ≤ s := by rw [hq]; exact rst_le r (fun j hj => by have := hS.vs (j := cnt - 1 - j) (by omega); show 0 ≤ vsF fv cnt (cnt - 1 - j); omega)
      refine g_iload_n C dX4_take_9 0 rfl ?_
      refine g_if_lt 118 C dX4_take_10 (by decide) (zr_i (by omega) (by omega)) (fun c_10 => ?_) (fun c_10 => ?_)
      · exact ret _ _ _ _ _ (by decide) (by decide) dX4_take_118 (⟨gtU cnt fv fs rm s fg cnt, fun x hx => gtU_CH hS x hx, by rw [show r = cnt by omega]⟩)
      · have hk9 : cnt - 1 - r < cnt := by omega
        have ho9 := ordF_lt fv cnt (cnt - 1 - r) hk9
        have hvk : 1 ≤ RV cnt fv r ∧ RV cnt fv r ≤ 60 := hS.vs hk9
        have huk : 0 ≤ RU cnt fv fs rm r ∧ RU cnt fv fs rm r ≤ 12 := hS.us hr9 hk9
        have hs8 := hs9 (ordF fv cnt (cnt - 1 - r)) ho9
        have ei : cnt - 1 - r = cnt - (r + 1) := by omega
        have ej : cnt - 1 - r + 1 = cnt - r := by omega
        have hat : RM cnt fv fs rm (r + 1) ((q : Int) - ((chm (RM cnt fv fs rm) (RV cnt fv) (RU cnt fv fs rm) s r : Nat) : Int) * RV cnt fv r).toNat + ((chm (RM cnt fv fs rm) (RV cnt fv) (RU cnt fv fs rm) s r : Nat) : Int) = RM cnt fv fs rm r q := by
                    have e0 := mo_at (f := RM cnt fv fs rm (r + 1)) (v := RV cnt fv r) (u := RU cnt fv fs rm r) (s := q) huk
                    rw [← RM_s (by omega : r < cnt)] at e0
                    rw [hq] at e0 ⊢
                    exact e0
        have hM0 : ∀ j, j < 721 → 0 ≤ RM cnt fv fs rm r j ∧ RM cnt fv fs rm r j ≤ 1000 := fun j hj => tb_bd (cnt - r) (fun i hi => by have := hS.vs (j := i) (by omega); omega) j
        have hM1 : ∀ j, j < 721 → 0 ≤ RM cnt fv fs rm (r + 1) j ∧ RM cnt fv fs rm (r + 1) j ≤ 1000 := fun j hj => tb_bd (cnt - (r + 1)) (fun i hi => by have := hS.vs (j := i) (by omega); omega) j
        refine g_lw (w' := wM ad cI cG th (cnt : Int) rm lt tk ov fv fs fd fo F (gtU cnt fv fs rm s fg r) fp Y) (L' := [(3, .int (zI ((cnt - 1 - r : Nat) : Int))), (2, .int (zI (q : Int))), (0, .ref (ad 0)), (1, .int (zI (s : Int)))]) rfl (by rw [show (cnt : Int) - 1 - (r : Int) = ((cnt - 1 - r : Nat) : Int) by omega]) ?_
        refine g_aload_n C dX4_take_13 2 rfl ?_
        refine g_getf C fX4_13 0 rfl rfl dX4_take_14 ?_
        refine g_aload_n C dX4_take_17 2 rfl ?_
        refine g_getf C fX4_23 0 rfl rfl dX4_take_18 ?_
        refine g_iload_n C dX4_take_21 0 rfl ?_
        refine g_iald C 4 rfl (by decide) (by omega) (by omega) (v := (fo (cnt - 1 - r))) rfl dX4_take_22 ?_
        refine g_top ((ordF fv cnt (cnt - 1 - r) : Nat) : Int) (hO _ hk9) ?_
        refine g_iald C 1 rfl (by decide) (by omega) (by omega) (v := (fv (ordF fv cnt (cnt - 1 - r)))) rfl dX4_take_23 ?_
        refine g_top (RV cnt fv r) (rfl) ?_
        refine g_istore (L' := [(4, .int (zI (RV cnt fv r))), (3, .int (zI ((cnt - 1 - r : Nat) : Int))), (2, .int (zI (q : Int))), (0, .ref (ad 0)), (1, .int (zI (s : Int)))]) C dX4_take_24 (by decide) rfl ?_
        refine g_aload_n C dX4_take_26 3 rfl ?_
        refine g_getf C fX4_9 0 rfl rfl dX4_take_27 ?_
        refine g_aload_n C dX4_take_30 3 rfl ?_
        refine g_getf C fX4_17 0 rfl rfl dX4_take_31 ?_
        refine g_aload_n C dX4_take_34 3 rfl ?_
        refine g_getf C fX4_23 0 rfl rfl dX4_take_35 ?_
        refine g_iload_n C dX4_take_38 1 rfl ?_
        refine g_iald C 4 rfl (by decide) (by omega) (by omega) (v := (fo (cnt - 1 - r))) rfl dX4_take_39 ?_
        refine g_top ((ordF fv cnt (cnt - 1 - r) : Nat) : Int) (hO _ hk9) ?_
        refine g_iald C 2 rfl (by decide) (by omega) (by omega) (v := (fs (ordF fv cnt (cnt - 1 - r)))) rfl dX4_take_40 ?_
        refine g_min C mX4_50 (zr_i (by omega) (by omega)) (zr_i (by omega) (by omega)) (by decide) (Nat.le_of_ble_eq_true rfl) dX4_take_41 ?_
        refine g_top (((RU cnt fv fs rm r).toNat : Nat) : Int) ((Int.min_comm _ _).trans (by show RU cnt fv fs rm r = _; omega)) ?_
        refine g_istore (L' := [(5, .int (zI (((RU cnt fv fs rm r).toNat : Nat) : Int))), (4, .int (zI (RV cnt fv r))), (3, .int (zI ((cnt - 1 - r : Nat) : Int))), (2, .int (zI (q : Int))), (0, .ref (ad 0)), (1, .int (zI (s : Int)))]) C dX4_take_44 (by decide) rfl ?_
        have loop_46 : ∀ (fu : Nat) (m : Nat), (hm : m ≤ 12) → (he : chm (RM cnt fv fs rm) (RV cnt fv) (RU cnt fv fs rm) s r = mo (RM cnt fv fs rm (r + 1)) (RV cnt fv r) (RM cnt fv fs rm r q) q m) → m < fu → gW E 0 0 (wM ad cI cG th (cnt : Int) rm lt tk ov fv fs fd fo F (gtU cnt fv fs rm s fg r) fp Y) 46 [(5, .int (zI (m : Int))), (4, .int (zI (RV cnt fv r))), (3, .int (zI ((cnt - 1 - r : Nat) : Int))), (2, .int (zI (q : Int))), (0, .ref (ad 0)), (1, .int (zI (s : Int)))] [] := by
          intro fu
          induction fu with
          | zero => intro m hm he h9; exact absurd h9 (Nat.not_lt_zero _)
          | succ fu ih_46 =>
            intro m hm he hmu_46
            have hp := mul_bd0 (m := m) hvk.1 hvk.2 (by omega)
            refine g_iload C dX4_take_46 0 rfl ?_
            refine g_iload C dX4_take_48 1 rfl ?_
            refine g_imul C dX4_take_50 ?_
            refine g_iload_n C dX4_take_51 3 rfl ?_
            refine g_icmp_gt 85 C dX4_take_52 (by decide) (zr_i (by omega) (by omega)) (zr_i (by omega) (by omega)) (fun c_52 => ?_) (fun c_52 => ?_)
            · refine g_iinc (L' := [(5, .int (zI ((m : Int) + (-1)))), (4, .int (zI (RV cnt fv r))), (3, .int (zI ((cnt - 1 - r : Nat) : Int))), (2, .int (zI (q : Int))), (0, .ref (ad 0)), (1, .int (zI (s : Int)))]) C dX4_take_85 0 rfl (by decide) rfl ?_
              refine g_goto 46 C dX4_take_88 (by decide) ?_
              refine g_loc (L' := [(5, .int (zI ((m : Int) + (-1)))), (4, .int (zI (RV cnt fv r))), (3, .int (zI ((cnt - 1 - r : Nat) : Int))), (2, .int (zI (q : Int))), (0, .ref (ad 0)), (1, .int (zI (s : Int)))]) [0, 1, 2, 3, 4, 5] rfl ?_
              have hm1 : 1 ≤ m := Nat.pos_of_ne_zero (fun e0 => by
                          subst e0
                          have e1 : chm (RM cnt fv fs rm) (RV cnt fv) (RU cnt fv fs rm) s r = 0 := he
                          rw [e1] at hat
                          omega)
              refine g_lw (w' := wM ad cI cG th (cnt : Int) rm lt tk ov fv fs fd fo F (gtU cnt fv fs rm s fg r) fp Y) (L' := [(5, .int (zI ((m - 1 : Nat) : Int))), (4, .int (zI (RV cnt fv r))), (3, .int (zI ((cnt - 1 - r : Nat) : Int))), (2, .int (zI (q : Int))), (0, .ref (ad 0)), (1, .int (zI (s : Int)))]) rfl (by rw [show ((m : Int) + (-1)) = ((m - 1 : Nat) : Int) by omega]) ?_
              exact ih_46 (m - 1) (by omega) (he.trans (mo_n (by omega) (fun w => by omega))) (by omega)
            · refine g_aload_n C dX4_take_55 4 rfl ?_
              refine g_getf C fX4_28 0 rfl rfl dX4_take_56 ?_
              refine g_iload_n C dX4_take_59 2 rfl ?_
              refine g_aald (y := ad (9 + (cnt - 1 - r))) C 5 rfl (by decide) (by omega) (by omega) (wR_at (by omega)) dX4_take_60 ?_
              refine g_iload_n C dX4_take_61 3 rfl ?_
              refine g_iload C dX4_take_62 0 rfl ?_
              refine g_iload C dX4_take_64 1 rfl ?_
              refine g_imul C dX4_take_66 ?_
              refine g_isub C dX4_take_67 ?_
              refine g_iald C (9 + (cnt - 1 - r)) (wMF_row1 (by omega)) (by decide) (by omega) (by omega) (v := (F (cnt - 1 - r) ((((q : Int) - ((m : Int) * (RV cnt fv r)))).toNat))) rfl dX4_take_68 ?_
              refine g_top (RM cnt fv fs rm (r + 1) ((q : Int) - (m : Int) * RV cnt fv r).toNat) ((hF _ (by omega) _ (by omega)).trans (by rw [ei]; rfl)) ?_
              refine g_iload C dX4_take_69 0 rfl ?_
              have hM8 := hM1 ((q : Int) - (m : Int) * RV cnt fv r).toNat (by omega)
              refine g_iadd C dX4_take_71 ?_
              refine g_aload_n C dX4_take_72 4 rfl ?_
              refine g_getf C fX4_28 0 rfl rfl dX4_take_73 ?_
              refine g_iload_n C dX4_take_76 2 rfl ?_
              refine g_iconst C dX4_take_77 ?_
              refine g_iadd C dX4_take_78 ?_
              refine g_aald (y := ad (9 + (cnt - 1 - r + 1))) C 5 rfl (by decide) (by omega) (by omega) (wR_at (by omega)) dX4_take_79 ?_
              refine g_iload_n C dX4_take_80 3 rfl ?_
              refine g_iald C (9 + (cnt - 1 - r + 1)) (wMF_row1 (by omega)) (by decide) (by omega) (by omega) (v := (F (cnt - 1 - r + 1) q)) rfl dX4_take_81 ?_
              have hM7 := hM0 q (by omega)
              refine g_top (RM cnt fv fs rm r q) ((hF _ (by omega) _ (by omega)).trans (by rw [ej]; rfl)) ?_
              refine g_icmp_eq 91 C dX4_take_82 (by decide) (zr_i (by omega) (by omega)) (zr_i (by omega) (by omega)) (fun c_82 => ?_) (fun c_82 => ?_)
              · have e9 : m = chm (RM cnt fv fs rm) (RV cnt fv) (RU cnt fv fs rm) s r := (he.trans (if h0 : m = 0 then by rw [h0]; rfl else mo_p (by omega) (by omega) c_82)).symm
                subst e9
                refine g_aload_n C dX4_take_91 4 rfl ?_
                refine g_getf C fX4_31 0 rfl rfl dX4_take_92 ?_
                refine g_aload_n C dX4_take_95 4 rfl ?_
                refine g_getf C fX4_23 0 rfl rfl dX4_take_96 ?_
                refine g_iload_n C dX4_take_99 2 rfl ?_
                refine g_iald C 4 rfl (by decide) (by omega) (by omega) (v := (fo (cnt - 1 - r))) rfl dX4_take_100 ?_
                refine g_top ((ordF fv cnt (cnt - 1 - r) : Nat) : Int) (hO _ hk9) ?_
                refine g_iload C dX4_take_101 0 rfl ?_
                refine g_iast (w' := wM ad cI cG th (cnt : Int) rm lt tk ov fv fs fd fo F (zU (gtU cnt fv fs rm s fg r) (ordF fv cnt (cnt - 1 - r)) ((chm (RM cnt fv fs rm) (RV cnt fv) (RU cnt fv fs rm) s r) : Int)) fp Y) C 6 rfl (by decide) (by omega) (by omega) rfl dX4_take_103 ?_
                refine g_iload_n C dX4_take_104 3 rfl ?_
                refine g_iload C dX4_take_105 0 rfl ?_
                refine g_iload C dX4_take_107 1 rfl ?_
                refine g_imul C dX4_take_109 ?_
                refine g_isub C dX4_take_110 ?_
                refine g_istore_n (L' := [(2, .int (zI ((q : Int) - (((chm (RM cnt fv fs rm) (RV cnt fv) (RU cnt fv fs rm) s r) : Int) * (RV cnt fv r))))), (5, .int (zI ((chm (RM cnt fv fs rm) (RV cnt fv) (RU cnt fv fs rm) s r) : Int))), (4, .int (zI (RV cnt fv r))), (3, .int (zI ((cnt - 1 - r : Nat) : Int))), (0, .ref (ad 0)), (1, .int (zI (s : Int)))]) C dX4_take_111 (by decide) rfl ?_
                refine g_iinc (L' := [(3, .int (zI (((cnt - 1 - r : Nat) : Int) + (-1)))), (2, .int (zI ((q : Int) - (((chm (RM cnt fv fs rm) (RV cnt fv) (RU cnt fv fs rm) s r) : Int) * (RV cnt fv r))))), (5, .int (zI ((chm (RM cnt fv fs rm) (RV cnt fv) (RU cnt fv fs rm) s r) : Int))), (4, .int (zI (RV cnt fv r))), (0, .ref (ad 0)), (1, .int (zI (s : Int)))]) C dX4_take_112 3 rfl (by decide) rfl ?_
                refine g_goto 9 C dX4_take_115 (by decide) ?_
                refine g_loc (L' := [(3, .int (zI (((cnt - 1 - r : Nat) : Int) + (-1)))), (2, .int (zI ((q : Int) - (((chm (RM cnt fv fs rm) (RV cnt fv) (RU cnt fv fs rm) s r) : Int) * (RV cnt fv r))))), (0, .ref (ad 0)), (1, .int (zI (s : Int)))]) [0, 1, 4, 5] rfl ?_
                refine g_lw (w' := wM ad cI cG th (cnt : Int) rm lt tk ov fv fs fd fo F (zU (gtU cnt fv fs rm s fg r) (ordF fv cnt (cnt - 1 - r)) ((chm (RM cnt fv fs rm) (RV cnt fv) (RU cnt fv fs rm) s r) : Int)) fp Y) (L' := [(3, .int (zI ((cnt : Int) - 1 - ((r + 1 : Nat) : Int)))), (2, .int (zI ((rst (RM cnt fv fs rm) (RV cnt fv) (RU cnt fv fs rm) s (r + 1) : Nat) : Int))), (0, .ref (ad 0)), (1, .int (zI (s : Int)))]) rfl (by rw [show ((cnt - 1 - r : Nat) : Int) + (-1) = (cnt : Int) - 1 - ((r + 1 : Nat) : Int) by omega, rst_s, ← hq]) ?_
                exact ih_9 (r + 1) (rst (RM cnt fv fs rm) (RV cnt fv) (RU cnt fv fs rm) s (r + 1)) (by omega) rfl (by omega)
              · refine g_iinc (L' := [(5, .int (zI ((m : Int) + (-1)))), (4, .int (zI (RV cnt fv r))), (3, .int (zI ((cnt - 1 - r : Nat) : Int))), (2, .int (zI (q : Int))), (0, .ref (ad 0)), (1, .int (zI (s : Int)))]) C dX4_take_85 0 rfl (by decide) rfl ?_
                refine g_goto 46 C dX4_take_88 (by decide) ?_
                refine g_loc (L' := [(5, .int (zI ((m : Int) + (-1)))), (4, .int (zI (RV cnt fv r))), (3, .int (zI ((cnt - 1 - r : Nat) : Int))), (2, .int (zI (q : Int))), (0, .ref (ad 0)), (1, .int (zI (s : Int)))]) [0, 1, 2, 3, 4, 5] rfl ?_
                have hm1 : 1 ≤ m := Nat.pos_of_ne_zero (fun e0 => by
                            subst e0
                            have e1 : chm (RM cnt fv fs rm) (RV cnt fv) (RU cnt fv fs rm) s r = 0 := he
                            rw [e1] at hat
                            omega)
                refine g_lw (w' := wM ad cI cG th (cnt : Int) rm lt tk ov fv fs fd fo F (gtU cnt fv fs rm s fg r) fp Y) (L' := [(5, .int (zI ((m - 1 : Nat) : Int))), (4, .int (zI (RV cnt fv r))), (3, .int (zI ((cnt - 1 - r : Nat) : Int))), (2, .int (zI (q : Int))), (0, .ref (ad 0)), (1, .int (zI (s : Int)))]) rfl (by rw [show ((m : Int) + (-1)) = ((m - 1 : Nat) : Int) by omega]) ?_
                exact ih_46 (m - 1) (by omega) (he.trans (mo_n (by omega) (fun w => c_82 w.2))) (by omega)
        refine g_loc (L' := [(5, .int (zI (((RU cnt fv fs rm r).toNat : Nat) : Int))), (4, .int (zI (RV cnt fv r))), (3, .int (zI ((cnt - 1 - r : Nat) : Int))), (2, .int (zI (q : Int))), (0, .ref (ad 0)), (1, .int (zI (s : Int)))]) [0, 1, 2, 3, 4, 5] rfl ?_
        exact loop_46 _ ((RU cnt fv fs rm r).toNat) (by omega) (by rw [hq]; rfl) (Nat.lt_succ_self _)
  refine g_loc (L' := [(3, .int (zI ((cnt : Int) - 1))), (2, .int (zI (s : Int))), (0, .ref (ad 0)), (1, .int (zI (s : Int)))]) [0, 1, 2, 3] rfl ?_
  refine g_lw (w' := wM ad cI cG th (cnt : Int) rm lt tk ov fv fs fd fo F fg fp Y) (L' := [(3, .int (zI ((cnt : Int) - 1 - ((0 : Nat) : Int)))), (2, .int (zI (s : Int))), (0, .ref (ad 0)), (1, .int (zI (s : Int)))]) rfl (by rw [show ((cnt : Int) - 1 - ((0 : Nat) : Int)) = (cnt : Int) - 1 by omega]) ?_
  exact loop_9 _ 0 s (Nat.zero_le _) rfl (Nat.lt_succ_self _)
