abbrev rmX4_toPrint : Room := { frames := 4, cells := 0, slots := 0, locals := 89 }
set_option maxHeartbeats 4000000 in
set_option maxRecDepth 100000 in
theorem met_X4_toPrint (l : Launch) (D : va_G) (cI cG cJ : ClassId) (ad : Nat → Nat) (th : Int) (cnt : Nat) (hc : cnt ≤ 8) (rm lt tk ov : Int) (fv fs fd fo : Nat → Int) (F : Nat → Nat → Int) (fg fp : Nat → Int) (Y : Nat → Nat → Int) (hS : Sok cnt fv fs) (hr : 1 ≤ rm ∧ rm ≤ 12) (h99 : ∀ j, j < cnt → fs j ≤ 99)  : gMet l yX4_toPrint cX4_toPrint 6 (some .int) rmX4_toPrint D cI cG cJ [.ref (ad 0)] (wM ad cI cG th (cnt : Int) rm lt tk ov fv fs fd fo F fg fp Y) (gI (fun z w9 => z = (bpF cnt fv fs rm cnt).1 ∧ ∃ (fo1 : Nat → Int) (F1 : Nat → Nat → Int), w9 = wM ad cI cG th (cnt : Int) rm lt tk ov fv fs fd fo1 F1 fg fp Y)) := by
  have hr9 : 0 ≤ rm ∧ rm ≤ 12 := ⟨by omega, hr.2⟩
  have hv : ∀ j, j < cnt → 1 ≤ fv j ∧ fv j ≤ 60 := hS.1
  have hv1 : ∀ j, j < cnt → 1 ≤ fv j := fun j hj => (hS.1 j hj).1
  have hs9 : ∀ j, j < cnt → 0 ≤ fs j ∧ fs j ≤ 119 := hS.2.1
  refine gMet_I (by decide) rfl (Nat.le_of_ble_eq_true rfl) (fun E C ret => ?_)
  refine g_iconst C dX4_toPrint_0 ?_
  refine g_istore_n (L' := [(1, .int (zI (-1))), (0, .ref (ad 0))]) C dX4_toPrint_1 (by decide) rfl ?_
  refine g_iconst C dX4_toPrint_2 ?_
  refine g_istore_n (L' := [(2, .int (zI (-1))), (1, .int (zI (-1))), (0, .ref (ad 0))]) C dX4_toPrint_3 (by decide) rfl ?_
  refine g_iconst C dX4_toPrint_4 ?_
  refine g_istore_n (L' := [(3, .int (zI 0)), (2, .int (zI (-1))), (1, .int (zI (-1))), (0, .ref (ad 0))]) C dX4_toPrint_5 (by decide) rfl ?_
  have loop_6 : ∀ (fu : Nat) (i : Nat) (fo1 : Nat → Int) (F1 : Nat → Nat → Int), (hi : i ≤ cnt) → cnt - i < fu → gW E 0 0 (wM ad cI cG th (cnt : Int) rm lt tk ov fv fs fd fo1 F1 fg fp Y) 6 [(3, .int (zI (i : Int))), (2, .int (zI ((bpF cnt fv fs rm i).2))), (1, .int (zI ((bpF cnt fv fs rm i).1))), (0, .ref (ad 0))] [] := by
    intro fu
    induction fu with
    | zero => intro i fo1 F1 hi h9; exact absurd h9 (Nat.not_lt_zero _)
    | succ fu ih_6 =>
      intro i fo1 F1 hi hmu_6
      have hb := bp_bd (fv := fv) (fs := fs) (cnt := cnt) (rm := rm) i
      refine g_iload_n C dX4_toPrint_6 0 rfl ?_
      refine g_aload_n C dX4_toPrint_7 3 rfl ?_
      refine g_getf C fX4_43 0 rfl rfl dX4_toPrint_8 ?_
      refine g_icmp_ge 72 C dX4_toPrint_11 (by decide) (zr_i (by omega) (by omega)) (zr_i (by omega) (by omega)) (fun c_11 => ?_) (fun c_11 => ?_)
      · have e9 : cnt = i := by omega
        subst e9
        refine g_iload_n C dX4_toPrint_72 2 rfl ?_
        exact ret _ _ _ _ _ _ (by decide) (by decide) dX4_toPrint_73 (⟨rfl, fo1, F1, rfl⟩)
      · refine g_aload_n C dX4_toPrint_14 3 rfl ?_
        refine g_getf C fX4_17 0 rfl rfl dX4_toPrint_15 ?_
        refine g_iload_n C dX4_toPrint_18 0 rfl ?_
        refine g_iald C 2 rfl (by decide) (by omega) (by omega) (v := (fs i)) rfl dX4_toPrint_19 ?_
        have hs8 := hs9 i (by omega)
        refine g_istore (L' := [(4, .int (zI (fs i))), (3, .int (zI (i : Int))), (2, .int (zI ((bpF cnt fv fs rm i).2))), (1, .int (zI ((bpF cnt fv fs rm i).1))), (0, .ref (ad 0))]) C dX4_toPrint_20 (by decide) rfl ?_
        refine g_aload_n C dX4_toPrint_22 4 rfl ?_
        refine g_getf C fX4_17 0 rfl rfl dX4_toPrint_23 ?_
        refine g_iload_n C dX4_toPrint_26 1 rfl ?_
        refine g_bipush C dX4_toPrint_27 (by decide) ?_
        refine g_iload C dX4_toPrint_29 0 rfl ?_
        refine g_bipush C dX4_toPrint_31 (by decide) ?_
        refine g_iadd C dX4_toPrint_33 ?_
        refine g_min C mX4_50 (zr_i (by omega) (by omega)) (zr_i (by omega) (by omega)) (by decide) (Nat.le_of_ble_eq_true rfl) dX4_toPrint_34 ?_
        refine g_iast (w' := wM ad cI cG th (cnt : Int) rm lt tk ov fv (zU fs i (min 99 ((fs i) + 20))) fd fo1 F1 fg fp Y) C 2 rfl (by decide) (by omega) (by omega) rfl dX4_toPrint_37 ?_
        refine g_aload_n C dX4_toPrint_38 4 rfl ?_
        refine g_callV (wr := ([] : va_W)) (st := []) [0, 1, 2, 3, 4, 5, 6, 7, 8, 9, 10, 11, 12, 13, 14, 15, 16, 17, 18, 19, 20, 21, 22, 23, 24, 25, 26, 27, 28, 29, 30] [] C cX4_128 (met_X4_reached l D cI cG cJ ad th cnt hc rm lt tk ov fv (zU fs i (min 99 ((fs i) + 20))) fd fo1 F1 fg fp Y (sok_up hS) hr) ⟨rfl, rfl, by decide, by decide, by decide⟩ (q0 := 0) rfl rfl (by decide) (by decide) rfl rfl (Nat.le_of_ble_eq_true rfl) dX4_toPrint_39 ?_
        rintro v9 w9 ⟨z8, rfl, e8, fo2, F2, rfl⟩
        have e7 : (RC cnt fv (zU fs i (fs i + 20)) rm : Int) = z8 := by rw [e8, rc_up hS hr.2]
        subst e7
        have hrp : RC cnt fv (zU fs i (fs i + 20)) rm ≤ 300 := by have := rch_bd (f := TB cnt fv (zU fs i (fs i + 20)) rm) (rm := rm) 300 0; simp only [RC]; omega
        refine g_ws (w' := wM ad cI cG th (cnt : Int) rm lt tk ov fv (zU fs i (min 99 ((fs i) + 20))) fd fo2 F2 fg fp Y) (st' := [.int (zI (RC cnt fv (zU fs i (fs i + 20)) rm : Int))]) rfl rfl ?_
        refine g_istore (L' := [(5, .int (zI (RC cnt fv (zU fs i (fs i + 20)) rm : Int))), (4, .int (zI (fs i))), (3, .int (zI (i : Int))), (2, .int (zI ((bpF cnt fv fs rm i).2))), (1, .int (zI ((bpF cnt fv fs rm i).1))), (0, .ref (ad 0))]) C dX4_toPrint_42 (by decide) rfl ?_
        refine g_aload_n C dX4_toPrint_44 5 rfl ?_
        refine g_getf C fX4_17 0 rfl rfl dX4_toPrint_45 ?_
        refine g_iload_n C dX4_toPrint_48 2 rfl ?_
        refine g_iload C dX4_toPrint_49 1 rfl ?_
        refine g_iast (w' := wM ad cI cG th (cnt : Int) rm lt tk ov fv (zU (zU fs i (min 99 ((fs i) + 20))) i (fs i)) fd fo2 F2 fg fp Y) C 2 rfl (by decide) (by omega) (by omega) rfl dX4_toPrint_51 ?_
        refine g_ws (w' := wM ad cI cG th (cnt : Int) rm lt tk ov fv fs fd fo2 F2 fg fp Y) (by rw [zU_back]) rfl ?_
        refine g_iload C dX4_toPrint_52 0 rfl ?_
        refine g_iload_n C dX4_toPrint_54 3 rfl ?_
        refine g_icmp_gt 61 C dX4_toPrint_55 (by decide) (zr_i (by omega) (by omega)) (zr_i (by omega) (by omega)) (fun c_55 => ?_) (fun c_55 => ?_)
        · refine g_iload_n C dX4_toPrint_61 2 rfl ?_
          refine g_istore_n (L' := [(1, .int (zI (i : Int))), (5, .int (zI (RC cnt fv (zU fs i (fs i + 20)) rm : Int))), (4, .int (zI (fs i))), (3, .int (zI (i : Int))), (2, .int (zI ((bpF cnt fv fs rm i).2))), (0, .ref (ad 0))]) C dX4_toPrint_62 (by decide) rfl ?_
          refine g_iload C dX4_toPrint_63 1 rfl ?_
          refine g_istore_n (L' := [(2, .int (zI (RC cnt fv (zU fs i (fs i + 20)) rm : Int))), (1, .int (zI (i : Int))), (5, .int (zI (RC cnt fv (zU fs i (fs i + 20)) rm : Int))), (4, .int (zI (fs i))), (3, .int (zI (i : Int))), (0, .ref (ad 0))]) C dX4_toPrint_65 (by decide) rfl ?_
          refine g_iinc (L' := [(3, .int (zI ((i : Int) + 1))), (2, .int (zI (RC cnt fv (zU fs i (fs i + 20)) rm : Int))), (1, .int (zI (i : Int))), (5, .int (zI (RC cnt fv (zU fs i (fs i + 20)) rm : Int))), (4, .int (zI (fs i))), (0, .ref (ad 0))]) C dX4_toPrint_66 4 rfl (by decide) rfl ?_
          refine g_goto 6 C dX4_toPrint_69 (by decide) ?_
          refine g_loc (L' := [(3, .int (zI ((i : Int) + 1))), (2, .int (zI (RC cnt fv (zU fs i (fs i + 20)) rm : Int))), (1, .int (zI (i : Int))), (0, .ref (ad 0))]) [0, 1, 2, 5] rfl ?_
          refine g_lw (w' := wM ad cI cG th (cnt : Int) rm lt tk ov fv fs fd fo2 F2 fg fp Y) (L' := [(3, .int (zI ((i + 1 : Nat) : Int))), (2, .int (zI ((bpF cnt fv fs rm (i + 1)).2))), (1, .int (zI ((bpF cnt fv fs rm (i + 1)).1))), (0, .ref (ad 0))]) rfl (by rw [show bpF cnt fv fs rm (i + 1) = ((i : Int), (RC cnt fv (zU fs i (fs i + 20)) rm : Int)) from if_pos (by omega)]; rfl) ?_
          exact ih_6 (i + 1) fo2 F2 (by omega) (by omega)
        · refine g_goto 66 C dX4_toPrint_58 (by decide) ?_
          refine g_iinc (L' := [(3, .int (zI ((i : Int) + 1))), (5, .int (zI (RC cnt fv (zU fs i (fs i + 20)) rm : Int))), (4, .int (zI (fs i))), (2, .int (zI ((bpF cnt fv fs rm i).2))), (1, .int (zI ((bpF cnt fv fs rm i).1))), (0, .ref (ad 0))]) C dX4_toPrint_66 2 rfl (by decide) rfl ?_
          refine g_goto 6 C dX4_toPrint_69 (by decide) ?_
          refine g_loc (L' := [(3, .int (zI ((i : Int) + 1))), (2, .int (zI ((bpF cnt fv fs rm i).2))), (1, .int (zI ((bpF cnt fv fs rm i).1))), (0, .ref (ad 0))]) [0, 3, 4, 5] rfl ?_
          refine g_lw (w' := wM ad cI cG th (cnt : Int) rm lt tk ov fv fs fd fo2 F2 fg fp Y) (L' := [(3, .int (zI ((i + 1 : Nat) : Int))), (2, .int (zI ((bpF cnt fv fs rm (i + 1)).2))), (1, .int (zI ((bpF cnt fv fs rm (i + 1)).1))), (0, .ref (ad 0))]) rfl (by rw [show bpF cnt fv fs rm (i + 1) = bpF cnt fv fs rm i from if_neg (by omega)]; rfl) ?_
          exact ih_6 (i + 1) fo2 F2 (by omega) (by omega)
  refine g_loc (L' := [(3, .int (zI 0)), (2, .int (zI (-1))), (1, .int (zI (-1))), (0, .ref (ad 0))]) [0, 1, 2, 3] rfl ?_
  exact loop_6 _ 0 fo F (Nat.zero_le _) (Nat.lt_succ_self _)
abbrev rmX4_allWays : Room := { frames := 0, cells := 0, slots := 0, locals := 0 }
set_option maxHeartbeats 4000000 in
set_option maxRecDepth 100000 in
theorem met_X4_allWays (l : Launch) (D : va_G) (cI cG cJ : ClassId) (ad : Nat → Nat) (th : Int) (cnt : Nat) (hc : cnt ≤ 8) (rm lt tk ov : Int) (fv fs fd fo : Nat → Int) (F : Nat → Nat → Int) (fg fp : Nat → Int) (Y : Nat → Nat → Int) (hv : ∀ j, j < cnt → 1 ≤ fv j ∧ fv j ≤ 60) (hr : 1 ≤ rm ∧ rm ≤ 12) (pg : Nat) (hp : 1 ≤ pg ∧ pg ≤ 300)  : gMet l yX4_allWays cX4_allWays 5 (some .int) rmX4_allWays D cI cG cJ [.ref (ad 0), .int (zI (pg : Int))] (wM ad cI cG th (cnt : Int) rm lt tk ov fv fs fd fo F fg fp Y) (gI (fun z w9 => z = wsum (wy fv cnt) pg (rm.toNat + 1) ∧ ∃ Y1 : Nat → Nat → Int, w9 = wM ad cI cG th (cnt : Int) rm lt tk ov fv fs fd fo F fg fp Y1)) := by
  refine gMet_I (by decide) rfl (Nat.le_of_ble_eq_true rfl) (fun E C ret => ?_)
  refine g_iconst C dX4_allWays_0 ?_
  refine g_istore_n (L' := [(2, .int (zI 0)), (0, .ref (ad 0)), (1, .int (zI (pg : Int)))]) C dX4_allWays_1 (by decide) rfl ?_
  have loop_2 : ∀ (fu : Nat) (k : Nat) (Y1 : Nat → Nat → Int), (hk : (k : Int) ≤ rm + 1) → (h0 : ∀ a q, (a < k ∨ (a = k ∧ q < 0)) → q ≤ pg → Y1 a q = w0 a q) → 14 - k < fu → gW E 0 0 (wM ad cI cG th (cnt : Int) rm lt tk ov fv fs fd fo F fg fp Y1) 2 [(2, .int (zI (k : Int))), (0, .ref (ad 0)), (1, .int (zI (pg : Int)))] [] := by
    intro fu
    induction fu with
    | zero => intro k Y1 hk h0 h9; exact absurd h9 (Nat.not_lt_zero _)
    | succ fu ih_2 =>
      intro k Y1 hk h0 hmu_2
      refine g_iload_n C dX4_allWays_2 0 rfl ?_
      refine g_aload_n C dX4_allWays_3 1 rfl ?_
      refine g_getf C fX4_9 0 rfl rfl dX4_allWays_4 ?_
      refine g_icmp_gt 48 C dX4_allWays_7 (by decide) (zr_i (by omega) (by omega)) (zr_i (by omega) (by omega)) (fun c_7 => ?_) (fun c_7 => ?_)
      · refine g_iconst C dX4_allWays_48 ?_
        refine g_istore_n (L' := [(2, .int (zI 0)), (0, .ref (ad 0)), (1, .int (zI (pg : Int)))]) C dX4_allWays_49 (by decide) rfl ?_
        have loop_50 : ∀ (fu : Nat) (i : Nat) (Y2 : Nat → Nat → Int), (hi : i ≤ cnt) → (h2 : ∀ a q, a ≤ rm.toNat → q ≤ pg → Y2 a q = wy fv i a q) → cnt - i < fu → gW E 0 0 (wM ad cI cG th (cnt : Int) rm lt tk ov fv fs fd fo F fg fp Y2) 50 [(2, .int (zI (i : Int))), (0, .ref (ad 0)), (1, .int (zI (pg : Int)))] [] := by
          intro fu
          induction fu with
          | zero => intro i Y2 hi h2 h9; exact absurd h9 (Nat.not_lt_zero _)
          | succ fu ih_50 =>
            intro i Y2 hi h2 hmu_50
            refine g_iload_n C dX4_allWays_50 0 rfl ?_
            refine g_aload_n C dX4_allWays_51 1 rfl ?_
            refine g_getf C fX4_43 0 rfl rfl dX4_allWays_52 ?_
            refine g_icmp_ge 130 C dX4_allWays_55 (by decide) (zr_i (by omega) (by omega)) (zr_i (by omega) (by omega)) (fun c_55 => ?_) (fun c_55 => ?_)
            · have e9 : cnt = i := by omega
              subst e9
              refine g_iconst C dX4_allWays_130 ?_
              refine g_istore_n (L' := [(2, .int (zI 0)), (0, .ref (ad 0)), (1, .int (zI (pg : Int)))]) C dX4_allWays_131 (by decide) rfl ?_
              refine g_iconst C dX4_allWays_132 ?_
              refine g_istore_n (L' := [(3, .int (zI 1)), (2, .int (zI 0)), (0, .ref (ad 0)), (1, .int (zI (pg : Int)))]) C dX4_allWays_133 (by decide) rfl ?_
              have loop_134 : ∀ (fu : Nat) (k : Nat), (hk4 : (k : Int) ≤ rm) → 14 - k < fu → gW E 0 0 (wM ad cI cG th (cnt : Int) rm lt tk ov fv fs fd fo F fg fp Y2) 134 [(3, .int (zI ((k + 1 : Nat) : Int))), (2, .int (zI (wsum (wy fv cnt) pg (k + 1)))), (0, .ref (ad 0)), (1, .int (zI (pg : Int)))] [] := by
                intro fu
                induction fu with
                | zero => intro k hk4 h9; exact absurd h9 (Nat.not_lt_zero _)
                | succ fu ih_134 =>
                  intro k hk4 hmu_134
                  refine g_iload_n C dX4_allWays_134 0 rfl ?_
                  refine g_aload_n C dX4_allWays_135 2 rfl ?_
                  refine g_getf C fX4_9 0 rfl rfl dX4_allWays_136 ?_
                  refine g_icmp_gt 159 C dX4_allWays_139 (by decide) (zr_i (by omega) (by omega)) (zr_i (by omega) (by omega)) (fun c_139 => ?_) (fun c_139 => ?_)
                  · refine g_iload_n C dX4_allWays_159 1 rfl ?_
                    exact ret _ _ _ _ _ _ (by decide) (by decide) dX4_allWays_160 (⟨by rw [show rm.toNat = k by omega], Y2, rfl⟩)
                  · refine g_iload_n C dX4_allWays_142 1 rfl ?_
                    refine g_aload_n C dX4_allWays_143 2 rfl ?_
                    refine g_getf C fX4_37 0 rfl rfl dX4_allWays_144 ?_
                    refine g_iload_n C dX4_allWays_147 0 rfl ?_
                    refine g_aald (y := ad (18 + (k + 1))) C 8 rfl (by decide) (by omega) (by omega) (wR_at (by omega)) dX4_allWays_148 ?_
                    refine g_iload_n C dX4_allWays_149 3 rfl ?_
                    refine g_iald C (18 + (k + 1)) (wMY_row1 (by omega)) (by decide) (by omega) (by omega) (v := (Y2 (k + 1) pg)) rfl dX4_allWays_150 ?_
                    refine g_top (wy fv cnt (k + 1) pg) (h2 (k + 1) pg (by omega) (Nat.le_refl _)) ?_
                    refine g_iadd C dX4_allWays_151 ?_
                    refine g_istore_n (L' := [(2, .int (zI ((wsum (wy fv cnt) pg (k + 1)) + (wy fv cnt (k + 1) pg)))), (3, .int (zI ((k + 1 : Nat) : Int))), (0, .ref (ad 0)), (1, .int (zI (pg : Int)))]) C dX4_allWays_152 (by decide) rfl ?_
                    refine g_iinc (L' := [(3, .int (zI (((k + 1 : Nat) : Int) + 1))), (2, .int (zI ((wsum (wy fv cnt) pg (k + 1)) + (wy fv cnt (k + 1) pg)))), (0, .ref (ad 0)), (1, .int (zI (pg : Int)))]) C dX4_allWays_153 1 rfl (by decide) rfl ?_
                    refine g_goto 134 C dX4_allWays_156 (by decide) ?_
                    refine g_loc (L' := [(3, .int (zI (((k + 1 : Nat) : Int) + 1))), (2, .int (zI ((wsum (wy fv cnt) pg (k + 1)) + (wy fv cnt (k + 1) pg)))), (0, .ref (ad 0)), (1, .int (zI (pg : Int)))]) [0, 1, 2, 3] rfl ?_
                    exact ih_134 (k + 1) (by omega) (by omega)
              refine g_loc (L' := [(3, .int (zI 1)), (2, .int (zI 0)), (0, .ref (ad 0)), (1, .int (zI (pg : Int)))]) [0, 1, 2, 3] rfl ?_
              refine g_lw (w' := wM ad cI cG th (cnt : Int) rm lt tk ov fv fs fd fo F fg fp Y2) (L' := [(3, .int (zI ((0 + 1 : Nat) : Int))), (2, .int (zI (wsum (wy fv cnt) pg (0 + 1)))), (0, .ref (ad 0)), (1, .int (zI (pg : Int)))]) rfl (by rw [show wsum (wy fv cnt) pg (0 + 1) = 0 from wsum_1 hp.1]; rfl) ?_
              exact loop_134 _ 0 (by omega) (Nat.lt_succ_self _)
            · refine g_iconst C dX4_allWays_58 ?_
              refine g_istore_n (L' := [(3, .int (zI 1)), (2, .int (zI (i : Int))), (0, .ref (ad 0)), (1, .int (zI (pg : Int)))]) C dX4_allWays_59 (by decide) rfl ?_
              have loop_60 : ∀ (fu : Nat) (k : Nat) (Y3 : Nat → Nat → Int), (hk3 : (k : Int) ≤ rm) → (h3 : W1 Y2 Y3 (fv i).toNat pg (k + 1) 0) → 14 - k < fu → gW E 0 0 (wM ad cI cG th (cnt : Int) rm lt tk ov fv fs fd fo F fg fp Y3) 60 [(3, .int (zI ((k + 1 : Nat) : Int))), (2, .int (zI (i : Int))), (0, .ref (ad 0)), (1, .int (zI (pg : Int)))] [] := by
                intro fu
                induction fu with
                | zero => intro k Y3 hk3 h3 h9; exact absurd h9 (Nat.not_lt_zero _)
                | succ fu ih_60 =>
                  intro k Y3 hk3 h3 hmu_60
                  refine g_iload_n C dX4_allWays_60 0 rfl ?_
                  refine g_aload_n C dX4_allWays_61 2 rfl ?_
                  refine g_getf C fX4_9 0 rfl rfl dX4_allWays_62 ?_
                  refine g_icmp_gt 124 C dX4_allWays_65 (by decide) (zr_i (by omega) (by omega)) (zr_i (by omega) (by omega)) (fun c_65 => ?_) (fun c_65 => ?_)
                  · have e8 : k = rm.toNat := by omega
                    refine g_iinc (L' := [(2, .int (zI ((i : Int) + 1))), (3, .int (zI ((k + 1 : Nat) : Int))), (0, .ref (ad 0)), (1, .int (zI (pg : Int)))]) C dX4_allWays_124 1 rfl (by decide) rfl ?_
                    refine g_goto 50 C dX4_allWays_127 (by decide) ?_
                    refine g_loc (L' := [(2, .int (zI ((i : Int) + 1))), (0, .ref (ad 0)), (1, .int (zI (pg : Int)))]) [0, 2, 3] rfl ?_
                    exact ih_50 (i + 1) Y3 (by omega) (fun a q h8 h9 => by
                          rw [h3 a q h9, if_pos (by omega)]
                          exact nw_congr a (fun b r hb hr2 => h2 b r (by omega) hr2) q h9) (by omega)
                  · refine g_aload_n C dX4_allWays_68 2 rfl ?_
                    refine g_getf C fX4_13 0 rfl rfl dX4_allWays_69 ?_
                    refine g_iload_n C dX4_allWays_72 1 rfl ?_
                    have hv9 := hv i (by omega)
                    refine g_iald C 1 rfl (by decide) (by omega) (by omega) (v := (fv i)) rfl dX4_allWays_73 ?_
                    refine g_top (((fv i).toNat : Nat) : Int) (by omega) ?_
                    refine g_istore (L' := [(4, .int (zI (((fv i).toNat : Nat) : Int))), (3, .int (zI ((k + 1 : Nat) : Int))), (2, .int (zI (i : Int))), (0, .ref (ad 0)), (1, .int (zI (pg : Int)))]) C dX4_allWays_74 (by decide) rfl ?_
                    have loop_76 : ∀ (fu : Nat) (p : Nat) (Y4 : Nat → Nat → Int), (hq : (fv i).toNat ≤ p) → (hq2 : p ≤ 361) → (h4 : W1 Y2 Y4 (fv i).toNat pg (k + 1) p) → 361 - p < fu → gW E 0 0 (wM ad cI cG th (cnt : Int) rm lt tk ov fv fs fd fo F fg fp Y4) 76 [(4, .int (zI (p : Int))), (3, .int (zI ((k + 1 : Nat) : Int))), (2, .int (zI (i : Int))), (0, .ref (ad 0)), (1, .int (zI (pg : Int)))] [] := by
                      intro fu
                      induction fu with
                      | zero => intro p Y4 hq hq2 h4 h9; exact absurd h9 (Nat.not_lt_zero _)
                      | succ fu ih_76 =>
                        intro p Y4 hq hq2 h4 hmu_76
                        refine g_iload C dX4_allWays_76 0 rfl ?_
                        refine g_iload_n C dX4_allWays_78 4 rfl ?_
                        refine g_icmp_gt 118 C dX4_allWays_79 (by decide) (zr_i (by omega) (by omega)) (zr_i (by omega) (by omega)) (fun c_79 => ?_) (fun c_79 => ?_)
                        · refine g_iinc (L' := [(3, .int (zI (((k + 1 : Nat) : Int) + 1))), (4, .int (zI (p : Int))), (2, .int (zI (i : Int))), (0, .ref (ad 0)), (1, .int (zI (pg : Int)))]) C dX4_allWays_118 1 rfl (by decide) rfl ?_
                          refine g_goto 60 C dX4_allWays_121 (by decide) ?_
                          refine g_loc (L' := [(3, .int (zI (((k + 1 : Nat) : Int) + 1))), (2, .int (zI (i : Int))), (0, .ref (ad 0)), (1, .int (zI (pg : Int)))]) [0, 2, 3, 4] rfl ?_
                          exact ih_60 (k + 1) Y4 (by omega) (h4.next (by omega)) (by omega)
                        · refine g_aload_n C dX4_allWays_82 3 rfl ?_
                          refine g_getf C fX4_37 0 rfl rfl dX4_allWays_83 ?_
                          refine g_iload_n C dX4_allWays_86 1 rfl ?_
                          refine g_aald (y := ad (18 + (k + 1))) C 8 rfl (by decide) (by omega) (by omega) (wR_at (by omega)) dX4_allWays_87 ?_
                          refine g_iload C dX4_allWays_88 0 rfl ?_
                          refine g_dup2 C dX4_allWays_90 rfl rfl ?_
                          refine g_iald C (18 + (k + 1)) (wMY_row1 (by omega)) (by decide) (by omega) (by omega) (v := (Y4 (k + 1) p)) rfl dX4_allWays_91 ?_
                          refine g_aload_n C dX4_allWays_92 3 rfl ?_
                          refine g_getf C fX4_37 0 rfl rfl dX4_allWays_93 ?_
                          refine g_iload_n C dX4_allWays_96 1 rfl ?_
                          refine g_iconst C dX4_allWays_97 ?_
                          refine g_isub C dX4_allWays_98 ?_
                          refine g_top (k : Int) (by omega) ?_
                          refine g_aald (y := ad (18 + k)) C 8 rfl (by decide) (by omega) (by omega) (wR_at (by omega)) dX4_allWays_99 ?_
                          refine g_iload C dX4_allWays_100 0 rfl ?_
                          refine g_aload_n C dX4_allWays_102 3 rfl ?_
                          refine g_getf C fX4_13 0 rfl rfl dX4_allWays_103 ?_
                          refine g_iload_n C dX4_allWays_106 2 rfl ?_
                          refine g_iald C 1 rfl (by decide) (by omega) (by omega) (v := (fv i)) rfl dX4_allWays_107 ?_
                          refine g_isub C dX4_allWays_108 ?_
                          refine g_top ((p - (fv i).toNat : Nat) : Int) (by omega) ?_
                          refine g_iald C (18 + k) (wMY_row1 (by omega)) (by decide) (by omega) (by omega) (v := (Y4 k (p - (fv i).toNat))) rfl dX4_allWays_109 ?_
                          refine g_iadd C dX4_allWays_110 ?_
                          refine g_iast (w' := wM ad cI cG th (cnt : Int) rm lt tk ov fv fs fd fo F fg fp (gU Y4 (k + 1) p ((Y4 (k + 1) p) + (Y4 k (p - (fv i).toNat))))) C (18 + (k + 1)) (wMY_row1 (by omega)) (by decide) (by omega) (by omega) (wMY_set1 (by omega) p ((Y4 (k + 1) p) + (Y4 k (p - (fv i).toNat)))) dX4_allWays_111 ?_
                          refine g_iinc (L' := [(4, .int (zI ((p : Int) + 1))), (3, .int (zI ((k + 1 : Nat) : Int))), (2, .int (zI (i : Int))), (0, .ref (ad 0)), (1, .int (zI (pg : Int)))]) C dX4_allWays_112 0 rfl (by decide) rfl ?_
                          refine g_goto 76 C dX4_allWays_115 (by decide) ?_
                          refine g_loc (L' := [(4, .int (zI ((p : Int) + 1))), (3, .int (zI ((k + 1 : Nat) : Int))), (2, .int (zI (i : Int))), (0, .ref (ad 0)), (1, .int (zI (pg : Int)))]) [0, 1, 2, 3, 4] rfl ?_
                          exact ih_76 (p + 1) (gU Y4 (k + 1) p (Y4 (k + 1) p + Y4 k (p - (fv i).toNat))) (by omega) (by omega) (h4.step hq (by omega) (by omega)) (by omega)
                    refine g_loc (L' := [(4, .int (zI (((fv i).toNat : Nat) : Int))), (3, .int (zI ((k + 1 : Nat) : Int))), (2, .int (zI (i : Int))), (0, .ref (ad 0)), (1, .int (zI (pg : Int)))]) [0, 1, 2, 3, 4] rfl ?_
                    exact loop_76 _ ((fv i).toNat) Y3 (Nat.le_refl _) (by omega) (h3.begin (by omega)) (Nat.lt_succ_self _)
              refine g_loc (L' := [(3, .int (zI 1)), (2, .int (zI (i : Int))), (0, .ref (ad 0)), (1, .int (zI (pg : Int)))]) [0, 1, 2, 3] rfl ?_
              exact loop_60 _ 0 Y2 (by omega) W1.first (Nat.lt_succ_self _)
        refine g_loc (L' := [(2, .int (zI 0)), (0, .ref (ad 0)), (1, .int (zI (pg : Int)))]) [0, 1, 2] rfl ?_
        exact loop_50 _ 0 Y1 (Nat.zero_le _) (fun a q h8 h9 => h0 a q (by omega) h9) (Nat.lt_succ_self _)
      · refine g_iconst C dX4_allWays_10 ?_
        refine g_istore_n (L' := [(3, .int (zI 0)), (2, .int (zI (k : Int))), (0, .ref (ad 0)), (1, .int (zI (pg : Int)))]) C dX4_allWays_11 (by decide) rfl ?_
        have loop_12 : ∀ (fu : Nat) (p : Nat) (Y1 : Nat → Nat → Int), (hq : p ≤ pg + 1) → (h1 : ∀ a q, (a < k ∨ (a = k ∧ q < p)) → q ≤ pg → Y1 a q = w0 a q) → pg + 1 - p < fu → gW E 0 0 (wM ad cI cG th (cnt : Int) rm lt tk ov fv fs fd fo F fg fp Y1) 12 [(3, .int (zI (p : Int))), (2, .int (zI (k : Int))), (0, .ref (ad 0)), (1, .int (zI (pg : Int)))] [] := by
          intro fu
          induction fu with
          | zero => intro p Y1 hq h1 h9; exact absurd h9 (Nat.not_lt_zero _)
          | succ fu ih_12 =>
            intro p Y1 hq h1 hmu_12
            refine g_iload_n C dX4_allWays_12 0 rfl ?_
            refine g_iload_n C dX4_allWays_13 3 rfl ?_
            refine g_icmp_gt 42 C dX4_allWays_14 (by decide) (zr_i (by omega) (by omega)) (zr_i (by omega) (by omega)) (fun c_14 => ?_) (fun c_14 => ?_)
            · refine g_iinc (L' := [(2, .int (zI ((k : Int) + 1))), (3, .int (zI (p : Int))), (0, .ref (ad 0)), (1, .int (zI (pg : Int)))]) C dX4_allWays_42 1 rfl (by decide) rfl ?_
              refine g_goto 2 C dX4_allWays_45 (by decide) ?_
              refine g_loc (L' := [(2, .int (zI ((k : Int) + 1))), (0, .ref (ad 0)), (1, .int (zI (pg : Int)))]) [0, 2, 3] rfl ?_
              exact ih_2 (k + 1) Y1 (by omega) (fun a q h8 h9 => h1 a q (by omega) h9) (by omega)
            · refine g_aload_n C dX4_allWays_17 2 rfl ?_
              refine g_getf C fX4_37 0 rfl rfl dX4_allWays_18 ?_
              refine g_iload_n C dX4_allWays_21 1 rfl ?_
              refine g_aald (y := ad (18 + k)) C 8 rfl (by decide) (by omega) (by omega) (wR_at (by omega)) dX4_allWays_22 ?_
              refine g_iload_n C dX4_allWays_23 0 rfl ?_
              refine g_iload_n C dX4_allWays_24 1 rfl ?_
              refine g_iload_n C dX4_allWays_25 0 rfl ?_
              refine g_iadd C dX4_allWays_26 ?_
              refine g_if_ne 34 C dX4_allWays_27 (by decide) (zr_i (by omega) (by omega)) (fun c_27 => ?_) (fun c_27 => ?_)
              · refine g_iconst C dX4_allWays_34 ?_
                refine g_top (w0 k p) (by first | exact (w0_at.1 (by omega)).symm | exact (w0_at.2 (by omega)).symm) ?_
                refine g_iast (w' := wM ad cI cG th (cnt : Int) rm lt tk ov fv fs fd fo F fg fp (gU Y1 k p (w0 k p))) C (18 + k) (wMY_row1 (by omega)) (by decide) (by omega) (by omega) (wMY_set1 (by omega) p (w0 k p)) dX4_allWays_35 ?_
                refine g_iinc (L' := [(3, .int (zI ((p : Int) + 1))), (2, .int (zI (k : Int))), (0, .ref (ad 0)), (1, .int (zI (pg : Int)))]) C dX4_allWays_36 0 rfl (by decide) rfl ?_
                refine g_goto 12 C dX4_allWays_39 (by decide) ?_
                refine g_loc (L' := [(3, .int (zI ((p : Int) + 1))), (2, .int (zI (k : Int))), (0, .ref (ad 0)), (1, .int (zI (pg : Int)))]) [0, 1, 2, 3] rfl ?_
                exact ih_12 (p + 1) (gU Y1 k p (w0 k p)) (by omega) (fun a q h8 h9 => by
                      by_cases e : a = k ∧ q = p
                      · rw [e.1, e.2]; exact gU_eq
                      · rw [gU_ne (fun e2 e3 => e ⟨e2, e3⟩)]; exact h1 a q (by omega) h9) (by omega)
              · refine g_iconst C dX4_allWays_30 ?_
                refine g_goto 35 C dX4_allWays_31 (by decide) ?_
                refine g_top (w0 k p) (by first | exact (w0_at.1 (by omega)).symm | exact (w0_at.2 (by omega)).symm) ?_
                refine g_iast (w' := wM ad cI cG th (cnt : Int) rm lt tk ov fv fs fd fo F fg fp (gU Y1 k p (w0 k p))) C (18 + k) (wMY_row1 (by omega)) (by decide) (by omega) (by omega) (wMY_set1 (by omega) p (w0 k p)) dX4_allWays_35 ?_
                refine g_iinc (L' := [(3, .int (zI ((p : Int) + 1))), (2, .int (zI (k : Int))), (0, .ref (ad 0)), (1, .int (zI (pg : Int)))]) C dX4_allWays_36 0 rfl (by decide) rfl ?_
                refine g_goto 12 C dX4_allWays_39 (by decide) ?_
                refine g_loc (L' := [(3, .int (zI ((p : Int) + 1))), (2, .int (zI (k : Int))), (0, .ref (ad 0)), (1, .int (zI (pg : Int)))]) [0, 1, 2, 3] rfl ?_
                exact ih_12 (p + 1) (gU Y1 k p (w0 k p)) (by omega) (fun a q h8 h9 => by
                      by_cases e : a = k ∧ q = p
                      · rw [e.1, e.2]; exact gU_eq
                      · rw [gU_ne (fun e2 e3 => e ⟨e2, e3⟩)]; exact h1 a q (by omega) h9) (by omega)
        refine g_loc (L' := [(3, .int (zI 0)), (2, .int (zI (k : Int))), (0, .ref (ad 0)), (1, .int (zI (pg : Int)))]) [0, 1, 2, 3] rfl ?_
        exact loop_12 _ 0 Y1 (by omega) h0 (Nat.lt_succ_self _)
  refine g_loc (L' := [(2, .int (zI 0)), (0, .ref (ad 0)), (1, .int (zI (pg : Int)))]) [0, 1, 2] rfl ?_
  exact loop_2 _ 0 Y (by omega) (fun a q h8 h9 => absurd h8 (by omega)) (Nat.lt_succ_self _)
