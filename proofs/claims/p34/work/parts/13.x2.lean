abbrev rmX2_rank : Room := { frames := 1, cells := 0, slots := 0, locals := 40 }
set_option maxHeartbeats 4000000 in
set_option maxRecDepth 100000 in
theorem met_X2_rank (l : Launch) (D : va_G) (cI cG cJ : ClassId) (ad : Nat → Nat) (cnt : Nat) (hc : cnt ≤ 8) (fv fs fd : Nat → Int) (bd : Nat → Nat) (tc tr : Int) (ft tv tu fc : Nat → Int) (M : Nat → Nat → Int) (hv : ∀ j, j < cnt → zr (fv j)) (hs : ∀ j, j < cnt → zr (fs j)) (rm : Int) (hr : zr rm) : gMet l yX2_rank cX2_rank 5 none rmX2_rank D cI cG cJ [.ref (bd 0), .ref (ad 0), .int (zI rm)] ((wT bd cI cG tc tr ft tv tu fc M) ++ (wS ad cI (cnt : Int) fv fs fd)) (gN (fun w9 => w9 = (wT bd cI cG (cnt : Int) rm (rkU (fun s => cab fv (fv s) cnt) (fun s => (s : Int)) ft cnt) (rkU (fun s => cab fv (fv s) cnt) fv tv cnt) (rkU (fun s => cab fv (fv s) cnt) (fun s => min (fs s) rm) tu cnt) fc M) ++ (wS ad cI (cnt : Int) fv fs fd))) := by
  refine gMet_N (by decide) rfl (Nat.le_of_ble_eq_true rfl) (fun E C ret => ?_)
  refine g_aload_n C dX2_rank_0 0 rfl ?_
  refine g_aload_n C dX2_rank_1 1 rfl ?_
  refine g_getf C fX2_36 15 rfl rfl dX2_rank_2 ?_
  refine g_putf (w' := (wT bd cI cG (cnt : Int) tr ft tv tu fc M) ++ (wS ad cI (cnt : Int) fv fs fd)) C pX2_26 0 rfl rfl rfl (Nat.le_of_ble_eq_true rfl) rfl dX2_rank_5 ?_
  refine g_aload_n C dX2_rank_8 0 rfl ?_
  refine g_iload_n C dX2_rank_9 2 rfl ?_
  refine g_putf (w' := (wT bd cI cG (cnt : Int) rm ft tv tu fc M) ++ (wS ad cI (cnt : Int) fv fs fd)) C pX2_30 0 rfl rfl rfl (Nat.le_of_ble_eq_true rfl) rfl dX2_rank_10 ?_
  refine g_iconst C dX2_rank_13 ?_
  refine g_istore_n (L' := [(3, .int (zI 0)), (0, .ref (bd 0)), (1, .ref (ad 0)), (2, .int (zI rm))]) C dX2_rank_14 (by decide) rfl ?_
  have loop_15 : ∀ (fu : Nat) (i : Nat), (hi : i ≤ cnt) → cnt - i < fu → gW E 0 0 ((wT bd cI cG (cnt : Int) rm (rkU (fun s => cab fv (fv s) cnt) (fun s => (s : Int)) ft i) (rkU (fun s => cab fv (fv s) cnt) fv tv i) (rkU (fun s => cab fv (fv s) cnt) (fun s => min (fs s) rm) tu i) fc M) ++ (wS ad cI (cnt : Int) fv fs fd)) 15 [(3, .int (zI (i : Int))), (0, .ref (bd 0)), (1, .ref (ad 0)), (2, .int (zI rm))] [] := by
    intro fu
    induction fu with
    | zero => intro i hi h9; exact absurd h9 (Nat.not_lt_zero _)
    | succ fu ih_15 =>
      intro i hi hmu_15
      refine g_iload_n C dX2_rank_15 0 rfl ?_
      refine g_aload_n C dX2_rank_16 1 rfl ?_
      refine g_getf C fX2_26 0 rfl rfl dX2_rank_17 ?_
      refine g_icmp_ge 74 C dX2_rank_20 (by decide) (zr_i (by omega) (by omega)) (zr_i (by omega) (by omega)) (fun c_20 => ?_) (fun c_20 => ?_)
      · have e9 : i = cnt := by omega
        subst e9
        exact ret _ _ _ _ _ (by decide) (by decide) dX2_rank_74 (rfl)
      · refine g_aload_n C dX2_rank_23 2 rfl ?_
        refine g_iload_n C dX2_rank_24 0 rfl ?_
        refine g_callV (wr := wT bd cI cG (cnt : Int) rm (rkU (fun s => cab fv (fv s) cnt) (fun s => (s : Int)) ft i) (rkU (fun s => cab fv (fv s) cnt) fv tv i) (rkU (fun s => cab fv (fv s) cnt) (fun s => min (fs s) rm) tu i) fc M) (st := []) [15, 16, 17, 18] [0, 1, 2, 3, 4, 5, 6, 7, 8, 9, 10, 11, 12, 13, 14] C cX2_39 (met_X1_countAbove l D cI cG cJ ad cnt hc fv fs fd hv i (by omega)) ⟨rfl, rfl, by decide, by decide, by decide⟩ (q0 := 15) rfl rfl (by decide) (by decide) rfl rfl (Nat.le_of_ble_eq_true rfl) dX2_rank_25 ?_
        rintro v9 w9 ⟨z9, rfl, rfl, rfl⟩
        refine g_ws (w' := (wT bd cI cG (cnt : Int) rm (rkU (fun s => cab fv (fv s) cnt) (fun s => (s : Int)) ft i) (rkU (fun s => cab fv (fv s) cnt) fv tv i) (rkU (fun s => cab fv (fv s) cnt) (fun s => min (fs s) rm) tu i) fc M) ++ (wS ad cI (cnt : Int) fv fs fd)) (st' := [.int (zI ((cab fv (fv i) cnt : Nat) : Int))]) rfl rfl ?_
        refine g_perm (w' := (wT bd cI cG (cnt : Int) rm (rkU (fun s => cab fv (fv s) cnt) (fun s => (s : Int)) ft i) (rkU (fun s => cab fv (fv s) cnt) fv tv i) (rkU (fun s => cab fv (fv s) cnt) (fun s => min (fs s) rm) tu i) fc M) ++ (wS ad cI (cnt : Int) fv fs fd)) [0, 1, 2, 3, 4, 5, 6, 7, 8, 9, 10, 11, 12, 13, 14, 15, 16, 17, 18] (by decide) rfl ?_
        have hk : cab fv (fv i) cnt < cnt := cab_lt cnt (by omega)
        refine g_istore (L' := [(4, .int (zI ((cab fv (fv i) cnt : Nat) : Int))), (3, .int (zI (i : Int))), (0, .ref (bd 0)), (1, .ref (ad 0)), (2, .int (zI rm))]) C dX2_rank_28 (by decide) rfl ?_
        refine g_aload_n C dX2_rank_30 2 rfl ?_
        refine g_getf C fX2_16 0 rfl rfl dX2_rank_31 ?_
        refine g_iload C dX2_rank_34 0 rfl ?_
        refine g_iload_n C dX2_rank_36 1 rfl ?_
        refine g_iast (w' := (wT bd cI cG (cnt : Int) rm (zU (rkU (fun s => cab fv (fv s) cnt) (fun s => (s : Int)) ft i) (cab fv (fv i) cnt) (i : Int)) (rkU (fun s => cab fv (fv s) cnt) fv tv i) (rkU (fun s => cab fv (fv s) cnt) (fun s => min (fs s) rm) tu i) fc M) ++ (wS ad cI (cnt : Int) fv fs fd)) C 2 rfl (by decide) (by omega) (by omega) rfl dX2_rank_37 ?_
        refine g_aload_n C dX2_rank_38 2 rfl ?_
        refine g_getf C fX2_20 0 rfl rfl dX2_rank_39 ?_
        refine g_iload C dX2_rank_42 0 rfl ?_
        refine g_aload_n C dX2_rank_44 3 rfl ?_
        refine g_getf C fX2_43 15 rfl rfl dX2_rank_45 ?_
        refine g_iload_n C dX2_rank_48 1 rfl ?_
        refine g_iald C 16 rfl (by decide) (by omega) (by omega) (v := (fv i)) rfl dX2_rank_49 ?_
        refine g_iast (w' := (wT bd cI cG (cnt : Int) rm (zU (rkU (fun s => cab fv (fv s) cnt) (fun s => (s : Int)) ft i) (cab fv (fv i) cnt) (i : Int)) (zU (rkU (fun s => cab fv (fv s) cnt) fv tv i) (cab fv (fv i) cnt) (fv i)) (rkU (fun s => cab fv (fv s) cnt) (fun s => min (fs s) rm) tu i) fc M) ++ (wS ad cI (cnt : Int) fv fs fd)) C 3 rfl (by decide) (by omega) (by omega) rfl dX2_rank_50 ?_
        refine g_aload_n C dX2_rank_51 2 rfl ?_
        refine g_getf C fX2_23 0 rfl rfl dX2_rank_52 ?_
        refine g_iload C dX2_rank_55 0 rfl ?_
        refine g_aload_n C dX2_rank_57 3 rfl ?_
        refine g_getf C fX2_46 15 rfl rfl dX2_rank_58 ?_
        refine g_iload_n C dX2_rank_61 1 rfl ?_
        refine g_iald C 17 rfl (by decide) (by omega) (by omega) (v := (fs i)) rfl dX2_rank_62 ?_
        refine g_iload_n C dX2_rank_63 4 rfl ?_
        refine g_min C mX2_49 (hs i (by omega)) hr (by decide) (Nat.le_of_ble_eq_true rfl) dX2_rank_64 ?_
        refine g_iast (w' := (wT bd cI cG (cnt : Int) rm (zU (rkU (fun s => cab fv (fv s) cnt) (fun s => (s : Int)) ft i) (cab fv (fv i) cnt) (i : Int)) (zU (rkU (fun s => cab fv (fv s) cnt) fv tv i) (cab fv (fv i) cnt) (fv i)) (zU (rkU (fun s => cab fv (fv s) cnt) (fun s => min (fs s) rm) tu i) (cab fv (fv i) cnt) (min (fs i) rm)) fc M) ++ (wS ad cI (cnt : Int) fv fs fd)) C 4 rfl (by decide) (by omega) (by omega) rfl dX2_rank_67 ?_
        refine g_iinc (L' := [(3, .int (zI ((i : Int) + 1))), (4, .int (zI ((cab fv (fv i) cnt : Nat) : Int))), (0, .ref (bd 0)), (1, .ref (ad 0)), (2, .int (zI rm))]) C dX2_rank_68 1 rfl (by decide) rfl ?_
        refine g_goto 15 C dX2_rank_71 (by decide) ?_
        refine g_loc (L' := [(3, .int (zI ((i : Int) + 1))), (0, .ref (bd 0)), (1, .ref (ad 0)), (2, .int (zI rm))]) [0, 2, 3, 4] rfl ?_
        exact ih_15 (i + 1) (by omega) (by omega)
  refine g_loc (L' := [(3, .int (zI 0)), (0, .ref (bd 0)), (1, .ref (ad 0)), (2, .int (zI rm))]) [0, 1, 2, 3] rfl ?_
  exact loop_15 _ 0 (Nat.zero_le _) (Nat.lt_succ_self _)
abbrev rmX2_fillRow : Room := { frames := 1, cells := 0, slots := 0, locals := 21 }
set_option maxHeartbeats 4000000 in
set_option maxRecDepth 100000 in
theorem met_X2_fillRow (l : Launch) (D : va_G) (cI cG cJ : ClassId) (bd : Nat → Nat) (tc tr : Int) (ft tv tu fc : Nat → Int) (M : Nat → Nat → Int) (r : Nat) (hr : r < 8) (hv : 1 ≤ tv r ∧ tv r ≤ 60) (hu : 0 ≤ tu r ∧ tu r ≤ 12) (hM : ∀ j, j < 360 → 0 ≤ M (r + 1) j ∧ M (r + 1) j ≤ 1000) : gMet l yX2_fillRow cX2_fillRow 9 none rmX2_fillRow D cI cG cJ [.ref (bd 0), .int (zI (r : Int))] (wT bd cI cG tc tr ft tv tu fc M) (gN (fun w9 => w9 = wT bd cI cG tc tr ft tv tu fc (gR M r (tRow (M (r + 1)) (tv r) (tu r)) 360))) := by
  refine gMet_N (by decide) rfl (Nat.le_of_ble_eq_true rfl) (fun E C ret => ?_)
  refine g_aload_n C dX2_fillRow_0 0 rfl ?_
  refine g_getf C fX2_11 0 rfl rfl dX2_fillRow_1 ?_
  refine g_iload_n C dX2_fillRow_4 1 rfl ?_
  refine g_aald (y := bd (6 + r)) C 1 rfl (by decide) (by omega) (by omega) (wR_at (by omega)) dX2_fillRow_5 ?_
  refine g_astore_n (L' := [(2, .ref (bd (6 + r))), (0, .ref (bd 0)), (1, .int (zI (r : Int)))]) C dX2_fillRow_6 (by decide) rfl ?_
  refine g_aload_n C dX2_fillRow_7 1 rfl ?_
  refine g_getf C fX2_11 0 rfl rfl dX2_fillRow_8 ?_
  refine g_iload_n C dX2_fillRow_11 2 rfl ?_
  refine g_iconst C dX2_fillRow_12 ?_
  refine g_iadd C dX2_fillRow_13 ?_
  refine g_aald (y := bd (6 + (r + 1))) C 1 rfl (by decide) (by omega) (by omega) (wR_at (by omega)) dX2_fillRow_14 ?_
  refine g_astore_n (L' := [(3, .ref (bd (6 + (r + 1)))), (2, .ref (bd (6 + r))), (0, .ref (bd 0)), (1, .int (zI (r : Int)))]) C dX2_fillRow_15 (by decide) rfl ?_
  refine g_aload_n C dX2_fillRow_16 2 rfl ?_
  refine g_getf C fX2_20 0 rfl rfl dX2_fillRow_17 ?_
  refine g_iload_n C dX2_fillRow_20 3 rfl ?_
  refine g_iald C 3 rfl (by decide) (by omega) (by omega) (v := (tv r)) rfl dX2_fillRow_21 ?_
  refine g_istore (L' := [(4, .int (zI (tv r))), (3, .ref (bd (6 + (r + 1)))), (2, .ref (bd (6 + r))), (0, .ref (bd 0)), (1, .int (zI (r : Int)))]) C dX2_fillRow_22 (by decide) rfl ?_
  refine g_aload_n C dX2_fillRow_24 3 rfl ?_
  refine g_getf C fX2_23 0 rfl rfl dX2_fillRow_25 ?_
  refine g_iload_n C dX2_fillRow_28 4 rfl ?_
  refine g_iald C 4 rfl (by decide) (by omega) (by omega) (v := (tu r)) rfl dX2_fillRow_29 ?_
  refine g_istore (L' := [(5, .int (zI (tu r))), (4, .int (zI (tv r))), (3, .ref (bd (6 + (r + 1)))), (2, .ref (bd (6 + r))), (0, .ref (bd 0)), (1, .int (zI (r : Int)))]) C dX2_fillRow_30 (by decide) rfl ?_
  refine g_iconst C dX2_fillRow_32 ?_
  refine g_istore (L' := [(6, .int (zI 0)), (5, .int (zI (tu r))), (4, .int (zI (tv r))), (3, .ref (bd (6 + (r + 1)))), (2, .ref (bd (6 + r))), (0, .ref (bd 0)), (1, .int (zI (r : Int)))]) C dX2_fillRow_33 (by decide) rfl ?_
  have loop_35 : ∀ (fu : Nat) (i : Nat), (hi : i ≤ 360) → 360 - i < fu → gW E 0 0 (wT bd cI cG tc tr ft tv tu fc (gR M r (tRow (M (r + 1)) (tv r) (tu r)) i)) 35 [(6, .int (zI (i : Int))), (5, .int (zI (tu r))), (4, .int (zI (tv r))), (3, .ref (bd (6 + (r + 1)))), (2, .ref (bd (6 + r))), (1, .int (zI (r : Int))), (0, .ref (bd 0))] [] := by
    intro fu
    induction fu with
    | zero => intro i hi h9; exact absurd h9 (Nat.not_lt_zero _)
    | succ fu ih_35 =>
      intro i hi hmu_35
      have hMi : i < 360 → ∀ j, j ≤ i → 0 ≤ M (r + 1) j ∧ M (r + 1) j ≤ 1000 := fun h j hj => hM j (by omega)
      refine g_iload C dX2_fillRow_35 0 rfl ?_
      refine g_sipush C dX2_fillRow_37 (by decide) ?_
      refine g_icmp_gt 107 C dX2_fillRow_40 (by decide) (zr_i (by omega) (by omega)) (zr_i (by omega) (by omega)) (fun c_40 => ?_) (fun c_40 => ?_)
      · have e9 : i = 360 := by omega
        subst e9
        exact ret _ _ _ _ _ (by decide) (by decide) dX2_fillRow_107 (rfl)
      · refine g_aload_n C dX2_fillRow_43 3 rfl ?_
        refine g_iload C dX2_fillRow_44 0 rfl ?_
        refine g_iald C (6 + (r + 1)) (wT_row1 (by omega)) (by decide) (by omega) (by omega) (v := ((gR M r (tRow (M (r + 1)) (tv r) (tu r)) i) (r + 1) i)) rfl dX2_fillRow_46 ?_
        refine g_top (tIn (M (r + 1)) (tv r) (tu r) i 0) (gR_ne (by omega)) ?_
        refine g_istore (L' := [(7, .int (zI (tIn (M (r + 1)) (tv r) (tu r) i 0))), (6, .int (zI (i : Int))), (5, .int (zI (tu r))), (4, .int (zI (tv r))), (3, .ref (bd (6 + (r + 1)))), (2, .ref (bd (6 + r))), (1, .int (zI (r : Int))), (0, .ref (bd 0))]) C dX2_fillRow_47 (by decide) rfl ?_
        refine g_iconst C dX2_fillRow_49 ?_
        refine g_istore (L' := [(8, .int (zI 1)), (7, .int (zI (tIn (M (r + 1)) (tv r) (tu r) i 0))), (6, .int (zI (i : Int))), (5, .int (zI (tu r))), (4, .int (zI (tv r))), (3, .ref (bd (6 + (r + 1)))), (2, .ref (bd (6 + r))), (1, .int (zI (r : Int))), (0, .ref (bd 0))]) C dX2_fillRow_50 (by decide) rfl ?_
        have loop_52 : ∀ (fu : Nat) (m : Nat), (hm : m ≤ 12) → 13 - m < fu → gW E 0 0 (wT bd cI cG tc tr ft tv tu fc (gR M r (tRow (M (r + 1)) (tv r) (tu r)) i)) 52 [(8, .int (zI ((m + 1 : Nat) : Int))), (7, .int (zI (tIn (M (r + 1)) (tv r) (tu r) i m))), (6, .int (zI (i : Int))), (5, .int (zI (tu r))), (4, .int (zI (tv r))), (3, .ref (bd (6 + (r + 1)))), (2, .ref (bd (6 + r))), (1, .int (zI (r : Int))), (0, .ref (bd 0))] [] := by
          intro fu
          induction fu with
          | zero => intro m hm h9; exact absurd h9 (Nat.not_lt_zero _)
          | succ fu ih_52 =>
            intro m hm hmu_52
            have hb := tIn_bd (u := tu r) (by omega : 0 ≤ tv r) (hMi (by omega)) m
            have hb2 := hM i (by omega)
            have hp := mul_bd hv.1 hv.2 hm
            refine g_iload C dX2_fillRow_52 0 rfl ?_
            refine g_iload C dX2_fillRow_54 3 rfl ?_
            refine g_icmp_gt 95 C dX2_fillRow_56 (by decide) (zr_i (by omega) (by omega)) (zr_i (by omega) (by omega)) (fun c_56 => ?_) (fun c_56 => ?_)
            · have ex := tIn_x (f := M (r + 1)) (s := i) (by omega : 0 ≤ tv r) hm (Or.inl c_56)
              refine g_aload_n C dX2_fillRow_95 6 rfl ?_
              refine g_iload C dX2_fillRow_96 2 rfl ?_
              refine g_iload C dX2_fillRow_98 1 rfl ?_
              refine g_top ((tRow (M (r + 1)) (tv r) (tu r)) i) (ex) ?_
              refine g_iast (w' := wT bd cI cG tc tr ft tv tu fc (gU (gR M r (tRow (M (r + 1)) (tv r) (tu r)) i) r i ((tRow (M (r + 1)) (tv r) (tu r)) i))) C (6 + r) (wT_row1 (by omega)) (by decide) (by omega) (by omega) (wT_set1 (by omega) i ((tRow (M (r + 1)) (tv r) (tu r)) i)) dX2_fillRow_100 ?_
              refine g_iinc (L' := [(6, .int (zI ((i : Int) + 1))), (8, .int (zI ((m + 1 : Nat) : Int))), (7, .int (zI (tIn (M (r + 1)) (tv r) (tu r) i m))), (5, .int (zI (tu r))), (4, .int (zI (tv r))), (3, .ref (bd (6 + (r + 1)))), (2, .ref (bd (6 + r))), (1, .int (zI (r : Int))), (0, .ref (bd 0))]) C dX2_fillRow_101 2 rfl (by decide) rfl ?_
              refine g_goto 35 C dX2_fillRow_104 (by decide) ?_
              refine g_loc (L' := [(6, .int (zI ((i : Int) + 1))), (5, .int (zI (tu r))), (4, .int (zI (tv r))), (3, .ref (bd (6 + (r + 1)))), (2, .ref (bd (6 + r))), (1, .int (zI (r : Int))), (0, .ref (bd 0))]) [0, 3, 4, 5, 6, 7, 8] rfl ?_
              refine g_ws (w' := wT bd cI cG tc tr ft tv tu fc (gR M r (tRow (M (r + 1)) (tv r) (tu r)) (i + 1))) (by rw [gR_s]) rfl ?_
              exact ih_35 (i + 1) (by omega) (by omega)
            · refine g_iload C dX2_fillRow_59 0 rfl ?_
              refine g_iload C dX2_fillRow_61 4 rfl ?_
              refine g_imul C dX2_fillRow_63 ?_
              refine g_iload C dX2_fillRow_64 2 rfl ?_
              refine g_icmp_gt 95 C dX2_fillRow_66 (by decide) (zr_i (by omega) (by omega)) (zr_i (by omega) (by omega)) (fun c_66 => ?_) (fun c_66 => ?_)
              · have ex := tIn_x (f := M (r + 1)) (u := tu r) (by omega : 0 ≤ tv r) hm (Or.inr c_66)
                refine g_aload_n C dX2_fillRow_95 6 rfl ?_
                refine g_iload C dX2_fillRow_96 2 rfl ?_
                refine g_iload C dX2_fillRow_98 1 rfl ?_
                refine g_top ((tRow (M (r + 1)) (tv r) (tu r)) i) (ex) ?_
                refine g_iast (w' := wT bd cI cG tc tr ft tv tu fc (gU (gR M r (tRow (M (r + 1)) (tv r) (tu r)) i) r i ((tRow (M (r + 1)) (tv r) (tu r)) i))) C (6 + r) (wT_row1 (by omega)) (by decide) (by omega) (by omega) (wT_set1 (by omega) i ((tRow (M (r + 1)) (tv r) (tu r)) i)) dX2_fillRow_100 ?_
                refine g_iinc (L' := [(6, .int (zI ((i : Int) + 1))), (8, .int (zI ((m + 1 : Nat) : Int))), (7, .int (zI (tIn (M (r + 1)) (tv r) (tu r) i m))), (5, .int (zI (tu r))), (4, .int (zI (tv r))), (3, .ref (bd (6 + (r + 1)))), (2, .ref (bd (6 + r))), (1, .int (zI (r : Int))), (0, .ref (bd 0))]) C dX2_fillRow_101 2 rfl (by decide) rfl ?_
                refine g_goto 35 C dX2_fillRow_104 (by decide) ?_
                refine g_loc (L' := [(6, .int (zI ((i : Int) + 1))), (5, .int (zI (tu r))), (4, .int (zI (tv r))), (3, .ref (bd (6 + (r + 1)))), (2, .ref (bd (6 + r))), (1, .int (zI (r : Int))), (0, .ref (bd 0))]) [0, 3, 4, 5, 6, 7, 8] rfl ?_
                refine g_ws (w' := wT bd cI cG tc tr ft tv tu fc (gR M r (tRow (M (r + 1)) (tv r) (tu r)) (i + 1))) (by rw [gR_s]) rfl ?_
                exact ih_35 (i + 1) (by omega) (by omega)
              · refine g_iload C dX2_fillRow_69 1 rfl ?_
                refine g_aload_n C dX2_fillRow_71 5 rfl ?_
                refine g_iload C dX2_fillRow_72 2 rfl ?_
                refine g_iload C dX2_fillRow_74 0 rfl ?_
                refine g_iload C dX2_fillRow_76 4 rfl ?_
                refine g_imul C dX2_fillRow_78 ?_
                refine g_isub C dX2_fillRow_79 ?_
                refine g_iald C (6 + (r + 1)) (wT_row1 (by omega)) (by decide) (by omega) (by omega) (v := ((gR M r (tRow (M (r + 1)) (tv r) (tu r)) i) (r + 1) ((((i : Int) - (((m + 1 : Nat) : Int) * (tv r)))).toNat))) rfl dX2_fillRow_80 ?_
                refine g_top (M (r + 1) ((i : Int) - ((m + 1 : Nat) : Int) * tv r).toNat) (gR_ne (by omega)) ?_
                refine g_iload C dX2_fillRow_81 0 rfl ?_
                refine g_iadd C dX2_fillRow_83 ?_
                have hb3 := hM ((i : Int) - ((m + 1 : Nat) : Int) * tv r).toNat (by omega)
                refine g_min C mX2_49 (zr_i (by omega) (by omega)) (zr_i (by omega) (by omega)) (by decide) (Nat.le_of_ble_eq_true rfl) dX2_fillRow_84 ?_
                refine g_top (tIn (M (r + 1)) (tv r) (tu r) i (m + 1)) (tIn_s c_56 c_66) ?_
                refine g_istore (L' := [(7, .int (zI (tIn (M (r + 1)) (tv r) (tu r) i (m + 1)))), (8, .int (zI ((m + 1 : Nat) : Int))), (6, .int (zI (i : Int))), (5, .int (zI (tu r))), (4, .int (zI (tv r))), (3, .ref (bd (6 + (r + 1)))), (2, .ref (bd (6 + r))), (1, .int (zI (r : Int))), (0, .ref (bd 0))]) C dX2_fillRow_87 (by decide) rfl ?_
                refine g_iinc (L' := [(8, .int (zI (((m + 1 : Nat) : Int) + 1))), (7, .int (zI (tIn (M (r + 1)) (tv r) (tu r) i (m + 1)))), (6, .int (zI (i : Int))), (5, .int (zI (tu r))), (4, .int (zI (tv r))), (3, .ref (bd (6 + (r + 1)))), (2, .ref (bd (6 + r))), (1, .int (zI (r : Int))), (0, .ref (bd 0))]) C dX2_fillRow_89 1 rfl (by decide) rfl ?_
                refine g_goto 52 C dX2_fillRow_92 (by decide) ?_
                refine g_loc (L' := [(8, .int (zI (((m + 1 : Nat) : Int) + 1))), (7, .int (zI (tIn (M (r + 1)) (tv r) (tu r) i (m + 1)))), (6, .int (zI (i : Int))), (5, .int (zI (tu r))), (4, .int (zI (tv r))), (3, .ref (bd (6 + (r + 1)))), (2, .ref (bd (6 + r))), (1, .int (zI (r : Int))), (0, .ref (bd 0))]) [0, 1, 2, 3, 4, 5, 6, 7, 8] rfl ?_
                exact ih_52 (m + 1) (by omega) (by omega)
        refine g_loc (L' := [(8, .int (zI 1)), (7, .int (zI (tIn (M (r + 1)) (tv r) (tu r) i 0))), (6, .int (zI (i : Int))), (5, .int (zI (tu r))), (4, .int (zI (tv r))), (3, .ref (bd (6 + (r + 1)))), (2, .ref (bd (6 + r))), (1, .int (zI (r : Int))), (0, .ref (bd 0))]) [0, 1, 2, 3, 4, 5, 6, 7, 8] rfl ?_
        exact loop_52 _ 0 (Nat.zero_le _) (Nat.lt_succ_self _)
  refine g_loc (L' := [(6, .int (zI 0)), (5, .int (zI (tu r))), (4, .int (zI (tv r))), (3, .ref (bd (6 + (r + 1)))), (2, .ref (bd (6 + r))), (1, .int (zI (r : Int))), (0, .ref (bd 0))]) [0, 1, 2, 3, 4, 6, 5] rfl ?_
  refine g_ws (w' := wT bd cI cG tc tr ft tv tu fc (gR M r (tRow (M (r + 1)) (tv r) (tu r)) 0)) (by rw [gR_0]) rfl ?_
  exact loop_35 _ 0 (Nat.zero_le _) (Nat.lt_succ_self _)
