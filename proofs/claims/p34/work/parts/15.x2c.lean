theorem fill_Rok {cnt : Nat} {fv fs ft tv tu : Nat → Int} {rm : Int} (hs : Sok cnt fv fs) : Rok fv fs cnt rm (rkU (fun s => cab fv (fv s) cnt) (fun s => (s : Int)) ft cnt) (rkU (fun s => cab fv (fv s) cnt) fv tv cnt) (rkU (fun s => cab fv (fv s) cnt) (fun s => min (fs s) rm) tu cnt) := fun r hr => ⟨rkU_ord hs.2.2 hr, rkU_ord hs.2.2 hr, rkU_ord hs.2.2 hr⟩
abbrev rmX2_fill : Room := { frames := 2, cells := 0, slots := 0, locals := 64 }
set_option maxHeartbeats 4000000 in
set_option maxRecDepth 100000 in
theorem met_X2_fill (l : Launch) (D : va_G) (cI cG cJ : ClassId) (ad : Nat → Nat) (cnt : Nat) (hc : cnt ≤ 8) (fv fs fd : Nat → Int) (bd : Nat → Nat) (tc tr : Int) (ft tv tu fc : Nat → Int) (M : Nat → Nat → Int) (hs : Sok cnt fv fs) (rm : Int) (hr : 0 ≤ rm ∧ rm ≤ 12) : gMet l yX2_fill cX2_fill 5 none rmX2_fill D cI cG cJ [.ref (bd 0), .ref (ad 0), .int (zI rm)] ((wT bd cI cG tc tr ft tv tu fc M) ++ (wS ad cI (cnt : Int) fv fs fd)) (gN (fun w9 => ∃ (ft1 tv1 tu1 : Nat → Int) (M1 : Nat → Nat → Int), (Rok fv fs cnt rm ft1 tv1 tu1 ∧ Mok fv fs cnt rm M1 0) ∧ w9 = (wT bd cI cG (cnt : Int) rm ft1 tv1 tu1 fc M1) ++ (wS ad cI (cnt : Int) fv fs fd))) := by
  refine gMet_N (by decide) rfl (Nat.le_of_ble_eq_true rfl) (fun E C ret => ?_)
  refine g_aload_n C dX2_fill_0 0 rfl ?_
  refine g_aload_n C dX2_fill_1 1 rfl ?_
  refine g_iload_n C dX2_fill_2 2 rfl ?_
  refine g_callV (wr := ([] : va_W)) (st := []) [0, 1, 2, 3, 4, 5, 6, 7, 8, 9, 10, 11, 12, 13, 14, 15, 16, 17, 18] [] C cX2_55 (met_X2_rank l D cI cG cJ ad cnt hc fv fs fd bd tc tr ft tv tu fc M (fun j hj => by have := hs.1 j hj; exact zr_i (by omega) (by omega)) (fun j hj => by have := hs.2.1 j hj; exact zr_i (by omega) (by omega)) rm (zr_i (by omega) (by omega))) ⟨rfl, rfl, by decide, by decide, by decide⟩ (q0 := 0) rfl rfl (by decide) (by decide) rfl rfl (Nat.le_of_ble_eq_true rfl) dX2_fill_3 ?_
  rintro v9 w9 ⟨rfl, rfl⟩
  refine g_ws (w' := (wT bd cI cG (cnt : Int) rm (rkU (fun s => cab fv (fv s) cnt) (fun s => (s : Int)) ft cnt) (rkU (fun s => cab fv (fv s) cnt) fv tv cnt) (rkU (fun s => cab fv (fv s) cnt) (fun s => min (fs s) rm) tu cnt) fc M) ++ (wS ad cI (cnt : Int) fv fs fd)) (st' := []) rfl rfl ?_
  have hR := fill_Rok (ft := ft) (tv := tv) (tu := tu) (rm := rm) hs
  generalize (rkU (fun s => cab fv (fv s) cnt) (fun s => (s : Int)) ft cnt) = ft1 at hR ⊢
  generalize (rkU (fun s => cab fv (fv s) cnt) fv tv cnt) = tv1 at hR ⊢
  generalize (rkU (fun s => cab fv (fv s) cnt) (fun s => min (fs s) rm) tu cnt) = tu1 at hR ⊢
  refine g_ws (w' := (wT bd cI cG (cnt : Int) rm ft1 tv1 tu1 fc M) ++ (wS ad cI (cnt : Int) fv fs fd)) (rfl) rfl ?_
  refine g_aload_n C dX2_fill_6 0 rfl ?_
  refine g_getf C fX2_11 0 rfl rfl dX2_fill_7 ?_
  refine g_aload_n C dX2_fill_10 0 rfl ?_
  refine g_getf C fX2_26 0 rfl rfl dX2_fill_11 ?_
  refine g_aald (y := bd (6 + cnt)) C 1 rfl (by decide) (by omega) (by omega) (wR_at (by omega)) dX2_fill_14 ?_
  refine g_astore_n (L' := [(3, .ref (bd (6 + cnt))), (0, .ref (bd 0)), (1, .ref (ad 0)), (2, .int (zI rm))]) C dX2_fill_15 (by decide) rfl ?_
  refine g_iconst C dX2_fill_16 ?_
  refine g_istore (L' := [(4, .int (zI 1)), (3, .ref (bd (6 + cnt))), (0, .ref (bd 0)), (1, .ref (ad 0)), (2, .int (zI rm))]) C dX2_fill_17 (by decide) rfl ?_
  have loop_19 : ∀ (fu : Nat) (i : Nat) (M2 : Nat → Nat → Int), (hi1 : 1 ≤ i) → (hi : i ≤ 360) → (h2 : ∀ s, 1 ≤ s → s < i → M2 cnt s = 1000) → 360 - i < fu → gW E 0 0 ((wT bd cI cG (cnt : Int) rm ft1 tv1 tu1 fc M2) ++ (wS ad cI (cnt : Int) fv fs fd)) 19 [(4, .int (zI (i : Int))), (3, .ref (bd (6 + cnt))), (0, .ref (bd 0))] [] := by
    intro fu
    induction fu with
    | zero => intro i M2 hi1 hi h2 h9; exact absurd h9 (Nat.not_lt_zero _)
    | succ fu ih_19 =>
      intro i M2 hi1 hi h2 hmu_19
      refine g_iload C dX2_fill_19 0 rfl ?_
      refine g_sipush C dX2_fill_21 (by decide) ?_
      refine g_icmp_gt 40 C dX2_fill_24 (by decide) (zr_i (by omega) (by omega)) (zr_i (by omega) (by omega)) (fun c_24 => ?_) (fun c_24 => ?_)
      · refine g_aload_n C dX2_fill_40 1 rfl ?_
        refine g_iconst C dX2_fill_41 ?_
        refine g_iconst C dX2_fill_42 ?_
        refine g_iast (w' := (wT bd cI cG (cnt : Int) rm ft1 tv1 tu1 fc (gU M2 cnt 0 0)) ++ (wS ad cI (cnt : Int) fv fs fd)) C (6 + cnt) (wT_row (by omega)) (by decide) (by omega) (by omega) (wT_set (by omega) 0 0) dX2_fill_43 ?_
        refine g_aload_n C dX2_fill_44 2 rfl ?_
        refine g_getf C fX2_26 0 rfl rfl dX2_fill_45 ?_
        refine g_iconst C dX2_fill_48 ?_
        refine g_isub C dX2_fill_49 ?_
        refine g_istore (L' := [(4, .int (zI ((cnt : Int) - 1))), (3, .ref (bd (6 + cnt))), (0, .ref (bd 0))]) C dX2_fill_50 (by decide) rfl ?_
        have loop_52 : ∀ (fu : Nat) (k : Nat) (M3 : Nat → Nat → Int), (hk : k ≤ cnt) → (hM3 : Mok fv fs cnt rm M3 k) → k < fu → gW E 0 0 ((wT bd cI cG (cnt : Int) rm ft1 tv1 tu1 fc M3) ++ (wS ad cI (cnt : Int) fv fs fd)) 52 [(4, .int (zI (((k : Nat) : Int) - 1))), (0, .ref (bd 0))] [] := by
          intro fu
          induction fu with
          | zero => intro k M3 hk hM3 h9; exact absurd h9 (Nat.not_lt_zero _)
          | succ fu ih_52 =>
            intro k M3 hk hM3 hmu_52
            refine g_iload C dX2_fill_52 0 rfl ?_
            refine g_if_lt 69 C dX2_fill_54 (by decide) (zr_i (by omega) (by omega)) (fun c_54 => ?_) (fun c_54 => ?_)
            · have e9 : k = 0 := by omega
              subst e9
              exact ret _ _ _ _ _ (by decide) (by decide) dX2_fill_69 (⟨ft1, tv1, tu1, M3, ⟨hR, hM3⟩, rfl⟩)
            · obtain ⟨r, rfl⟩ : ∃ r, k = r + 1 := ⟨k - 1, by omega⟩
              refine g_aload_n C dX2_fill_57 1 rfl ?_
              refine g_iload C dX2_fill_58 0 rfl ?_
              refine g_top (r : Int) (by omega) ?_
              refine g_callV (wr := wS ad cI (cnt : Int) fv fs fd) (st := []) [0, 1, 2, 3, 4, 5, 6, 7, 8, 9, 10, 11, 12, 13, 14] [15, 16, 17, 18] C cX2_59 (met_X2_fillRow l D cI cG cJ bd cnt rm ft1 tv1 tu1 fc M3 r (by omega) (hR.tv hs r (by omega)) (hR.tu hs hr r (by omega)) (fun j hj => hM3.bd hs (Nat.le_refl _) (by omega) hj)) ⟨rfl, rfl, by decide, by decide, by decide⟩ (q0 := 0) rfl rfl (by decide) (by decide) rfl rfl (Nat.le_of_ble_eq_true rfl) dX2_fill_60 ?_
              rintro v9 w9 ⟨rfl, rfl⟩
              refine g_ws (w' := (wS ad cI (cnt : Int) fv fs fd) ++ (wT bd cI cG (cnt : Int) rm ft1 tv1 tu1 fc (gR M3 r (tRow (M3 (r + 1)) (tv1 r) (tu1 r)) 360))) (st' := []) rfl rfl ?_
              refine g_perm (w' := (wT bd cI cG (cnt : Int) rm ft1 tv1 tu1 fc (gR M3 r (tRow (M3 (r + 1)) (tv1 r) (tu1 r)) 360)) ++ (wS ad cI (cnt : Int) fv fs fd)) [4, 5, 6, 7, 8, 9, 10, 11, 12, 13, 14, 15, 16, 17, 18, 0, 1, 2, 3] (by decide) rfl ?_
              refine g_iinc (L' := [(4, .int (zI (((((r + 1) : Nat) : Int) - 1) + (-1)))), (0, .ref (bd 0))]) C dX2_fill_63 0 rfl (by decide) rfl ?_
              refine g_goto 52 C dX2_fill_66 (by decide) ?_
              refine g_loc (L' := [(4, .int (zI (((((r + 1) : Nat) : Int) - 1) + (-1)))), (0, .ref (bd 0))]) [0, 1] rfl ?_
              refine g_lw (w' := (wT bd cI cG (cnt : Int) rm ft1 tv1 tu1 fc (gR M3 r (tRow (M3 (r + 1)) (tv1 r) (tu1 r)) 360)) ++ (wS ad cI (cnt : Int) fv fs fd)) (L' := [(4, .int (zI (((r : Nat) : Int) - 1))), (0, .ref (bd 0))]) rfl (by rw [show ((((r + 1) : Nat) : Int) - 1) + (-1) = ((r : Nat) : Int) - 1 by omega]) ?_
              exact ih_52 r (gR M3 r (tRow (M3 (r + 1)) (tv1 r) (tu1 r)) 360) (by omega) (hM3.step hR hs (by omega)) (by omega)
        refine g_loc (L' := [(4, .int (zI ((cnt : Int) - 1))), (0, .ref (bd 0))]) [0, 2] rfl ?_
        exact loop_52 _ cnt (gU M2 cnt 0 0) (Nat.le_refl _) (fun r h8 h9 s h10 => by
      have e : r = cnt := by omega
      subst e
      rw [Nat.sub_self]
      by_cases e2 : s = 0
      · subst e2; exact gU_eq
      · rw [gU_ne (fun _ => e2), h2 s (by omega) (by omega)]; exact (if_neg e2).symm) (Nat.lt_succ_self _)
      · refine g_aload_n C dX2_fill_27 1 rfl ?_
        refine g_iload C dX2_fill_28 0 rfl ?_
        refine g_sipush C dX2_fill_30 (by decide) ?_
        refine g_iast (w' := (wT bd cI cG (cnt : Int) rm ft1 tv1 tu1 fc (gU M2 cnt i 1000)) ++ (wS ad cI (cnt : Int) fv fs fd)) C (6 + cnt) (wT_row (by omega)) (by decide) (by omega) (by omega) (wT_set (by omega) i 1000) dX2_fill_33 ?_
        refine g_iinc (L' := [(4, .int (zI ((i : Int) + 1))), (3, .ref (bd (6 + cnt))), (0, .ref (bd 0))]) C dX2_fill_34 0 rfl (by decide) rfl ?_
        refine g_goto 19 C dX2_fill_37 (by decide) ?_
        refine g_loc (L' := [(4, .int (zI ((i : Int) + 1))), (3, .ref (bd (6 + cnt))), (0, .ref (bd 0))]) [0, 1, 2] rfl ?_
        exact ih_19 (i + 1) (gU M2 cnt i 1000) (by omega) (by omega) (fun s h8 h9 => by
      by_cases e : s = i
      · subst e; exact gU_eq
      · rw [gU_ne (fun _ => e)]; exact h2 s h8 (by omega)) (by omega)
  refine g_loc (L' := [(4, .int (zI 1)), (3, .ref (bd (6 + cnt))), (0, .ref (bd 0))]) [0, 1, 2] rfl ?_
  exact loop_19 _ 1 M (Nat.le_refl _) (by omega) (fun s h8 h9 => absurd h9 (by omega)) (Nat.lt_succ_self _)
