abbrev rmX3_lettersOf : Room := { frames := 8, cells := 1, slots := 6, locals := 160 }
set_option maxHeartbeats 4000000 in
set_option maxRecDepth 100000 in
theorem met_X3_lettersOf (l : Launch) (hl9 : l.stackTraces = false) (D : va_G) (cI cG cJ : ClassId) (h : Nat) (ad a2 bd pd : Nat → Nat) (cnt : Nat) (fv fs fd : Nat → Int) (rm lt tk ov : Int) (hI : XI cnt fv fs rm) (c2 : Int) (gv gs gd : Nat → Int) (tc tr : Int) (ft tv tu fc : Nat → Int) (M : Nat → Nat → Int) (fa fb : Nat → Int) (N : Nat → Nat → Int) (p : Int) (hp : zr p)  : gMex l yX3_lettersOf cX3_lettersOf 5 (some .int) rmX3_lettersOf D cI cG cJ [.ref h, .int (zI p)] (((((wV h (ad 0) (a2 0) (bd 0) (pd 0) rm lt tk ov) ++ (wS ad cI (cnt : Int) fv fs fd)) ++ (wS a2 cI c2 gv gs gd)) ++ (wT bd cI cG tc tr ft tv tu fc M)) ++ (wP pd cI cG fa fb N)) (gI (fun z w9 => ((1 ≤ p ∧ p ≤ 300) ∧ z = ((ltr cnt fv rm p.toNat 50 fs : Nat) : Int)) ∧ XW h ad a2 bd pd cI cG cnt fv fs fd rm lt tk ov w9)) (fun nm w9 => nm = IAE ∧ ¬ (1 ≤ p ∧ p ≤ 300) ∧ XW h ad a2 bd pd cI cG cnt fv fs fd rm lt tk ov w9) := by
  obtain ⟨hc, hS, h99, hr1, hr2⟩ := id hI
  have hr : 0 ≤ rm ∧ rm ≤ 12 := ⟨by omega, hr2⟩
  have hv1 : ∀ j, j < cnt → 1 ≤ fv j := fun j hj => (hS.1 j hj).1
  refine gMex_I hl9 (by decide) rfl (Nat.le_of_ble_eq_true rfl) (fun E C ret out thr => ?_)
  refine g_iload_n C dX3_lettersOf_0 1 rfl ?_
  refine g_callSX (wr := ((((wV h (ad 0) (a2 0) (bd 0) (pd 0) rm lt tk ov) ++ (wS ad cI (cnt : Int) fv fs fd)) ++ (wS a2 cI c2 gv gs gd)) ++ (wT bd cI cG tc tr ft tv tu fc M)) ++ (wP pd cI cG fa fb N)) (st := []) [] [0, 1, 2, 3, 4, 5, 6, 7, 8, 9, 10, 11, 12, 13, 14, 15, 16, 17, 18, 19, 20, 21, 22, 23, 24, 25, 26, 27, 28, 29, 30, 31, 32, 33, 34, 35, 36, 37, 38, 39, 40] C cX3_82 (met_X3_checkPostage l hl9 D cI cG cJ p hp) ⟨rfl, rfl, by decide, by decide, by decide⟩ (by decide) (by decide) rfl rfl (Nat.le_of_ble_eq_true rfl) dX3_lettersOf_1 (fun nm9 w9 h9 => ?_) ?_
  · obtain ⟨rfl, h8, rfl⟩ := h9
    refine gx_perm (w' := ((((wV h (ad 0) (a2 0) (bd 0) (pd 0) rm lt tk ov) ++ (wS ad cI (cnt : Int) fv fs fd)) ++ (wS a2 cI c2 gv gs gd)) ++ (wT bd cI cG tc tr ft tv tu fc M)) ++ (wP pd cI cG fa fb N)) [0, 1, 2, 3, 4, 5, 6, 7, 8, 9, 10, 11, 12, 13, 14, 15, 16, 17, 18, 19, 20, 21, 22, 23, 24, 25, 26, 27, 28, 29, 30, 31, 32, 33, 34, 35, 36, 37, 38, 39, 40] (by decide) rfl ?_
    exact out _ _ _ _ _ _ (by decide) (by decide) (⟨rfl, h8, ⟨_, _, _, _, _, _, _, _, _, _, _, _, _, _, rfl⟩⟩)
  rintro v9 w9 ⟨rfl, hp9, rfl⟩
  obtain ⟨q, rfl⟩ : ∃ q : Nat, p = (q : Int) := ⟨p.toNat, by omega⟩
  refine g_ws (w' := ((((wV h (ad 0) (a2 0) (bd 0) (pd 0) rm lt tk ov) ++ (wS ad cI (cnt : Int) fv fs fd)) ++ (wS a2 cI c2 gv gs gd)) ++ (wT bd cI cG tc tr ft tv tu fc M)) ++ (wP pd cI cG fa fb N)) (st' := []) rfl rfl ?_
  refine g_aload_n C dX3_lettersOf_4 0 rfl ?_
  refine g_getf C fX3_16 0 rfl rfl dX3_lettersOf_5 ?_
  refine g_aload_n C dX3_lettersOf_8 0 rfl ?_
  refine g_getf C fX3_12 0 rfl rfl dX3_lettersOf_9 ?_
  refine g_callV (wr := ((wV h (ad 0) (a2 0) (bd 0) (pd 0) rm lt tk ov) ++ (wT bd cI cG tc tr ft tv tu fc M)) ++ (wP pd cI cG fa fb N)) (st := []) [5, 6, 7, 8, 1, 2, 3, 4] [0, 9, 10, 11, 12, 13, 14, 15, 16, 17, 18, 19, 20, 21, 22, 23, 24, 25, 26, 27, 28, 29, 30, 31, 32, 33, 34, 35, 36, 37, 38, 39, 40] C cX3_147 (met_X1_copyFrom l D cI cG cJ a2 c2 gv gs gd ad cnt hc fv fs fd) ⟨rfl, rfl, by decide, by decide, by decide⟩ (q0 := 5) rfl rfl (by decide) (by decide) rfl rfl (Nat.le_of_ble_eq_true rfl) dX3_lettersOf_12 ?_
  rintro v9 w9 ⟨rfl, rfl⟩
  refine g_ws (w' := ((((wV h (ad 0) (a2 0) (bd 0) (pd 0) rm lt tk ov) ++ (wT bd cI cG tc tr ft tv tu fc M)) ++ (wP pd cI cG fa fb N)) ++ (wS a2 cI (cnt : Int) (cpy gv fv cnt) (cpy gs fs cnt) (cpy gd fd cnt))) ++ (wS ad cI (cnt : Int) fv fs fd)) (st' := []) rfl rfl ?_
  refine g_perm (w' := ((((wV h (ad 0) (a2 0) (bd 0) (pd 0) rm lt tk ov) ++ (wS ad cI (cnt : Int) fv fs fd)) ++ (wS a2 cI (cnt : Int) (cpy gv fv cnt) (cpy gs fs cnt) (cpy gd fd cnt))) ++ (wT bd cI cG tc tr ft tv tu fc M)) ++ (wP pd cI cG fa fb N)) [0, 37, 38, 39, 40, 33, 34, 35, 36, 1, 2, 3, 4, 5, 6, 7, 8, 9, 10, 11, 12, 13, 14, 15, 16, 17, 18, 19, 20, 21, 22, 23, 24, 25, 26, 27, 28, 29, 30, 31, 32] (by decide) rfl ?_
  have hfin : ltr cnt fv rm q 50 fs = ltr cnt (cpy gv fv cnt) rm q 50 (cpy gs fs cnt) := ltr_c hr (by omega) 50 fv (cpy gv fv cnt) fs (cpy gs fs cnt) hS (fun j hj => (cpy_l hj).symm) (fun j hj => (cpy_l hj).symm)
  refine g_iconst C dX3_lettersOf_15 ?_
  refine g_istore_n (L' := [(2, .int (zI 0)), (0, .ref h), (1, .int (zI (q : Int)))]) C dX3_lettersOf_16 (by decide) rfl ?_
  refine g_iconst C dX3_lettersOf_17 ?_
  refine g_istore_n (L' := [(3, .int (zI 0)), (2, .int (zI 0)), (0, .ref h), (1, .int (zI (q : Int)))]) C dX3_lettersOf_18 (by decide) rfl ?_
  have loop_19 : ∀ (fu : Nat) (k : Nat) (t : Nat) (gs1 : Nat → Int) (gd1 : Nat → Int) (tc1 : Int) (tr1 : Int) (ft0 : Nat → Int) (tv0 : Nat → Int) (tu0 : Nat → Int) (fc0 : Nat → Int) (M0 : Nat → Nat → Int), (hk : k ≤ t) → (ht : t ≤ 50) → (hSg : Sok cnt (cpy gv fv cnt) gs1) → (hl : ltr cnt (cpy gv fv cnt) rm q 50 (cpy gs fs cnt) = t + ltr cnt (cpy gv fv cnt) rm q (50 - t) gs1) → 50 - k < fu → gW E 1 6 (((((wV h (ad 0) (a2 0) (bd 0) (pd 0) rm lt tk ov) ++ (wS ad cI (cnt : Int) fv fs fd)) ++ (wS a2 cI (cnt : Int) (cpy gv fv cnt) gs1 gd1)) ++ (wT bd cI cG tc1 tr1 ft0 tv0 tu0 fc0 M0)) ++ (wP pd cI cG fa fb N)) 19 [(3, .int (zI (k : Int))), (2, .int (zI (t : Int))), (0, .ref h), (1, .int (zI (q : Int)))] [] := by
    intro fu
    induction fu with
    | zero => intro k t gs1 gd1 tc1 tr1 ft0 tv0 tu0 fc0 M0 hk ht hSg hl h9; exact absurd h9 (Nat.not_lt_zero _)
    | succ fu ih_19 =>
      intro k t gs1 gd1 tc1 tr1 ft0 tv0 tu0 fc0 M0 hk ht hSg hl hmu_19
      refine g_iload_n C dX3_lettersOf_19 0 rfl ?_
      refine g_bipush C dX3_lettersOf_20 (by decide) ?_
      refine g_icmp_ge 123 C dX3_lettersOf_22 (by decide) (zr_i (by omega) (by omega)) (zr_i (by omega) (by omega)) (fun c_22 => ?_) (fun c_22 => ?_)
      · refine g_iload_n C dX3_lettersOf_123 1 rfl ?_
        exact ret _ _ _ _ _ _ (by decide) (by decide) dX3_lettersOf_124 (⟨⟨hp9, by rw [show ((q : Int)).toNat = q from rfl, hfin, hl, show t = 50 by omega] <;> rfl⟩, ⟨_, _, _, _, _, _, _, _, _, _, _, _, _, _, rfl⟩⟩)
      · refine g_iload_n C dX3_lettersOf_25 1 rfl ?_
        refine g_bipush C dX3_lettersOf_26 (by decide) ?_
        refine g_icmp_ge 123 C dX3_lettersOf_28 (by decide) (zr_i (by omega) (by omega)) (zr_i (by omega) (by omega)) (fun c_28 => ?_) (fun c_28 => ?_)
        · refine g_iload_n C dX3_lettersOf_123 1 rfl ?_
          exact ret _ _ _ _ _ _ (by decide) (by decide) dX3_lettersOf_124 (⟨⟨hp9, by rw [show ((q : Int)).toNat = q from rfl, hfin, hl, show t = 50 by omega] <;> rfl⟩, ⟨_, _, _, _, _, _, _, _, _, _, _, _, _, _, rfl⟩⟩)
        · refine g_aload_n C dX3_lettersOf_31 2 rfl ?_
          refine g_getf C fX3_22 0 rfl rfl dX3_lettersOf_32 ?_
          refine g_aload_n C dX3_lettersOf_35 2 rfl ?_
          refine g_getf C fX3_16 0 rfl rfl dX3_lettersOf_36 ?_
          refine g_aload_n C dX3_lettersOf_39 2 rfl ?_
          refine g_getf C fX3_33 0 rfl rfl dX3_lettersOf_40 ?_
          refine g_callV (wr := ((wV h (ad 0) (a2 0) (bd 0) (pd 0) rm lt tk ov) ++ (wS ad cI (cnt : Int) fv fs fd)) ++ (wP pd cI cG fa fb N)) (st := []) [9, 10, 11, 12, 13, 14, 15, 16, 17, 18, 19, 20, 21, 22, 23, 5, 6, 7, 8] [0, 1, 2, 3, 4, 24, 25, 26, 27, 28, 29, 30, 31, 32, 33, 34, 35, 36, 37, 38, 39, 40] C cX3_85 (met_X2_fill l D cI cG cJ a2 cnt hc (cpy gv fv cnt) gs1 gd1 bd tc1 tr1 ft0 tv0 tu0 fc0 M0 hSg rm hr) ⟨rfl, rfl, by decide, by decide, by decide⟩ (q0 := 9) rfl rfl (by decide) (by decide) rfl rfl (Nat.le_of_ble_eq_true rfl) dX3_lettersOf_43 ?_
          rintro v9 w9 ⟨rfl, ft1, tv1, tu1, M1, ⟨hR, hM⟩, rfl⟩
          refine g_ws (w' := ((((wV h (ad 0) (a2 0) (bd 0) (pd 0) rm lt tk ov) ++ (wS ad cI (cnt : Int) fv fs fd)) ++ (wP pd cI cG fa fb N)) ++ (wT bd cI cG (cnt : Int) rm ft1 tv1 tu1 fc0 M1)) ++ (wS a2 cI (cnt : Int) (cpy gv fv cnt) gs1 gd1)) (st' := []) rfl rfl ?_
          refine g_perm (w' := ((((wV h (ad 0) (a2 0) (bd 0) (pd 0) rm lt tk ov) ++ (wS ad cI (cnt : Int) fv fs fd)) ++ (wS a2 cI (cnt : Int) (cpy gv fv cnt) gs1 gd1)) ++ (wT bd cI cG (cnt : Int) rm ft1 tv1 tu1 fc0 M1)) ++ (wP pd cI cG fa fb N)) [0, 1, 2, 3, 4, 37, 38, 39, 40, 22, 23, 24, 25, 26, 27, 28, 29, 30, 31, 32, 33, 34, 35, 36, 5, 6, 7, 8, 9, 10, 11, 12, 13, 14, 15, 16, 17, 18, 19, 20, 21] (by decide) rfl ?_
          refine g_aload_n C dX3_lettersOf_46 2 rfl ?_
          refine g_getf C fX3_22 0 rfl rfl dX3_lettersOf_47 ?_
          refine g_iload_n C dX3_lettersOf_50 3 rfl ?_
          refine g_callV (wr := (((wV h (ad 0) (a2 0) (bd 0) (pd 0) rm lt tk ov) ++ (wS ad cI (cnt : Int) fv fs fd)) ++ (wS a2 cI (cnt : Int) (cpy gv fv cnt) gs1 gd1)) ++ (wP pd cI cG fa fb N)) (st := []) [9, 10, 11, 12, 13, 14, 15, 16, 17, 18, 19, 20, 21, 22, 23] [0, 1, 2, 3, 4, 5, 6, 7, 8, 24, 25, 26, 27, 28, 29, 30, 31, 32, 33, 34, 35, 36, 37, 38, 39, 40] C cX3_89 (met_X2_leastSum l D cI cG cJ bd cnt hc rm hr ft1 tv1 tu1 fc0 M1 (fun r j h1 h2 => hM.bd hSg (Nat.zero_le _) h1 h2) q (by omega)) ⟨rfl, rfl, by decide, by decide, by decide⟩ (q0 := 9) rfl rfl (by decide) (by decide) rfl rfl (Nat.le_of_ble_eq_true rfl) dX3_lettersOf_51 ?_
          rintro v9 w9 ⟨z9, rfl, rfl, rfl⟩
          refine g_ws (w' := ((((wV h (ad 0) (a2 0) (bd 0) (pd 0) rm lt tk ov) ++ (wS ad cI (cnt : Int) fv fs fd)) ++ (wS a2 cI (cnt : Int) (cpy gv fv cnt) gs1 gd1)) ++ (wP pd cI cG fa fb N)) ++ (wT bd cI cG (cnt : Int) rm ft1 tv1 tu1 fc0 M1)) (st' := [.int (zI (fsm (M1 0) rm (360 - q) q))]) rfl rfl ?_
          refine g_perm (w' := ((((wV h (ad 0) (a2 0) (bd 0) (pd 0) rm lt tk ov) ++ (wS ad cI (cnt : Int) fv fs fd)) ++ (wS a2 cI (cnt : Int) (cpy gv fv cnt) gs1 gd1)) ++ (wT bd cI cG (cnt : Int) rm ft1 tv1 tu1 fc0 M1)) ++ (wP pd cI cG fa fb N)) [0, 1, 2, 3, 4, 5, 6, 7, 8, 26, 27, 28, 29, 30, 31, 32, 33, 34, 35, 36, 37, 38, 39, 40, 9, 10, 11, 12, 13, 14, 15, 16, 17, 18, 19, 20, 21, 22, 23, 24, 25] (by decide) rfl ?_
          have hrg := LSm_rg (cnt := cnt) (fv := (cpy gv fv cnt)) (fs := gs1) (rm := rm) (p := q) (by omega)
          refine g_top (LSm cnt (cpy gv fv cnt) gs1 rm q) (hM.ls (by omega)) ?_
          refine g_istore (L' := [(4, .int (zI (LSm cnt (cpy gv fv cnt) gs1 rm q))), (3, .int (zI (k : Int))), (2, .int (zI (t : Int))), (0, .ref h), (1, .int (zI (q : Int)))]) C dX3_lettersOf_54 (by decide) rfl ?_
          refine g_iload C dX3_lettersOf_56 0 rfl ?_
          refine g_iconst C dX3_lettersOf_58 ?_
          refine g_icmp_ne 65 C dX3_lettersOf_59 (by decide) (zr_i (by omega) (by omega)) (zr_i (by omega) (by omega)) (fun c_59 => ?_) (fun c_59 => ?_)
          · refine g_aload_n C dX3_lettersOf_65 3 rfl ?_
            refine g_getf C fX3_22 0 rfl rfl dX3_lettersOf_66 ?_
            refine g_iload C dX3_lettersOf_69 0 rfl ?_
            refine g_top (((LSm cnt (cpy gv fv cnt) gs1 rm q).toNat : Nat) : Int) (by omega) ?_
            refine g_callV (wr := (((wV h (ad 0) (a2 0) (bd 0) (pd 0) rm lt tk ov) ++ (wS ad cI (cnt : Int) fv fs fd)) ++ (wS a2 cI (cnt : Int) (cpy gv fv cnt) gs1 gd1)) ++ (wP pd cI cG fa fb N)) (st := []) [9, 10, 11, 12, 13, 14, 15, 16, 17, 18, 19, 20, 21, 22, 23] [0, 1, 2, 3, 4, 5, 6, 7, 8, 24, 25, 26, 27, 28, 29, 30, 31, 32, 33, 34, 35, 36, 37, 38, 39, 40] C cX3_93 (met_X2_choose l D cI cG cJ bd cnt hc rm hr ft1 tv1 tu1 fc0 M1 (fun r j h1 h2 => hM.bd hSg (Nat.zero_le _) h1 h2) (hR.tv hSg) (hR.tu hSg hr) (fun r h9 => by have := hR.ft hSg r h9; omega) (LSm cnt (cpy gv fv cnt) gs1 rm q).toNat (by omega)) ⟨rfl, rfl, by decide, by decide, by decide⟩ (q0 := 9) rfl rfl (by decide) (by decide) rfl rfl (Nat.le_of_ble_eq_true rfl) dX3_lettersOf_71 ?_
            rintro v9 w9 ⟨rfl, rfl⟩
            refine g_ws (w' := ((((wV h (ad 0) (a2 0) (bd 0) (pd 0) rm lt tk ov) ++ (wS ad cI (cnt : Int) fv fs fd)) ++ (wS a2 cI (cnt : Int) (cpy gv fv cnt) gs1 gd1)) ++ (wP pd cI cG fa fb N)) ++ (wT bd cI cG (cnt : Int) rm ft1 tv1 tu1 (chU M1 ft1 tv1 tu1 fc0 (LSm cnt (cpy gv fv cnt) gs1 rm q).toNat cnt) M1)) (st' := []) rfl rfl ?_
            refine g_perm (w' := ((((wV h (ad 0) (a2 0) (bd 0) (pd 0) rm lt tk ov) ++ (wS ad cI (cnt : Int) fv fs fd)) ++ (wS a2 cI (cnt : Int) (cpy gv fv cnt) gs1 gd1)) ++ (wT bd cI cG (cnt : Int) rm ft1 tv1 tu1 (chU M1 ft1 tv1 tu1 fc0 (LSm cnt (cpy gv fv cnt) gs1 rm q).toNat cnt) M1)) ++ (wP pd cI cG fa fb N)) [0, 1, 2, 3, 4, 5, 6, 7, 8, 26, 27, 28, 29, 30, 31, 32, 33, 34, 35, 36, 37, 38, 39, 40, 9, 10, 11, 12, 13, 14, 15, 16, 17, 18, 19, 20, 21, 22, 23, 24, 25] (by decide) rfl ?_
            have hch : ∀ j, j < cnt → (chU M1 ft1 tv1 tu1 fc0 (LSm cnt (cpy gv fv cnt) gs1 rm q).toNat cnt) j = CH cnt (cpy gv fv cnt) gs1 rm (LSm cnt (cpy gv fv cnt) gs1 rm q).toNat j := fun j hj => chU_CH (by omega) hSg hR hM j hj
            have loop_74 : ∀ (fu : Nat) (t2 : Nat) (gs2 : Nat → Int) (gd2 : Nat → Int), (ht2 : t2 ≤ 50) → (hG2 : ∀ j, j < cnt → 0 ≤ gs2 j ∧ gs2 j ≤ gs1 j) → (hpr : (gs2 = gs1 ∧ k ≤ t2) ∨ k + 1 ≤ t2) → (hl2 : ltr cnt (cpy gv fv cnt) rm q 50 (cpy gs fs cnt) = t2 + ltr cnt (cpy gv fv cnt) rm q (50 - t2) gs2) → 50 - t2 < fu → gW E 1 6 (((((wV h (ad 0) (a2 0) (bd 0) (pd 0) rm lt tk ov) ++ (wS ad cI (cnt : Int) fv fs fd)) ++ (wS a2 cI (cnt : Int) (cpy gv fv cnt) gs2 gd2)) ++ (wT bd cI cG (cnt : Int) rm ft1 tv1 tu1 (chU M1 ft1 tv1 tu1 fc0 (LSm cnt (cpy gv fv cnt) gs1 rm q).toNat cnt) M1)) ++ (wP pd cI cG fa fb N)) 74 [(2, .int (zI (t2 : Int))), (4, .int (zI (LSm cnt (cpy gv fv cnt) gs1 rm q))), (3, .int (zI (k : Int))), (0, .ref h), (1, .int (zI (q : Int)))] [] := by
              intro fu
              induction fu with
              | zero => intro t2 gs2 gd2 ht2 hG2 hpr hl2 h9; exact absurd h9 (Nat.not_lt_zero _)
              | succ fu ih_74 =>
                intro t2 gs2 gd2 ht2 hG2 hpr hl2 hmu_74
                have hS2 : Sok cnt (cpy gv fv cnt) gs2 := ⟨hSg.1, fun j hj => by have := hG2 j hj; have := hSg.2.1 j hj; omega, hSg.2.2⟩
                refine g_iload_n C dX3_lettersOf_74 0 rfl ?_
                refine g_bipush C dX3_lettersOf_75 (by decide) ?_
                refine g_icmp_ge 117 C dX3_lettersOf_77 (by decide) (zr_i (by omega) (by omega)) (zr_i (by omega) (by omega)) (fun c_77 => ?_) (fun c_77 => ?_)
                · have hpg : k + 1 ≤ 51 := by omega
                  refine g_iinc (L' := [(3, .int (zI ((k : Int) + 1))), (2, .int (zI (t2 : Int))), (4, .int (zI (LSm cnt (cpy gv fv cnt) gs1 rm q))), (0, .ref h), (1, .int (zI (q : Int)))]) C dX3_lettersOf_117 2 rfl (by decide) rfl ?_
                  refine g_goto 19 C dX3_lettersOf_120 (by decide) ?_
                  refine g_loc (L' := [(3, .int (zI ((k : Int) + 1))), (2, .int (zI (t2 : Int))), (0, .ref h), (1, .int (zI (q : Int)))]) [0, 1, 3, 4] rfl ?_
                  exact ih_19 (k + 1) t2 gs2 gd2 (cnt : Int) rm ft1 tv1 tu1 (chU M1 ft1 tv1 tu1 fc0 (LSm cnt (cpy gv fv cnt) gs1 rm q).toNat cnt) M1 (by omega) ht2 hS2 hl2 (by omega)
                · refine g_aload_n C dX3_lettersOf_80 3 rfl ?_
                  refine g_getf C fX3_16 0 rfl rfl dX3_lettersOf_81 ?_
                  refine g_aload_n C dX3_lettersOf_84 3 rfl ?_
                  refine g_getf C fX3_22 0 rfl rfl dX3_lettersOf_85 ?_
                  refine g_getf C fX3_96 9 rfl rfl dX3_lettersOf_88 ?_
                  refine g_callV (wr := ((wV h (ad 0) (a2 0) (bd 0) (pd 0) rm lt tk ov) ++ (wS ad cI (cnt : Int) fv fs fd)) ++ (wP pd cI cG fa fb N)) (st := []) [5, 6, 7, 8, 9, 10, 11, 12, 13, 14, 15, 16, 17, 18, 19, 20, 21, 22, 23] [0, 1, 2, 3, 4, 24, 25, 26, 27, 28, 29, 30, 31, 32, 33, 34, 35, 36, 37, 38, 39, 40] C cX3_150 (met_X1_holds l D cI cG cJ a2 cnt hc (cpy gv fv cnt) gs2 gd2 bd (cnt : Int) rm ft1 tv1 tu1 (chU M1 ft1 tv1 tu1 fc0 (LSm cnt (cpy gv fv cnt) gs1 rm q).toNat cnt) M1 (fun j hj => ⟨by have := hG2 j hj; have := hSg.2.1 j hj; exact zr_i (by omega) (by omega), by have h5 := CH_le (rm := rm) (s := (LSm cnt (cpy gv fv cnt) gs1 rm q).toNat) hSg hr hj; rw [hch j hj]; exact zr_i (by omega) (by omega)⟩)) ⟨rfl, rfl, by decide, by decide, by decide⟩ (q0 := 5) rfl rfl (by decide) (by decide) rfl rfl (Nat.le_of_ble_eq_true rfl) dX3_lettersOf_91 ?_
                  rintro v9 w9 ⟨z9, rfl, hz, rfl⟩
                  refine g_ws (w' := ((((wV h (ad 0) (a2 0) (bd 0) (pd 0) rm lt tk ov) ++ (wS ad cI (cnt : Int) fv fs fd)) ++ (wP pd cI cG fa fb N)) ++ (wS a2 cI (cnt : Int) (cpy gv fv cnt) gs2 gd2)) ++ (wT bd cI cG (cnt : Int) rm ft1 tv1 tu1 (chU M1 ft1 tv1 tu1 fc0 (LSm cnt (cpy gv fv cnt) gs1 rm q).toNat cnt) M1)) (st' := [.int (zI z9)]) rfl rfl ?_
                  refine g_perm (w' := ((((wV h (ad 0) (a2 0) (bd 0) (pd 0) rm lt tk ov) ++ (wS ad cI (cnt : Int) fv fs fd)) ++ (wS a2 cI (cnt : Int) (cpy gv fv cnt) gs2 gd2)) ++ (wT bd cI cG (cnt : Int) rm ft1 tv1 tu1 (chU M1 ft1 tv1 tu1 fc0 (LSm cnt (cpy gv fv cnt) gs1 rm q).toNat cnt) M1)) ++ (wP pd cI cG fa fb N)) [0, 1, 2, 3, 4, 22, 23, 24, 25, 26, 27, 28, 29, 30, 31, 32, 33, 34, 35, 36, 37, 38, 39, 40, 5, 6, 7, 8, 9, 10, 11, 12, 13, 14, 15, 16, 17, 18, 19, 20, 21] (by decide) rfl ?_
                  refine g_if_eq 117 C dX3_lettersOf_94 (by decide) (by rcases hz with ⟨rfl, -⟩ | ⟨rfl, -⟩ <;> exact zr_i (by omega) (by omega)) (fun c_94 => ?_) (fun c_94 => ?_)
                  · have hno : ∃ j, j < cnt ∧ gs2 j < (chU M1 ft1 tv1 tu1 fc0 (LSm cnt (cpy gv fv cnt) gs1 rm q).toNat cnt) j := hz.elim (fun q => absurd q.1 (by omega)) (fun q => q.2)
                    have hpg : k + 1 ≤ t2 := by
                      rcases hpr with ⟨h1, h2⟩ | h1
                      · obtain ⟨j, hj, h3⟩ := hno
                        have h5 := CH_le (rm := rm) (s := (LSm cnt (cpy gv fv cnt) gs1 rm q).toNat) hSg hr hj
                        rw [hch j hj, h1] at h3
                        omega
                      · exact h1
                    refine g_iinc (L' := [(3, .int (zI ((k : Int) + 1))), (2, .int (zI (t2 : Int))), (4, .int (zI (LSm cnt (cpy gv fv cnt) gs1 rm q))), (0, .ref h), (1, .int (zI (q : Int)))]) C dX3_lettersOf_117 2 rfl (by decide) rfl ?_
                    refine g_goto 19 C dX3_lettersOf_120 (by decide) ?_
                    refine g_loc (L' := [(3, .int (zI ((k : Int) + 1))), (2, .int (zI (t2 : Int))), (0, .ref h), (1, .int (zI (q : Int)))]) [0, 1, 3, 4] rfl ?_
                    exact ih_19 (k + 1) t2 gs2 gd2 (cnt : Int) rm ft1 tv1 tu1 (chU M1 ft1 tv1 tu1 fc0 (LSm cnt (cpy gv fv cnt) gs1 rm q).toNat cnt) M1 (by omega) ht2 hS2 hl2 (by omega)
                  · have hle : ∀ j, j < cnt → (chU M1 ft1 tv1 tu1 fc0 (LSm cnt (cpy gv fv cnt) gs1 rm q).toNat cnt) j ≤ gs2 j := hz.elim (fun q => q.2) (fun q => absurd q.1 c_94)
                    refine g_aload_n C dX3_lettersOf_97 3 rfl ?_
                    refine g_getf C fX3_16 0 rfl rfl dX3_lettersOf_98 ?_
                    refine g_aload_n C dX3_lettersOf_101 3 rfl ?_
                    refine g_getf C fX3_22 0 rfl rfl dX3_lettersOf_102 ?_
                    refine g_getf C fX3_96 9 rfl rfl dX3_lettersOf_105 ?_
                    refine g_callV (wr := ((wV h (ad 0) (a2 0) (bd 0) (pd 0) rm lt tk ov) ++ (wS ad cI (cnt : Int) fv fs fd)) ++ (wP pd cI cG fa fb N)) (st := []) [5, 6, 7, 8, 9, 10, 11, 12, 13, 14, 15, 16, 17, 18, 19, 20, 21, 22, 23] [0, 1, 2, 3, 4, 24, 25, 26, 27, 28, 29, 30, 31, 32, 33, 34, 35, 36, 37, 38, 39, 40] C cX3_99 (met_X1_take l D cI cG cJ a2 cnt hc (cpy gv fv cnt) gs2 gd2 bd (cnt : Int) rm ft1 tv1 tu1 (chU M1 ft1 tv1 tu1 fc0 (LSm cnt (cpy gv fv cnt) gs1 rm q).toNat cnt) M1) ⟨rfl, rfl, by decide, by decide, by decide⟩ (q0 := 5) rfl rfl (by decide) (by decide) rfl rfl (Nat.le_of_ble_eq_true rfl) dX3_lettersOf_108 ?_
                    rintro v9 w9 ⟨rfl, rfl⟩
                    refine g_ws (w' := ((((wV h (ad 0) (a2 0) (bd 0) (pd 0) rm lt tk ov) ++ (wS ad cI (cnt : Int) fv fs fd)) ++ (wP pd cI cG fa fb N)) ++ (wS a2 cI (cnt : Int) (cpy gv fv cnt) (cpy gs2 (fun j => gs2 j - (chU M1 ft1 tv1 tu1 fc0 (LSm cnt (cpy gv fv cnt) gs1 rm q).toNat cnt) j) cnt) (cpy gd2 (fun j => gd2 j + (chU M1 ft1 tv1 tu1 fc0 (LSm cnt (cpy gv fv cnt) gs1 rm q).toNat cnt) j) cnt))) ++ (wT bd cI cG (cnt : Int) rm ft1 tv1 tu1 (chU M1 ft1 tv1 tu1 fc0 (LSm cnt (cpy gv fv cnt) gs1 rm q).toNat cnt) M1)) (st' := []) rfl rfl ?_
                    refine g_perm (w' := ((((wV h (ad 0) (a2 0) (bd 0) (pd 0) rm lt tk ov) ++ (wS ad cI (cnt : Int) fv fs fd)) ++ (wS a2 cI (cnt : Int) (cpy gv fv cnt) (cpy gs2 (fun j => gs2 j - (chU M1 ft1 tv1 tu1 fc0 (LSm cnt (cpy gv fv cnt) gs1 rm q).toNat cnt) j) cnt) (cpy gd2 (fun j => gd2 j + (chU M1 ft1 tv1 tu1 fc0 (LSm cnt (cpy gv fv cnt) gs1 rm q).toNat cnt) j) cnt))) ++ (wT bd cI cG (cnt : Int) rm ft1 tv1 tu1 (chU M1 ft1 tv1 tu1 fc0 (LSm cnt (cpy gv fv cnt) gs1 rm q).toNat cnt) M1)) ++ (wP pd cI cG fa fb N)) [0, 1, 2, 3, 4, 22, 23, 24, 25, 26, 27, 28, 29, 30, 31, 32, 33, 34, 35, 36, 37, 38, 39, 40, 5, 6, 7, 8, 9, 10, 11, 12, 13, 14, 15, 16, 17, 18, 19, 20, 21] (by decide) rfl ?_
                    refine g_iinc (L' := [(2, .int (zI ((t2 : Int) + 1))), (4, .int (zI (LSm cnt (cpy gv fv cnt) gs1 rm q))), (3, .int (zI (k : Int))), (0, .ref h), (1, .int (zI (q : Int)))]) C dX3_lettersOf_111 0 rfl (by decide) rfl ?_
                    refine g_goto 74 C dX3_lettersOf_114 (by decide) ?_
                    have hch : ∀ j, j < cnt → (chU M1 ft1 tv1 tu1 fc0 (LSm cnt (cpy gv fv cnt) gs1 rm q).toNat cnt) j = CH cnt (cpy gv fv cnt) gs1 rm (LSm cnt (cpy gv fv cnt) gs1 rm q).toNat j := fun j hj => chU_CH (by omega) hSg hR hM j hj
                    refine g_loc (L' := [(2, .int (zI ((t2 : Int) + 1))), (4, .int (zI (LSm cnt (cpy gv fv cnt) gs1 rm q))), (3, .int (zI (k : Int))), (0, .ref h), (1, .int (zI (q : Int)))]) [0, 1, 2, 3, 4] rfl ?_
                    exact ih_74 (t2 + 1) (sbS cnt gs2 (chU M1 ft1 tv1 tu1 fc0 (LSm cnt (cpy gv fv cnt) gs1 rm q).toNat cnt)) (cpy gd2 (fun j => gd2 j + (chU M1 ft1 tv1 tu1 fc0 (LSm cnt (cpy gv fv cnt) gs1 rm q).toNat cnt) j) cnt) (by omega) (fun j hj => by
                     have h5 := CH_le (rm := rm) (s := (LSm cnt (cpy gv fv cnt) gs1 rm q).toNat) hSg hr hj
                     have h6 := hG2 j hj
                     have h7 := hle j hj
                     have h8 := hch j hj
                     show 0 ≤ cpy gs2 _ cnt j ∧ cpy gs2 _ cnt j ≤ gs1 j
                     rw [cpy_l hj]
                     omega) (Or.inr (by omega)) (by
                     rw [hl2, show 50 - t2 = (50 - (t2 + 1)) + 1 by omega, ltr_more (c := (chU M1 ft1 tv1 tu1 fc0 (LSm cnt (cpy gv fv cnt) gs1 rm q).toNat cnt)) hSg hr (by omega) c_59 hG2 hch hle]
                     omega) (by omega)
            refine g_loc (L' := [(2, .int (zI (t : Int))), (4, .int (zI (LSm cnt (cpy gv fv cnt) gs1 rm q))), (3, .int (zI (k : Int))), (0, .ref h), (1, .int (zI (q : Int)))]) [2, 0, 1, 3, 4] rfl ?_
            exact loop_74 _ t gs1 gd1 ht (fun j hj => ⟨(hSg.2.1 j hj).1, Int.le_refl _⟩) (Or.inl ⟨rfl, hk⟩) hl (Nat.lt_succ_self _)
          · have hz0 := ltr_0 (n := 50 - t) c_59
            refine g_goto 123 C dX3_lettersOf_62 (by decide) ?_
            refine g_iload_n C dX3_lettersOf_123 2 rfl ?_
            exact ret _ _ _ _ _ _ (by decide) (by decide) dX3_lettersOf_124 (⟨⟨hp9, by rw [show ((q : Int)).toNat = q from rfl, hfin, hl, hz0] <;> rfl⟩, ⟨_, _, _, _, _, _, _, _, _, _, _, _, _, _, rfl⟩⟩)
  refine g_loc (L' := [(3, .int (zI 0)), (2, .int (zI 0)), (0, .ref h), (1, .int (zI (q : Int)))]) [0, 1, 2, 3] rfl ?_
  exact loop_19 _ 0 0 (cpy gs fs cnt) (cpy gd fd cnt) tc tr ft tv tu fc M (Nat.le_refl _) (Nat.zero_le _) (⟨fun j hj => by rw [cpy_l hj]; exact hS.1 j hj, fun j hj => by rw [cpy_l hj]; exact hS.2.1 j hj, fun a b ha hb h => hS.2.2 a b ha hb (by rw [cpy_l ha, cpy_l hb] at h; exact h)⟩) ((Nat.zero_add _).symm) (Nat.lt_succ_self _)
