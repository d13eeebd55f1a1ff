abbrev rmX3_bestValue : Room := { frames := 2, cells := 0, slots := 0, locals := 80 }
set_option maxHeartbeats 4000000 in
set_option maxRecDepth 100000 in
theorem met_X3_bestValue (l : Launch) (D : va_G) (cI cG cJ : ClassId) (h : Nat) (ad a2 bd pd : Nat → Nat) (cnt : Nat) (fv fs fd : Nat → Int) (rm lt tk ov : Int) (hI : XI cnt fv fs rm) (c2 : Int) (gv gs gd : Nat → Int) (tc tr : Int) (ft tv tu fc : Nat → Int) (M : Nat → Nat → Int) (fa fb : Nat → Int) (N : Nat → Nat → Int)  : gMet l yX3_bestValue cX3_bestValue 5 (some .int) rmX3_bestValue D cI cG cJ [.ref h] (((((wV h (ad 0) (a2 0) (bd 0) (pd 0) rm lt tk ov) ++ (wS ad cI (cnt : Int) fv fs fd)) ++ (wS a2 cI c2 gv gs gd)) ++ (wT bd cI cG tc tr ft tv tu fc M)) ++ (wP pd cI cG fa fb N)) (gI (fun z w9 => z = ((bvF fv cnt rm 60).1) ∧ XW h ad a2 bd pd cI cG cnt fv fs fd rm lt tk ov w9)) := by
  obtain ⟨hc, hS, h99, hr1, hr2⟩ := id hI
  have hr : 0 ≤ rm ∧ rm ≤ 12 := ⟨by omega, hr2⟩
  have hv1 : ∀ j, j < cnt → 1 ≤ fv j := fun j hj => (hS.1 j hj).1
  refine gMet_I (by decide) rfl (Nat.le_of_ble_eq_true rfl) (fun E C ret => ?_)
  refine g_aload_n C dX3_bestValue_0 0 rfl ?_
  refine g_getf C fX3_29 0 rfl rfl dX3_bestValue_1 ?_
  refine g_aload_n C dX3_bestValue_4 0 rfl ?_
  refine g_getf C fX3_12 0 rfl rfl dX3_bestValue_5 ?_
  refine g_callV (wr := ((wV h (ad 0) (a2 0) (bd 0) (pd 0) rm lt tk ov) ++ (wS a2 cI c2 gv gs gd)) ++ (wT bd cI cG tc tr ft tv tu fc M)) (st := []) [24, 25, 26, 27, 28, 29, 30, 31, 32, 33, 34, 35, 36, 37, 38, 39, 40, 1, 2, 3, 4] [0, 5, 6, 7, 8, 9, 10, 11, 12, 13, 14, 15, 16, 17, 18, 19, 20, 21, 22, 23] C cX3_128 (met_X0_fill l D cI cG cJ ad cnt hc fv fs fd hS.1 pd fa fb N) ⟨rfl, rfl, by decide, by decide, by decide⟩ (q0 := 24) rfl rfl (by decide) (by decide) rfl rfl (Nat.le_of_ble_eq_true rfl) dX3_bestValue_8 ?_
  rintro v9 w9 ⟨rfl, fa1, hP, rfl⟩
  have hb1 := hP.bd2 hv1
  refine g_ws (w' := ((((wV h (ad 0) (a2 0) (bd 0) (pd 0) rm lt tk ov) ++ (wS a2 cI c2 gv gs gd)) ++ (wT bd cI cG tc tr ft tv tu fc M)) ++ (wP pd cI cG fa1 fb N)) ++ (wS ad cI (cnt : Int) fv fs fd)) (st' := []) rfl rfl ?_
  refine g_perm (w' := ((((wV h (ad 0) (a2 0) (bd 0) (pd 0) rm lt tk ov) ++ (wS ad cI (cnt : Int) fv fs fd)) ++ (wS a2 cI c2 gv gs gd)) ++ (wT bd cI cG tc tr ft tv tu fc M)) ++ (wP pd cI cG fa1 fb N)) [0, 37, 38, 39, 40, 1, 2, 3, 4, 5, 6, 7, 8, 9, 10, 11, 12, 13, 14, 15, 16, 17, 18, 19, 20, 21, 22, 23, 24, 25, 26, 27, 28, 29, 30, 31, 32, 33, 34, 35, 36] (by decide) rfl ?_
  refine g_iconst C dX3_bestValue_11 ?_
  refine g_istore_n (L' := [(1, .int (zI (-1))), (0, .ref h)]) C dX3_bestValue_12 (by decide) rfl ?_
  refine g_iconst C dX3_bestValue_13 ?_
  refine g_istore_n (L' := [(2, .int (zI (-1))), (1, .int (zI (-1))), (0, .ref h)]) C dX3_bestValue_14 (by decide) rfl ?_
  refine g_iconst C dX3_bestValue_15 ?_
  refine g_istore_n (L' := [(3, .int (zI 1)), (2, .int (zI (-1))), (1, .int (zI (-1))), (0, .ref h)]) C dX3_bestValue_16 (by decide) rfl ?_
  have loop_17 : ∀ (fu : Nat) (i : Nat) (fb1 : Nat → Int), (hi : i ≤ 60) → 60 - i < fu → gW E 0 0 (((((wV h (ad 0) (a2 0) (bd 0) (pd 0) rm lt tk ov) ++ (wS ad cI (cnt : Int) fv fs fd)) ++ (wS a2 cI c2 gv gs gd)) ++ (wT bd cI cG tc tr ft tv tu fc M)) ++ (wP pd cI cG fa1 fb1 N)) 17 [(3, .int (zI ((i + 1 : Nat) : Int))), (2, .int (zI ((bvF fv cnt rm i).2))), (1, .int (zI ((bvF fv cnt rm i).1))), (0, .ref h)] [] := by
    intro fu
    induction fu with
    | zero => intro i fb1 hi h9; exact absurd h9 (Nat.not_lt_zero _)
    | succ fu ih_17 =>
      intro i fb1 hi hmu_17
      have hbb := bv_bd (fv := fv) (cnt := cnt) (rm := rm) i
      refine g_iload_n C dX3_bestValue_17 0 rfl ?_
      refine g_bipush C dX3_bestValue_18 (by decide) ?_
      refine g_icmp_gt 65 C dX3_bestValue_20 (by decide) (zr_i (by omega) (by omega)) (zr_i (by omega) (by omega)) (fun c_20 => ?_) (fun c_20 => ?_)
      · refine g_iload_n C dX3_bestValue_65 2 rfl ?_
        exact ret _ _ _ _ _ _ (by decide) (by decide) dX3_bestValue_66 (⟨by rw [show 60 = i by omega], ⟨_, _, _, _, _, _, _, _, _, _, _, _, _, _, rfl⟩⟩)
      · refine g_aload_n C dX3_bestValue_23 3 rfl ?_
        refine g_getf C fX3_12 0 rfl rfl dX3_bestValue_24 ?_
        refine g_iload_n C dX3_bestValue_27 0 rfl ?_
        refine g_callV (wr := (((wV h (ad 0) (a2 0) (bd 0) (pd 0) rm lt tk ov) ++ (wS a2 cI c2 gv gs gd)) ++ (wT bd cI cG tc tr ft tv tu fc M)) ++ (wP pd cI cG fa1 fb1 N)) (st := []) [1, 2, 3, 4] [0, 5, 6, 7, 8, 9, 10, 11, 12, 13, 14, 15, 16, 17, 18, 19, 20, 21, 22, 23, 24, 25, 26, 27, 28, 29, 30, 31, 32, 33, 34, 35, 36, 37, 38, 39, 40] C cX3_52 (met_X1_hasValue l D cI cG cJ ad cnt hc fv fs fd (fun j hj => by have := hS.1 j hj; exact zr_i (by omega) (by omega)) ((i + 1 : Nat) : Int) (zr_i (by omega) (by omega))) ⟨rfl, rfl, by decide, by decide, by decide⟩ (q0 := 1) rfl rfl (by decide) (by decide) rfl rfl (Nat.le_of_ble_eq_true rfl) dX3_bestValue_28 ?_
        rintro v9 w9 ⟨z9, rfl, hz, rfl⟩
        have hz := hasV_hasB hz
        refine g_ws (w' := ((((wV h (ad 0) (a2 0) (bd 0) (pd 0) rm lt tk ov) ++ (wS a2 cI c2 gv gs gd)) ++ (wT bd cI cG tc tr ft tv tu fc M)) ++ (wP pd cI cG fa1 fb1 N)) ++ (wS ad cI (cnt : Int) fv fs fd)) (st' := [.int (zI z9)]) rfl rfl ?_
        refine g_perm (w' := ((((wV h (ad 0) (a2 0) (bd 0) (pd 0) rm lt tk ov) ++ (wS ad cI (cnt : Int) fv fs fd)) ++ (wS a2 cI c2 gv gs gd)) ++ (wT bd cI cG tc tr ft tv tu fc M)) ++ (wP pd cI cG fa1 fb1 N)) [0, 37, 38, 39, 40, 1, 2, 3, 4, 5, 6, 7, 8, 9, 10, 11, 12, 13, 14, 15, 16, 17, 18, 19, 20, 21, 22, 23, 24, 25, 26, 27, 28, 29, 30, 31, 32, 33, 34, 35, 36] (by decide) rfl ?_
        refine g_if_ne 59 C dX3_bestValue_31 (by decide) (by rcases hz with ⟨rfl, -⟩ | ⟨rfl, -⟩ <;> exact zr_i (by omega) (by omega)) (fun c_31 => ?_) (fun c_31 => ?_)
        · have hz2 : hasB fv ((i + 1 : Nat) : Int) cnt = true := hz.elim (fun q => q.2) (fun q => absurd q.1 c_31)
          refine g_iinc (L' := [(3, .int (zI (((i + 1 : Nat) : Int) + 1))), (2, .int (zI ((bvF fv cnt rm i).2))), (1, .int (zI ((bvF fv cnt rm i).1))), (0, .ref h)]) C dX3_bestValue_59 0 rfl (by decide) rfl ?_
          refine g_goto 17 C dX3_bestValue_62 (by decide) ?_
          refine g_loc (L' := [(3, .int (zI (((i + 1 : Nat) : Int) + 1))), (2, .int (zI ((bvF fv cnt rm i).2))), (1, .int (zI ((bvF fv cnt rm i).1))), (0, .ref h)]) [0, 1, 2, 3] rfl ?_
          refine g_lw (w' := ((((wV h (ad 0) (a2 0) (bd 0) (pd 0) rm lt tk ov) ++ (wS ad cI (cnt : Int) fv fs fd)) ++ (wS a2 cI c2 gv gs gd)) ++ (wT bd cI cG tc tr ft tv tu fc M)) ++ (wP pd cI cG fa1 fb1 N)) (L' := [(3, .int (zI ((i + 1 + 1 : Nat) : Int))), (2, .int (zI ((bvF fv cnt rm (i + 1)).2))), (1, .int (zI ((bvF fv cnt rm (i + 1)).1))), (0, .ref h)]) rfl (by rw [show bvF fv cnt rm (i + 1) = bvF fv cnt rm i from if_pos hz2]; rfl) ?_
          exact ih_17 (i + 1) fb1 (by omega) (by omega)
        · have hz2 : ¬ hasB fv ((i + 1 : Nat) : Int) cnt = true := hz.elim (fun q => absurd q.1 (by omega)) (fun q => by rw [q.2]; decide)
          refine g_aload_n C dX3_bestValue_34 3 rfl ?_
          refine g_getf C fX3_29 0 rfl rfl dX3_bestValue_35 ?_
          refine g_iload_n C dX3_bestValue_38 0 rfl ?_
          refine g_aload_n C dX3_bestValue_39 3 rfl ?_
          refine g_getf C fX3_33 0 rfl rfl dX3_bestValue_40 ?_
          refine g_callV (wr := (((wV h (ad 0) (a2 0) (bd 0) (pd 0) rm lt tk ov) ++ (wS ad cI (cnt : Int) fv fs fd)) ++ (wS a2 cI c2 gv gs gd)) ++ (wT bd cI cG tc tr ft tv tu fc M)) (st := []) [24, 25, 26, 27, 28, 29, 30, 31, 32, 33, 34, 35, 36, 37, 38, 39, 40] [0, 1, 2, 3, 4, 5, 6, 7, 8, 9, 10, 11, 12, 13, 14, 15, 16, 17, 18, 19, 20, 21, 22, 23] C cX3_154 (met_X0_reachWithValue l D cI cG cJ pd fa1 fb1 N hb1 rm hr ((i + 1 : Nat) : Int) ⟨by omega, by omega⟩) ⟨rfl, rfl, by decide, by decide, by decide⟩ (q0 := 24) rfl rfl (by decide) (by decide) rfl rfl (Nat.le_of_ble_eq_true rfl) dX3_bestValue_43 ?_
          rintro v9 w9 ⟨z9, rfl, r, fb2, ⟨rfl, hr3, hG, hq1, hq2⟩, rfl⟩
          have hrp := Gk_rp hv1 (by omega) hr2 hP hr3 hG hq1 hq2
          subst hrp
          refine g_ws (w' := ((((wV h (ad 0) (a2 0) (bd 0) (pd 0) rm lt tk ov) ++ (wS ad cI (cnt : Int) fv fs fd)) ++ (wS a2 cI c2 gv gs gd)) ++ (wT bd cI cG tc tr ft tv tu fc M)) ++ (wP pd cI cG fa1 fb2 N)) (st' := [.int (zI (RP fv cnt ((i + 1 : Nat) : Int) rm : Int))]) rfl rfl ?_
          refine g_perm (w' := ((((wV h (ad 0) (a2 0) (bd 0) (pd 0) rm lt tk ov) ++ (wS ad cI (cnt : Int) fv fs fd)) ++ (wS a2 cI c2 gv gs gd)) ++ (wT bd cI cG tc tr ft tv tu fc M)) ++ (wP pd cI cG fa1 fb2 N)) [0, 1, 2, 3, 4, 5, 6, 7, 8, 9, 10, 11, 12, 13, 14, 15, 16, 17, 18, 19, 20, 21, 22, 23, 24, 25, 26, 27, 28, 29, 30, 31, 32, 33, 34, 35, 36, 37, 38, 39, 40] (by decide) rfl ?_
          refine g_istore (L' := [(4, .int (zI (RP fv cnt ((i + 1 : Nat) : Int) rm : Int))), (3, .int (zI ((i + 1 : Nat) : Int))), (2, .int (zI ((bvF fv cnt rm i).2))), (1, .int (zI ((bvF fv cnt rm i).1))), (0, .ref h)]) C dX3_bestValue_46 (by decide) rfl ?_
          refine g_iload C dX3_bestValue_48 0 rfl ?_
          refine g_iload_n C dX3_bestValue_50 2 rfl ?_
          refine g_icmp_le 59 C dX3_bestValue_51 (by decide) (zr_i (by omega) (by omega)) (zr_i (by omega) (by omega)) (fun c_51 => ?_) (fun c_51 => ?_)
          · refine g_iinc (L' := [(3, .int (zI (((i + 1 : Nat) : Int) + 1))), (4, .int (zI (RP fv cnt ((i + 1 : Nat) : Int) rm : Int))), (2, .int (zI ((bvF fv cnt rm i).2))), (1, .int (zI ((bvF fv cnt rm i).1))), (0, .ref h)]) C dX3_bestValue_59 1 rfl (by decide) rfl ?_
            refine g_goto 17 C dX3_bestValue_62 (by decide) ?_
            refine g_loc (L' := [(3, .int (zI (((i + 1 : Nat) : Int) + 1))), (2, .int (zI ((bvF fv cnt rm i).2))), (1, .int (zI ((bvF fv cnt rm i).1))), (0, .ref h)]) [0, 2, 3, 4] rfl ?_
            refine g_lw (w' := ((((wV h (ad 0) (a2 0) (bd 0) (pd 0) rm lt tk ov) ++ (wS ad cI (cnt : Int) fv fs fd)) ++ (wS a2 cI c2 gv gs gd)) ++ (wT bd cI cG tc tr ft tv tu fc M)) ++ (wP pd cI cG fa1 fb2 N)) (L' := [(3, .int (zI ((i + 1 + 1 : Nat) : Int))), (2, .int (zI ((bvF fv cnt rm (i + 1)).2))), (1, .int (zI ((bvF fv cnt rm (i + 1)).1))), (0, .ref h)]) rfl (by rw [show bvF fv cnt rm (i + 1) = bvF fv cnt rm i from (if_neg hz2).trans (if_neg (by omega))]; rfl) ?_
            exact ih_17 (i + 1) fb2 (by omega) (by omega)
          · refine g_iload C dX3_bestValue_54 0 rfl ?_
            refine g_istore_n (L' := [(2, .int (zI (RP fv cnt ((i + 1 : Nat) : Int) rm : Int))), (4, .int (zI (RP fv cnt ((i + 1 : Nat) : Int) rm : Int))), (3, .int (zI ((i + 1 : Nat) : Int))), (1, .int (zI ((bvF fv cnt rm i).1))), (0, .ref h)]) C dX3_bestValue_56 (by decide) rfl ?_
            refine g_iload_n C dX3_bestValue_57 2 rfl ?_
            refine g_istore_n (L' := [(1, .int (zI ((i + 1 : Nat) : Int))), (2, .int (zI (RP fv cnt ((i + 1 : Nat) : Int) rm : Int))), (4, .int (zI (RP fv cnt ((i + 1 : Nat) : Int) rm : Int))), (3, .int (zI ((i + 1 : Nat) : Int))), (0, .ref h)]) C dX3_bestValue_58 (by decide) rfl ?_
            refine g_iinc (L' := [(3, .int (zI (((i + 1 : Nat) : Int) + 1))), (1, .int (zI ((i + 1 : Nat) : Int))), (2, .int (zI (RP fv cnt ((i + 1 : Nat) : Int) rm : Int))), (4, .int (zI (RP fv cnt ((i + 1 : Nat) : Int) rm : Int))), (0, .ref h)]) C dX3_bestValue_59 3 rfl (by decide) rfl ?_
            refine g_goto 17 C dX3_bestValue_62 (by decide) ?_
            refine g_loc (L' := [(3, .int (zI (((i + 1 : Nat) : Int) + 1))), (2, .int (zI (RP fv cnt ((i + 1 : Nat) : Int) rm : Int))), (1, .int (zI ((i + 1 : Nat) : Int))), (0, .ref h)]) [0, 2, 1, 4] rfl ?_
            refine g_lw (w' := ((((wV h (ad 0) (a2 0) (bd 0) (pd 0) rm lt tk ov) ++ (wS ad cI (cnt : Int) fv fs fd)) ++ (wS a2 cI c2 gv gs gd)) ++ (wT bd cI cG tc tr ft tv tu fc M)) ++ (wP pd cI cG fa1 fb2 N)) (L' := [(3, .int (zI ((i + 1 + 1 : Nat) : Int))), (2, .int (zI ((bvF fv cnt rm (i + 1)).2))), (1, .int (zI ((bvF fv cnt rm (i + 1)).1))), (0, .ref h)]) rfl (by rw [show bvF fv cnt rm (i + 1) = (((i + 1 : Nat) : Int), (RP fv cnt ((i + 1 : Nat) : Int) rm : Int)) from (if_neg hz2).trans (if_pos (by omega))]; rfl) ?_
            exact ih_17 (i + 1) fb2 (by omega) (by omega)
  refine g_loc (L' := [(3, .int (zI 1)), (2, .int (zI (-1))), (1, .int (zI (-1))), (0, .ref h)]) [0, 1, 2, 3] rfl ?_
  exact loop_17 _ 0 fb (Nat.zero_le _) (Nat.lt_succ_self _)
abbrev rmX3_bestToPrint : Room := { frames := 3, cells := 0, slots := 0, locals := 90 }
set_option maxHeartbeats 4000000 in
set_option maxRecDepth 100000 in
theorem met_X3_bestToPrint (l : Launch) (D : va_G) (cI cG cJ : ClassId) (h : Nat) (ad a2 bd pd : Nat → Nat) (cnt : Nat) (fv fs fd : Nat → Int) (rm lt tk ov : Int) (hI : XI cnt fv fs rm) (c2 : Int) (gv gs gd : Nat → Int) (tc tr : Int) (ft tv tu fc : Nat → Int) (M : Nat → Nat → Int) (fa fb : Nat → Int) (N : Nat → Nat → Int)  : gMet l yX3_bestToPrint cX3_bestToPrint 5 (some .int) rmX3_bestToPrint D cI cG cJ [.ref h] (((((wV h (ad 0) (a2 0) (bd 0) (pd 0) rm lt tk ov) ++ (wS ad cI (cnt : Int) fv fs fd)) ++ (wS a2 cI c2 gv gs gd)) ++ (wT bd cI cG tc tr ft tv tu fc M)) ++ (wP pd cI cG fa fb N)) (gI (fun z w9 => z = ((bpF cnt fv fs rm cnt).1) ∧ XW h ad a2 bd pd cI cG cnt fv fs fd rm lt tk ov w9)) := by
  obtain ⟨hc, hS, h99, hr1, hr2⟩ := id hI
  have hr : 0 ≤ rm ∧ rm ≤ 12 := ⟨by omega, hr2⟩
  have hv1 : ∀ j, j < cnt → 1 ≤ fv j := fun j hj => (hS.1 j hj).1
  refine gMet_I (by decide) rfl (Nat.le_of_ble_eq_true rfl) (fun E C ret => ?_)
  refine g_aload_n C dX3_bestToPrint_0 0 rfl ?_
  refine g_getf C fX3_16 0 rfl rfl dX3_bestToPrint_1 ?_
  refine g_aload_n C dX3_bestToPrint_4 0 rfl ?_
  refine g_getf C fX3_12 0 rfl rfl dX3_bestToPrint_5 ?_
  refine g_callV (wr := ((wV h (ad 0) (a2 0) (bd 0) (pd 0) rm lt tk ov) ++ (wT bd cI cG tc tr ft tv tu fc M)) ++ (wP pd cI cG fa fb N)) (st := []) [5, 6, 7, 8, 1, 2, 3, 4] [0, 9, 10, 11, 12, 13, 14, 15, 16, 17, 18, 19, 20, 21, 22, 23, 24, 25, 26, 27, 28, 29, 30, 31, 32, 33, 34, 35, 36, 37, 38, 39, 40] C cX3_147 (met_X1_copyFrom l D cI cG cJ a2 c2 gv gs gd ad cnt hc fv fs fd) ⟨rfl, rfl, by decide, by decide, by decide⟩ (q0 := 5) rfl rfl (by decide) (by decide) rfl rfl (Nat.le_of_ble_eq_true rfl) dX3_bestToPrint_8 ?_
  rintro v9 w9 ⟨rfl, rfl⟩
  refine g_ws (w' := ((((wV h (ad 0) (a2 0) (bd 0) (pd 0) rm lt tk ov) ++ (wT bd cI cG tc tr ft tv tu fc M)) ++ (wP pd cI cG fa fb N)) ++ (wS a2 cI (cnt : Int) (cpy gv fv cnt) (cpy gs fs cnt) (cpy gd fd cnt))) ++ (wS ad cI (cnt : Int) fv fs fd)) (st' := []) rfl rfl ?_
  refine g_perm (w' := ((((wV h (ad 0) (a2 0) (bd 0) (pd 0) rm lt tk ov) ++ (wS ad cI (cnt : Int) fv fs fd)) ++ (wS a2 cI (cnt : Int) (cpy gv fv cnt) (cpy gs fs cnt) (cpy gd fd cnt))) ++ (wT bd cI cG tc tr ft tv tu fc M)) ++ (wP pd cI cG fa fb N)) [0, 37, 38, 39, 40, 33, 34, 35, 36, 1, 2, 3, 4, 5, 6, 7, 8, 9, 10, 11, 12, 13, 14, 15, 16, 17, 18, 19, 20, 21, 22, 23, 24, 25, 26, 27, 28, 29, 30, 31, 32] (by decide) rfl ?_
  refine g_iconst C dX3_bestToPrint_11 ?_
  refine g_istore_n (L' := [(1, .int (zI (-1))), (0, .ref h)]) C dX3_bestToPrint_12 (by decide) rfl ?_
  refine g_iconst C dX3_bestToPrint_13 ?_
  refine g_istore_n (L' := [(2, .int (zI (-1))), (1, .int (zI (-1))), (0, .ref h)]) C dX3_bestToPrint_14 (by decide) rfl ?_
  refine g_iconst C dX3_bestToPrint_15 ?_
  refine g_istore_n (L' := [(3, .int (zI 0)), (2, .int (zI (-1))), (1, .int (zI (-1))), (0, .ref h)]) C dX3_bestToPrint_16 (by decide) rfl ?_
  have loop_17 : ∀ (fu : Nat) (i : Nat) (gs1 : Nat → Int) (tc1 : Int) (tr1 : Int) (ft0 : Nat → Int) (tv0 : Nat → Int) (tu0 : Nat → Int) (M0 : Nat → Nat → Int), (hi : i ≤ cnt) → (hg1 : ∀ j, j < cnt → gs1 j = fs j) → cnt - i < fu → gW E 0 0 (((((wV h (ad 0) (a2 0) (bd 0) (pd 0) rm lt tk ov) ++ (wS ad cI (cnt : Int) fv fs fd)) ++ (wS a2 cI (cnt : Int) (cpy gv fv cnt) gs1 (cpy gd fd cnt))) ++ (wT bd cI cG tc1 tr1 ft0 tv0 tu0 fc M0)) ++ (wP pd cI cG fa fb N)) 17 [(3, .int (zI (i : Int))), (2, .int (zI ((bpF cnt fv fs rm i).2))), (1, .int (zI ((bpF cnt fv fs rm i).1))), (0, .ref h)] [] := by
    intro fu
    induction fu with
    | zero => intro i gs1 tc1 tr1 ft0 tv0 tu0 M0 hi hg1 h9; exact absurd h9 (Nat.not_lt_zero _)
    | succ fu ih_17 =>
      intro i gs1 tc1 tr1 ft0 tv0 tu0 M0 hi hg1 hmu_17
      refine g_iload_n C dX3_bestToPrint_17 0 rfl ?_
      refine g_aload_n C dX3_bestToPrint_18 3 rfl ?_
      refine g_getf C fX3_12 0 rfl rfl dX3_bestToPrint_19 ?_
      refine g_getf C fX3_49 1 rfl rfl dX3_bestToPrint_22 ?_
      refine g_icmp_ge 108 C dX3_bestToPrint_25 (by decide) (zr_i (by omega) (by omega)) (zr_i (by omega) (by omega)) (fun c_25 => ?_) (fun c_25 => ?_)
      · refine g_iload_n C dX3_bestToPrint_108 2 rfl ?_
        exact ret _ _ _ _ _ _ (by decide) (by decide) dX3_bestToPrint_109 (⟨by rw [show cnt = i by omega], ⟨_, _, _, _, _, _, _, _, _, _, _, _, _, _, rfl⟩⟩)
      · refine g_aload_n C dX3_bestToPrint_28 3 rfl ?_
        refine g_getf C fX3_16 0 rfl rfl dX3_bestToPrint_29 ?_
        refine g_getf C fX3_67 5 rfl rfl dX3_bestToPrint_32 ?_
        refine g_iload_n C dX3_bestToPrint_35 0 rfl ?_
        refine g_aload_n C dX3_bestToPrint_36 3 rfl ?_
        refine g_getf C fX3_12 0 rfl rfl dX3_bestToPrint_37 ?_
        refine g_getf C fX3_67 1 rfl rfl dX3_bestToPrint_40 ?_
        refine g_iload_n C dX3_bestToPrint_43 0 rfl ?_
        refine g_iald C 3 rfl (by decide) (by omega) (by omega) (v := (fs i)) rfl dX3_bestToPrint_44 ?_
        refine g_bipush C dX3_bestToPrint_45 (by decide) ?_
        refine g_iadd C dX3_bestToPrint_47 ?_
        refine g_iast (w' := ((((wV h (ad 0) (a2 0) (bd 0) (pd 0) rm lt tk ov) ++ (wS ad cI (cnt : Int) fv fs fd)) ++ (wS a2 cI (cnt : Int) (cpy gv fv cnt) (zU gs1 i ((fs i) + 20)) (cpy gd fd cnt))) ++ (wT bd cI cG tc1 tr1 ft0 tv0 tu0 fc M0)) ++ (wP pd cI cG fa fb N)) C 7 rfl (by decide) (by omega) (by omega) rfl dX3_bestToPrint_48 ?_
        refine g_aload_n C dX3_bestToPrint_49 3 rfl ?_
        refine g_getf C fX3_22 0 rfl rfl dX3_bestToPrint_50 ?_
        refine g_aload_n C dX3_bestToPrint_53 3 rfl ?_
        refine g_getf C fX3_16 0 rfl rfl dX3_bestToPrint_54 ?_
        refine g_aload_n C dX3_bestToPrint_57 3 rfl ?_
        refine g_getf C fX3_33 0 rfl rfl dX3_bestToPrint_58 ?_
        have hSg : Sok cnt (cpy gv fv cnt) (zU gs1 i (fs i + 20)) := ⟨fun j hj => by rw [cpy_l hj]; exact hS.1 j hj, fun j hj => by
                by_cases e : j = i
                · subst e; rw [show zU gs1 j (fs j + 20) j = fs j + 20 from if_pos rfl]; have := h99 j hj; have := hS.2.1 j hj; omega
                · rw [show zU gs1 i (fs i + 20) j = gs1 j from if_neg e, hg1 j hj]; exact hS.2.1 j hj, fun a b ha hb h => hS.2.2 a b ha hb (by rw [cpy_l ha, cpy_l hb] at h; exact h)⟩
        refine g_callV (wr := ((wV h (ad 0) (a2 0) (bd 0) (pd 0) rm lt tk ov) ++ (wS ad cI (cnt : Int) fv fs fd)) ++ (wP pd cI cG fa fb N)) (st := []) [9, 10, 11, 12, 13, 14, 15, 16, 17, 18, 19, 20, 21, 22, 23, 5, 6, 7, 8] [0, 1, 2, 3, 4, 24, 25, 26, 27, 28, 29, 30, 31, 32, 33, 34, 35, 36, 37, 38, 39, 40] C cX3_85 (met_X2_fill l D cI cG cJ a2 cnt hc (cpy gv fv cnt) (zU gs1 i (fs i + 20)) (cpy gd fd cnt) bd tc1 tr1 ft0 tv0 tu0 fc M0 hSg rm hr) ⟨rfl, rfl, by decide, by decide, by decide⟩ (q0 := 9) rfl rfl (by decide) (by decide) rfl rfl (Nat.le_of_ble_eq_true rfl) dX3_bestToPrint_61 ?_
        rintro v9 w9 ⟨rfl, ft1, tv1, tu1, M1, ⟨hR, hM⟩, rfl⟩
        refine g_ws (w' := ((((wV h (ad 0) (a2 0) (bd 0) (pd 0) rm lt tk ov) ++ (wS ad cI (cnt : Int) fv fs fd)) ++ (wP pd cI cG fa fb N)) ++ (wT bd cI cG (cnt : Int) rm ft1 tv1 tu1 fc M1)) ++ (wS a2 cI (cnt : Int) (cpy gv fv cnt) (zU gs1 i (fs i + 20)) (cpy gd fd cnt))) (st' := []) rfl rfl ?_
        refine g_perm (w' := ((((wV h (ad 0) (a2 0) (bd 0) (pd 0) rm lt tk ov) ++ (wS ad cI (cnt : Int) fv fs fd)) ++ (wS a2 cI (cnt : Int) (cpy gv fv cnt) (zU gs1 i (fs i + 20)) (cpy gd fd cnt))) ++ (wT bd cI cG (cnt : Int) rm ft1 tv1 tu1 fc M1)) ++ (wP pd cI cG fa fb N)) [0, 1, 2, 3, 4, 37, 38, 39, 40, 22, 23, 24, 25, 26, 27, 28, 29, 30, 31, 32, 33, 34, 35, 36, 5, 6, 7, 8, 9, 10, 11, 12, 13, 14, 15, 16, 17, 18, 19, 20, 21] (by decide) rfl ?_
        refine g_aload_n C dX3_bestToPrint_64 3 rfl ?_
        refine g_getf C fX3_16 0 rfl rfl dX3_bestToPrint_65 ?_
        refine g_getf C fX3_67 5 rfl rfl dX3_bestToPrint_68 ?_
        refine g_iload_n C dX3_bestToPrint_71 0 rfl ?_
        refine g_aload_n C dX3_bestToPrint_72 3 rfl ?_
        refine g_getf C fX3_12 0 rfl rfl dX3_bestToPrint_73 ?_
        refine g_getf C fX3_67 1 rfl rfl dX3_bestToPrint_76 ?_
        refine g_iload_n C dX3_bestToPrint_79 0 rfl ?_
        refine g_iald C 3 rfl (by decide) (by omega) (by omega) (v := (fs i)) rfl dX3_bestToPrint_80 ?_
        refine g_iast (w' := ((((wV h (ad 0) (a2 0) (bd 0) (pd 0) rm lt tk ov) ++ (wS ad cI (cnt : Int) fv fs fd)) ++ (wS a2 cI (cnt : Int) (cpy gv fv cnt) (zU (zU gs1 i (fs i + 20)) i (fs i)) (cpy gd fd cnt))) ++ (wT bd cI cG (cnt : Int) rm ft1 tv1 tu1 fc M1)) ++ (wP pd cI cG fa fb N)) C 7 rfl (by decide) (by omega) (by omega) rfl dX3_bestToPrint_81 ?_
        refine g_aload_n C dX3_bestToPrint_82 3 rfl ?_
        refine g_getf C fX3_22 0 rfl rfl dX3_bestToPrint_83 ?_
        refine g_callV (wr := (((wV h (ad 0) (a2 0) (bd 0) (pd 0) rm lt tk ov) ++ (wS ad cI (cnt : Int) fv fs fd)) ++ (wS a2 cI (cnt : Int) (cpy gv fv cnt) (zU (zU gs1 i (fs i + 20)) i (fs i)) (cpy gd fd cnt))) ++ (wP pd cI cG fa fb N)) (st := []) [9, 10, 11, 12, 13, 14, 15, 16, 17, 18, 19, 20, 21, 22, 23] [0, 1, 2, 3, 4, 5, 6, 7, 8, 24, 25, 26, 27, 28, 29, 30, 31, 32, 33, 34, 35, 36, 37, 38, 39, 40] C cX3_118 (met_X2_reachOfStock l D cI cG cJ bd cnt hc rm hr ft1 tv1 tu1 fc M1 (fun r j h1 h2 => hM.bd hSg (Nat.zero_le _) h1 h2)) ⟨rfl, rfl, by decide, by decide, by decide⟩ (q0 := 9) rfl rfl (by decide) (by decide) rfl rfl (Nat.le_of_ble_eq_true rfl) dX3_bestToPrint_86 ?_
        rintro v9 w9 ⟨z9, rfl, rfl, rfl⟩
        refine g_ws (w' := ((((wV h (ad 0) (a2 0) (bd 0) (pd 0) rm lt tk ov) ++ (wS ad cI (cnt : Int) fv fs fd)) ++ (wS a2 cI (cnt : Int) (cpy gv fv cnt) (zU (zU gs1 i (fs i + 20)) i (fs i)) (cpy gd fd cnt))) ++ (wP pd cI cG fa fb N)) ++ (wT bd cI cG (cnt : Int) rm ft1 tv1 tu1 fc M1)) (st' := [.int (zI ((rch (M1 0) rm 300 0 : Nat) : Int))]) rfl rfl ?_
        refine g_perm (w' := ((((wV h (ad 0) (a2 0) (bd 0) (pd 0) rm lt tk ov) ++ (wS ad cI (cnt : Int) fv fs fd)) ++ (wS a2 cI (cnt : Int) (cpy gv fv cnt) (zU (zU gs1 i (fs i + 20)) i (fs i)) (cpy gd fd cnt))) ++ (wT bd cI cG (cnt : Int) rm ft1 tv1 tu1 fc M1)) ++ (wP pd cI cG fa fb N)) [0, 1, 2, 3, 4, 5, 6, 7, 8, 26, 27, 28, 29, 30, 31, 32, 33, 34, 35, 36, 37, 38, 39, 40, 9, 10, 11, 12, 13, 14, 15, 16, 17, 18, 19, 20, 21, 22, 23, 24, 25] (by decide) rfl ?_
        have hrc : rch (M1 0) rm 300 0 = RC cnt fv (zU fs i (fs i + 20)) rm := by
                rw [hM.rc]
                exact RCc (fun j hj => cpy_l hj) (fun j hj => by
                  by_cases e : j = i
                  · subst e; rw [show zU gs1 j (fs j + 20) j = fs j + 20 from if_pos rfl, show zU fs j (fs j + 20) j = fs j + 20 from if_pos rfl]
                  · rw [show zU gs1 i (fs i + 20) j = gs1 j from if_neg e, show zU fs i (fs i + 20) j = fs j from if_neg e, hg1 j hj])
        have hrb := rch_bd (f := M1 0) (rm := rm) 300 0
        have hbb := bp_bd (fv := fv) (fs := fs) (cnt := cnt) (rm := rm) i
        refine g_top (RC cnt fv (zU fs i (fs i + 20)) rm : Int) (by rw [hrc]) ?_
        refine g_istore (L' := [(4, .int (zI (RC cnt fv (zU fs i (fs i + 20)) rm : Int))), (3, .int (zI (i : Int))), (2, .int (zI ((bpF cnt fv fs rm i).2))), (1, .int (zI ((bpF cnt fv fs rm i).1))), (0, .ref h)]) C dX3_bestToPrint_89 (by decide) rfl ?_
        refine g_iload C dX3_bestToPrint_91 0 rfl ?_
        refine g_iload_n C dX3_bestToPrint_93 2 rfl ?_
        refine g_icmp_le 102 C dX3_bestToPrint_94 (by decide) (zr_i (by omega) (by omega)) (zr_i (by omega) (by omega)) (fun c_94 => ?_) (fun c_94 => ?_)
        · refine g_iinc (L' := [(3, .int (zI ((i : Int) + 1))), (4, .int (zI (RC cnt fv (zU fs i (fs i + 20)) rm : Int))), (2, .int (zI ((bpF cnt fv fs rm i).2))), (1, .int (zI ((bpF cnt fv fs rm i).1))), (0, .ref h)]) C dX3_bestToPrint_102 1 rfl (by decide) rfl ?_
          refine g_goto 17 C dX3_bestToPrint_105 (by decide) ?_
          refine g_loc (L' := [(3, .int (zI ((i : Int) + 1))), (2, .int (zI ((bpF cnt fv fs rm i).2))), (1, .int (zI ((bpF cnt fv fs rm i).1))), (0, .ref h)]) [0, 2, 3, 4] rfl ?_
          refine g_lw (w' := ((((wV h (ad 0) (a2 0) (bd 0) (pd 0) rm lt tk ov) ++ (wS ad cI (cnt : Int) fv fs fd)) ++ (wS a2 cI (cnt : Int) (cpy gv fv cnt) (zU (zU gs1 i (fs i + 20)) i (fs i)) (cpy gd fd cnt))) ++ (wT bd cI cG (cnt : Int) rm ft1 tv1 tu1 fc M1)) ++ (wP pd cI cG fa fb N)) (L' := [(3, .int (zI ((i + 1 : Nat) : Int))), (2, .int (zI ((bpF cnt fv fs rm (i + 1)).2))), (1, .int (zI ((bpF cnt fv fs rm (i + 1)).1))), (0, .ref h)]) rfl (by rw [show bpF cnt fv fs rm (i + 1) = bpF cnt fv fs rm i from if_neg (by omega)]; rfl) ?_
          exact ih_17 (i + 1) (zU (zU gs1 i (fs i + 20)) i (fs i)) (cnt : Int) rm ft1 tv1 tu1 M1 (by omega) (fun j hj => by
                by_cases e : j = i
                · subst e; exact if_pos rfl
                · exact (if_neg e).trans ((if_neg e).trans (hg1 j hj))) (by omega)
        · refine g_iload C dX3_bestToPrint_97 0 rfl ?_
          refine g_istore_n (L' := [(2, .int (zI (RC cnt fv (zU fs i (fs i + 20)) rm : Int))), (4, .int (zI (RC cnt fv (zU fs i (fs i + 20)) rm : Int))), (3, .int (zI (i : Int))), (1, .int (zI ((bpF cnt fv fs rm i).1))), (0, .ref h)]) C dX3_bestToPrint_99 (by decide) rfl ?_
          refine g_iload_n C dX3_bestToPrint_100 2 rfl ?_
          refine g_istore_n (L' := [(1, .int (zI (i : Int))), (2, .int (zI (RC cnt fv (zU fs i (fs i + 20)) rm : Int))), (4, .int (zI (RC cnt fv (zU fs i (fs i + 20)) rm : Int))), (3, .int (zI (i : Int))), (0, .ref h)]) C dX3_bestToPrint_101 (by decide) rfl ?_
          refine g_iinc (L' := [(3, .int (zI ((i : Int) + 1))), (1, .int (zI (i : Int))), (2, .int (zI (RC cnt fv (zU fs i (fs i + 20)) rm : Int))), (4, .int (zI (RC cnt fv (zU fs i (fs i + 20)) rm : Int))), (0, .ref h)]) C dX3_bestToPrint_102 3 rfl (by decide) rfl ?_
          refine g_goto 17 C dX3_bestToPrint_105 (by decide) ?_
          refine g_loc (L' := [(3, .int (zI ((i : Int) + 1))), (2, .int (zI (RC cnt fv (zU fs i (fs i + 20)) rm : Int))), (1, .int (zI (i : Int))), (0, .ref h)]) [0, 2, 1, 4] rfl ?_
          refine g_lw (w' := ((((wV h (ad 0) (a2 0) (bd 0) (pd 0) rm lt tk ov) ++ (wS ad cI (cnt : Int) fv fs fd)) ++ (wS a2 cI (cnt : Int) (cpy gv fv cnt) (zU (zU gs1 i (fs i + 20)) i (fs i)) (cpy gd fd cnt))) ++ (wT bd cI cG (cnt : Int) rm ft1 tv1 tu1 fc M1)) ++ (wP pd cI cG fa fb N)) (L' := [(3, .int (zI ((i + 1 : Nat) : Int))), (2, .int (zI ((bpF cnt fv fs rm (i + 1)).2))), (1, .int (zI ((bpF cnt fv fs rm (i + 1)).1))), (0, .ref h)]) rfl (by rw [show bpF cnt fv fs rm (i + 1) = ((i : Int), (RC cnt fv (zU fs i (fs i + 20)) rm : Int)) from if_pos (by omega)]; rfl) ?_
          exact ih_17 (i + 1) (zU (zU gs1 i (fs i + 20)) i (fs i)) (cnt : Int) rm ft1 tv1 tu1 M1 (by omega) (fun j hj => by
                by_cases e : j = i
                · subst e; exact if_pos rfl
                · exact (if_neg e).trans ((if_neg e).trans (hg1 j hj))) (by omega)
  refine g_loc (L' := [(3, .int (zI 0)), (2, .int (zI (-1))), (1, .int (zI (-1))), (0, .ref h)]) [0, 1, 2, 3] rfl ?_
  exact loop_17 _ 0 (cpy gs fs cnt) tc tr ft tv tu M (Nat.zero_le _) (fun j hj => cpy_l hj) (Nat.lt_succ_self _)
