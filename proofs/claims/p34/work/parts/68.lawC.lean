def ovF (cnt : Nat) (fv fs : Nat → Int) (rm : Int) (p : Nat) : Int := if LSm cnt fv fs rm p = -1 then -1 else LSm cnt fv fs rm p - (p : Int)
theorem ho_up {fs o : Nat → Int} {i : Nat} {m : Int} (h : ∀ j, j < i → 0 ≤ o j ∧ o j ≤ fs j) (h1 : 0 ≤ m ∧ m ≤ fs i) : ∀ j, j < i + 1 → 0 ≤ zU o i m j ∧ zU o i m j ≤ fs j := fun j hj => by
  by_cases e : j = i
  · subst e
    rw [show zU o j m j = m from if_pos rfl]
    exact h1
  · rw [show zU o i m j = o j from if_neg e]
    exact h j (by omega)
theorem mulm_bd {m v : Int} (h1 : 0 ≤ m ∧ m ≤ 12) (h2 : 0 ≤ v ∧ v ≤ 60) : 0 ≤ m * v ∧ m * v ≤ 720 := ⟨Int.mul_nonneg h1.1 h2.1, Int.mul_le_mul h1.2 h2.2 h2.1 (by decide)⟩
set_option maxHeartbeats 8000000 in
set_option maxRecDepth 100000 in
theorem law_318a (l : Launch) {E : gEnv} {D : va_G} {cI cG cJ : ClassId} {k0 n0 : Nat} (hl9 : l.stackTraces = false) (hm h2 b : Nat) (ad a2 bd pd : Nat → Nat) (T : Int) (hT1 : T ≤ 100) (cnt : Nat) (fv fs fd : Nat → Int) (rm lt tk ov : Int) (w1 : va_W) (sa : Nat) (ra : Nat → Nat) (nw bs : Value) (bS bM : Int) (hX : XW hm ad a2 bd pd cI cG cnt fv fs fd rm lt tk ov w1) (hI : XI cnt fv fs rm) (hY : YI cnt fd lt tk ov T) (x : Int) (t : Nat) (ht : t < 8) (C : gC E l rmL_law D 21 RL cL_law cI cG cJ) (hk : k0 ≤ 590000) (hn0 : n0 ≤ 7200000) (p g : Nat) (hp : 1 ≤ p ∧ p ≤ 300) (hg : g < 4)  (K : ∀ (k n : Nat) (w9 : va_W), k ≤ k0 + 100 → n ≤ n0 + 700 → XW hm ad a2 bd pd cI cG cnt fv fs fd rm lt tk ov w9 → ∀ (s13 s14 s15 s16 : Int) (o : Nat → Int), (s13 = sumTo (fun x => cFF cnt fv fs rm p x * fv x) cnt) → (s14 = sumTo (cFF cnt fv fs rm p) cnt) → (s15 = sumTo (fun x => o x * fv x) cnt) → (s16 = sumTo o cnt) → (∀ j, j < cnt → 0 ≤ o j ∧ o j ≤ fs j) → (0 ≤ s15 ∧ s15 ≤ 720 * (cnt : Int)) → (0 ≤ s16 ∧ s16 ≤ rm) →  gW E k n ((((wZ h2 sa rm lt tk ov nw bs bS bM) ++ (wG sa cG cnt (rN ra cnt))) ++ (w9)) ++ (wQ ra cI fv fs fd cnt)) 458 [(16, .int (zI s16)), (15, .int (zI s15)), (14, .int (zI s14)), (13, .int (zI s13)), (12, .int (zI (ovF cnt fv fs rm p))), (11, .int (zI (p : Int))), (10, .int (zI (g : Int))), (8, .int (zI rm)), (7, .int (zI (cnt : Int))), (5, .long (dgF cnt fv fs fd rm lt tk ov)), (4, .int (zI x)), (3, .int (zI (t : Int))), (2, .ref h2), (1, .ref hm), (0, .ref b)] []) : gW E k0 n0 ((((wZ h2 sa rm lt tk ov nw bs bS bM) ++ (wG sa cG cnt (rN ra cnt))) ++ (w1)) ++ (wQ ra cI fv fs fd cnt)) 318 [(11, .int (zI (p : Int))), (10, .int (zI (g : Int))), (8, .int (zI rm)), (7, .int (zI (cnt : Int))), (5, .long (dgF cnt fv fs fd rm lt tk ov)), (4, .int (zI x)), (3, .int (zI (t : Int))), (2, .ref h2), (1, .ref hm), (0, .ref b)] [] := by
  obtain ⟨hc, hS, h99, hr1, hr2⟩ := id hI
  have hr : 0 ≤ rm ∧ rm ≤ 12 := ⟨by omega, hr2⟩
  obtain ⟨y1, y2, y3, y4, y5, y6⟩ := id hY
  have hv1 : ∀ j, j < cnt → 1 ≤ fv j := fun j hj => (hS.1 j hj).1
  refine g_aload_n C dL_law_318 8 rfl ?_
  refine g_iload C dL_law_319 0 rfl ?_
  refine g_mods [wZ h2 sa rm lt tk ov nw bs bS bM, wG sa cG cnt (rN ra cnt), w1, wQ ra cI fv fs fd cnt] [wZ h2 sa rm lt tk ov nw bs bS bM, wG sa cG cnt (rN ra cnt), wQ ra cI fv fs fd cnt, w1] [0, 1, 3, 2] (by decide) rfl ?_
  refine g_ws (w' := (((wZ h2 sa rm lt tk ov nw bs bS bM) ++ (wG sa cG cnt (rN ra cnt))) ++ (wQ ra cI fv fs fd cnt)) ++ (w1)) rfl rfl ?_
  obtain ⟨c20, gv0, gs0, gd0, tc0, tr0, ft0, tv0, tu0, fc0, M0, fa0, fb0, N0, rfl⟩ := hX
  refine g_callVX (wr := ((wZ h2 sa rm lt tk ov nw bs bS bM) ++ (wG sa cG cnt (rN ra cnt))) ++ (wQ ra cI fv fs fd cnt)) (st := []) _ _ C cL_106 (met_X3_overpay l hl9 D cI cG cJ hm ad a2 bd pd cnt fv fs fd rm lt tk ov hI c20 gv0 gs0 gd0 tc0 tr0 ft0 tv0 tu0 fc0 M0 fa0 fb0 N0 (p : Int) (zr_i (by omega) (by omega))) gSp_r (ci := 3) (q0 := ((((wZ h2 sa rm lt tk ov nw bs bS bM) ++ (wG sa cG cnt (rN ra cnt))) ++ (wQ ra cI fv fs fd cnt)) : va_W).length) (at_r rfl) rfl (by decide) ⟨by first | omega | (dsimp only [rmX3_init, rmL_build, rmL_act, rmL_below, rmL_cell, rmX3_digest, rmX3_stamps, rmX3_room, rmX3_valueOf, rmX3_stockOf, rmX3_vendedOf, rmX3_scarcest, rmX3_overpaid, rmX3_taken, rmX3_meanValue, rmX3_overpay, rmX3_ofStampFor, rmX3_stampsFor, rmX3_canPay, rmX3_most, rmX3_fewest, rmX3_ways, rmX3_gapFrom, rmX3_gapsTo, rmX3_reach, rmX3_reachNow, rmX3_reachWithRoom, rmX3_bestValue, rmX3_bestToPrint, rmX4_isThere, rmX4_print, rmX4_reach, rmL_reachPrinted, rmX3_lettersOf, rmX4_vend, rmX3_vend, rmX4_isSame, rmL_law]; omega), by first | omega | (dsimp only [rmX3_init, rmL_build, rmL_act, rmL_below, rmL_cell, rmX3_digest, rmX3_stamps, rmX3_room, rmX3_valueOf, rmX3_stockOf, rmX3_vendedOf, rmX3_scarcest, rmX3_overpaid, rmX3_taken, rmX3_meanValue, rmX3_overpay, rmX3_ofStampFor, rmX3_stampsFor, rmX3_canPay, rmX3_most, rmX3_fewest, rmX3_ways, rmX3_gapFrom, rmX3_gapsTo, rmX3_reach, rmX3_reachNow, rmX3_reachWithRoom, rmX3_bestValue, rmX3_bestToPrint, rmX4_isThere, rmX4_print, rmX4_reach, rmL_reachPrinted, rmX3_lettersOf, rmX4_vend, rmX3_vend, rmX4_isSame, rmL_law]; omega)⟩ rfl rfl (Nat.le_of_ble_eq_true rfl) dL_law_321 (fun nm9 w9 h9 => ?_) ?_
  · exfalso
    rcases h9 with ⟨_, h8, _⟩
    exact h8 ⟨by omega, by omega⟩
  rintro v9 w9 ⟨z321, rfl, h321, hX⟩
  refine g_ws (w' := (((wZ h2 sa rm lt tk ov nw bs bS bM) ++ (wG sa cG cnt (rN ra cnt))) ++ (wQ ra cI fv fs fd cnt)) ++ (w9)) (st' := [.int (zI z321)]) (by simp only [List.append_assoc]) rfl ?_
  refine g_mods [wZ h2 sa rm lt tk ov nw bs bS bM, wG sa cG cnt (rN ra cnt), wQ ra cI fv fs fd cnt, w9] [wZ h2 sa rm lt tk ov nw bs bS bM, wG sa cG cnt (rN ra cnt), w9, wQ ra cI fv fs fd cnt] [0, 1, 3, 2] (by decide) rfl ?_
  refine g_ws (w' := (((wZ h2 sa rm lt tk ov nw bs bS bM) ++ (wG sa cG cnt (rN ra cnt))) ++ (w9)) ++ (wQ ra cI fv fs fd cnt)) rfl rfl ?_
  refine g_top (ovF cnt fv fs rm p) (h321.2) ?_
  refine g_istore (L' := [(12, .int (zI (ovF cnt fv fs rm p))), (11, .int (zI (p : Int))), (10, .int (zI (g : Int))), (8, .int (zI rm)), (7, .int (zI (cnt : Int))), (5, .long (dgF cnt fv fs fd rm lt tk ov)), (4, .int (zI x)), (3, .int (zI (t : Int))), (2, .ref h2), (1, .ref hm), (0, .ref b)]) C dL_law_324 (by decide) rfl ?_
  refine g_iconst C dL_law_326 ?_
  refine g_istore (L' := [(13, .int (zI 0)), (12, .int (zI (ovF cnt fv fs rm p))), (11, .int (zI (p : Int))), (10, .int (zI (g : Int))), (8, .int (zI rm)), (7, .int (zI (cnt : Int))), (5, .long (dgF cnt fv fs fd rm lt tk ov)), (4, .int (zI x)), (3, .int (zI (t : Int))), (2, .ref h2), (1, .ref hm), (0, .ref b)]) C dL_law_327 (by decide) rfl ?_
  refine g_iconst C dL_law_329 ?_
  refine g_istore (L' := [(14, .int (zI 0)), (13, .int (zI 0)), (12, .int (zI (ovF cnt fv fs rm p))), (11, .int (zI (p : Int))), (10, .int (zI (g : Int))), (8, .int (zI rm)), (7, .int (zI (cnt : Int))), (5, .long (dgF cnt fv fs fd rm lt tk ov)), (4, .int (zI x)), (3, .int (zI (t : Int))), (2, .ref h2), (1, .ref hm), (0, .ref b)]) C dL_law_330 (by decide) rfl ?_
  refine g_iconst C dL_law_332 ?_
  refine g_istore (L' := [(15, .int (zI 0)), (14, .int (zI 0)), (13, .int (zI 0)), (12, .int (zI (ovF cnt fv fs rm p))), (11, .int (zI (p : Int))), (10, .int (zI (g : Int))), (8, .int (zI rm)), (7, .int (zI (cnt : Int))), (5, .long (dgF cnt fv fs fd rm lt tk ov)), (4, .int (zI x)), (3, .int (zI (t : Int))), (2, .ref h2), (1, .ref hm), (0, .ref b)]) C dL_law_333 (by decide) rfl ?_
  refine g_iconst C dL_law_335 ?_
  refine g_istore (L' := [(16, .int (zI 0)), (15, .int (zI 0)), (14, .int (zI 0)), (13, .int (zI 0)), (12, .int (zI (ovF cnt fv fs rm p))), (11, .int (zI (p : Int))), (10, .int (zI (g : Int))), (8, .int (zI rm)), (7, .int (zI (cnt : Int))), (5, .long (dgF cnt fv fs fd rm lt tk ov)), (4, .int (zI x)), (3, .int (zI (t : Int))), (2, .ref h2), (1, .ref hm), (0, .ref b)]) C dL_law_336 (by decide) rfl ?_
  refine g_iconst C dL_law_338 ?_
  refine g_istore (L' := [(17, .int (zI 0)), (16, .int (zI 0)), (15, .int (zI 0)), (14, .int (zI 0)), (13, .int (zI 0)), (12, .int (zI (ovF cnt fv fs rm p))), (11, .int (zI (p : Int))), (10, .int (zI (g : Int))), (8, .int (zI rm)), (7, .int (zI (cnt : Int))), (5, .long (dgF cnt fv fs fd rm lt tk ov)), (4, .int (zI x)), (3, .int (zI (t : Int))), (2, .ref h2), (1, .ref hm), (0, .ref b)]) C dL_law_339 (by decide) rfl ?_
  have loop_341 : ∀ (fu : Nat) (i : Nat) (s13 : Int) (s14 : Int) (s15 : Int) (s16 : Int) (o : Nat → Int) (w1 : va_W), (hi : i ≤ cnt) → (e13 : s13 = sumTo (fun x => cFF cnt fv fs rm p x * fv x) i) → (e14 : s14 = sumTo (cFF cnt fv fs rm p) i) → (e15 : s15 = sumTo (fun x => o x * fv x) i) → (e16 : s16 = sumTo o i) → (ho : ∀ j, j < i → 0 ≤ o j ∧ o j ≤ fs j) → (b15 : 0 ≤ s15 ∧ s15 ≤ 720 * (i : Int)) → (b16 : 0 ≤ s16 ∧ s16 ≤ rm) → (hX : XW hm ad a2 bd pd cI cG cnt fv fs fd rm lt tk ov w1) → cnt - i < fu → gW E (k0 + 1 + 10 * i) (n0 + 6 + 60 * i) ((((wZ h2 sa rm lt tk ov nw bs bS bM) ++ (wG sa cG cnt (rN ra cnt))) ++ (w1)) ++ (wQ ra cI fv fs fd cnt)) 341 [(17, .int (zI (i : Int))), (16, .int (zI s16)), (15, .int (zI s15)), (14, .int (zI s14)), (13, .int (zI s13)), (12, .int (zI (ovF cnt fv fs rm p))), (11, .int (zI (p : Int))), (10, .int (zI (g : Int))), (8, .int (zI rm)), (7, .int (zI (cnt : Int))), (5, .long (dgF cnt fv fs fd rm lt tk ov)), (4, .int (zI x)), (3, .int (zI (t : Int))), (2, .ref h2), (1, .ref hm), (0, .ref b)] [] := by
    intro fu
    induction fu with
    | zero => intro i s13 s14 s15 s16 o w1 hi e13 e14 e15 e16 ho b15 b16 hX h9; exact absurd h9 (Nat.not_lt_zero _)
    | succ fu ih_341 =>
      intro i s13 s14 s15 s16 o w1 hi e13 e14 e15 e16 ho b15 b16 hX hmu_341
      refine g_iload C dL_law_341 0 rfl ?_
      refine g_iload C dL_law_343 9 rfl ?_
      refine g_icmp_ge 458 C dL_law_345 (by decide) (zr_i (by omega) (by omega)) (zr_i (by omega) (by omega)) (fun c_345 => ?_) (fun c_345 => ?_)
      · have e9 : cnt = i := by omega
        subst e9
        refine g_loc (L' := [(16, .int (zI s16)), (15, .int (zI s15)), (14, .int (zI s14)), (13, .int (zI s13)), (12, .int (zI (ovF cnt fv fs rm p))), (11, .int (zI (p : Int))), (10, .int (zI (g : Int))), (8, .int (zI rm)), (7, .int (zI (cnt : Int))), (5, .long (dgF cnt fv fs fd rm lt tk ov)), (4, .int (zI x)), (3, .int (zI (t : Int))), (2, .ref h2), (1, .ref hm), (0, .ref b)]) [1, 2, 3, 4, 5, 6, 7, 8, 9, 10, 11, 12, 13, 14, 15] rfl ?_
        exact K _ _ _ (by first | omega | (dsimp only [rmX3_init, rmL_build, rmL_act, rmL_below, rmL_cell, rmX3_digest, rmX3_stamps, rmX3_room, rmX3_valueOf, rmX3_stockOf, rmX3_vendedOf, rmX3_scarcest, rmX3_overpaid, rmX3_taken, rmX3_meanValue, rmX3_overpay, rmX3_ofStampFor, rmX3_stampsFor, rmX3_canPay, rmX3_most, rmX3_fewest, rmX3_ways, rmX3_gapFrom, rmX3_gapsTo, rmX3_reach, rmX3_reachNow, rmX3_reachWithRoom, rmX3_bestValue, rmX3_bestToPrint, rmX4_isThere, rmX4_print, rmX4_reach, rmL_reachPrinted, rmX3_lettersOf, rmX4_vend, rmX3_vend, rmX4_isSame, rmL_law]; omega)) (by first | omega | (dsimp only [rmX3_init, rmL_build, rmL_act, rmL_below, rmL_cell, rmX3_digest, rmX3_stamps, rmX3_room, rmX3_valueOf, rmX3_stockOf, rmX3_vendedOf, rmX3_scarcest, rmX3_overpaid, rmX3_taken, rmX3_meanValue, rmX3_overpay, rmX3_ofStampFor, rmX3_stampsFor, rmX3_canPay, rmX3_most, rmX3_fewest, rmX3_ways, rmX3_gapFrom, rmX3_gapsTo, rmX3_reach, rmX3_reachNow, rmX3_reachWithRoom, rmX3_bestValue, rmX3_bestToPrint, rmX4_isThere, rmX4_print, rmX4_reach, rmL_reachPrinted, rmX3_lettersOf, rmX4_vend, rmX3_vend, rmX4_isSame, rmL_law]; omega)) hX s13 s14 s15 s16 o e13 e14 e15 e16 ho b15 b16
      · refine g_aload_n C dL_law_348 14 rfl ?_
        refine g_iload C dL_law_349 6 rfl ?_
        refine g_iload C dL_law_351 0 rfl ?_
        refine g_mods [wZ h2 sa rm lt tk ov nw bs bS bM, wG sa cG cnt (rN ra cnt), w1, wQ ra cI fv fs fd cnt] [wZ h2 sa rm lt tk ov nw bs bS bM, wG sa cG cnt (rN ra cnt), wQ ra cI fv fs fd cnt, w1] [0, 1, 3, 2] (by decide) rfl ?_
        refine g_ws (w' := (((wZ h2 sa rm lt tk ov nw bs bS bM) ++ (wG sa cG cnt (rN ra cnt))) ++ (wQ ra cI fv fs fd cnt)) ++ (w1)) rfl rfl ?_
        obtain ⟨c20, gv0, gs0, gd0, tc0, tr0, ft0, tv0, tu0, fc0, M0, fa0, fb0, N0, rfl⟩ := hX
        refine g_callVX (wr := ((wZ h2 sa rm lt tk ov nw bs bS bM) ++ (wG sa cG cnt (rN ra cnt))) ++ (wQ ra cI fv fs fd cnt)) (st := []) _ _ C cL_109 (met_X3_ofStampFor l hl9 D cI cG cJ hm ad a2 bd pd cnt fv fs fd rm lt tk ov hI c20 gv0 gs0 gd0 tc0 tr0 ft0 tv0 tu0 fc0 M0 fa0 fb0 N0 (p : Int) (i : Int) (zr_i (by omega) (by omega)) (zr_i (by omega) (by omega))) gSp_r (ci := 3) (q0 := ((((wZ h2 sa rm lt tk ov nw bs bS bM) ++ (wG sa cG cnt (rN ra cnt))) ++ (wQ ra cI fv fs fd cnt)) : va_W).length) (at_r rfl) rfl (by decide) ⟨by first | omega | (dsimp only [rmX3_init, rmL_build, rmL_act, rmL_below, rmL_cell, rmX3_digest, rmX3_stamps, rmX3_room, rmX3_valueOf, rmX3_stockOf, rmX3_vendedOf, rmX3_scarcest, rmX3_overpaid, rmX3_taken, rmX3_meanValue, rmX3_overpay, rmX3_ofStampFor, rmX3_stampsFor, rmX3_canPay, rmX3_most, rmX3_fewest, rmX3_ways, rmX3_gapFrom, rmX3_gapsTo, rmX3_reach, rmX3_reachNow, rmX3_reachWithRoom, rmX3_bestValue, rmX3_bestToPrint, rmX4_isThere, rmX4_print, rmX4_reach, rmL_reachPrinted, rmX3_lettersOf, rmX4_vend, rmX3_vend, rmX4_isSame, rmL_law]; omega), by first | omega | (dsimp only [rmX3_init, rmL_build, rmL_act, rmL_below, rmL_cell, rmX3_digest, rmX3_stamps, rmX3_room, rmX3_valueOf, rmX3_stockOf, rmX3_vendedOf, rmX3_scarcest, rmX3_overpaid, rmX3_taken, rmX3_meanValue, rmX3_overpay, rmX3_ofStampFor, rmX3_stampsFor, rmX3_canPay, rmX3_most, rmX3_fewest, rmX3_ways, rmX3_gapFrom, rmX3_gapsTo, rmX3_reach, rmX3_reachNow, rmX3_reachWithRoom, rmX3_bestValue, rmX3_bestToPrint, rmX4_isThere, rmX4_print, rmX4_reach, rmL_reachPrinted, rmX3_lettersOf, rmX4_vend, rmX3_vend, rmX4_isSame, rmL_law]; omega)⟩ rfl rfl (Nat.le_of_ble_eq_true rfl) dL_law_353 (fun nm9 w9 h9 => ?_) ?_
        · exfalso
          rcases h9 with ⟨_, h8, _⟩ | ⟨_, _, h8, _⟩
          · exact h8 ⟨by omega, by omega⟩
          · exact h8 ⟨by omega, by omega⟩
        rintro v9 w9 ⟨z353, rfl, h353, hX⟩
        have g353 : z353 = cFF cnt fv fs rm p i := h353.2.2
        have cb := cFF_bd (p := p) hI (show i < cnt by omega)
        have hvi := hS.1 i (by omega)
        have hsi := hS.2.1 i (by omega)
        refine g_ws (w' := (((wZ h2 sa rm lt tk ov nw bs bS bM) ++ (wG sa cG cnt (rN ra cnt))) ++ (wQ ra cI fv fs fd cnt)) ++ (w9)) (st' := [.int (zI z353)]) (by simp only [List.append_assoc]) rfl ?_
        refine g_mods [wZ h2 sa rm lt tk ov nw bs bS bM, wG sa cG cnt (rN ra cnt), wQ ra cI fv fs fd cnt, w9] [wZ h2 sa rm lt tk ov nw bs bS bM, wG sa cG cnt (rN ra cnt), w9, wQ ra cI fv fs fd cnt] [0, 1, 3, 2] (by decide) rfl ?_
        refine g_ws (w' := (((wZ h2 sa rm lt tk ov nw bs bS bM) ++ (wG sa cG cnt (rN ra cnt))) ++ (w9)) ++ (wQ ra cI fv fs fd cnt)) rfl rfl ?_
        refine g_istore (L' := [(18, .int (zI z353)), (17, .int (zI (i : Int))), (16, .int (zI s16)), (15, .int (zI s15)), (14, .int (zI s14)), (13, .int (zI s13)), (12, .int (zI (ovF cnt fv fs rm p))), (11, .int (zI (p : Int))), (10, .int (zI (g : Int))), (8, .int (zI rm)), (7, .int (zI (cnt : Int))), (5, .long (dgF cnt fv fs fd rm lt tk ov)), (4, .int (zI x)), (3, .int (zI (t : Int))), (2, .ref h2), (1, .ref hm), (0, .ref b)]) C dL_law_356 (by decide) rfl ?_
        refine g_iload C dL_law_358 5 rfl ?_
        refine g_iload C dL_law_360 0 rfl ?_
        refine g_aload_n C dL_law_362 15 rfl ?_
        refine g_iload C dL_law_363 1 rfl ?_
        refine g_mods [wZ h2 sa rm lt tk ov nw bs bS bM, wG sa cG cnt (rN ra cnt), w9, wQ ra cI fv fs fd cnt] [wZ h2 sa rm lt tk ov nw bs bS bM, wG sa cG cnt (rN ra cnt), wQ ra cI fv fs fd cnt, w9] [0, 1, 3, 2] (by decide) rfl ?_
        refine g_ws (w' := (((wZ h2 sa rm lt tk ov nw bs bS bM) ++ (wG sa cG cnt (rN ra cnt))) ++ (wQ ra cI fv fs fd cnt)) ++ (w9)) rfl rfl ?_
        obtain ⟨c20, gv0, gs0, gd0, tc0, tr0, ft0, tv0, tu0, fc0, M0, fa0, fb0, N0, rfl⟩ := hX
        refine g_callVX (wr := ((wZ h2 sa rm lt tk ov nw bs bS bM) ++ (wG sa cG cnt (rN ra cnt))) ++ (wQ ra cI fv fs fd cnt)) (st := [.int (zI z353), .int (zI s13)]) _ _ C cL_85 (met_X3_valueOf l hl9 D cI cG cJ hm ad a2 bd pd cnt fv fs fd rm lt tk ov hI c20 gv0 gs0 gd0 tc0 tr0 ft0 tv0 tu0 fc0 M0 fa0 fb0 N0 (i : Int) (zr_i (by omega) (by omega))) gSp_r (ci := 3) (q0 := ((((wZ h2 sa rm lt tk ov nw bs bS bM) ++ (wG sa cG cnt (rN ra cnt))) ++ (wQ ra cI fv fs fd cnt)) : va_W).length) (at_r rfl) rfl (by decide) ⟨by first | omega | (dsimp only [rmX3_init, rmL_build, rmL_act, rmL_below, rmL_cell, rmX3_digest, rmX3_stamps, rmX3_room, rmX3_valueOf, rmX3_stockOf, rmX3_vendedOf, rmX3_scarcest, rmX3_overpaid, rmX3_taken, rmX3_meanValue, rmX3_overpay, rmX3_ofStampFor, rmX3_stampsFor, rmX3_canPay, rmX3_most, rmX3_fewest, rmX3_ways, rmX3_gapFrom, rmX3_gapsTo, rmX3_reach, rmX3_reachNow, rmX3_reachWithRoom, rmX3_bestValue, rmX3_bestToPrint, rmX4_isThere, rmX4_print, rmX4_reach, rmL_reachPrinted, rmX3_lettersOf, rmX4_vend, rmX3_vend, rmX4_isSame, rmL_law]; omega), by first | omega | (dsimp only [rmX3_init, rmL_build, rmL_act, rmL_below, rmL_cell, rmX3_digest, rmX3_stamps, rmX3_room, rmX3_valueOf, rmX3_stockOf, rmX3_vendedOf, rmX3_scarcest, rmX3_overpaid, rmX3_taken, rmX3_meanValue, rmX3_overpay, rmX3_ofStampFor, rmX3_stampsFor, rmX3_canPay, rmX3_most, rmX3_fewest, rmX3_ways, rmX3_gapFrom, rmX3_gapsTo, rmX3_reach, rmX3_reachNow, rmX3_reachWithRoom, rmX3_bestValue, rmX3_bestToPrint, rmX4_isThere, rmX4_print, rmX4_reach, rmL_reachPrinted, rmX3_lettersOf, rmX4_vend, rmX3_vend, rmX4_isSame, rmL_law]; omega)⟩ rfl rfl (Nat.le_of_ble_eq_true rfl) dL_law_365 (fun nm9 w9 h9 => ?_) ?_
        · exfalso
          rcases h9 with ⟨_, h8, _⟩
          exact h8 ⟨by omega, by omega⟩
        rintro v9 w9 ⟨z365, rfl, h365, hX⟩
        have g365 : z365 = fv i := h365.2
        refine g_ws (w' := (((wZ h2 sa rm lt tk ov nw bs bS bM) ++ (wG sa cG cnt (rN ra cnt))) ++ (wQ ra cI fv fs fd cnt)) ++ (w9)) (st' := [.int (zI z365), .int (zI z353), .int (zI s13)]) (by simp only [List.append_assoc]) rfl ?_
        refine g_mods [wZ h2 sa rm lt tk ov nw bs bS bM, wG sa cG cnt (rN ra cnt), wQ ra cI fv fs fd cnt, w9] [wZ h2 sa rm lt tk ov nw bs bS bM, wG sa cG cnt (rN ra cnt), w9, wQ ra cI fv fs fd cnt] [0, 1, 3, 2] (by decide) rfl ?_
        refine g_ws (w' := (((wZ h2 sa rm lt tk ov nw bs bS bM) ++ (wG sa cG cnt (rN ra cnt))) ++ (w9)) ++ (wQ ra cI fv fs fd cnt)) rfl rfl ?_
        refine g_imul C dL_law_368 ?_
        refine g_iadd C dL_law_369 ?_
        refine g_istore (L' := [(13, .int (zI (s13 + (z353 * z365)))), (18, .int (zI z353)), (17, .int (zI (i : Int))), (16, .int (zI s16)), (15, .int (zI s15)), (14, .int (zI s14)), (12, .int (zI (ovF cnt fv fs rm p))), (11, .int (zI (p : Int))), (10, .int (zI (g : Int))), (8, .int (zI rm)), (7, .int (zI (cnt : Int))), (5, .long (dgF cnt fv fs fd rm lt tk ov)), (4, .int (zI x)), (3, .int (zI (t : Int))), (2, .ref h2), (1, .ref hm), (0, .ref b)]) C dL_law_370 (by decide) rfl ?_
        refine g_iload C dL_law_372 5 rfl ?_
        refine g_iload C dL_law_374 1 rfl ?_
        refine g_iadd C dL_law_376 ?_
        refine g_istore (L' := [(14, .int (zI (s14 + z353))), (13, .int (zI (s13 + (z353 * z365)))), (18, .int (zI z353)), (17, .int (zI (i : Int))), (16, .int (zI s16)), (15, .int (zI s15)), (12, .int (zI (ovF cnt fv fs rm p))), (11, .int (zI (p : Int))), (10, .int (zI (g : Int))), (8, .int (zI rm)), (7, .int (zI (cnt : Int))), (5, .long (dgF cnt fv fs fd rm lt tk ov)), (4, .int (zI x)), (3, .int (zI (t : Int))), (2, .ref h2), (1, .ref hm), (0, .ref b)]) C dL_law_377 (by decide) rfl ?_
        refine g_iload C dL_law_379 2 rfl ?_
        refine g_if_lt 395 C dL_law_381 (by decide) (zr_i (by omega) (by omega)) (fun c_381 => ?_) (fun c_381 => ?_)
        · exfalso; omega
        · refine g_iload C dL_law_384 2 rfl ?_
          refine g_aload_n C dL_law_386 15 rfl ?_
          refine g_iload C dL_law_387 3 rfl ?_
          refine g_mods [wZ h2 sa rm lt tk ov nw bs bS bM, wG sa cG cnt (rN ra cnt), w9, wQ ra cI fv fs fd cnt] [wZ h2 sa rm lt tk ov nw bs bS bM, wG sa cG cnt (rN ra cnt), wQ ra cI fv fs fd cnt, w9] [0, 1, 3, 2] (by decide) rfl ?_
          refine g_ws (w' := (((wZ h2 sa rm lt tk ov nw bs bS bM) ++ (wG sa cG cnt (rN ra cnt))) ++ (wQ ra cI fv fs fd cnt)) ++ (w9)) rfl rfl ?_
          obtain ⟨c20, gv0, gs0, gd0, tc0, tr0, ft0, tv0, tu0, fc0, M0, fa0, fb0, N0, rfl⟩ := hX
          refine g_callVX (wr := ((wZ h2 sa rm lt tk ov nw bs bS bM) ++ (wG sa cG cnt (rN ra cnt))) ++ (wQ ra cI fv fs fd cnt)) (st := [.int (zI z353)]) _ _ C cL_88 (met_X3_stockOf l hl9 D cI cG cJ hm ad a2 bd pd cnt fv fs fd rm lt tk ov hI c20 gv0 gs0 gd0 tc0 tr0 ft0 tv0 tu0 fc0 M0 fa0 fb0 N0 (i : Int) (zr_i (by omega) (by omega))) gSp_r (ci := 3) (q0 := ((((wZ h2 sa rm lt tk ov nw bs bS bM) ++ (wG sa cG cnt (rN ra cnt))) ++ (wQ ra cI fv fs fd cnt)) : va_W).length) (at_r rfl) rfl (by decide) ⟨by first | omega | (dsimp only [rmX3_init, rmL_build, rmL_act, rmL_below, rmL_cell, rmX3_digest, rmX3_stamps, rmX3_room, rmX3_valueOf, rmX3_stockOf, rmX3_vendedOf, rmX3_scarcest, rmX3_overpaid, rmX3_taken, rmX3_meanValue, rmX3_overpay, rmX3_ofStampFor, rmX3_stampsFor, rmX3_canPay, rmX3_most, rmX3_fewest, rmX3_ways, rmX3_gapFrom, rmX3_gapsTo, rmX3_reach, rmX3_reachNow, rmX3_reachWithRoom, rmX3_bestValue, rmX3_bestToPrint, rmX4_isThere, rmX4_print, rmX4_reach, rmL_reachPrinted, rmX3_lettersOf, rmX4_vend, rmX3_vend, rmX4_isSame, rmL_law]; omega), by first | omega | (dsimp only [rmX3_init, rmL_build, rmL_act, rmL_below, rmL_cell, rmX3_digest, rmX3_stamps, rmX3_room, rmX3_valueOf, rmX3_stockOf, rmX3_vendedOf, rmX3_scarcest, rmX3_overpaid, rmX3_taken, rmX3_meanValue, rmX3_overpay, rmX3_ofStampFor, rmX3_stampsFor, rmX3_canPay, rmX3_most, rmX3_fewest, rmX3_ways, rmX3_gapFrom, rmX3_gapsTo, rmX3_reach, rmX3_reachNow, rmX3_reachWithRoom, rmX3_bestValue, rmX3_bestToPrint, rmX4_isThere, rmX4_print, rmX4_reach, rmL_reachPrinted, rmX3_lettersOf, rmX4_vend, rmX3_vend, rmX4_isSame, rmL_law]; omega)⟩ rfl rfl (Nat.le_of_ble_eq_true rfl) dL_law_389 (fun nm9 w9 h9 => ?_) ?_
          · exfalso
            rcases h9 with ⟨_, h8, _⟩
            exact h8 ⟨by omega, by omega⟩
          rintro v9 w9 ⟨z389, rfl, h389, hX⟩
          have g389 : z389 = fs i := h389.2
          refine g_ws (w' := (((wZ h2 sa rm lt tk ov nw bs bS bM) ++ (wG sa cG cnt (rN ra cnt))) ++ (wQ ra cI fv fs fd cnt)) ++ (w9)) (st' := [.int (zI z389), .int (zI z353)]) (by simp only [List.append_assoc]) rfl ?_
          refine g_mods [wZ h2 sa rm lt tk ov nw bs bS bM, wG sa cG cnt (rN ra cnt), wQ ra cI fv fs fd cnt, w9] [wZ h2 sa rm lt tk ov nw bs bS bM, wG sa cG cnt (rN ra cnt), w9, wQ ra cI fv fs fd cnt] [0, 1, 3, 2] (by decide) rfl ?_
          refine g_ws (w' := (((wZ h2 sa rm lt tk ov nw bs bS bM) ++ (wG sa cG cnt (rN ra cnt))) ++ (w9)) ++ (wQ ra cI fv fs fd cnt)) rfl rfl ?_
          refine g_icmp_le 397 C dL_law_392 (by decide) (zr_i (by omega) (by omega)) (zr_i (by omega) (by omega)) (fun c_392 => ?_) (fun c_392 => ?_)
          · refine g_iload C dL_law_397 12 rfl ?_
            refine g_iload C dL_law_399 3 rfl ?_
            refine g_ishr C dL_law_401 (fun z1x z1xr => ?_)
            refine g_bipush C dL_law_402 (by decide) ?_
            refine g_iload C dL_law_404 8 rfl ?_
            refine g_imul C dL_law_406 ?_
            refine g_iadd C dL_law_407 ?_
            refine g_iconst C dL_law_408 ?_
            refine g_callS (wr := (((wZ h2 sa rm lt tk ov nw bs bS bM) ++ (wG sa cG cnt (rN ra cnt))) ++ (w9)) ++ (wQ ra cI fv fs fd cnt)) (st := []) _ _ C cL_15 (met_L_below l D cI cG cJ (z1x + (7 * (g : Int))) 5 (by omega) (zr_i (by omega) (by omega))) gSp_e (by decide) ⟨by first | omega | (dsimp only [rmX3_init, rmL_build, rmL_act, rmL_below, rmL_cell, rmX3_digest, rmX3_stamps, rmX3_room, rmX3_valueOf, rmX3_stockOf, rmX3_vendedOf, rmX3_scarcest, rmX3_overpaid, rmX3_taken, rmX3_meanValue, rmX3_overpay, rmX3_ofStampFor, rmX3_stampsFor, rmX3_canPay, rmX3_most, rmX3_fewest, rmX3_ways, rmX3_gapFrom, rmX3_gapsTo, rmX3_reach, rmX3_reachNow, rmX3_reachWithRoom, rmX3_bestValue, rmX3_bestToPrint, rmX4_isThere, rmX4_print, rmX4_reach, rmL_reachPrinted, rmX3_lettersOf, rmX4_vend, rmX3_vend, rmX4_isSame, rmL_law]; omega), by first | omega | (dsimp only [rmX3_init, rmL_build, rmL_act, rmL_below, rmL_cell, rmX3_digest, rmX3_stamps, rmX3_room, rmX3_valueOf, rmX3_stockOf, rmX3_vendedOf, rmX3_scarcest, rmX3_overpaid, rmX3_taken, rmX3_meanValue, rmX3_overpay, rmX3_ofStampFor, rmX3_stampsFor, rmX3_canPay, rmX3_most, rmX3_fewest, rmX3_ways, rmX3_gapFrom, rmX3_gapsTo, rmX3_reach, rmX3_reachNow, rmX3_reachWithRoom, rmX3_bestValue, rmX3_bestToPrint, rmX4_isThere, rmX4_print, rmX4_reach, rmL_reachPrinted, rmX3_lettersOf, rmX4_vend, rmX3_vend, rmX4_isSame, rmL_law]; omega)⟩ rfl rfl (Nat.le_of_ble_eq_true rfl) dL_law_409 ?_
            rintro v9 w9 ⟨b409, rfl, b409h, rfl⟩
            refine g_ws (w' := (((wZ h2 sa rm lt tk ov nw bs bS bM) ++ (wG sa cG cnt (rN ra cnt))) ++ (w9)) ++ (wQ ra cI fv fs fd cnt)) (st' := [.int (zI b409)]) (List.append_nil _) rfl ?_
            refine g_aload_n C dL_law_412 15 rfl ?_
            refine g_iload C dL_law_413 3 rfl ?_
            refine g_mods [wZ h2 sa rm lt tk ov nw bs bS bM, wG sa cG cnt (rN ra cnt), w9, wQ ra cI fv fs fd cnt] [wZ h2 sa rm lt tk ov nw bs bS bM, wG sa cG cnt (rN ra cnt), wQ ra cI fv fs fd cnt, w9] [0, 1, 3, 2] (by decide) rfl ?_
            refine g_ws (w' := (((wZ h2 sa rm lt tk ov nw bs bS bM) ++ (wG sa cG cnt (rN ra cnt))) ++ (wQ ra cI fv fs fd cnt)) ++ (w9)) rfl rfl ?_
            obtain ⟨c20, gv0, gs0, gd0, tc0, tr0, ft0, tv0, tu0, fc0, M0, fa0, fb0, N0, rfl⟩ := hX
            refine g_callVX (wr := ((wZ h2 sa rm lt tk ov nw bs bS bM) ++ (wG sa cG cnt (rN ra cnt))) ++ (wQ ra cI fv fs fd cnt)) (st := [.int (zI b409)]) _ _ C cL_88 (met_X3_stockOf l hl9 D cI cG cJ hm ad a2 bd pd cnt fv fs fd rm lt tk ov hI c20 gv0 gs0 gd0 tc0 tr0 ft0 tv0 tu0 fc0 M0 fa0 fb0 N0 (i : Int) (zr_i (by omega) (by omega))) gSp_r (ci := 3) (q0 := ((((wZ h2 sa rm lt tk ov nw bs bS bM) ++ (wG sa cG cnt (rN ra cnt))) ++ (wQ ra cI fv fs fd cnt)) : va_W).length) (at_r rfl) rfl (by decide) ⟨by first | omega | (dsimp only [rmX3_init, rmL_build, rmL_act, rmL_below, rmL_cell, rmX3_digest, rmX3_stamps, rmX3_room, rmX3_valueOf, rmX3_stockOf, rmX3_vendedOf, rmX3_scarcest, rmX3_overpaid, rmX3_taken, rmX3_meanValue, rmX3_overpay, rmX3_ofStampFor, rmX3_stampsFor, rmX3_canPay, rmX3_most, rmX3_fewest, rmX3_ways, rmX3_gapFrom, rmX3_gapsTo, rmX3_reach, rmX3_reachNow, rmX3_reachWithRoom, rmX3_bestValue, rmX3_bestToPrint, rmX4_isThere, rmX4_print, rmX4_reach, rmL_reachPrinted, rmX3_lettersOf, rmX4_vend, rmX3_vend, rmX4_isSame, rmL_law]; omega), by first | omega | (dsimp only [rmX3_init, rmL_build, rmL_act, rmL_below, rmL_cell, rmX3_digest, rmX3_stamps, rmX3_room, rmX3_valueOf, rmX3_stockOf, rmX3_vendedOf, rmX3_scarcest, rmX3_overpaid, rmX3_taken, rmX3_meanValue, rmX3_overpay, rmX3_ofStampFor, rmX3_stampsFor, rmX3_canPay, rmX3_most, rmX3_fewest, rmX3_ways, rmX3_gapFrom, rmX3_gapsTo, rmX3_reach, rmX3_reachNow, rmX3_reachWithRoom, rmX3_bestValue, rmX3_bestToPrint, rmX4_isThere, rmX4_print, rmX4_reach, rmL_reachPrinted, rmX3_lettersOf, rmX4_vend, rmX3_vend, rmX4_isSame, rmL_law]; omega)⟩ rfl rfl (Nat.le_of_ble_eq_true rfl) dL_law_415 (fun nm9 w9 h9 => ?_) ?_
            · exfalso
              rcases h9 with ⟨_, h8, _⟩
              exact h8 ⟨by omega, by omega⟩
            rintro v9 w9 ⟨z415, rfl, h415, hX⟩
            have g415 : z415 = fs i := h415.2
            refine g_ws (w' := (((wZ h2 sa rm lt tk ov nw bs bS bM) ++ (wG sa cG cnt (rN ra cnt))) ++ (wQ ra cI fv fs fd cnt)) ++ (w9)) (st' := [.int (zI z415), .int (zI b409)]) (by simp only [List.append_assoc]) rfl ?_
            refine g_mods [wZ h2 sa rm lt tk ov nw bs bS bM, wG sa cG cnt (rN ra cnt), wQ ra cI fv fs fd cnt, w9] [wZ h2 sa rm lt tk ov nw bs bS bM, wG sa cG cnt (rN ra cnt), w9, wQ ra cI fv fs fd cnt] [0, 1, 3, 2] (by decide) rfl ?_
            refine g_ws (w' := (((wZ h2 sa rm lt tk ov nw bs bS bM) ++ (wG sa cG cnt (rN ra cnt))) ++ (w9)) ++ (wQ ra cI fv fs fd cnt)) rfl rfl ?_
            refine g_iload C dL_law_418 9 rfl ?_
            refine g_iload C dL_law_420 4 rfl ?_
            refine g_isub C dL_law_422 ?_
            refine g_min C mL_112 (zr_i (by omega) (by omega)) (zr_i (by omega) (by omega)) ⟨by decide, by decide, by first | omega | (dsimp only [rmX3_init, rmL_build, rmL_act, rmL_below, rmL_cell, rmX3_digest, rmX3_stamps, rmX3_room, rmX3_valueOf, rmX3_stockOf, rmX3_vendedOf, rmX3_scarcest, rmX3_overpaid, rmX3_taken, rmX3_meanValue, rmX3_overpay, rmX3_ofStampFor, rmX3_stampsFor, rmX3_canPay, rmX3_most, rmX3_fewest, rmX3_ways, rmX3_gapFrom, rmX3_gapsTo, rmX3_reach, rmX3_reachNow, rmX3_reachWithRoom, rmX3_bestValue, rmX3_bestToPrint, rmX4_isThere, rmX4_print, rmX4_reach, rmL_reachPrinted, rmX3_lettersOf, rmX4_vend, rmX3_vend, rmX4_isSame, rmL_law]; omega), by first | omega | (dsimp only [rmX3_init, rmL_build, rmL_act, rmL_below, rmL_cell, rmX3_digest, rmX3_stamps, rmX3_room, rmX3_valueOf, rmX3_stockOf, rmX3_vendedOf, rmX3_scarcest, rmX3_overpaid, rmX3_taken, rmX3_meanValue, rmX3_overpay, rmX3_ofStampFor, rmX3_stampsFor, rmX3_canPay, rmX3_most, rmX3_fewest, rmX3_ways, rmX3_gapFrom, rmX3_gapsTo, rmX3_reach, rmX3_reachNow, rmX3_reachWithRoom, rmX3_bestValue, rmX3_bestToPrint, rmX4_isThere, rmX4_print, rmX4_reach, rmL_reachPrinted, rmX3_lettersOf, rmX4_vend, rmX3_vend, rmX4_isSame, rmL_law]; omega)⟩ (Nat.le_of_ble_eq_true rfl) dL_law_423 ?_
            refine g_min C mL_112 (zr_i (by omega) (by omega)) (zr_i (by omega) (by omega)) ⟨by decide, by decide, by first | omega | (dsimp only [rmX3_init, rmL_build, rmL_act, rmL_below, rmL_cell, rmX3_digest, rmX3_stamps, rmX3_room, rmX3_valueOf, rmX3_stockOf, rmX3_vendedOf, rmX3_scarcest, rmX3_overpaid, rmX3_taken, rmX3_meanValue, rmX3_overpay, rmX3_ofStampFor, rmX3_stampsFor, rmX3_canPay, rmX3_most, rmX3_fewest, rmX3_ways, rmX3_gapFrom, rmX3_gapsTo, rmX3_reach, rmX3_reachNow, rmX3_reachWithRoom, rmX3_bestValue, rmX3_bestToPrint, rmX4_isThere, rmX4_print, rmX4_reach, rmL_reachPrinted, rmX3_lettersOf, rmX4_vend, rmX3_vend, rmX4_isSame, rmL_law]; omega), by first | omega | (dsimp only [rmX3_init, rmL_build, rmL_act, rmL_below, rmL_cell, rmX3_digest, rmX3_stamps, rmX3_room, rmX3_valueOf, rmX3_stockOf, rmX3_vendedOf, rmX3_scarcest, rmX3_overpaid, rmX3_taken, rmX3_meanValue, rmX3_overpay, rmX3_ofStampFor, rmX3_stampsFor, rmX3_canPay, rmX3_most, rmX3_fewest, rmX3_ways, rmX3_gapFrom, rmX3_gapsTo, rmX3_reach, rmX3_reachNow, rmX3_reachWithRoom, rmX3_bestValue, rmX3_bestToPrint, rmX4_isThere, rmX4_print, rmX4_reach, rmL_reachPrinted, rmX3_lettersOf, rmX4_vend, rmX3_vend, rmX4_isSame, rmL_law]; omega)⟩ (Nat.le_of_ble_eq_true rfl) dL_law_426 ?_
            obtain ⟨m, hm9⟩ : ∃ m : Int, (min b409 (min z415 (rm - s16))) = m := ⟨_, rfl⟩
            refine g_top m hm9 ?_
            have mb : 0 ≤ m ∧ m ≤ fs i ∧ m ≤ rm - s16 := by omega
            refine g_istore (L' := [(19, .int (zI m)), (14, .int (zI (s14 + z353))), (13, .int (zI (s13 + (z353 * z365)))), (18, .int (zI z353)), (17, .int (zI (i : Int))), (16, .int (zI s16)), (15, .int (zI s15)), (12, .int (zI (ovF cnt fv fs rm p))), (11, .int (zI (p : Int))), (10, .int (zI (g : Int))), (8, .int (zI rm)), (7, .int (zI (cnt : Int))), (5, .long (dgF cnt fv fs fd rm lt tk ov)), (4, .int (zI x)), (3, .int (zI (t : Int))), (2, .ref h2), (1, .ref hm), (0, .ref b)]) C dL_law_429 (by decide) rfl ?_
            refine g_iload C dL_law_431 6 rfl ?_
            refine g_iload C dL_law_433 0 rfl ?_
            refine g_aload_n C dL_law_435 16 rfl ?_
            refine g_iload C dL_law_436 4 rfl ?_
            refine g_mods [wZ h2 sa rm lt tk ov nw bs bS bM, wG sa cG cnt (rN ra cnt), w9, wQ ra cI fv fs fd cnt] [wZ h2 sa rm lt tk ov nw bs bS bM, wG sa cG cnt (rN ra cnt), wQ ra cI fv fs fd cnt, w9] [0, 1, 3, 2] (by decide) rfl ?_
            refine g_ws (w' := (((wZ h2 sa rm lt tk ov nw bs bS bM) ++ (wG sa cG cnt (rN ra cnt))) ++ (wQ ra cI fv fs fd cnt)) ++ (w9)) rfl rfl ?_
            obtain ⟨c20, gv0, gs0, gd0, tc0, tr0, ft0, tv0, tu0, fc0, M0, fa0, fb0, N0, rfl⟩ := hX
            refine g_callVX (wr := ((wZ h2 sa rm lt tk ov nw bs bS bM) ++ (wG sa cG cnt (rN ra cnt))) ++ (wQ ra cI fv fs fd cnt)) (st := [.int (zI m), .int (zI s15)]) _ _ C cL_85 (met_X3_valueOf l hl9 D cI cG cJ hm ad a2 bd pd cnt fv fs fd rm lt tk ov hI c20 gv0 gs0 gd0 tc0 tr0 ft0 tv0 tu0 fc0 M0 fa0 fb0 N0 (i : Int) (zr_i (by omega) (by omega))) gSp_r (ci := 3) (q0 := ((((wZ h2 sa rm lt tk ov nw bs bS bM) ++ (wG sa cG cnt (rN ra cnt))) ++ (wQ ra cI fv fs fd cnt)) : va_W).length) (at_r rfl) rfl (by decide) ⟨by first | omega | (dsimp only [rmX3_init, rmL_build, rmL_act, rmL_below, rmL_cell, rmX3_digest, rmX3_stamps, rmX3_room, rmX3_valueOf, rmX3_stockOf, rmX3_vendedOf, rmX3_scarcest, rmX3_overpaid, rmX3_taken, rmX3_meanValue, rmX3_overpay, rmX3_ofStampFor, rmX3_stampsFor, rmX3_canPay, rmX3_most, rmX3_fewest, rmX3_ways, rmX3_gapFrom, rmX3_gapsTo, rmX3_reach, rmX3_reachNow, rmX3_reachWithRoom, rmX3_bestValue, rmX3_bestToPrint, rmX4_isThere, rmX4_print, rmX4_reach, rmL_reachPrinted, rmX3_lettersOf, rmX4_vend, rmX3_vend, rmX4_isSame, rmL_law]; omega), by first | omega | (dsimp only [rmX3_init, rmL_build, rmL_act, rmL_below, rmL_cell, rmX3_digest, rmX3_stamps, rmX3_room, rmX3_valueOf, rmX3_stockOf, rmX3_vendedOf, rmX3_scarcest, rmX3_overpaid, rmX3_taken, rmX3_meanValue, rmX3_overpay, rmX3_ofStampFor, rmX3_stampsFor, rmX3_canPay, rmX3_most, rmX3_fewest, rmX3_ways, rmX3_gapFrom, rmX3_gapsTo, rmX3_reach, rmX3_reachNow, rmX3_reachWithRoom, rmX3_bestValue, rmX3_bestToPrint, rmX4_isThere, rmX4_print, rmX4_reach, rmL_reachPrinted, rmX3_lettersOf, rmX4_vend, rmX3_vend, rmX4_isSame, rmL_law]; omega)⟩ rfl rfl (Nat.le_of_ble_eq_true rfl) dL_law_438 (fun nm9 w9 h9 => ?_) ?_
            · exfalso
              rcases h9 with ⟨_, h8, _⟩
              exact h8 ⟨by omega, by omega⟩
            rintro v9 w9 ⟨z438, rfl, h438, hX⟩
            have g438 : z438 = fv i := h438.2
            refine g_ws (w' := (((wZ h2 sa rm lt tk ov nw bs bS bM) ++ (wG sa cG cnt (rN ra cnt))) ++ (wQ ra cI fv fs fd cnt)) ++ (w9)) (st' := [.int (zI z438), .int (zI m), .int (zI s15)]) (by simp only [List.append_assoc]) rfl ?_
            refine g_mods [wZ h2 sa rm lt tk ov nw bs bS bM, wG sa cG cnt (rN ra cnt), wQ ra cI fv fs fd cnt, w9] [wZ h2 sa rm lt tk ov nw bs bS bM, wG sa cG cnt (rN ra cnt), w9, wQ ra cI fv fs fd cnt] [0, 1, 3, 2] (by decide) rfl ?_
            refine g_ws (w' := (((wZ h2 sa rm lt tk ov nw bs bS bM) ++ (wG sa cG cnt (rN ra cnt))) ++ (w9)) ++ (wQ ra cI fv fs fd cnt)) rfl rfl ?_
            refine g_imul C dL_law_441 ?_
            refine g_iadd C dL_law_442 ?_
            refine g_istore (L' := [(15, .int (zI (s15 + (m * z438)))), (19, .int (zI m)), (14, .int (zI (s14 + z353))), (13, .int (zI (s13 + (z353 * z365)))), (18, .int (zI z353)), (17, .int (zI (i : Int))), (16, .int (zI s16)), (12, .int (zI (ovF cnt fv fs rm p))), (11, .int (zI (p : Int))), (10, .int (zI (g : Int))), (8, .int (zI rm)), (7, .int (zI (cnt : Int))), (5, .long (dgF cnt fv fs fd rm lt tk ov)), (4, .int (zI x)), (3, .int (zI (t : Int))), (2, .ref h2), (1, .ref hm), (0, .ref b)]) C dL_law_443 (by decide) rfl ?_
            refine g_iload C dL_law_445 6 rfl ?_
            refine g_iload C dL_law_447 1 rfl ?_
            refine g_iadd C dL_law_449 ?_
            refine g_istore (L' := [(16, .int (zI (s16 + m))), (15, .int (zI (s15 + (m * z438)))), (19, .int (zI m)), (14, .int (zI (s14 + z353))), (13, .int (zI (s13 + (z353 * z365)))), (18, .int (zI z353)), (17, .int (zI (i : Int))), (12, .int (zI (ovF cnt fv fs rm p))), (11, .int (zI (p : Int))), (10, .int (zI (g : Int))), (8, .int (zI rm)), (7, .int (zI (cnt : Int))), (5, .long (dgF cnt fv fs fd rm lt tk ov)), (4, .int (zI x)), (3, .int (zI (t : Int))), (2, .ref h2), (1, .ref hm), (0, .ref b)]) C dL_law_450 (by decide) rfl ?_
            refine g_iinc (L' := [(17, .int (zI ((i : Int) + 1))), (16, .int (zI (s16 + m))), (15, .int (zI (s15 + (m * z438)))), (19, .int (zI m)), (14, .int (zI (s14 + z353))), (13, .int (zI (s13 + (z353 * z365)))), (18, .int (zI z353)), (12, .int (zI (ovF cnt fv fs rm p))), (11, .int (zI (p : Int))), (10, .int (zI (g : Int))), (8, .int (zI rm)), (7, .int (zI (cnt : Int))), (5, .long (dgF cnt fv fs fd rm lt tk ov)), (4, .int (zI x)), (3, .int (zI (t : Int))), (2, .ref h2), (1, .ref hm), (0, .ref b)]) C dL_law_452 6 rfl (by decide) rfl ?_
            refine g_goto 341 C dL_law_455 (by decide) ?_
            refine g_loc (L' := [(17, .int (zI ((i : Int) + 1))), (16, .int (zI (s16 + m))), (15, .int (zI (s15 + (m * z438)))), (14, .int (zI (s14 + z353))), (13, .int (zI (s13 + (z353 * z365)))), (12, .int (zI (ovF cnt fv fs rm p))), (11, .int (zI (p : Int))), (10, .int (zI (g : Int))), (8, .int (zI rm)), (7, .int (zI (cnt : Int))), (5, .long (dgF cnt fv fs fd rm lt tk ov)), (4, .int (zI x)), (3, .int (zI (t : Int))), (2, .ref h2), (1, .ref hm), (0, .ref b)]) [0, 1, 2, 4, 5, 7, 8, 9, 10, 11, 12, 13, 14, 15, 16, 17] rfl ?_
            refine g_widen (k' := k0 + 1 + 10 * (i + 1)) (n' := n0 + 6 + 60 * (i + 1)) (by first | omega | (dsimp only [rmX3_init, rmL_build, rmL_act, rmL_below, rmL_cell, rmX3_digest, rmX3_stamps, rmX3_room, rmX3_valueOf, rmX3_stockOf, rmX3_vendedOf, rmX3_scarcest, rmX3_overpaid, rmX3_taken, rmX3_meanValue, rmX3_overpay, rmX3_ofStampFor, rmX3_stampsFor, rmX3_canPay, rmX3_most, rmX3_fewest, rmX3_ways, rmX3_gapFrom, rmX3_gapsTo, rmX3_reach, rmX3_reachNow, rmX3_reachWithRoom, rmX3_bestValue, rmX3_bestToPrint, rmX4_isThere, rmX4_print, rmX4_reach, rmL_reachPrinted, rmX3_lettersOf, rmX4_vend, rmX3_vend, rmX4_isSame, rmL_law]; omega)) (by first | omega | (dsimp only [rmX3_init, rmL_build, rmL_act, rmL_below, rmL_cell, rmX3_digest, rmX3_stamps, rmX3_room, rmX3_valueOf, rmX3_stockOf, rmX3_vendedOf, rmX3_scarcest, rmX3_overpaid, rmX3_taken, rmX3_meanValue, rmX3_overpay, rmX3_ofStampFor, rmX3_stampsFor, rmX3_canPay, rmX3_most, rmX3_fewest, rmX3_ways, rmX3_gapFrom, rmX3_gapsTo, rmX3_reach, rmX3_reachNow, rmX3_reachWithRoom, rmX3_bestValue, rmX3_bestToPrint, rmX4_isThere, rmX4_print, rmX4_reach, rmL_reachPrinted, rmX3_lettersOf, rmX4_vend, rmX3_vend, rmX4_isSame, rmL_law]; omega)) ?_
            exact ih_341 (i + 1) (s13 + (z353 * z365)) (s14 + z353) (s15 + (m * z438)) (s16 + m) (zU o i m) w9 (by omega) (by rw [e13, g353, g365]; rfl) (by rw [e14, g353]; rfl) (by rw [sumTo_oSm, e15, g438]) (by rw [sumTo_oS, e16]) (ho_up ho ⟨mb.1, mb.2.1⟩) (by have h9 := mulm_bd (m := m) (v := z438) ⟨mb.1, by omega⟩ ⟨by omega, by omega⟩; omega) (by omega) hX (by omega)
          · exfalso; omega
  refine g_loc (L' := [(17, .int (zI 0)), (16, .int (zI 0)), (15, .int (zI 0)), (14, .int (zI 0)), (13, .int (zI 0)), (12, .int (zI (ovF cnt fv fs rm p))), (11, .int (zI (p : Int))), (10, .int (zI (g : Int))), (8, .int (zI rm)), (7, .int (zI (cnt : Int))), (5, .long (dgF cnt fv fs fd rm lt tk ov)), (4, .int (zI x)), (3, .int (zI (t : Int))), (2, .ref h2), (1, .ref hm), (0, .ref b)]) [0, 1, 2, 3, 4, 5, 6, 7, 8, 9, 10, 11, 12, 13, 14, 15] rfl ?_
  refine g_widen (k' := k0 + 1 + 10 * 0) (n' := n0 + 6 + 60 * 0) (by first | omega | (dsimp only [rmX3_init, rmL_build, rmL_act, rmL_below, rmL_cell, rmX3_digest, rmX3_stamps, rmX3_room, rmX3_valueOf, rmX3_stockOf, rmX3_vendedOf, rmX3_scarcest, rmX3_overpaid, rmX3_taken, rmX3_meanValue, rmX3_overpay, rmX3_ofStampFor, rmX3_stampsFor, rmX3_canPay, rmX3_most, rmX3_fewest, rmX3_ways, rmX3_gapFrom, rmX3_gapsTo, rmX3_reach, rmX3_reachNow, rmX3_reachWithRoom, rmX3_bestValue, rmX3_bestToPrint, rmX4_isThere, rmX4_print, rmX4_reach, rmL_reachPrinted, rmX3_lettersOf, rmX4_vend, rmX3_vend, rmX4_isSame, rmL_law]; omega)) (by first | omega | (dsimp only [rmX3_init, rmL_build, rmL_act, rmL_below, rmL_cell, rmX3_digest, rmX3_stamps, rmX3_room, rmX3_valueOf, rmX3_stockOf, rmX3_vendedOf, rmX3_scarcest, rmX3_overpaid, rmX3_taken, rmX3_meanValue, rmX3_overpay, rmX3_ofStampFor, rmX3_stampsFor, rmX3_canPay, rmX3_most, rmX3_fewest, rmX3_ways, rmX3_gapFrom, rmX3_gapsTo, rmX3_reach, rmX3_reachNow, rmX3_reachWithRoom, rmX3_bestValue, rmX3_bestToPrint, rmX4_isThere, rmX4_print, rmX4_reach, rmL_reachPrinted, rmX3_lettersOf, rmX4_vend, rmX3_vend, rmX4_isSame, rmL_law]; omega)) ?_
  exact loop_341 _ 0 0 0 0 0 (fun _ => 0) w9 (Nat.zero_le _) rfl rfl rfl rfl (fun j hj => absurd hj (Nat.not_lt_zero _)) (by omega) (by omega) hX (Nat.lt_succ_self _)
set_option maxHeartbeats 8000000 in
set_option maxRecDepth 100000 in
theorem law_458n (l : Launch) {E : gEnv} {D : va_G} {cI cG cJ : ClassId} {k0 n0 : Nat} (hl9 : l.stackTraces = false) (hm h2 b : Nat) (ad a2 bd pd : Nat → Nat) (T : Int) (hT1 : T ≤ 100) (cnt : Nat) (fv fs fd : Nat → Int) (rm lt tk ov : Int) (w1 : va_W) (sa : Nat) (ra : Nat → Nat) (nw bs : Value) (bS bM : Int) (hX : XW hm ad a2 bd pd cI cG cnt fv fs fd rm lt tk ov w1) (hI : XI cnt fv fs rm) (hY : YI cnt fd lt tk ov T) (x : Int) (t : Nat) (ht : t < 8) (C : gC E l rmL_law D 21 RL cL_law cI cG cJ) (hk : k0 ≤ 590000) (hn0 : n0 ≤ 7200000) (p g : Nat) (hp : 1 ≤ p ∧ p ≤ 300) (hg : g < 4) (v12 s13 s14 s15 s16 : Int) (b15 : 0 ≤ s15 ∧ s15 ≤ 10000) (b16 : 0 ≤ s16 ∧ s16 ≤ 12) (hv : v12 = -1) (h13 : s13 = 0) (h14 : s14 = 0) (hl : LSm cnt fv fs rm p = -1) (hoth : ¬ (p : Int) ≤ s15)  (K : ∀ (k n : Nat) (w9 : va_W), k ≤ k0 + 10 → n ≤ n0 + 60 → XW hm ad a2 bd pd cI cG cnt fv fs fd rm lt tk ov w9 →  gW E k n ((((wZ h2 sa rm lt tk ov nw bs bS bM) ++ (wG sa cG cnt (rN ra cnt))) ++ (w9)) ++ (wQ ra cI fv fs fd cnt)) 591 [(14, .int (zI s14)), (12, .int (zI v12)), (11, .int (zI (p : Int))), (10, .int (zI (g : Int))), (8, .int (zI rm)), (7, .int (zI (cnt : Int))), (5, .long (dgF cnt fv fs fd rm lt tk ov)), (4, .int (zI x)), (3, .int (zI (t : Int))), (2, .ref h2), (1, .ref hm), (0, .ref b)] []) : gW E k0 n0 ((((wZ h2 sa rm lt tk ov nw bs bS bM) ++ (wG sa cG cnt (rN ra cnt))) ++ (w1)) ++ (wQ ra cI fv fs fd cnt)) 458 [(16, .int (zI s16)), (15, .int (zI s15)), (14, .int (zI s14)), (13, .int (zI s13)), (12, .int (zI v12)), (11, .int (zI (p : Int))), (10, .int (zI (g : Int))), (8, .int (zI rm)), (7, .int (zI (cnt : Int))), (5, .long (dgF cnt fv fs fd rm lt tk ov)), (4, .int (zI x)), (3, .int (zI (t : Int))), (2, .ref h2), (1, .ref hm), (0, .ref b)] [] := by
  obtain ⟨hc, hS, h99, hr1, hr2⟩ := id hI
  have hr : 0 ≤ rm ∧ rm ≤ 12 := ⟨by omega, hr2⟩
  obtain ⟨y1, y2, y3, y4, y5, y6⟩ := id hY
  have hv1 : ∀ j, j < cnt → 1 ≤ fv j := fun j hj => (hS.1 j hj).1
  refine g_iload C dL_law_458 4 rfl ?_
  refine g_if_lt 467 C dL_law_460 (by decide) (zr_i (by omega) (by omega)) (fun c_460 => ?_) (fun c_460 => ?_)
  · refine g_iconst C dL_law_467 ?_
    refine g_istore (L' := [(17, .int (zI 0)), (16, .int (zI s16)), (15, .int (zI s15)), (14, .int (zI s14)), (13, .int (zI s13)), (12, .int (zI v12)), (11, .int (zI (p : Int))), (10, .int (zI (g : Int))), (8, .int (zI rm)), (7, .int (zI (cnt : Int))), (5, .long (dgF cnt fv fs fd rm lt tk ov)), (4, .int (zI x)), (3, .int (zI (t : Int))), (2, .ref h2), (1, .ref hm), (0, .ref b)]) C dL_law_468 (by decide) rfl ?_
    refine g_iload C dL_law_470 3 rfl ?_
    refine g_aload_n C dL_law_472 14 rfl ?_
    refine g_iload C dL_law_473 6 rfl ?_
    refine g_mods [wZ h2 sa rm lt tk ov nw bs bS bM, wG sa cG cnt (rN ra cnt), w1, wQ ra cI fv fs fd cnt] [wZ h2 sa rm lt tk ov nw bs bS bM, wG sa cG cnt (rN ra cnt), wQ ra cI fv fs fd cnt, w1] [0, 1, 3, 2] (by decide) rfl ?_
    refine g_ws (w' := (((wZ h2 sa rm lt tk ov nw bs bS bM) ++ (wG sa cG cnt (rN ra cnt))) ++ (wQ ra cI fv fs fd cnt)) ++ (w1)) rfl rfl ?_
    obtain ⟨c20, gv0, gs0, gd0, tc0, tr0, ft0, tv0, tu0, fc0, M0, fa0, fb0, N0, rfl⟩ := hX
    refine g_callVX (wr := ((wZ h2 sa rm lt tk ov nw bs bS bM) ++ (wG sa cG cnt (rN ra cnt))) ++ (wQ ra cI fv fs fd cnt)) (st := [.int (zI s14)]) _ _ C cL_117 (met_X3_stampsFor l hl9 D cI cG cJ hm ad a2 bd pd cnt fv fs fd rm lt tk ov hI c20 gv0 gs0 gd0 tc0 tr0 ft0 tv0 tu0 fc0 M0 fa0 fb0 N0 (p : Int) (zr_i (by omega) (by omega))) gSp_r (ci := 3) (q0 := ((((wZ h2 sa rm lt tk ov nw bs bS bM) ++ (wG sa cG cnt (rN ra cnt))) ++ (wQ ra cI fv fs fd cnt)) : va_W).length) (at_r rfl) rfl (by decide) ⟨by first | omega | (dsimp only [rmX3_init, rmL_build, rmL_act, rmL_below, rmL_cell, rmX3_digest, rmX3_stamps, rmX3_room, rmX3_valueOf, rmX3_stockOf, rmX3_vendedOf, rmX3_scarcest, rmX3_overpaid, rmX3_taken, rmX3_meanValue, rmX3_overpay, rmX3_ofStampFor, rmX3_stampsFor, rmX3_canPay, rmX3_most, rmX3_fewest, rmX3_ways, rmX3_gapFrom, rmX3_gapsTo, rmX3_reach, rmX3_reachNow, rmX3_reachWithRoom, rmX3_bestValue, rmX3_bestToPrint, rmX4_isThere, rmX4_print, rmX4_reach, rmL_reachPrinted, rmX3_lettersOf, rmX4_vend, rmX3_vend, rmX4_isSame, rmL_law]; omega), by first | omega | (dsimp only [rmX3_init, rmL_build, rmL_act, rmL_below, rmL_cell, rmX3_digest, rmX3_stamps, rmX3_room, rmX3_valueOf, rmX3_stockOf, rmX3_vendedOf, rmX3_scarcest, rmX3_overpaid, rmX3_taken, rmX3_meanValue, rmX3_overpay, rmX3_ofStampFor, rmX3_stampsFor, rmX3_canPay, rmX3_most, rmX3_fewest, rmX3_ways, rmX3_gapFrom, rmX3_gapsTo, rmX3_reach, rmX3_reachNow, rmX3_reachWithRoom, rmX3_bestValue, rmX3_bestToPrint, rmX4_isThere, rmX4_print, rmX4_reach, rmL_reachPrinted, rmX3_lettersOf, rmX4_vend, rmX3_vend, rmX4_isSame, rmL_law]; omega)⟩ rfl rfl (Nat.le_of_ble_eq_true rfl) dL_law_475 (fun nm9 w9 h9 => ?_) ?_
    · exfalso
      rcases h9 with ⟨_, h8, _⟩
      exact h8 ⟨by omega, by omega⟩
    rintro v9 w9 ⟨z475, rfl, h475, hX⟩
    have g475 : z475 = s14 := h475.2.trans ((if_pos hl).trans h14.symm)
    refine g_ws (w' := (((wZ h2 sa rm lt tk ov nw bs bS bM) ++ (wG sa cG cnt (rN ra cnt))) ++ (wQ ra cI fv fs fd cnt)) ++ (w9)) (st' := [.int (zI z475), .int (zI s14)]) (by simp only [List.append_assoc]) rfl ?_
    refine g_mods [wZ h2 sa rm lt tk ov nw bs bS bM, wG sa cG cnt (rN ra cnt), wQ ra cI fv fs fd cnt, w9] [wZ h2 sa rm lt tk ov nw bs bS bM, wG sa cG cnt (rN ra cnt), w9, wQ ra cI fv fs fd cnt] [0, 1, 3, 2] (by decide) rfl ?_
    refine g_ws (w' := (((wZ h2 sa rm lt tk ov nw bs bS bM) ++ (wG sa cG cnt (rN ra cnt))) ++ (w9)) ++ (wQ ra cI fv fs fd cnt)) rfl rfl ?_
    refine g_icmp_ne 589 C dL_law_478 (by decide) (zr_i (by omega) (by omega)) (zr_i (by omega) (by omega)) (fun c_478 => ?_) (fun c_478 => ?_)
    · exfalso; omega
    · refine g_iload C dL_law_481 3 rfl ?_
      refine g_iload C dL_law_483 8 rfl ?_
      refine g_icmp_gt 589 C dL_law_485 (by decide) (zr_i (by omega) (by omega)) (zr_i (by omega) (by omega)) (fun c_485 => ?_) (fun c_485 => ?_)
      · exfalso; omega
      · refine g_iload C dL_law_488 0 rfl ?_
        refine g_iload C dL_law_490 3 rfl ?_
        refine g_if_le 499 C dL_law_492 (by decide) (zr_i (by omega) (by omega)) (fun c_492 => ?_) (fun c_492 => ?_)
        · refine g_iconst C dL_law_499 ?_
          refine g_icmp_ne 589 C dL_law_500 (by decide) (zr_i (by omega) (by omega)) (zr_i (by omega) (by omega)) (fun c_500 => ?_) (fun c_500 => ?_)
          · exfalso; omega
          · refine g_iload C dL_law_503 0 rfl ?_
            refine g_if_eq 518 C dL_law_505 (by decide) (zr_i (by omega) (by omega)) (fun c_505 => ?_) (fun c_505 => ?_)
            · refine g_aload_n C dL_law_518 14 rfl ?_
              refine g_iload C dL_law_519 6 rfl ?_
              refine g_mods [wZ h2 sa rm lt tk ov nw bs bS bM, wG sa cG cnt (rN ra cnt), w9, wQ ra cI fv fs fd cnt] [wZ h2 sa rm lt tk ov nw bs bS bM, wG sa cG cnt (rN ra cnt), wQ ra cI fv fs fd cnt, w9] [0, 1, 3, 2] (by decide) rfl ?_
              refine g_ws (w' := (((wZ h2 sa rm lt tk ov nw bs bS bM) ++ (wG sa cG cnt (rN ra cnt))) ++ (wQ ra cI fv fs fd cnt)) ++ (w9)) rfl rfl ?_
              obtain ⟨c20, gv0, gs0, gd0, tc0, tr0, ft0, tv0, tu0, fc0, M0, fa0, fb0, N0, rfl⟩ := hX
              refine g_callVX (wr := ((wZ h2 sa rm lt tk ov nw bs bS bM) ++ (wG sa cG cnt (rN ra cnt))) ++ (wQ ra cI fv fs fd cnt)) (st := []) _ _ C cL_120 (met_X3_canPay l hl9 D cI cG cJ hm ad a2 bd pd cnt fv fs fd rm lt tk ov hI c20 gv0 gs0 gd0 tc0 tr0 ft0 tv0 tu0 fc0 M0 fa0 fb0 N0 (p : Int) (zr_i (by omega) (by omega))) gSp_r (ci := 3) (q0 := ((((wZ h2 sa rm lt tk ov nw bs bS bM) ++ (wG sa cG cnt (rN ra cnt))) ++ (wQ ra cI fv fs fd cnt)) : va_W).length) (at_r rfl) rfl (by decide) ⟨by first | omega | (dsimp only [rmX3_init, rmL_build, rmL_act, rmL_below, rmL_cell, rmX3_digest, rmX3_stamps, rmX3_room, rmX3_valueOf, rmX3_stockOf, rmX3_vendedOf, rmX3_scarcest, rmX3_overpaid, rmX3_taken, rmX3_meanValue, rmX3_overpay, rmX3_ofStampFor, rmX3_stampsFor, rmX3_canPay, rmX3_most, rmX3_fewest, rmX3_ways, rmX3_gapFrom, rmX3_gapsTo, rmX3_reach, rmX3_reachNow, rmX3_reachWithRoom, rmX3_bestValue, rmX3_bestToPrint, rmX4_isThere, rmX4_print, rmX4_reach, rmL_reachPrinted, rmX3_lettersOf, rmX4_vend, rmX3_vend, rmX4_isSame, rmL_law]; omega), by first | omega | (dsimp only [rmX3_init, rmL_build, rmL_act, rmL_below, rmL_cell, rmX3_digest, rmX3_stamps, rmX3_room, rmX3_valueOf, rmX3_stockOf, rmX3_vendedOf, rmX3_scarcest, rmX3_overpaid, rmX3_taken, rmX3_meanValue, rmX3_overpay, rmX3_ofStampFor, rmX3_stampsFor, rmX3_canPay, rmX3_most, rmX3_fewest, rmX3_ways, rmX3_gapFrom, rmX3_gapsTo, rmX3_reach, rmX3_reachNow, rmX3_reachWithRoom, rmX3_bestValue, rmX3_bestToPrint, rmX4_isThere, rmX4_print, rmX4_reach, rmL_reachPrinted, rmX3_lettersOf, rmX4_vend, rmX3_vend, rmX4_isSame, rmL_law]; omega)⟩ rfl rfl (Nat.le_of_ble_eq_true rfl) dL_law_521 (fun nm9 w9 h9 => ?_) ?_
              · exfalso
                rcases h9 with ⟨_, h8, _⟩
                exact h8 ⟨by omega, by omega⟩
              rintro v9 w9 ⟨z521, rfl, h521, hX⟩
              have hcan := f_can (cnt := cnt) (fv := fv) (fs := fs) (rm := rm) (p := p) (by omega)
              have hcz : (TB cnt fv fs rm p ≤ rm ∧ z521 = 1) ∨ (¬ TB cnt fv fs rm p ≤ rm ∧ z521 = 0) := by
                by_cases h9 : TB cnt fv fs rm p ≤ rm
                · exact Or.inl ⟨h9, h521.2.trans (if_pos h9)⟩
                · exact Or.inr ⟨h9, h521.2.trans (if_neg h9)⟩
              rw [hcan] at hcz
              refine g_ws (w' := (((wZ h2 sa rm lt tk ov nw bs bS bM) ++ (wG sa cG cnt (rN ra cnt))) ++ (wQ ra cI fv fs fd cnt)) ++ (w9)) (st' := [.int (zI z521)]) (by simp only [List.append_assoc]) rfl ?_
              refine g_mods [wZ h2 sa rm lt tk ov nw bs bS bM, wG sa cG cnt (rN ra cnt), wQ ra cI fv fs fd cnt, w9] [wZ h2 sa rm lt tk ov nw bs bS bM, wG sa cG cnt (rN ra cnt), w9, wQ ra cI fv fs fd cnt] [0, 1, 3, 2] (by decide) rfl ?_
              refine g_ws (w' := (((wZ h2 sa rm lt tk ov nw bs bS bM) ++ (wG sa cG cnt (rN ra cnt))) ++ (w9)) ++ (wQ ra cI fv fs fd cnt)) rfl rfl ?_
              refine g_iload C dL_law_524 5 rfl ?_
              refine g_if_ne 533 C dL_law_526 (by decide) (zr_i (by omega) (by omega)) (fun c_526 => ?_) (fun c_526 => ?_)
              · refine g_iconst C dL_law_533 ?_
                refine g_icmp_ne 589 C dL_law_534 (by decide) (zr_i (by omega) (by omega)) (zr_i (by omega) (by omega)) (fun c_534 => ?_) (fun c_534 => ?_)
                · exfalso; omega
                · refine g_iload C dL_law_537 0 rfl ?_
                  refine g_iload C dL_law_539 6 rfl ?_
                  refine g_aload_n C dL_law_541 14 rfl ?_
                  refine g_mods [wZ h2 sa rm lt tk ov nw bs bS bM, wG sa cG cnt (rN ra cnt), w9, wQ ra cI fv fs fd cnt] [wZ h2 sa rm lt tk ov nw bs bS bM, wG sa cG cnt (rN ra cnt), wQ ra cI fv fs fd cnt, w9] [0, 1, 3, 2] (by decide) rfl ?_
                  refine g_ws (w' := (((wZ h2 sa rm lt tk ov nw bs bS bM) ++ (wG sa cG cnt (rN ra cnt))) ++ (wQ ra cI fv fs fd cnt)) ++ (w9)) rfl rfl ?_
                  obtain ⟨c20, gv0, gs0, gd0, tc0, tr0, ft0, tv0, tu0, fc0, M0, fa0, fb0, N0, rfl⟩ := hX
                  refine g_callV (wr := ((wZ h2 sa rm lt tk ov nw bs bS bM) ++ (wG sa cG cnt (rN ra cnt))) ++ (wQ ra cI fv fs fd cnt)) (st := [.int (zI (p : Int)), .int (zI 0)]) _ _ C cL_123 (met_X3_most l D cI cG cJ hm ad a2 bd pd cnt fv fs fd rm lt tk ov hI c20 gv0 gs0 gd0 tc0 tr0 ft0 tv0 tu0 fc0 M0 fa0 fb0 N0 ) gSp_r (ci := 3) (q0 := ((((wZ h2 sa rm lt tk ov nw bs bS bM) ++ (wG sa cG cnt (rN ra cnt))) ++ (wQ ra cI fv fs fd cnt)) : va_W).length) (at_r rfl) rfl (by decide) ⟨by first | omega | (dsimp only [rmX3_init, rmL_build, rmL_act, rmL_below, rmL_cell, rmX3_digest, rmX3_stamps, rmX3_room, rmX3_valueOf, rmX3_stockOf, rmX3_vendedOf, rmX3_scarcest, rmX3_overpaid, rmX3_taken, rmX3_meanValue, rmX3_overpay, rmX3_ofStampFor, rmX3_stampsFor, rmX3_canPay, rmX3_most, rmX3_fewest, rmX3_ways, rmX3_gapFrom, rmX3_gapsTo, rmX3_reach, rmX3_reachNow, rmX3_reachWithRoom, rmX3_bestValue, rmX3_bestToPrint, rmX4_isThere, rmX4_print, rmX4_reach, rmL_reachPrinted, rmX3_lettersOf, rmX4_vend, rmX3_vend, rmX4_isSame, rmL_law]; omega), by first | omega | (dsimp only [rmX3_init, rmL_build, rmL_act, rmL_below, rmL_cell, rmX3_digest, rmX3_stamps, rmX3_room, rmX3_valueOf, rmX3_stockOf, rmX3_vendedOf, rmX3_scarcest, rmX3_overpaid, rmX3_taken, rmX3_meanValue, rmX3_overpay, rmX3_ofStampFor, rmX3_stampsFor, rmX3_canPay, rmX3_most, rmX3_fewest, rmX3_ways, rmX3_gapFrom, rmX3_gapsTo, rmX3_reach, rmX3_reachNow, rmX3_reachWithRoom, rmX3_bestValue, rmX3_bestToPrint, rmX4_isThere, rmX4_print, rmX4_reach, rmL_reachPrinted, rmX3_lettersOf, rmX4_vend, rmX3_vend, rmX4_isSame, rmL_law]; omega)⟩ rfl rfl (Nat.le_of_ble_eq_true rfl) dL_law_542 ?_
                  rintro v9 w9 ⟨z542, rfl, h542, hX⟩
                  have hgs := f_gs hI
                  have hmo := f_most hS hr hp.2
                  refine g_ws (w' := (((wZ h2 sa rm lt tk ov nw bs bS bM) ++ (wG sa cG cnt (rN ra cnt))) ++ (wQ ra cI fv fs fd cnt)) ++ (w9)) (st' := [.int (zI z542), .int (zI (p : Int)), .int (zI 0)]) (by simp only [List.append_assoc]) rfl ?_
                  refine g_mods [wZ h2 sa rm lt tk ov nw bs bS bM, wG sa cG cnt (rN ra cnt), wQ ra cI fv fs fd cnt, w9] [wZ h2 sa rm lt tk ov nw bs bS bM, wG sa cG cnt (rN ra cnt), w9, wQ ra cI fv fs fd cnt] [0, 1, 3, 2] (by decide) rfl ?_
                  refine g_ws (w' := (((wZ h2 sa rm lt tk ov nw bs bS bM) ++ (wG sa cG cnt (rN ra cnt))) ++ (w9)) ++ (wQ ra cI fv fs fd cnt)) rfl rfl ?_
                  refine g_icmp_gt 552 C dL_law_545 (by decide) (zr_i (by omega) (by omega)) (zr_i (by omega) (by omega)) (fun c_545 => ?_) (fun c_545 => ?_)
                  · refine g_iconst C dL_law_552 ?_
                    refine g_icmp_ne 589 C dL_law_553 (by decide) (zr_i (by omega) (by omega)) (zr_i (by omega) (by omega)) (fun c_553 => ?_) (fun c_553 => ?_)
                    · exfalso; omega
                    · refine g_iload C dL_law_556 2 rfl ?_
                      refine g_iload C dL_law_558 6 rfl ?_
                      refine g_icmp_lt 591 C dL_law_560 (by decide) (zr_i (by omega) (by omega)) (zr_i (by omega) (by omega)) (fun c_560 => ?_) (fun c_560 => ?_)
                      · refine g_loc (L' := [(14, .int (zI s14)), (12, .int (zI v12)), (11, .int (zI (p : Int))), (10, .int (zI (g : Int))), (8, .int (zI rm)), (7, .int (zI (cnt : Int))), (5, .long (dgF cnt fv fs fd rm lt tk ov)), (4, .int (zI x)), (3, .int (zI (t : Int))), (2, .ref h2), (1, .ref hm), (0, .ref b)]) [3, 5, 6, 7, 8, 9, 10, 11, 12, 13, 14, 15] rfl ?_
                        exact K _ _ _ (by first | omega | (dsimp only [rmX3_init, rmL_build, rmL_act, rmL_below, rmL_cell, rmX3_digest, rmX3_stamps, rmX3_room, rmX3_valueOf, rmX3_stockOf, rmX3_vendedOf, rmX3_scarcest, rmX3_overpaid, rmX3_taken, rmX3_meanValue, rmX3_overpay, rmX3_ofStampFor, rmX3_stampsFor, rmX3_canPay, rmX3_most, rmX3_fewest, rmX3_ways, rmX3_gapFrom, rmX3_gapsTo, rmX3_reach, rmX3_reachNow, rmX3_reachWithRoom, rmX3_bestValue, rmX3_bestToPrint, rmX4_isThere, rmX4_print, rmX4_reach, rmL_reachPrinted, rmX3_lettersOf, rmX4_vend, rmX3_vend, rmX4_isSame, rmL_law]; omega)) (by first | omega | (dsimp only [rmX3_init, rmL_build, rmL_act, rmL_below, rmL_cell, rmX3_digest, rmX3_stamps, rmX3_room, rmX3_valueOf, rmX3_stockOf, rmX3_vendedOf, rmX3_scarcest, rmX3_overpaid, rmX3_taken, rmX3_meanValue, rmX3_overpay, rmX3_ofStampFor, rmX3_stampsFor, rmX3_canPay, rmX3_most, rmX3_fewest, rmX3_ways, rmX3_gapFrom, rmX3_gapsTo, rmX3_reach, rmX3_reachNow, rmX3_reachWithRoom, rmX3_bestValue, rmX3_bestToPrint, rmX4_isThere, rmX4_print, rmX4_reach, rmL_reachPrinted, rmX3_lettersOf, rmX4_vend, rmX3_vend, rmX4_isSame, rmL_law]; omega)) hX 
                      · exfalso; omega
                  · exfalso; omega
              · exfalso; omega
            · exfalso; omega
        · exfalso; omega
  · exfalso; omega
set_option maxHeartbeats 8000000 in
set_option maxRecDepth 100000 in
theorem law_458s (l : Launch) {E : gEnv} {D : va_G} {cI cG cJ : ClassId} {k0 n0 : Nat} (hl9 : l.stackTraces = false) (hm h2 b : Nat) (ad a2 bd pd : Nat → Nat) (T : Int) (hT1 : T ≤ 100) (cnt : Nat) (fv fs fd : Nat → Int) (rm lt tk ov : Int) (w1 : va_W) (sa : Nat) (ra : Nat → Nat) (nw bs : Value) (bS bM : Int) (hX : XW hm ad a2 bd pd cI cG cnt fv fs fd rm lt tk ov w1) (hI : XI cnt fv fs rm) (hY : YI cnt fd lt tk ov T) (x : Int) (t : Nat) (ht : t < 8) (C : gC E l rmL_law D 21 RL cL_law cI cG cJ) (hk : k0 ≤ 590000) (hn0 : n0 ≤ 7200000) (p g : Nat) (hp : 1 ≤ p ∧ p ≤ 300) (hg : g < 4) (v12 s13 s14 s15 s16 : Int) (b15 : 0 ≤ s15 ∧ s15 ≤ 10000) (b16 : 0 ≤ s16 ∧ s16 ≤ 12) (s : Nat) (hv : v12 = (s : Int) - (p : Int)) (h13 : s13 = (s : Int)) (h14 : s14 = TB cnt fv fs rm s) (hl : LSm cnt fv fs rm p = (s : Int)) (h14b : 1 ≤ s14 ∧ s14 ≤ rm) (hps : p ≤ s ∧ s < 360) (hoth : (p : Int) ≤ s15 → (s : Int) ≤ s15 ∧ ((s : Int) = s15 → s14 ≤ s16))  (K : ∀ (k n : Nat) (w9 : va_W), k ≤ k0 + 10 → n ≤ n0 + 60 → XW hm ad a2 bd pd cI cG cnt fv fs fd rm lt tk ov w9 →  gW E k n ((((wZ h2 sa rm lt tk ov nw bs bS bM) ++ (wG sa cG cnt (rN ra cnt))) ++ (w9)) ++ (wQ ra cI fv fs fd cnt)) 591 [(14, .int (zI s14)), (12, .int (zI v12)), (11, .int (zI (p : Int))), (10, .int (zI (g : Int))), (8, .int (zI rm)), (7, .int (zI (cnt : Int))), (5, .long (dgF cnt fv fs fd rm lt tk ov)), (4, .int (zI x)), (3, .int (zI (t : Int))), (2, .ref h2), (1, .ref hm), (0, .ref b)] []) : gW E k0 n0 ((((wZ h2 sa rm lt tk ov nw bs bS bM) ++ (wG sa cG cnt (rN ra cnt))) ++ (w1)) ++ (wQ ra cI fv fs fd cnt)) 458 [(16, .int (zI s16)), (15, .int (zI s15)), (14, .int (zI s14)), (13, .int (zI s13)), (12, .int (zI v12)), (11, .int (zI (p : Int))), (10, .int (zI (g : Int))), (8, .int (zI rm)), (7, .int (zI (cnt : Int))), (5, .long (dgF cnt fv fs fd rm lt tk ov)), (4, .int (zI x)), (3, .int (zI (t : Int))), (2, .ref h2), (1, .ref hm), (0, .ref b)] [] := by
  obtain ⟨hc, hS, h99, hr1, hr2⟩ := id hI
  have hr : 0 ≤ rm ∧ rm ≤ 12 := ⟨by omega, hr2⟩
  obtain ⟨y1, y2, y3, y4, y5, y6⟩ := id hY
  have hv1 : ∀ j, j < cnt → 1 ≤ fv j := fun j hj => (hS.1 j hj).1
  refine g_iload C dL_law_458 4 rfl ?_
  refine g_if_lt 467 C dL_law_460 (by decide) (zr_i (by omega) (by omega)) (fun c_460 => ?_) (fun c_460 => ?_)
  · exfalso; omega
  · refine g_iconst C dL_law_463 ?_
    refine g_goto 468 C dL_law_464 (by decide) ?_
    refine g_istore (L' := [(17, .int (zI 1)), (16, .int (zI s16)), (15, .int (zI s15)), (14, .int (zI s14)), (13, .int (zI s13)), (12, .int (zI v12)), (11, .int (zI (p : Int))), (10, .int (zI (g : Int))), (8, .int (zI rm)), (7, .int (zI (cnt : Int))), (5, .long (dgF cnt fv fs fd rm lt tk ov)), (4, .int (zI x)), (3, .int (zI (t : Int))), (2, .ref h2), (1, .ref hm), (0, .ref b)]) C dL_law_468 (by decide) rfl ?_
    refine g_iload C dL_law_470 3 rfl ?_
    refine g_aload_n C dL_law_472 14 rfl ?_
    refine g_iload C dL_law_473 6 rfl ?_
    refine g_mods [wZ h2 sa rm lt tk ov nw bs bS bM, wG sa cG cnt (rN ra cnt), w1, wQ ra cI fv fs fd cnt] [wZ h2 sa rm lt tk ov nw bs bS bM, wG sa cG cnt (rN ra cnt), wQ ra cI fv fs fd cnt, w1] [0, 1, 3, 2] (by decide) rfl ?_
    refine g_ws (w' := (((wZ h2 sa rm lt tk ov nw bs bS bM) ++ (wG sa cG cnt (rN ra cnt))) ++ (wQ ra cI fv fs fd cnt)) ++ (w1)) rfl rfl ?_
    obtain ⟨c20, gv0, gs0, gd0, tc0, tr0, ft0, tv0, tu0, fc0, M0, fa0, fb0, N0, rfl⟩ := hX
    refine g_callVX (wr := ((wZ h2 sa rm lt tk ov nw bs bS bM) ++ (wG sa cG cnt (rN ra cnt))) ++ (wQ ra cI fv fs fd cnt)) (st := [.int (zI s14)]) _ _ C cL_117 (met_X3_stampsFor l hl9 D cI cG cJ hm ad a2 bd pd cnt fv fs fd rm lt tk ov hI c20 gv0 gs0 gd0 tc0 tr0 ft0 tv0 tu0 fc0 M0 fa0 fb0 N0 (p : Int) (zr_i (by omega) (by omega))) gSp_r (ci := 3) (q0 := ((((wZ h2 sa rm lt tk ov nw bs bS bM) ++ (wG sa cG cnt (rN ra cnt))) ++ (wQ ra cI fv fs fd cnt)) : va_W).length) (at_r rfl) rfl (by decide) ⟨by first | omega | (dsimp only [rmX3_init, rmL_build, rmL_act, rmL_below, rmL_cell, rmX3_digest, rmX3_stamps, rmX3_room, rmX3_valueOf, rmX3_stockOf, rmX3_vendedOf, rmX3_scarcest, rmX3_overpaid, rmX3_taken, rmX3_meanValue, rmX3_overpay, rmX3_ofStampFor, rmX3_stampsFor, rmX3_canPay, rmX3_most, rmX3_fewest, rmX3_ways, rmX3_gapFrom, rmX3_gapsTo, rmX3_reach, rmX3_reachNow, rmX3_reachWithRoom, rmX3_bestValue, rmX3_bestToPrint, rmX4_isThere, rmX4_print, rmX4_reach, rmL_reachPrinted, rmX3_lettersOf, rmX4_vend, rmX3_vend, rmX4_isSame, rmL_law]; omega), by first | omega | (dsimp only [rmX3_init, rmL_build, rmL_act, rmL_below, rmL_cell, rmX3_digest, rmX3_stamps, rmX3_room, rmX3_valueOf, rmX3_stockOf, rmX3_vendedOf, rmX3_scarcest, rmX3_overpaid, rmX3_taken, rmX3_meanValue, rmX3_overpay, rmX3_ofStampFor, rmX3_stampsFor, rmX3_canPay, rmX3_most, rmX3_fewest, rmX3_ways, rmX3_gapFrom, rmX3_gapsTo, rmX3_reach, rmX3_reachNow, rmX3_reachWithRoom, rmX3_bestValue, rmX3_bestToPrint, rmX4_isThere, rmX4_print, rmX4_reach, rmL_reachPrinted, rmX3_lettersOf, rmX4_vend, rmX3_vend, rmX4_isSame, rmL_law]; omega)⟩ rfl rfl (Nat.le_of_ble_eq_true rfl) dL_law_475 (fun nm9 w9 h9 => ?_) ?_
    · exfalso
      rcases h9 with ⟨_, h8, _⟩
      exact h8 ⟨by omega, by omega⟩
    rintro v9 w9 ⟨z475, rfl, h475, hX⟩
    have g475 : z475 = s14 := h475.2.trans ((if_neg (show ¬ LSm cnt fv fs rm p = -1 by omega)).trans (by show TB cnt fv fs rm (LSm cnt fv fs rm p).toNat = _; rw [hl, Int.toNat_natCast]; exact h14.symm))
    refine g_ws (w' := (((wZ h2 sa rm lt tk ov nw bs bS bM) ++ (wG sa cG cnt (rN ra cnt))) ++ (wQ ra cI fv fs fd cnt)) ++ (w9)) (st' := [.int (zI z475), .int (zI s14)]) (by simp only [List.append_assoc]) rfl ?_
    refine g_mods [wZ h2 sa rm lt tk ov nw bs bS bM, wG sa cG cnt (rN ra cnt), wQ ra cI fv fs fd cnt, w9] [wZ h2 sa rm lt tk ov nw bs bS bM, wG sa cG cnt (rN ra cnt), w9, wQ ra cI fv fs fd cnt] [0, 1, 3, 2] (by decide) rfl ?_
    refine g_ws (w' := (((wZ h2 sa rm lt tk ov nw bs bS bM) ++ (wG sa cG cnt (rN ra cnt))) ++ (w9)) ++ (wQ ra cI fv fs fd cnt)) rfl rfl ?_
    refine g_icmp_ne 589 C dL_law_478 (by decide) (zr_i (by omega) (by omega)) (zr_i (by omega) (by omega)) (fun c_478 => ?_) (fun c_478 => ?_)
    · exfalso; omega
    · refine g_iload C dL_law_481 3 rfl ?_
      refine g_iload C dL_law_483 8 rfl ?_
      refine g_icmp_gt 589 C dL_law_485 (by decide) (zr_i (by omega) (by omega)) (zr_i (by omega) (by omega)) (fun c_485 => ?_) (fun c_485 => ?_)
      · exfalso; omega
      · refine g_iload C dL_law_488 0 rfl ?_
        refine g_iload C dL_law_490 3 rfl ?_
        refine g_if_le 499 C dL_law_492 (by decide) (zr_i (by omega) (by omega)) (fun c_492 => ?_) (fun c_492 => ?_)
        · exfalso; omega
        · refine g_iconst C dL_law_495 ?_
          refine g_goto 500 C dL_law_496 (by decide) ?_
          refine g_icmp_ne 589 C dL_law_500 (by decide) (zr_i (by omega) (by omega)) (zr_i (by omega) (by omega)) (fun c_500 => ?_) (fun c_500 => ?_)
          · exfalso; omega
          · refine g_iload C dL_law_503 0 rfl ?_
            refine g_if_eq 518 C dL_law_505 (by decide) (zr_i (by omega) (by omega)) (fun c_505 => ?_) (fun c_505 => ?_)
            · exfalso; omega
            · refine g_iload C dL_law_508 4 rfl ?_
              refine g_iload C dL_law_510 6 rfl ?_
              refine g_iload C dL_law_512 5 rfl ?_
              refine g_iadd C dL_law_514 ?_
              refine g_icmp_ne 589 C dL_law_515 (by decide) (zr_i (by omega) (by omega)) (zr_i (by omega) (by omega)) (fun c_515 => ?_) (fun c_515 => ?_)
              · exfalso; omega
              · refine g_aload_n C dL_law_518 14 rfl ?_
                refine g_iload C dL_law_519 6 rfl ?_
                refine g_mods [wZ h2 sa rm lt tk ov nw bs bS bM, wG sa cG cnt (rN ra cnt), w9, wQ ra cI fv fs fd cnt] [wZ h2 sa rm lt tk ov nw bs bS bM, wG sa cG cnt (rN ra cnt), wQ ra cI fv fs fd cnt, w9] [0, 1, 3, 2] (by decide) rfl ?_
                refine g_ws (w' := (((wZ h2 sa rm lt tk ov nw bs bS bM) ++ (wG sa cG cnt (rN ra cnt))) ++ (wQ ra cI fv fs fd cnt)) ++ (w9)) rfl rfl ?_
                obtain ⟨c20, gv0, gs0, gd0, tc0, tr0, ft0, tv0, tu0, fc0, M0, fa0, fb0, N0, rfl⟩ := hX
                refine g_callVX (wr := ((wZ h2 sa rm lt tk ov nw bs bS bM) ++ (wG sa cG cnt (rN ra cnt))) ++ (wQ ra cI fv fs fd cnt)) (st := []) _ _ C cL_120 (met_X3_canPay l hl9 D cI cG cJ hm ad a2 bd pd cnt fv fs fd rm lt tk ov hI c20 gv0 gs0 gd0 tc0 tr0 ft0 tv0 tu0 fc0 M0 fa0 fb0 N0 (p : Int) (zr_i (by omega) (by omega))) gSp_r (ci := 3) (q0 := ((((wZ h2 sa rm lt tk ov nw bs bS bM) ++ (wG sa cG cnt (rN ra cnt))) ++ (wQ ra cI fv fs fd cnt)) : va_W).length) (at_r rfl) rfl (by decide) ⟨by first | omega | (dsimp only [rmX3_init, rmL_build, rmL_act, rmL_below, rmL_cell, rmX3_digest, rmX3_stamps, rmX3_room, rmX3_valueOf, rmX3_stockOf, rmX3_vendedOf, rmX3_scarcest, rmX3_overpaid, rmX3_taken, rmX3_meanValue, rmX3_overpay, rmX3_ofStampFor, rmX3_stampsFor, rmX3_canPay, rmX3_most, rmX3_fewest, rmX3_ways, rmX3_gapFrom, rmX3_gapsTo, rmX3_reach, rmX3_reachNow, rmX3_reachWithRoom, rmX3_bestValue, rmX3_bestToPrint, rmX4_isThere, rmX4_print, rmX4_reach, rmL_reachPrinted, rmX3_lettersOf, rmX4_vend, rmX3_vend, rmX4_isSame, rmL_law]; omega), by first | omega | (dsimp only [rmX3_init, rmL_build, rmL_act, rmL_below, rmL_cell, rmX3_digest, rmX3_stamps, rmX3_room, rmX3_valueOf, rmX3_stockOf, rmX3_vendedOf, rmX3_scarcest, rmX3_overpaid, rmX3_taken, rmX3_meanValue, rmX3_overpay, rmX3_ofStampFor, rmX3_stampsFor, rmX3_canPay, rmX3_most, rmX3_fewest, rmX3_ways, rmX3_gapFrom, rmX3_gapsTo, rmX3_reach, rmX3_reachNow, rmX3_reachWithRoom, rmX3_bestValue, rmX3_bestToPrint, rmX4_isThere, rmX4_print, rmX4_reach, rmL_reachPrinted, rmX3_lettersOf, rmX4_vend, rmX3_vend, rmX4_isSame, rmL_law]; omega)⟩ rfl rfl (Nat.le_of_ble_eq_true rfl) dL_law_521 (fun nm9 w9 h9 => ?_) ?_
                · exfalso
                  rcases h9 with ⟨_, h8, _⟩
                  exact h8 ⟨by omega, by omega⟩
                rintro v9 w9 ⟨z521, rfl, h521, hX⟩
                have hcan := f_can (cnt := cnt) (fv := fv) (fs := fs) (rm := rm) (p := p) (by omega)
                have hcz : (TB cnt fv fs rm p ≤ rm ∧ z521 = 1) ∨ (¬ TB cnt fv fs rm p ≤ rm ∧ z521 = 0) := by
                  by_cases h9 : TB cnt fv fs rm p ≤ rm
                  · exact Or.inl ⟨h9, h521.2.trans (if_pos h9)⟩
                  · exact Or.inr ⟨h9, h521.2.trans (if_neg h9)⟩
                rw [hcan] at hcz
                refine g_ws (w' := (((wZ h2 sa rm lt tk ov nw bs bS bM) ++ (wG sa cG cnt (rN ra cnt))) ++ (wQ ra cI fv fs fd cnt)) ++ (w9)) (st' := [.int (zI z521)]) (by simp only [List.append_assoc]) rfl ?_
                refine g_mods [wZ h2 sa rm lt tk ov nw bs bS bM, wG sa cG cnt (rN ra cnt), wQ ra cI fv fs fd cnt, w9] [wZ h2 sa rm lt tk ov nw bs bS bM, wG sa cG cnt (rN ra cnt), w9, wQ ra cI fv fs fd cnt] [0, 1, 3, 2] (by decide) rfl ?_
                refine g_ws (w' := (((wZ h2 sa rm lt tk ov nw bs bS bM) ++ (wG sa cG cnt (rN ra cnt))) ++ (w9)) ++ (wQ ra cI fv fs fd cnt)) rfl rfl ?_
                refine g_iload C dL_law_524 5 rfl ?_
                refine g_if_ne 533 C dL_law_526 (by decide) (zr_i (by omega) (by omega)) (fun c_526 => ?_) (fun c_526 => ?_)
                · refine g_iconst C dL_law_533 ?_
                  refine g_icmp_ne 589 C dL_law_534 (by decide) (zr_i (by omega) (by omega)) (zr_i (by omega) (by omega)) (fun c_534 => ?_) (fun c_534 => ?_)
                  · exfalso; omega
                  · refine g_iload C dL_law_537 0 rfl ?_
                    refine g_iload C dL_law_539 6 rfl ?_
                    refine g_aload_n C dL_law_541 14 rfl ?_
                    refine g_mods [wZ h2 sa rm lt tk ov nw bs bS bM, wG sa cG cnt (rN ra cnt), w9, wQ ra cI fv fs fd cnt] [wZ h2 sa rm lt tk ov nw bs bS bM, wG sa cG cnt (rN ra cnt), wQ ra cI fv fs fd cnt, w9] [0, 1, 3, 2] (by decide) rfl ?_
                    refine g_ws (w' := (((wZ h2 sa rm lt tk ov nw bs bS bM) ++ (wG sa cG cnt (rN ra cnt))) ++ (wQ ra cI fv fs fd cnt)) ++ (w9)) rfl rfl ?_
                    obtain ⟨c20, gv0, gs0, gd0, tc0, tr0, ft0, tv0, tu0, fc0, M0, fa0, fb0, N0, rfl⟩ := hX
                    refine g_callV (wr := ((wZ h2 sa rm lt tk ov nw bs bS bM) ++ (wG sa cG cnt (rN ra cnt))) ++ (wQ ra cI fv fs fd cnt)) (st := [.int (zI (p : Int)), .int (zI 1)]) _ _ C cL_123 (met_X3_most l D cI cG cJ hm ad a2 bd pd cnt fv fs fd rm lt tk ov hI c20 gv0 gs0 gd0 tc0 tr0 ft0 tv0 tu0 fc0 M0 fa0 fb0 N0 ) gSp_r (ci := 3) (q0 := ((((wZ h2 sa rm lt tk ov nw bs bS bM) ++ (wG sa cG cnt (rN ra cnt))) ++ (wQ ra cI fv fs fd cnt)) : va_W).length) (at_r rfl) rfl (by decide) ⟨by first | omega | (dsimp only [rmX3_init, rmL_build, rmL_act, rmL_below, rmL_cell, rmX3_digest, rmX3_stamps, rmX3_room, rmX3_valueOf, rmX3_stockOf, rmX3_vendedOf, rmX3_scarcest, rmX3_overpaid, rmX3_taken, rmX3_meanValue, rmX3_overpay, rmX3_ofStampFor, rmX3_stampsFor, rmX3_canPay, rmX3_most, rmX3_fewest, rmX3_ways, rmX3_gapFrom, rmX3_gapsTo, rmX3_reach, rmX3_reachNow, rmX3_reachWithRoom, rmX3_bestValue, rmX3_bestToPrint, rmX4_isThere, rmX4_print, rmX4_reach, rmL_reachPrinted, rmX3_lettersOf, rmX4_vend, rmX3_vend, rmX4_isSame, rmL_law]; omega), by first | omega | (dsimp only [rmX3_init, rmL_build, rmL_act, rmL_below, rmL_cell, rmX3_digest, rmX3_stamps, rmX3_room, rmX3_valueOf, rmX3_stockOf, rmX3_vendedOf, rmX3_scarcest, rmX3_overpaid, rmX3_taken, rmX3_meanValue, rmX3_overpay, rmX3_ofStampFor, rmX3_stampsFor, rmX3_canPay, rmX3_most, rmX3_fewest, rmX3_ways, rmX3_gapFrom, rmX3_gapsTo, rmX3_reach, rmX3_reachNow, rmX3_reachWithRoom, rmX3_bestValue, rmX3_bestToPrint, rmX4_isThere, rmX4_print, rmX4_reach, rmL_reachPrinted, rmX3_lettersOf, rmX4_vend, rmX3_vend, rmX4_isSame, rmL_law]; omega)⟩ rfl rfl (Nat.le_of_ble_eq_true rfl) dL_law_542 ?_
                    rintro v9 w9 ⟨z542, rfl, h542, hX⟩
                    have hgs := f_gs hI
                    have hmo := f_most hS hr hp.2
                    refine g_ws (w' := (((wZ h2 sa rm lt tk ov nw bs bS bM) ++ (wG sa cG cnt (rN ra cnt))) ++ (wQ ra cI fv fs fd cnt)) ++ (w9)) (st' := [.int (zI z542), .int (zI (p : Int)), .int (zI 1)]) (by simp only [List.append_assoc]) rfl ?_
                    refine g_mods [wZ h2 sa rm lt tk ov nw bs bS bM, wG sa cG cnt (rN ra cnt), wQ ra cI fv fs fd cnt, w9] [wZ h2 sa rm lt tk ov nw bs bS bM, wG sa cG cnt (rN ra cnt), w9, wQ ra cI fv fs fd cnt] [0, 1, 3, 2] (by decide) rfl ?_
                    refine g_ws (w' := (((wZ h2 sa rm lt tk ov nw bs bS bM) ++ (wG sa cG cnt (rN ra cnt))) ++ (w9)) ++ (wQ ra cI fv fs fd cnt)) rfl rfl ?_
                    refine g_icmp_gt 552 C dL_law_545 (by decide) (zr_i (by omega) (by omega)) (zr_i (by omega) (by omega)) (fun c_545 => ?_) (fun c_545 => ?_)
                    · exfalso; omega
                    · refine g_iconst C dL_law_548 ?_
                      refine g_goto 553 C dL_law_549 (by decide) ?_
                      refine g_icmp_ne 589 C dL_law_553 (by decide) (zr_i (by omega) (by omega)) (zr_i (by omega) (by omega)) (fun c_553 => ?_) (fun c_553 => ?_)
                      · exfalso; omega
                      · refine g_iload C dL_law_556 2 rfl ?_
                        refine g_iload C dL_law_558 6 rfl ?_
                        refine g_icmp_lt 591 C dL_law_560 (by decide) (zr_i (by omega) (by omega)) (zr_i (by omega) (by omega)) (fun c_560 => ?_) (fun c_560 => ?_)
                        · refine g_loc (L' := [(14, .int (zI s14)), (12, .int (zI v12)), (11, .int (zI (p : Int))), (10, .int (zI (g : Int))), (8, .int (zI rm)), (7, .int (zI (cnt : Int))), (5, .long (dgF cnt fv fs fd rm lt tk ov)), (4, .int (zI x)), (3, .int (zI (t : Int))), (2, .ref h2), (1, .ref hm), (0, .ref b)]) [3, 5, 6, 7, 8, 9, 10, 11, 12, 13, 14, 15] rfl ?_
                          exact K _ _ _ (by first | omega | (dsimp only [rmX3_init, rmL_build, rmL_act, rmL_below, rmL_cell, rmX3_digest, rmX3_stamps, rmX3_room, rmX3_valueOf, rmX3_stockOf, rmX3_vendedOf, rmX3_scarcest, rmX3_overpaid, rmX3_taken, rmX3_meanValue, rmX3_overpay, rmX3_ofStampFor, rmX3_stampsFor, rmX3_canPay, rmX3_most, rmX3_fewest, rmX3_ways, rmX3_gapFrom, rmX3_gapsTo, rmX3_reach, rmX3_reachNow, rmX3_reachWithRoom, rmX3_bestValue, rmX3_bestToPrint, rmX4_isThere, rmX4_print, rmX4_reach, rmL_reachPrinted, rmX3_lettersOf, rmX4_vend, rmX3_vend, rmX4_isSame, rmL_law]; omega)) (by first | omega | (dsimp only [rmX3_init, rmL_build, rmL_act, rmL_below, rmL_cell, rmX3_digest, rmX3_stamps, rmX3_room, rmX3_valueOf, rmX3_stockOf, rmX3_vendedOf, rmX3_scarcest, rmX3_overpaid, rmX3_taken, rmX3_meanValue, rmX3_overpay, rmX3_ofStampFor, rmX3_stampsFor, rmX3_canPay, rmX3_most, rmX3_fewest, rmX3_ways, rmX3_gapFrom, rmX3_gapsTo, rmX3_reach, rmX3_reachNow, rmX3_reachWithRoom, rmX3_bestValue, rmX3_bestToPrint, rmX4_isThere, rmX4_print, rmX4_reach, rmL_reachPrinted, rmX3_lettersOf, rmX4_vend, rmX3_vend, rmX4_isSame, rmL_law]; omega)) hX 
                        · refine g_iload C dL_law_563 0 rfl ?_
                          refine g_if_eq 589 C dL_law_565 (by decide) (zr_i (by omega) (by omega)) (fun c_565 => ?_) (fun c_565 => ?_)
                          · exfalso; omega
                          · refine g_iload C dL_law_568 2 rfl ?_
                            refine g_iload C dL_law_570 4 rfl ?_
                            refine g_icmp_lt 589 C dL_law_572 (by decide) (zr_i (by omega) (by omega)) (zr_i (by omega) (by omega)) (fun c_572 => ?_) (fun c_572 => ?_)
                            · exfalso; omega
                            · refine g_iload C dL_law_575 2 rfl ?_
                              refine g_iload C dL_law_577 4 rfl ?_
                              refine g_icmp_ne 591 C dL_law_579 (by decide) (zr_i (by omega) (by omega)) (zr_i (by omega) (by omega)) (fun c_579 => ?_) (fun c_579 => ?_)
                              · refine g_loc (L' := [(14, .int (zI s14)), (12, .int (zI v12)), (11, .int (zI (p : Int))), (10, .int (zI (g : Int))), (8, .int (zI rm)), (7, .int (zI (cnt : Int))), (5, .long (dgF cnt fv fs fd rm lt tk ov)), (4, .int (zI x)), (3, .int (zI (t : Int))), (2, .ref h2), (1, .ref hm), (0, .ref b)]) [3, 5, 6, 7, 8, 9, 10, 11, 12, 13, 14, 15] rfl ?_
                                exact K _ _ _ (by first | omega | (dsimp only [rmX3_init, rmL_build, rmL_act, rmL_below, rmL_cell, rmX3_digest, rmX3_stamps, rmX3_room, rmX3_valueOf, rmX3_stockOf, rmX3_vendedOf, rmX3_scarcest, rmX3_overpaid, rmX3_taken, rmX3_meanValue, rmX3_overpay, rmX3_ofStampFor, rmX3_stampsFor, rmX3_canPay, rmX3_most, rmX3_fewest, rmX3_ways, rmX3_gapFrom, rmX3_gapsTo, rmX3_reach, rmX3_reachNow, rmX3_reachWithRoom, rmX3_bestValue, rmX3_bestToPrint, rmX4_isThere, rmX4_print, rmX4_reach, rmL_reachPrinted, rmX3_lettersOf, rmX4_vend, rmX3_vend, rmX4_isSame, rmL_law]; omega)) (by first | omega | (dsimp only [rmX3_init, rmL_build, rmL_act, rmL_below, rmL_cell, rmX3_digest, rmX3_stamps, rmX3_room, rmX3_valueOf, rmX3_stockOf, rmX3_vendedOf, rmX3_scarcest, rmX3_overpaid, rmX3_taken, rmX3_meanValue, rmX3_overpay, rmX3_ofStampFor, rmX3_stampsFor, rmX3_canPay, rmX3_most, rmX3_fewest, rmX3_ways, rmX3_gapFrom, rmX3_gapsTo, rmX3_reach, rmX3_reachNow, rmX3_reachWithRoom, rmX3_bestValue, rmX3_bestToPrint, rmX4_isThere, rmX4_print, rmX4_reach, rmL_reachPrinted, rmX3_lettersOf, rmX4_vend, rmX3_vend, rmX4_isSame, rmL_law]; omega)) hX 
                              · refine g_iload C dL_law_582 1 rfl ?_
                                refine g_iload C dL_law_584 3 rfl ?_
                                refine g_icmp_ge 591 C dL_law_586 (by decide) (zr_i (by omega) (by omega)) (zr_i (by omega) (by omega)) (fun c_586 => ?_) (fun c_586 => ?_)
                                · refine g_loc (L' := [(14, .int (zI s14)), (12, .int (zI v12)), (11, .int (zI (p : Int))), (10, .int (zI (g : Int))), (8, .int (zI rm)), (7, .int (zI (cnt : Int))), (5, .long (dgF cnt fv fs fd rm lt tk ov)), (4, .int (zI x)), (3, .int (zI (t : Int))), (2, .ref h2), (1, .ref hm), (0, .ref b)]) [3, 5, 6, 7, 8, 9, 10, 11, 12, 13, 14, 15] rfl ?_
                                  exact K _ _ _ (by first | omega | (dsimp only [rmX3_init, rmL_build, rmL_act, rmL_below, rmL_cell, rmX3_digest, rmX3_stamps, rmX3_room, rmX3_valueOf, rmX3_stockOf, rmX3_vendedOf, rmX3_scarcest, rmX3_overpaid, rmX3_taken, rmX3_meanValue, rmX3_overpay, rmX3_ofStampFor, rmX3_stampsFor, rmX3_canPay, rmX3_most, rmX3_fewest, rmX3_ways, rmX3_gapFrom, rmX3_gapsTo, rmX3_reach, rmX3_reachNow, rmX3_reachWithRoom, rmX3_bestValue, rmX3_bestToPrint, rmX4_isThere, rmX4_print, rmX4_reach, rmL_reachPrinted, rmX3_lettersOf, rmX4_vend, rmX3_vend, rmX4_isSame, rmL_law]; omega)) (by first | omega | (dsimp only [rmX3_init, rmL_build, rmL_act, rmL_below, rmL_cell, rmX3_digest, rmX3_stamps, rmX3_room, rmX3_valueOf, rmX3_stockOf, rmX3_vendedOf, rmX3_scarcest, rmX3_overpaid, rmX3_taken, rmX3_meanValue, rmX3_overpay, rmX3_ofStampFor, rmX3_stampsFor, rmX3_canPay, rmX3_most, rmX3_fewest, rmX3_ways, rmX3_gapFrom, rmX3_gapsTo, rmX3_reach, rmX3_reachNow, rmX3_reachWithRoom, rmX3_bestValue, rmX3_bestToPrint, rmX4_isThere, rmX4_print, rmX4_reach, rmL_reachPrinted, rmX3_lettersOf, rmX4_vend, rmX3_vend, rmX4_isSame, rmL_law]; omega)) hX 
                                · exfalso; omega
                · refine g_iconst C dL_law_529 ?_
                  refine g_goto 534 C dL_law_530 (by decide) ?_
                  refine g_icmp_ne 589 C dL_law_534 (by decide) (zr_i (by omega) (by omega)) (zr_i (by omega) (by omega)) (fun c_534 => ?_) (fun c_534 => ?_)
                  · exfalso; omega
                  · refine g_iload C dL_law_537 0 rfl ?_
                    refine g_iload C dL_law_539 6 rfl ?_
                    refine g_aload_n C dL_law_541 14 rfl ?_
                    refine g_mods [wZ h2 sa rm lt tk ov nw bs bS bM, wG sa cG cnt (rN ra cnt), w9, wQ ra cI fv fs fd cnt] [wZ h2 sa rm lt tk ov nw bs bS bM, wG sa cG cnt (rN ra cnt), wQ ra cI fv fs fd cnt, w9] [0, 1, 3, 2] (by decide) rfl ?_
                    refine g_ws (w' := (((wZ h2 sa rm lt tk ov nw bs bS bM) ++ (wG sa cG cnt (rN ra cnt))) ++ (wQ ra cI fv fs fd cnt)) ++ (w9)) rfl rfl ?_
                    obtain ⟨c20, gv0, gs0, gd0, tc0, tr0, ft0, tv0, tu0, fc0, M0, fa0, fb0, N0, rfl⟩ := hX
                    refine g_callV (wr := ((wZ h2 sa rm lt tk ov nw bs bS bM) ++ (wG sa cG cnt (rN ra cnt))) ++ (wQ ra cI fv fs fd cnt)) (st := [.int (zI (p : Int)), .int (zI 1)]) _ _ C cL_123 (met_X3_most l D cI cG cJ hm ad a2 bd pd cnt fv fs fd rm lt tk ov hI c20 gv0 gs0 gd0 tc0 tr0 ft0 tv0 tu0 fc0 M0 fa0 fb0 N0 ) gSp_r (ci := 3) (q0 := ((((wZ h2 sa rm lt tk ov nw bs bS bM) ++ (wG sa cG cnt (rN ra cnt))) ++ (wQ ra cI fv fs fd cnt)) : va_W).length) (at_r rfl) rfl (by decide) ⟨by first | omega | (dsimp only [rmX3_init, rmL_build, rmL_act, rmL_below, rmL_cell, rmX3_digest, rmX3_stamps, rmX3_room, rmX3_valueOf, rmX3_stockOf, rmX3_vendedOf, rmX3_scarcest, rmX3_overpaid, rmX3_taken, rmX3_meanValue, rmX3_overpay, rmX3_ofStampFor, rmX3_stampsFor, rmX3_canPay, rmX3_most, rmX3_fewest, rmX3_ways, rmX3_gapFrom, rmX3_gapsTo, rmX3_reach, rmX3_reachNow, rmX3_reachWithRoom, rmX3_bestValue, rmX3_bestToPrint, rmX4_isThere, rmX4_print, rmX4_reach, rmL_reachPrinted, rmX3_lettersOf, rmX4_vend, rmX3_vend, rmX4_isSame, rmL_law]; omega), by first | omega | (dsimp only [rmX3_init, rmL_build, rmL_act, rmL_below, rmL_cell, rmX3_digest, rmX3_stamps, rmX3_room, rmX3_valueOf, rmX3_stockOf, rmX3_vendedOf, rmX3_scarcest, rmX3_overpaid, rmX3_taken, rmX3_meanValue, rmX3_overpay, rmX3_ofStampFor, rmX3_stampsFor, rmX3_canPay, rmX3_most, rmX3_fewest, rmX3_ways, rmX3_gapFrom, rmX3_gapsTo, rmX3_reach, rmX3_reachNow, rmX3_reachWithRoom, rmX3_bestValue, rmX3_bestToPrint, rmX4_isThere, rmX4_print, rmX4_reach, rmL_reachPrinted, rmX3_lettersOf, rmX4_vend, rmX3_vend, rmX4_isSame, rmL_law]; omega)⟩ rfl rfl (Nat.le_of_ble_eq_true rfl) dL_law_542 ?_
                    rintro v9 w9 ⟨z542, rfl, h542, hX⟩
                    have hgs := f_gs hI
                    have hmo := f_most hS hr hp.2
                    refine g_ws (w' := (((wZ h2 sa rm lt tk ov nw bs bS bM) ++ (wG sa cG cnt (rN ra cnt))) ++ (wQ ra cI fv fs fd cnt)) ++ (w9)) (st' := [.int (zI z542), .int (zI (p : Int)), .int (zI 1)]) (by simp only [List.append_assoc]) rfl ?_
                    refine g_mods [wZ h2 sa rm lt tk ov nw bs bS bM, wG sa cG cnt (rN ra cnt), wQ ra cI fv fs fd cnt, w9] [wZ h2 sa rm lt tk ov nw bs bS bM, wG sa cG cnt (rN ra cnt), w9, wQ ra cI fv fs fd cnt] [0, 1, 3, 2] (by decide) rfl ?_
                    refine g_ws (w' := (((wZ h2 sa rm lt tk ov nw bs bS bM) ++ (wG sa cG cnt (rN ra cnt))) ++ (w9)) ++ (wQ ra cI fv fs fd cnt)) rfl rfl ?_
                    refine g_icmp_gt 552 C dL_law_545 (by decide) (zr_i (by omega) (by omega)) (zr_i (by omega) (by omega)) (fun c_545 => ?_) (fun c_545 => ?_)
                    · exfalso; omega
                    · refine g_iconst C dL_law_548 ?_
                      refine g_goto 553 C dL_law_549 (by decide) ?_
                      refine g_icmp_ne 589 C dL_law_553 (by decide) (zr_i (by omega) (by omega)) (zr_i (by omega) (by omega)) (fun c_553 => ?_) (fun c_553 => ?_)
                      · exfalso; omega
                      · refine g_iload C dL_law_556 2 rfl ?_
                        refine g_iload C dL_law_558 6 rfl ?_
                        refine g_icmp_lt 591 C dL_law_560 (by decide) (zr_i (by omega) (by omega)) (zr_i (by omega) (by omega)) (fun c_560 => ?_) (fun c_560 => ?_)
                        · refine g_loc (L' := [(14, .int (zI s14)), (12, .int (zI v12)), (11, .int (zI (p : Int))), (10, .int (zI (g : Int))), (8, .int (zI rm)), (7, .int (zI (cnt : Int))), (5, .long (dgF cnt fv fs fd rm lt tk ov)), (4, .int (zI x)), (3, .int (zI (t : Int))), (2, .ref h2), (1, .ref hm), (0, .ref b)]) [3, 5, 6, 7, 8, 9, 10, 11, 12, 13, 14, 15] rfl ?_
                          exact K _ _ _ (by first | omega | (dsimp only [rmX3_init, rmL_build, rmL_act, rmL_below, rmL_cell, rmX3_digest, rmX3_stamps, rmX3_room, rmX3_valueOf, rmX3_stockOf, rmX3_vendedOf, rmX3_scarcest, rmX3_overpaid, rmX3_taken, rmX3_meanValue, rmX3_overpay, rmX3_ofStampFor, rmX3_stampsFor, rmX3_canPay, rmX3_most, rmX3_fewest, rmX3_ways, rmX3_gapFrom, rmX3_gapsTo, rmX3_reach, rmX3_reachNow, rmX3_reachWithRoom, rmX3_bestValue, rmX3_bestToPrint, rmX4_isThere, rmX4_print, rmX4_reach, rmL_reachPrinted, rmX3_lettersOf, rmX4_vend, rmX3_vend, rmX4_isSame, rmL_law]; omega)) (by first | omega | (dsimp only [rmX3_init, rmL_build, rmL_act, rmL_below, rmL_cell, rmX3_digest, rmX3_stamps, rmX3_room, rmX3_valueOf, rmX3_stockOf, rmX3_vendedOf, rmX3_scarcest, rmX3_overpaid, rmX3_taken, rmX3_meanValue, rmX3_overpay, rmX3_ofStampFor, rmX3_stampsFor, rmX3_canPay, rmX3_most, rmX3_fewest, rmX3_ways, rmX3_gapFrom, rmX3_gapsTo, rmX3_reach, rmX3_reachNow, rmX3_reachWithRoom, rmX3_bestValue, rmX3_bestToPrint, rmX4_isThere, rmX4_print, rmX4_reach, rmL_reachPrinted, rmX3_lettersOf, rmX4_vend, rmX3_vend, rmX4_isSame, rmL_law]; omega)) hX 
                        · refine g_iload C dL_law_563 0 rfl ?_
                          refine g_if_eq 589 C dL_law_565 (by decide) (zr_i (by omega) (by omega)) (fun c_565 => ?_) (fun c_565 => ?_)
                          · exfalso; omega
                          · refine g_iload C dL_law_568 2 rfl ?_
                            refine g_iload C dL_law_570 4 rfl ?_
                            refine g_icmp_lt 589 C dL_law_572 (by decide) (zr_i (by omega) (by omega)) (zr_i (by omega) (by omega)) (fun c_572 => ?_) (fun c_572 => ?_)
                            · exfalso; omega
                            · refine g_iload C dL_law_575 2 rfl ?_
                              refine g_iload C dL_law_577 4 rfl ?_
                              refine g_icmp_ne 591 C dL_law_579 (by decide) (zr_i (by omega) (by omega)) (zr_i (by omega) (by omega)) (fun c_579 => ?_) (fun c_579 => ?_)
                              · refine g_loc (L' := [(14, .int (zI s14)), (12, .int (zI v12)), (11, .int (zI (p : Int))), (10, .int (zI (g : Int))), (8, .int (zI rm)), (7, .int (zI (cnt : Int))), (5, .long (dgF cnt fv fs fd rm lt tk ov)), (4, .int (zI x)), (3, .int (zI (t : Int))), (2, .ref h2), (1, .ref hm), (0, .ref b)]) [3, 5, 6, 7, 8, 9, 10, 11, 12, 13, 14, 15] rfl ?_
                                exact K _ _ _ (by first | omega | (dsimp only [rmX3_init, rmL_build, rmL_act, rmL_below, rmL_cell, rmX3_digest, rmX3_stamps, rmX3_room, rmX3_valueOf, rmX3_stockOf, rmX3_vendedOf, rmX3_scarcest, rmX3_overpaid, rmX3_taken, rmX3_meanValue, rmX3_overpay, rmX3_ofStampFor, rmX3_stampsFor, rmX3_canPay, rmX3_most, rmX3_fewest, rmX3_ways, rmX3_gapFrom, rmX3_gapsTo, rmX3_reach, rmX3_reachNow, rmX3_reachWithRoom, rmX3_bestValue, rmX3_bestToPrint, rmX4_isThere, rmX4_print, rmX4_reach, rmL_reachPrinted, rmX3_lettersOf, rmX4_vend, rmX3_vend, rmX4_isSame, rmL_law]; omega)) (by first | omega | (dsimp only [rmX3_init, rmL_build, rmL_act, rmL_below, rmL_cell, rmX3_digest, rmX3_stamps, rmX3_room, rmX3_valueOf, rmX3_stockOf, rmX3_vendedOf, rmX3_scarcest, rmX3_overpaid, rmX3_taken, rmX3_meanValue, rmX3_overpay, rmX3_ofStampFor, rmX3_stampsFor, rmX3_canPay, rmX3_most, rmX3_fewest, rmX3_ways, rmX3_gapFrom, rmX3_gapsTo, rmX3_reach, rmX3_reachNow, rmX3_reachWithRoom, rmX3_bestValue, rmX3_bestToPrint, rmX4_isThere, rmX4_print, rmX4_reach, rmL_reachPrinted, rmX3_lettersOf, rmX4_vend, rmX3_vend, rmX4_isSame, rmL_law]; omega)) hX 
                              · refine g_iload C dL_law_582 1 rfl ?_
                                refine g_iload C dL_law_584 3 rfl ?_
                                refine g_icmp_ge 591 C dL_law_586 (by decide) (zr_i (by omega) (by omega)) (zr_i (by omega) (by omega)) (fun c_586 => ?_) (fun c_586 => ?_)
                                · refine g_loc (L' := [(14, .int (zI s14)), (12, .int (zI v12)), (11, .int (zI (p : Int))), (10, .int (zI (g : Int))), (8, .int (zI rm)), (7, .int (zI (cnt : Int))), (5, .long (dgF cnt fv fs fd rm lt tk ov)), (4, .int (zI x)), (3, .int (zI (t : Int))), (2, .ref h2), (1, .ref hm), (0, .ref b)]) [3, 5, 6, 7, 8, 9, 10, 11, 12, 13, 14, 15] rfl ?_
                                  exact K _ _ _ (by first | omega | (dsimp only [rmX3_init, rmL_build, rmL_act, rmL_below, rmL_cell, rmX3_digest, rmX3_stamps, rmX3_room, rmX3_valueOf, rmX3_stockOf, rmX3_vendedOf, rmX3_scarcest, rmX3_overpaid, rmX3_taken, rmX3_meanValue, rmX3_overpay, rmX3_ofStampFor, rmX3_stampsFor, rmX3_canPay, rmX3_most, rmX3_fewest, rmX3_ways, rmX3_gapFrom, rmX3_gapsTo, rmX3_reach, rmX3_reachNow, rmX3_reachWithRoom, rmX3_bestValue, rmX3_bestToPrint, rmX4_isThere, rmX4_print, rmX4_reach, rmL_reachPrinted, rmX3_lettersOf, rmX4_vend, rmX3_vend, rmX4_isSame, rmL_law]; omega)) (by first | omega | (dsimp only [rmX3_init, rmL_build, rmL_act, rmL_below, rmL_cell, rmX3_digest, rmX3_stamps, rmX3_room, rmX3_valueOf, rmX3_stockOf, rmX3_vendedOf, rmX3_scarcest, rmX3_overpaid, rmX3_taken, rmX3_meanValue, rmX3_overpay, rmX3_ofStampFor, rmX3_stampsFor, rmX3_canPay, rmX3_most, rmX3_fewest, rmX3_ways, rmX3_gapFrom, rmX3_gapsTo, rmX3_reach, rmX3_reachNow, rmX3_reachWithRoom, rmX3_bestValue, rmX3_bestToPrint, rmX4_isThere, rmX4_print, rmX4_reach, rmL_reachPrinted, rmX3_lettersOf, rmX4_vend, rmX3_vend, rmX4_isSame, rmL_law]; omega)) hX 
                                · exfalso; omega
set_option maxHeartbeats 8000000 in
set_option maxRecDepth 100000 in
theorem law_591 (l : Launch) {E : gEnv} {D : va_G} {cI cG cJ : ClassId} {k0 n0 : Nat} (hl9 : l.stackTraces = false) (hm h2 b : Nat) (ad a2 bd pd : Nat → Nat) (T : Int) (hT1 : T ≤ 100) (cnt : Nat) (fv fs fd : Nat → Int) (rm lt tk ov : Int) (w1 : va_W) (sa : Nat) (ra : Nat → Nat) (nw bs : Value) (bS bM : Int) (hX : XW hm ad a2 bd pd cI cG cnt fv fs fd rm lt tk ov w1) (hI : XI cnt fv fs rm) (hY : YI cnt fd lt tk ov T) (x : Int) (t : Nat) (ht : t < 8) (C : gC E l rmL_law D 21 RL cL_law cI cG cJ) (hk : k0 ≤ 590000) (hn0 : n0 ≤ 7200000) (p g : Nat) (hp : 1 ≤ p ∧ p ≤ 300) (hg : g < 4) (v12 s14 : Int) (hz0 : v12 = 0 → PF fv cnt 0 p ≤ s14 ∧ s14 ≤ rm) (hvb : -1 ≤ v12 ∧ v12 ≤ 360) (hsb : 0 ≤ s14 ∧ s14 ≤ 12)  (K : ∀ (k n : Nat) (w9 : va_W), k ≤ k0 + 10 → n ≤ n0 + 60 → XW hm ad a2 bd pd cI cG cnt fv fs fd rm lt tk ov w9 → ∀ few : Int, ((few = PF fv cnt 0 p ∧ PF fv cnt 0 p ≤ rm) ∨ (few = -1 ∧ rm < PF fv cnt 0 p)) → gW E k n ((((wZ h2 sa rm lt tk ov nw bs bS bM) ++ (wG sa cG cnt (rN ra cnt))) ++ (w9)) ++ (wQ ra cI fv fs fd cnt)) 680 [(18, .int (zI few)), (12, .int (zI v12)), (11, .int (zI (p : Int))), (10, .int (zI (g : Int))), (8, .int (zI rm)), (7, .int (zI (cnt : Int))), (5, .long (dgF cnt fv fs fd rm lt tk ov)), (4, .int (zI x)), (3, .int (zI (t : Int))), (2, .ref h2), (1, .ref hm), (0, .ref b)] []) : gW E k0 n0 ((((wZ h2 sa rm lt tk ov nw bs bS bM) ++ (wG sa cG cnt (rN ra cnt))) ++ (w1)) ++ (wQ ra cI fv fs fd cnt)) 591 [(14, .int (zI s14)), (12, .int (zI v12)), (11, .int (zI (p : Int))), (10, .int (zI (g : Int))), (8, .int (zI rm)), (7, .int (zI (cnt : Int))), (5, .long (dgF cnt fv fs fd rm lt tk ov)), (4, .int (zI x)), (3, .int (zI (t : Int))), (2, .ref h2), (1, .ref hm), (0, .ref b)] [] := by
  obtain ⟨hc, hS, h99, hr1, hr2⟩ := id hI
  have hr : 0 ≤ rm ∧ rm ≤ 12 := ⟨by omega, hr2⟩
  obtain ⟨y1, y2, y3, y4, y5, y6⟩ := id hY
  have hv1 : ∀ j, j < cnt → 1 ≤ fv j := fun j hj => (hS.1 j hj).1
  refine g_aload_n C dL_law_591 10 rfl ?_
  refine g_iload C dL_law_592 2 rfl ?_
  refine g_mods [wZ h2 sa rm lt tk ov nw bs bS bM, wG sa cG cnt (rN ra cnt), w1, wQ ra cI fv fs fd cnt] [wZ h2 sa rm lt tk ov nw bs bS bM, wG sa cG cnt (rN ra cnt), wQ ra cI fv fs fd cnt, w1] [0, 1, 3, 2] (by decide) rfl ?_
  refine g_ws (w' := (((wZ h2 sa rm lt tk ov nw bs bS bM) ++ (wG sa cG cnt (rN ra cnt))) ++ (wQ ra cI fv fs fd cnt)) ++ (w1)) rfl rfl ?_
  obtain ⟨c20, gv0, gs0, gd0, tc0, tr0, ft0, tv0, tu0, fc0, M0, fa0, fb0, N0, rfl⟩ := hX
  refine g_callVX (wr := ((wZ h2 sa rm lt tk ov nw bs bS bM) ++ (wG sa cG cnt (rN ra cnt))) ++ (wQ ra cI fv fs fd cnt)) (st := []) _ _ C cL_126 (met_X3_fewest l hl9 D cI cG cJ hm ad a2 bd pd cnt fv fs fd rm lt tk ov hI c20 gv0 gs0 gd0 tc0 tr0 ft0 tv0 tu0 fc0 M0 fa0 fb0 N0 (p : Int) (zr_i (by omega) (by omega))) gSp_r (ci := 3) (q0 := ((((wZ h2 sa rm lt tk ov nw bs bS bM) ++ (wG sa cG cnt (rN ra cnt))) ++ (wQ ra cI fv fs fd cnt)) : va_W).length) (at_r rfl) rfl (by decide) ⟨by first | omega | (dsimp only [rmX3_init, rmL_build, rmL_act, rmL_below, rmL_cell, rmX3_digest, rmX3_stamps, rmX3_room, rmX3_valueOf, rmX3_stockOf, rmX3_vendedOf, rmX3_scarcest, rmX3_overpaid, rmX3_taken, rmX3_meanValue, rmX3_overpay, rmX3_ofStampFor, rmX3_stampsFor, rmX3_canPay, rmX3_most, rmX3_fewest, rmX3_ways, rmX3_gapFrom, rmX3_gapsTo, rmX3_reach, rmX3_reachNow, rmX3_reachWithRoom, rmX3_bestValue, rmX3_bestToPrint, rmX4_isThere, rmX4_print, rmX4_reach, rmL_reachPrinted, rmX3_lettersOf, rmX4_vend, rmX3_vend, rmX4_isSame, rmL_law]; omega), by first | omega | (dsimp only [rmX3_init, rmL_build, rmL_act, rmL_below, rmL_cell, rmX3_digest, rmX3_stamps, rmX3_room, rmX3_valueOf, rmX3_stockOf, rmX3_vendedOf, rmX3_scarcest, rmX3_overpaid, rmX3_taken, rmX3_meanValue, rmX3_overpay, rmX3_ofStampFor, rmX3_stampsFor, rmX3_canPay, rmX3_most, rmX3_fewest, rmX3_ways, rmX3_gapFrom, rmX3_gapsTo, rmX3_reach, rmX3_reachNow, rmX3_reachWithRoom, rmX3_bestValue, rmX3_bestToPrint, rmX4_isThere, rmX4_print, rmX4_reach, rmL_reachPrinted, rmX3_lettersOf, rmX4_vend, rmX3_vend, rmX4_isSame, rmL_law]; omega)⟩ rfl rfl (Nat.le_of_ble_eq_true rfl) dL_law_594 (fun nm9 w9 h9 => ?_) ?_
  · exfalso
    rcases h9 with ⟨_, h8, _⟩
    exact h8 ⟨by omega, by omega⟩
  rintro v9 w9 ⟨z594, rfl, h594, hX⟩
  have f594 : (z594 = PF fv cnt 0 p ∧ PF fv cnt 0 p ≤ rm) ∨ (z594 = -1 ∧ rm < PF fv cnt 0 p) := by
    by_cases h9 : PF fv cnt 0 p ≤ rm
    · exact Or.inl ⟨h594.2.trans (if_pos h9), h9⟩
    · exact Or.inr ⟨h594.2.trans (if_neg h9), by omega⟩
  have pp594 := pf_pos (more := 0) hv1 (q := p) (by omega) (by omega)
  refine g_ws (w' := (((wZ h2 sa rm lt tk ov nw bs bS bM) ++ (wG sa cG cnt (rN ra cnt))) ++ (wQ ra cI fv fs fd cnt)) ++ (w9)) (st' := [.int (zI z594)]) (by simp only [List.append_assoc]) rfl ?_
  refine g_mods [wZ h2 sa rm lt tk ov nw bs bS bM, wG sa cG cnt (rN ra cnt), wQ ra cI fv fs fd cnt, w9] [wZ h2 sa rm lt tk ov nw bs bS bM, wG sa cG cnt (rN ra cnt), w9, wQ ra cI fv fs fd cnt] [0, 1, 3, 2] (by decide) rfl ?_
  refine g_ws (w' := (((wZ h2 sa rm lt tk ov nw bs bS bM) ++ (wG sa cG cnt (rN ra cnt))) ++ (w9)) ++ (wQ ra cI fv fs fd cnt)) rfl rfl ?_
  refine g_istore (L' := [(18, .int (zI z594)), (14, .int (zI s14)), (12, .int (zI v12)), (11, .int (zI (p : Int))), (10, .int (zI (g : Int))), (8, .int (zI rm)), (7, .int (zI (cnt : Int))), (5, .long (dgF cnt fv fs fd rm lt tk ov)), (4, .int (zI x)), (3, .int (zI (t : Int))), (2, .ref h2), (1, .ref hm), (0, .ref b)]) C dL_law_597 (by decide) rfl ?_
  refine g_aload_n C dL_law_599 11 rfl ?_
  refine g_iconst C dL_law_600 ?_
  refine g_iload C dL_law_601 3 rfl ?_
  refine g_bipush C dL_law_603 (by decide) ?_
  refine g_iremE C dL_law_605 (by omega) (zr_i (by omega) (by omega)) (by omega) ⟨by decide, by decide⟩ (fun z605 z605a z605b z605e => ?_)
  refine g_iadd C dL_law_606 ?_
  obtain ⟨q9, hq9⟩ : ∃ q9 : Nat, 1 + z605 = (q9 : Int) := ⟨(1 + z605).toNat, by omega⟩
  refine g_top (q9 : Int) hq9 ?_
  refine g_mods [wZ h2 sa rm lt tk ov nw bs bS bM, wG sa cG cnt (rN ra cnt), w9, wQ ra cI fv fs fd cnt] [wZ h2 sa rm lt tk ov nw bs bS bM, wG sa cG cnt (rN ra cnt), wQ ra cI fv fs fd cnt, w9] [0, 1, 3, 2] (by decide) rfl ?_
  refine g_ws (w' := (((wZ h2 sa rm lt tk ov nw bs bS bM) ++ (wG sa cG cnt (rN ra cnt))) ++ (wQ ra cI fv fs fd cnt)) ++ (w9)) rfl rfl ?_
  obtain ⟨c20, gv0, gs0, gd0, tc0, tr0, ft0, tv0, tu0, fc0, M0, fa0, fb0, N0, rfl⟩ := hX
  refine g_callVX (wr := ((wZ h2 sa rm lt tk ov nw bs bS bM) ++ (wG sa cG cnt (rN ra cnt))) ++ (wQ ra cI fv fs fd cnt)) (st := []) _ _ C cL_129 (met_X3_ways l hl9 D cI cG cJ hm ad a2 bd pd cnt fv fs fd rm lt tk ov hI c20 gv0 gs0 gd0 tc0 tr0 ft0 tv0 tu0 fc0 M0 fa0 fb0 N0 (q9 : Int) (zr_i (by omega) (by omega))) gSp_r (ci := 3) (q0 := ((((wZ h2 sa rm lt tk ov nw bs bS bM) ++ (wG sa cG cnt (rN ra cnt))) ++ (wQ ra cI fv fs fd cnt)) : va_W).length) (at_r rfl) rfl (by decide) ⟨by first | omega | (dsimp only [rmX3_init, rmL_build, rmL_act, rmL_below, rmL_cell, rmX3_digest, rmX3_stamps, rmX3_room, rmX3_valueOf, rmX3_stockOf, rmX3_vendedOf, rmX3_scarcest, rmX3_overpaid, rmX3_taken, rmX3_meanValue, rmX3_overpay, rmX3_ofStampFor, rmX3_stampsFor, rmX3_canPay, rmX3_most, rmX3_fewest, rmX3_ways, rmX3_gapFrom, rmX3_gapsTo, rmX3_reach, rmX3_reachNow, rmX3_reachWithRoom, rmX3_bestValue, rmX3_bestToPrint, rmX4_isThere, rmX4_print, rmX4_reach, rmL_reachPrinted, rmX3_lettersOf, rmX4_vend, rmX3_vend, rmX4_isSame, rmL_law]; omega), by first | omega | (dsimp only [rmX3_init, rmL_build, rmL_act, rmL_below, rmL_cell, rmX3_digest, rmX3_stamps, rmX3_room, rmX3_valueOf, rmX3_stockOf, rmX3_vendedOf, rmX3_scarcest, rmX3_overpaid, rmX3_taken, rmX3_meanValue, rmX3_overpay, rmX3_ofStampFor, rmX3_stampsFor, rmX3_canPay, rmX3_most, rmX3_fewest, rmX3_ways, rmX3_gapFrom, rmX3_gapsTo, rmX3_reach, rmX3_reachNow, rmX3_reachWithRoom, rmX3_bestValue, rmX3_bestToPrint, rmX4_isThere, rmX4_print, rmX4_reach, rmL_reachPrinted, rmX3_lettersOf, rmX4_vend, rmX3_vend, rmX4_isSame, rmL_law]; omega)⟩ rfl rfl (Nat.le_of_ble_eq_true rfl) dL_law_607 (fun nm9 w9 h9 => ?_) ?_
  · exfalso
    rcases h9 with ⟨_, h8, _⟩
    exact h8 ⟨by omega, by omega⟩
  rintro v9 w9 ⟨z607, rfl, h607, hX⟩
  have g607 : z607 = wsum (wy fv cnt) q9 (rm.toNat + 1) := h607.2
  have wb := wsum_bd (fv := fv) (n := cnt) (p := q9) hc (rm.toNat + 1) (by omega)
  have fw := f_ways hv1 hr (p := q9) (by omega)
  refine g_ws (w' := (((wZ h2 sa rm lt tk ov nw bs bS bM) ++ (wG sa cG cnt (rN ra cnt))) ++ (wQ ra cI fv fs fd cnt)) ++ (w9)) (st' := [.int (zI z607)]) (by simp only [List.append_assoc]) rfl ?_
  refine g_mods [wZ h2 sa rm lt tk ov nw bs bS bM, wG sa cG cnt (rN ra cnt), wQ ra cI fv fs fd cnt, w9] [wZ h2 sa rm lt tk ov nw bs bS bM, wG sa cG cnt (rN ra cnt), w9, wQ ra cI fv fs fd cnt] [0, 1, 3, 2] (by decide) rfl ?_
  refine g_ws (w' := (((wZ h2 sa rm lt tk ov nw bs bS bM) ++ (wG sa cG cnt (rN ra cnt))) ++ (w9)) ++ (wQ ra cI fv fs fd cnt)) rfl rfl ?_
  refine g_istore (L' := [(19, .int (zI z607)), (18, .int (zI z594)), (14, .int (zI s14)), (12, .int (zI v12)), (11, .int (zI (p : Int))), (10, .int (zI (g : Int))), (8, .int (zI rm)), (7, .int (zI (cnt : Int))), (5, .long (dgF cnt fv fs fd rm lt tk ov)), (4, .int (zI x)), (3, .int (zI (t : Int))), (2, .ref h2), (1, .ref hm), (0, .ref b)]) C dL_law_610 (by decide) rfl ?_
  refine g_iload C dL_law_612 1 rfl ?_
  refine g_iload C dL_law_614 6 rfl ?_
  refine g_icmp_gt 678 C dL_law_616 (by decide) (zr_i (by omega) (by omega)) (zr_i (by omega) (by omega)) (fun c_616 => ?_) (fun c_616 => ?_)
  · exfalso; omega
  · refine g_iload C dL_law_619 1 rfl ?_
    refine g_if_eq 678 C dL_law_621 (by decide) (zr_i (by omega) (by omega)) (fun c_621 => ?_) (fun c_621 => ?_)
    · exfalso; omega
    · refine g_iload C dL_law_624 3 rfl ?_
      refine g_if_ne 641 C dL_law_626 (by decide) (zr_i (by omega) (by omega)) (fun c_626 => ?_) (fun c_626 => ?_)
      · refine g_iload C dL_law_641 0 rfl ?_
        refine g_if_lt 678 C dL_law_643 (by decide) (zr_i (by omega) (by omega)) (fun c_643 => ?_) (fun c_643 => ?_)
        · exfalso; omega
        · refine g_iload C dL_law_646 0 rfl ?_
          refine g_if_ne 655 C dL_law_648 (by decide) (zr_i (by omega) (by omega)) (fun c_648 => ?_) (fun c_648 => ?_)
          · refine g_iconst C dL_law_655 ?_
            refine g_aload_n C dL_law_656 12 rfl ?_
            refine g_iconst C dL_law_657 ?_
            refine g_iload C dL_law_658 4 rfl ?_
            refine g_bipush C dL_law_660 (by decide) ?_
            refine g_iremE C dL_law_662 (by omega) (zr_i (by omega) (by omega)) (by omega) ⟨by decide, by decide⟩ (fun z662 z662a z662b z662e => ?_)
            refine g_iadd C dL_law_663 ?_
            refine g_top (q9 : Int) (by have := rem_one z605a z605b z662a z662b z605e z662e; omega) ?_
            refine g_mods [wZ h2 sa rm lt tk ov nw bs bS bM, wG sa cG cnt (rN ra cnt), w9, wQ ra cI fv fs fd cnt] [wZ h2 sa rm lt tk ov nw bs bS bM, wG sa cG cnt (rN ra cnt), wQ ra cI fv fs fd cnt, w9] [0, 1, 3, 2] (by decide) rfl ?_
            refine g_ws (w' := (((wZ h2 sa rm lt tk ov nw bs bS bM) ++ (wG sa cG cnt (rN ra cnt))) ++ (wQ ra cI fv fs fd cnt)) ++ (w9)) rfl rfl ?_
            obtain ⟨c20, gv0, gs0, gd0, tc0, tr0, ft0, tv0, tu0, fc0, M0, fa0, fb0, N0, rfl⟩ := hX
            refine g_callVX (wr := ((wZ h2 sa rm lt tk ov nw bs bS bM) ++ (wG sa cG cnt (rN ra cnt))) ++ (wQ ra cI fv fs fd cnt)) (st := [.int (zI 0)]) _ _ C cL_126 (met_X3_fewest l hl9 D cI cG cJ hm ad a2 bd pd cnt fv fs fd rm lt tk ov hI c20 gv0 gs0 gd0 tc0 tr0 ft0 tv0 tu0 fc0 M0 fa0 fb0 N0 (q9 : Int) (zr_i (by omega) (by omega))) gSp_r (ci := 3) (q0 := ((((wZ h2 sa rm lt tk ov nw bs bS bM) ++ (wG sa cG cnt (rN ra cnt))) ++ (wQ ra cI fv fs fd cnt)) : va_W).length) (at_r rfl) rfl (by decide) ⟨by first | omega | (dsimp only [rmX3_init, rmL_build, rmL_act, rmL_below, rmL_cell, rmX3_digest, rmX3_stamps, rmX3_room, rmX3_valueOf, rmX3_stockOf, rmX3_vendedOf, rmX3_scarcest, rmX3_overpaid, rmX3_taken, rmX3_meanValue, rmX3_overpay, rmX3_ofStampFor, rmX3_stampsFor, rmX3_canPay, rmX3_most, rmX3_fewest, rmX3_ways, rmX3_gapFrom, rmX3_gapsTo, rmX3_reach, rmX3_reachNow, rmX3_reachWithRoom, rmX3_bestValue, rmX3_bestToPrint, rmX4_isThere, rmX4_print, rmX4_reach, rmL_reachPrinted, rmX3_lettersOf, rmX4_vend, rmX3_vend, rmX4_isSame, rmL_law]; omega), by first | omega | (dsimp only [rmX3_init, rmL_build, rmL_act, rmL_below, rmL_cell, rmX3_digest, rmX3_stamps, rmX3_room, rmX3_valueOf, rmX3_stockOf, rmX3_vendedOf, rmX3_scarcest, rmX3_overpaid, rmX3_taken, rmX3_meanValue, rmX3_overpay, rmX3_ofStampFor, rmX3_stampsFor, rmX3_canPay, rmX3_most, rmX3_fewest, rmX3_ways, rmX3_gapFrom, rmX3_gapsTo, rmX3_reach, rmX3_reachNow, rmX3_reachWithRoom, rmX3_bestValue, rmX3_bestToPrint, rmX4_isThere, rmX4_print, rmX4_reach, rmL_reachPrinted, rmX3_lettersOf, rmX4_vend, rmX3_vend, rmX4_isSame, rmL_law]; omega)⟩ rfl rfl (Nat.le_of_ble_eq_true rfl) dL_law_664 (fun nm9 w9 h9 => ?_) ?_
            · exfalso
              rcases h9 with ⟨_, h8, _⟩
              exact h8 ⟨by omega, by omega⟩
            rintro v9 w9 ⟨z664, rfl, h664, hX⟩
            have f664 : (z664 = PF fv cnt 0 q9 ∧ PF fv cnt 0 q9 ≤ rm) ∨ (z664 = -1 ∧ rm < PF fv cnt 0 q9) := by
              by_cases h9 : PF fv cnt 0 q9 ≤ rm
              · exact Or.inl ⟨h664.2.trans (if_pos h9), h9⟩
              · exact Or.inr ⟨h664.2.trans (if_neg h9), by omega⟩
            have pp664 := pf_pos (more := 0) hv1 (q := q9) (by omega) (by omega)
            rw [← g607] at fw wb
            refine g_ws (w' := (((wZ h2 sa rm lt tk ov nw bs bS bM) ++ (wG sa cG cnt (rN ra cnt))) ++ (wQ ra cI fv fs fd cnt)) ++ (w9)) (st' := [.int (zI z664), .int (zI 0)]) (by simp only [List.append_assoc]) rfl ?_
            refine g_mods [wZ h2 sa rm lt tk ov nw bs bS bM, wG sa cG cnt (rN ra cnt), wQ ra cI fv fs fd cnt, w9] [wZ h2 sa rm lt tk ov nw bs bS bM, wG sa cG cnt (rN ra cnt), w9, wQ ra cI fv fs fd cnt] [0, 1, 3, 2] (by decide) rfl ?_
            refine g_ws (w' := (((wZ h2 sa rm lt tk ov nw bs bS bM) ++ (wG sa cG cnt (rN ra cnt))) ++ (w9)) ++ (wQ ra cI fv fs fd cnt)) rfl rfl ?_
            refine g_if_ge 674 C dL_law_667 (by decide) (zr_i (by omega) (by omega)) (fun c_667 => ?_) (fun c_667 => ?_)
            · refine g_iconst C dL_law_674 ?_
              refine g_icmp_eq 680 C dL_law_675 (by decide) (zr_i (by omega) (by omega)) (zr_i (by omega) (by omega)) (fun c_675 => ?_) (fun c_675 => ?_)
              · refine g_loc (L' := [(18, .int (zI z594)), (12, .int (zI v12)), (11, .int (zI (p : Int))), (10, .int (zI (g : Int))), (8, .int (zI rm)), (7, .int (zI (cnt : Int))), (5, .long (dgF cnt fv fs fd rm lt tk ov)), (4, .int (zI x)), (3, .int (zI (t : Int))), (2, .ref h2), (1, .ref hm), (0, .ref b)]) [1, 3, 4, 5, 6, 7, 8, 9, 10, 11, 12, 13] rfl ?_
                exact K _ _ _ (by first | omega | (dsimp only [rmX3_init, rmL_build, rmL_act, rmL_below, rmL_cell, rmX3_digest, rmX3_stamps, rmX3_room, rmX3_valueOf, rmX3_stockOf, rmX3_vendedOf, rmX3_scarcest, rmX3_overpaid, rmX3_taken, rmX3_meanValue, rmX3_overpay, rmX3_ofStampFor, rmX3_stampsFor, rmX3_canPay, rmX3_most, rmX3_fewest, rmX3_ways, rmX3_gapFrom, rmX3_gapsTo, rmX3_reach, rmX3_reachNow, rmX3_reachWithRoom, rmX3_bestValue, rmX3_bestToPrint, rmX4_isThere, rmX4_print, rmX4_reach, rmL_reachPrinted, rmX3_lettersOf, rmX4_vend, rmX3_vend, rmX4_isSame, rmL_law]; omega)) (by first | omega | (dsimp only [rmX3_init, rmL_build, rmL_act, rmL_below, rmL_cell, rmX3_digest, rmX3_stamps, rmX3_room, rmX3_valueOf, rmX3_stockOf, rmX3_vendedOf, rmX3_scarcest, rmX3_overpaid, rmX3_taken, rmX3_meanValue, rmX3_overpay, rmX3_ofStampFor, rmX3_stampsFor, rmX3_canPay, rmX3_most, rmX3_fewest, rmX3_ways, rmX3_gapFrom, rmX3_gapsTo, rmX3_reach, rmX3_reachNow, rmX3_reachWithRoom, rmX3_bestValue, rmX3_bestToPrint, rmX4_isThere, rmX4_print, rmX4_reach, rmL_reachPrinted, rmX3_lettersOf, rmX4_vend, rmX3_vend, rmX4_isSame, rmL_law]; omega)) hX z594 f594
              · exfalso; omega
            · refine g_iconst C dL_law_670 ?_
              refine g_goto 675 C dL_law_671 (by decide) ?_
              refine g_icmp_eq 680 C dL_law_675 (by decide) (zr_i (by omega) (by omega)) (zr_i (by omega) (by omega)) (fun c_675 => ?_) (fun c_675 => ?_)
              · refine g_loc (L' := [(18, .int (zI z594)), (12, .int (zI v12)), (11, .int (zI (p : Int))), (10, .int (zI (g : Int))), (8, .int (zI rm)), (7, .int (zI (cnt : Int))), (5, .long (dgF cnt fv fs fd rm lt tk ov)), (4, .int (zI x)), (3, .int (zI (t : Int))), (2, .ref h2), (1, .ref hm), (0, .ref b)]) [1, 3, 4, 5, 6, 7, 8, 9, 10, 11, 12, 13] rfl ?_
                exact K _ _ _ (by first | omega | (dsimp only [rmX3_init, rmL_build, rmL_act, rmL_below, rmL_cell, rmX3_digest, rmX3_stamps, rmX3_room, rmX3_valueOf, rmX3_stockOf, rmX3_vendedOf, rmX3_scarcest, rmX3_overpaid, rmX3_taken, rmX3_meanValue, rmX3_overpay, rmX3_ofStampFor, rmX3_stampsFor, rmX3_canPay, rmX3_most, rmX3_fewest, rmX3_ways, rmX3_gapFrom, rmX3_gapsTo, rmX3_reach, rmX3_reachNow, rmX3_reachWithRoom, rmX3_bestValue, rmX3_bestToPrint, rmX4_isThere, rmX4_print, rmX4_reach, rmL_reachPrinted, rmX3_lettersOf, rmX4_vend, rmX3_vend, rmX4_isSame, rmL_law]; omega)) (by first | omega | (dsimp only [rmX3_init, rmL_build, rmL_act, rmL_below, rmL_cell, rmX3_digest, rmX3_stamps, rmX3_room, rmX3_valueOf, rmX3_stockOf, rmX3_vendedOf, rmX3_scarcest, rmX3_overpaid, rmX3_taken, rmX3_meanValue, rmX3_overpay, rmX3_ofStampFor, rmX3_stampsFor, rmX3_canPay, rmX3_most, rmX3_fewest, rmX3_ways, rmX3_gapFrom, rmX3_gapsTo, rmX3_reach, rmX3_reachNow, rmX3_reachWithRoom, rmX3_bestValue, rmX3_bestToPrint, rmX4_isThere, rmX4_print, rmX4_reach, rmL_reachPrinted, rmX3_lettersOf, rmX4_vend, rmX3_vend, rmX4_isSame, rmL_law]; omega)) hX z594 f594
              · exfalso; omega
          · refine g_iconst C dL_law_651 ?_
            refine g_goto 656 C dL_law_652 (by decide) ?_
            refine g_aload_n C dL_law_656 12 rfl ?_
            refine g_iconst C dL_law_657 ?_
            refine g_iload C dL_law_658 4 rfl ?_
            refine g_bipush C dL_law_660 (by decide) ?_
            refine g_iremE C dL_law_662 (by omega) (zr_i (by omega) (by omega)) (by omega) ⟨by decide, by decide⟩ (fun z662 z662a z662b z662e => ?_)
            refine g_iadd C dL_law_663 ?_
            refine g_top (q9 : Int) (by have := rem_one z605a z605b z662a z662b z605e z662e; omega) ?_
            refine g_mods [wZ h2 sa rm lt tk ov nw bs bS bM, wG sa cG cnt (rN ra cnt), w9, wQ ra cI fv fs fd cnt] [wZ h2 sa rm lt tk ov nw bs bS bM, wG sa cG cnt (rN ra cnt), wQ ra cI fv fs fd cnt, w9] [0, 1, 3, 2] (by decide) rfl ?_
            refine g_ws (w' := (((wZ h2 sa rm lt tk ov nw bs bS bM) ++ (wG sa cG cnt (rN ra cnt))) ++ (wQ ra cI fv fs fd cnt)) ++ (w9)) rfl rfl ?_
            obtain ⟨c20, gv0, gs0, gd0, tc0, tr0, ft0, tv0, tu0, fc0, M0, fa0, fb0, N0, rfl⟩ := hX
            refine g_callVX (wr := ((wZ h2 sa rm lt tk ov nw bs bS bM) ++ (wG sa cG cnt (rN ra cnt))) ++ (wQ ra cI fv fs fd cnt)) (st := [.int (zI 1)]) _ _ C cL_126 (met_X3_fewest l hl9 D cI cG cJ hm ad a2 bd pd cnt fv fs fd rm lt tk ov hI c20 gv0 gs0 gd0 tc0 tr0 ft0 tv0 tu0 fc0 M0 fa0 fb0 N0 (q9 : Int) (zr_i (by omega) (by omega))) gSp_r (ci := 3) (q0 := ((((wZ h2 sa rm lt tk ov nw bs bS bM) ++ (wG sa cG cnt (rN ra cnt))) ++ (wQ ra cI fv fs fd cnt)) : va_W).length) (at_r rfl) rfl (by decide) ⟨by first | omega | (dsimp only [rmX3_init, rmL_build, rmL_act, rmL_below, rmL_cell, rmX3_digest, rmX3_stamps, rmX3_room, rmX3_valueOf, rmX3_stockOf, rmX3_vendedOf, rmX3_scarcest, rmX3_overpaid, rmX3_taken, rmX3_meanValue, rmX3_overpay, rmX3_ofStampFor, rmX3_stampsFor, rmX3_canPay, rmX3_most, rmX3_fewest, rmX3_ways, rmX3_gapFrom, rmX3_gapsTo, rmX3_reach, rmX3_reachNow, rmX3_reachWithRoom, rmX3_bestValue, rmX3_bestToPrint, rmX4_isThere, rmX4_print, rmX4_reach, rmL_reachPrinted, rmX3_lettersOf, rmX4_vend, rmX3_vend, rmX4_isSame, rmL_law]; omega), by first | omega | (dsimp only [rmX3_init, rmL_build, rmL_act, rmL_below, rmL_cell, rmX3_digest, rmX3_stamps, rmX3_room, rmX3_valueOf, rmX3_stockOf, rmX3_vendedOf, rmX3_scarcest, rmX3_overpaid, rmX3_taken, rmX3_meanValue, rmX3_overpay, rmX3_ofStampFor, rmX3_stampsFor, rmX3_canPay, rmX3_most, rmX3_fewest, rmX3_ways, rmX3_gapFrom, rmX3_gapsTo, rmX3_reach, rmX3_reachNow, rmX3_reachWithRoom, rmX3_bestValue, rmX3_bestToPrint, rmX4_isThere, rmX4_print, rmX4_reach, rmL_reachPrinted, rmX3_lettersOf, rmX4_vend, rmX3_vend, rmX4_isSame, rmL_law]; omega)⟩ rfl rfl (Nat.le_of_ble_eq_true rfl) dL_law_664 (fun nm9 w9 h9 => ?_) ?_
            · exfalso
              rcases h9 with ⟨_, h8, _⟩
              exact h8 ⟨by omega, by omega⟩
            rintro v9 w9 ⟨z664, rfl, h664, hX⟩
            have f664 : (z664 = PF fv cnt 0 q9 ∧ PF fv cnt 0 q9 ≤ rm) ∨ (z664 = -1 ∧ rm < PF fv cnt 0 q9) := by
              by_cases h9 : PF fv cnt 0 q9 ≤ rm
              · exact Or.inl ⟨h664.2.trans (if_pos h9), h9⟩
              · exact Or.inr ⟨h664.2.trans (if_neg h9), by omega⟩
            have pp664 := pf_pos (more := 0) hv1 (q := q9) (by omega) (by omega)
            rw [← g607] at fw wb
            refine g_ws (w' := (((wZ h2 sa rm lt tk ov nw bs bS bM) ++ (wG sa cG cnt (rN ra cnt))) ++ (wQ ra cI fv fs fd cnt)) ++ (w9)) (st' := [.int (zI z664), .int (zI 1)]) (by simp only [List.append_assoc]) rfl ?_
            refine g_mods [wZ h2 sa rm lt tk ov nw bs bS bM, wG sa cG cnt (rN ra cnt), wQ ra cI fv fs fd cnt, w9] [wZ h2 sa rm lt tk ov nw bs bS bM, wG sa cG cnt (rN ra cnt), w9, wQ ra cI fv fs fd cnt] [0, 1, 3, 2] (by decide) rfl ?_
            refine g_ws (w' := (((wZ h2 sa rm lt tk ov nw bs bS bM) ++ (wG sa cG cnt (rN ra cnt))) ++ (w9)) ++ (wQ ra cI fv fs fd cnt)) rfl rfl ?_
            refine g_if_ge 674 C dL_law_667 (by decide) (zr_i (by omega) (by omega)) (fun c_667 => ?_) (fun c_667 => ?_)
            · refine g_iconst C dL_law_674 ?_
              refine g_icmp_eq 680 C dL_law_675 (by decide) (zr_i (by omega) (by omega)) (zr_i (by omega) (by omega)) (fun c_675 => ?_) (fun c_675 => ?_)
              · refine g_loc (L' := [(18, .int (zI z594)), (12, .int (zI v12)), (11, .int (zI (p : Int))), (10, .int (zI (g : Int))), (8, .int (zI rm)), (7, .int (zI (cnt : Int))), (5, .long (dgF cnt fv fs fd rm lt tk ov)), (4, .int (zI x)), (3, .int (zI (t : Int))), (2, .ref h2), (1, .ref hm), (0, .ref b)]) [1, 3, 4, 5, 6, 7, 8, 9, 10, 11, 12, 13] rfl ?_
                exact K _ _ _ (by first | omega | (dsimp only [rmX3_init, rmL_build, rmL_act, rmL_below, rmL_cell, rmX3_digest, rmX3_stamps, rmX3_room, rmX3_valueOf, rmX3_stockOf, rmX3_vendedOf, rmX3_scarcest, rmX3_overpaid, rmX3_taken, rmX3_meanValue, rmX3_overpay, rmX3_ofStampFor, rmX3_stampsFor, rmX3_canPay, rmX3_most, rmX3_fewest, rmX3_ways, rmX3_gapFrom, rmX3_gapsTo, rmX3_reach, rmX3_reachNow, rmX3_reachWithRoom, rmX3_bestValue, rmX3_bestToPrint, rmX4_isThere, rmX4_print, rmX4_reach, rmL_reachPrinted, rmX3_lettersOf, rmX4_vend, rmX3_vend, rmX4_isSame, rmL_law]; omega)) (by first | omega | (dsimp only [rmX3_init, rmL_build, rmL_act, rmL_below, rmL_cell, rmX3_digest, rmX3_stamps, rmX3_room, rmX3_valueOf, rmX3_stockOf, rmX3_vendedOf, rmX3_scarcest, rmX3_overpaid, rmX3_taken, rmX3_meanValue, rmX3_overpay, rmX3_ofStampFor, rmX3_stampsFor, rmX3_canPay, rmX3_most, rmX3_fewest, rmX3_ways, rmX3_gapFrom, rmX3_gapsTo, rmX3_reach, rmX3_reachNow, rmX3_reachWithRoom, rmX3_bestValue, rmX3_bestToPrint, rmX4_isThere, rmX4_print, rmX4_reach, rmL_reachPrinted, rmX3_lettersOf, rmX4_vend, rmX3_vend, rmX4_isSame, rmL_law]; omega)) hX z594 f594
              · exfalso; omega
            · refine g_iconst C dL_law_670 ?_
              refine g_goto 675 C dL_law_671 (by decide) ?_
              refine g_icmp_eq 680 C dL_law_675 (by decide) (zr_i (by omega) (by omega)) (zr_i (by omega) (by omega)) (fun c_675 => ?_) (fun c_675 => ?_)
              · refine g_loc (L' := [(18, .int (zI z594)), (12, .int (zI v12)), (11, .int (zI (p : Int))), (10, .int (zI (g : Int))), (8, .int (zI rm)), (7, .int (zI (cnt : Int))), (5, .long (dgF cnt fv fs fd rm lt tk ov)), (4, .int (zI x)), (3, .int (zI (t : Int))), (2, .ref h2), (1, .ref hm), (0, .ref b)]) [1, 3, 4, 5, 6, 7, 8, 9, 10, 11, 12, 13] rfl ?_
                exact K _ _ _ (by first | omega | (dsimp only [rmX3_init, rmL_build, rmL_act, rmL_below, rmL_cell, rmX3_digest, rmX3_stamps, rmX3_room, rmX3_valueOf, rmX3_stockOf, rmX3_vendedOf, rmX3_scarcest, rmX3_overpaid, rmX3_taken, rmX3_meanValue, rmX3_overpay, rmX3_ofStampFor, rmX3_stampsFor, rmX3_canPay, rmX3_most, rmX3_fewest, rmX3_ways, rmX3_gapFrom, rmX3_gapsTo, rmX3_reach, rmX3_reachNow, rmX3_reachWithRoom, rmX3_bestValue, rmX3_bestToPrint, rmX4_isThere, rmX4_print, rmX4_reach, rmL_reachPrinted, rmX3_lettersOf, rmX4_vend, rmX3_vend, rmX4_isSame, rmL_law]; omega)) (by first | omega | (dsimp only [rmX3_init, rmL_build, rmL_act, rmL_below, rmL_cell, rmX3_digest, rmX3_stamps, rmX3_room, rmX3_valueOf, rmX3_stockOf, rmX3_vendedOf, rmX3_scarcest, rmX3_overpaid, rmX3_taken, rmX3_meanValue, rmX3_overpay, rmX3_ofStampFor, rmX3_stampsFor, rmX3_canPay, rmX3_most, rmX3_fewest, rmX3_ways, rmX3_gapFrom, rmX3_gapsTo, rmX3_reach, rmX3_reachNow, rmX3_reachWithRoom, rmX3_bestValue, rmX3_bestToPrint, rmX4_isThere, rmX4_print, rmX4_reach, rmL_reachPrinted, rmX3_lettersOf, rmX4_vend, rmX3_vend, rmX4_isSame, rmL_law]; omega)) hX z594 f594
              · exfalso; omega
      · refine g_iload C dL_law_629 1 rfl ?_
        refine g_if_lt 678 C dL_law_631 (by decide) (zr_i (by omega) (by omega)) (fun c_631 => ?_) (fun c_631 => ?_)
        · exfalso; omega
        · refine g_iload C dL_law_634 1 rfl ?_
          refine g_iload C dL_law_636 2 rfl ?_
          refine g_icmp_gt 678 C dL_law_638 (by decide) (zr_i (by omega) (by omega)) (zr_i (by omega) (by omega)) (fun c_638 => ?_) (fun c_638 => ?_)
          · exfalso; omega
          · refine g_iload C dL_law_641 0 rfl ?_
            refine g_if_lt 678 C dL_law_643 (by decide) (zr_i (by omega) (by omega)) (fun c_643 => ?_) (fun c_643 => ?_)
            · exfalso; omega
            · refine g_iload C dL_law_646 0 rfl ?_
              refine g_if_ne 655 C dL_law_648 (by decide) (zr_i (by omega) (by omega)) (fun c_648 => ?_) (fun c_648 => ?_)
              · refine g_iconst C dL_law_655 ?_
                refine g_aload_n C dL_law_656 12 rfl ?_
                refine g_iconst C dL_law_657 ?_
                refine g_iload C dL_law_658 4 rfl ?_
                refine g_bipush C dL_law_660 (by decide) ?_
                refine g_iremE C dL_law_662 (by omega) (zr_i (by omega) (by omega)) (by omega) ⟨by decide, by decide⟩ (fun z662 z662a z662b z662e => ?_)
                refine g_iadd C dL_law_663 ?_
                refine g_top (q9 : Int) (by have := rem_one z605a z605b z662a z662b z605e z662e; omega) ?_
                refine g_mods [wZ h2 sa rm lt tk ov nw bs bS bM, wG sa cG cnt (rN ra cnt), w9, wQ ra cI fv fs fd cnt] [wZ h2 sa rm lt tk ov nw bs bS bM, wG sa cG cnt (rN ra cnt), wQ ra cI fv fs fd cnt, w9] [0, 1, 3, 2] (by decide) rfl ?_
                refine g_ws (w' := (((wZ h2 sa rm lt tk ov nw bs bS bM) ++ (wG sa cG cnt (rN ra cnt))) ++ (wQ ra cI fv fs fd cnt)) ++ (w9)) rfl rfl ?_
                obtain ⟨c20, gv0, gs0, gd0, tc0, tr0, ft0, tv0, tu0, fc0, M0, fa0, fb0, N0, rfl⟩ := hX
                refine g_callVX (wr := ((wZ h2 sa rm lt tk ov nw bs bS bM) ++ (wG sa cG cnt (rN ra cnt))) ++ (wQ ra cI fv fs fd cnt)) (st := [.int (zI 0)]) _ _ C cL_126 (met_X3_fewest l hl9 D cI cG cJ hm ad a2 bd pd cnt fv fs fd rm lt tk ov hI c20 gv0 gs0 gd0 tc0 tr0 ft0 tv0 tu0 fc0 M0 fa0 fb0 N0 (q9 : Int) (zr_i (by omega) (by omega))) gSp_r (ci := 3) (q0 := ((((wZ h2 sa rm lt tk ov nw bs bS bM) ++ (wG sa cG cnt (rN ra cnt))) ++ (wQ ra cI fv fs fd cnt)) : va_W).length) (at_r rfl) rfl (by decide) ⟨by first | omega | (dsimp only [rmX3_init, rmL_build, rmL_act, rmL_below, rmL_cell, rmX3_digest, rmX3_stamps, rmX3_room, rmX3_valueOf, rmX3_stockOf, rmX3_vendedOf, rmX3_scarcest, rmX3_overpaid, rmX3_taken, rmX3_meanValue, rmX3_overpay, rmX3_ofStampFor, rmX3_stampsFor, rmX3_canPay, rmX3_most, rmX3_fewest, rmX3_ways, rmX3_gapFrom, rmX3_gapsTo, rmX3_reach, rmX3_reachNow, rmX3_reachWithRoom, rmX3_bestValue, rmX3_bestToPrint, rmX4_isThere, rmX4_print, rmX4_reach, rmL_reachPrinted, rmX3_lettersOf, rmX4_vend, rmX3_vend, rmX4_isSame, rmL_law]; omega), by first | omega | (dsimp only [rmX3_init, rmL_build, rmL_act, rmL_below, rmL_cell, rmX3_digest, rmX3_stamps, rmX3_room, rmX3_valueOf, rmX3_stockOf, rmX3_vendedOf, rmX3_scarcest, rmX3_overpaid, rmX3_taken, rmX3_meanValue, rmX3_overpay, rmX3_ofStampFor, rmX3_stampsFor, rmX3_canPay, rmX3_most, rmX3_fewest, rmX3_ways, rmX3_gapFrom, rmX3_gapsTo, rmX3_reach, rmX3_reachNow, rmX3_reachWithRoom, rmX3_bestValue, rmX3_bestToPrint, rmX4_isThere, rmX4_print, rmX4_reach, rmL_reachPrinted, rmX3_lettersOf, rmX4_vend, rmX3_vend, rmX4_isSame, rmL_law]; omega)⟩ rfl rfl (Nat.le_of_ble_eq_true rfl) dL_law_664 (fun nm9 w9 h9 => ?_) ?_
                · exfalso
                  rcases h9 with ⟨_, h8, _⟩
                  exact h8 ⟨by omega, by omega⟩
                rintro v9 w9 ⟨z664, rfl, h664, hX⟩
                have f664 : (z664 = PF fv cnt 0 q9 ∧ PF fv cnt 0 q9 ≤ rm) ∨ (z664 = -1 ∧ rm < PF fv cnt 0 q9) := by
                  by_cases h9 : PF fv cnt 0 q9 ≤ rm
                  · exact Or.inl ⟨h664.2.trans (if_pos h9), h9⟩
                  · exact Or.inr ⟨h664.2.trans (if_neg h9), by omega⟩
                have pp664 := pf_pos (more := 0) hv1 (q := q9) (by omega) (by omega)
                rw [← g607] at fw wb
                refine g_ws (w' := (((wZ h2 sa rm lt tk ov nw bs bS bM) ++ (wG sa cG cnt (rN ra cnt))) ++ (wQ ra cI fv fs fd cnt)) ++ (w9)) (st' := [.int (zI z664), .int (zI 0)]) (by simp only [List.append_assoc]) rfl ?_
                refine g_mods [wZ h2 sa rm lt tk ov nw bs bS bM, wG sa cG cnt (rN ra cnt), wQ ra cI fv fs fd cnt, w9] [wZ h2 sa rm lt tk ov nw bs bS bM, wG sa cG cnt (rN ra cnt), w9, wQ ra cI fv fs fd cnt] [0, 1, 3, 2] (by decide) rfl ?_
                refine g_ws (w' := (((wZ h2 sa rm lt tk ov nw bs bS bM) ++ (wG sa cG cnt (rN ra cnt))) ++ (w9)) ++ (wQ ra cI fv fs fd cnt)) rfl rfl ?_
                refine g_if_ge 674 C dL_law_667 (by decide) (zr_i (by omega) (by omega)) (fun c_667 => ?_) (fun c_667 => ?_)
                · refine g_iconst C dL_law_674 ?_
                  refine g_icmp_eq 680 C dL_law_675 (by decide) (zr_i (by omega) (by omega)) (zr_i (by omega) (by omega)) (fun c_675 => ?_) (fun c_675 => ?_)
                  · refine g_loc (L' := [(18, .int (zI z594)), (12, .int (zI v12)), (11, .int (zI (p : Int))), (10, .int (zI (g : Int))), (8, .int (zI rm)), (7, .int (zI (cnt : Int))), (5, .long (dgF cnt fv fs fd rm lt tk ov)), (4, .int (zI x)), (3, .int (zI (t : Int))), (2, .ref h2), (1, .ref hm), (0, .ref b)]) [1, 3, 4, 5, 6, 7, 8, 9, 10, 11, 12, 13] rfl ?_
                    exact K _ _ _ (by first | omega | (dsimp only [rmX3_init, rmL_build, rmL_act, rmL_below, rmL_cell, rmX3_digest, rmX3_stamps, rmX3_room, rmX3_valueOf, rmX3_stockOf, rmX3_vendedOf, rmX3_scarcest, rmX3_overpaid, rmX3_taken, rmX3_meanValue, rmX3_overpay, rmX3_ofStampFor, rmX3_stampsFor, rmX3_canPay, rmX3_most, rmX3_fewest, rmX3_ways, rmX3_gapFrom, rmX3_gapsTo, rmX3_reach, rmX3_reachNow, rmX3_reachWithRoom, rmX3_bestValue, rmX3_bestToPrint, rmX4_isThere, rmX4_print, rmX4_reach, rmL_reachPrinted, rmX3_lettersOf, rmX4_vend, rmX3_vend, rmX4_isSame, rmL_law]; omega)) (by first | omega | (dsimp only [rmX3_init, rmL_build, rmL_act, rmL_below, rmL_cell, rmX3_digest, rmX3_stamps, rmX3_room, rmX3_valueOf, rmX3_stockOf, rmX3_vendedOf, rmX3_scarcest, rmX3_overpaid, rmX3_taken, rmX3_meanValue, rmX3_overpay, rmX3_ofStampFor, rmX3_stampsFor, rmX3_canPay, rmX3_most, rmX3_fewest, rmX3_ways, rmX3_gapFrom, rmX3_gapsTo, rmX3_reach, rmX3_reachNow, rmX3_reachWithRoom, rmX3_bestValue, rmX3_bestToPrint, rmX4_isThere, rmX4_print, rmX4_reach, rmL_reachPrinted, rmX3_lettersOf, rmX4_vend, rmX3_vend, rmX4_isSame, rmL_law]; omega)) hX z594 f594
                  · exfalso; omega
                · refine g_iconst C dL_law_670 ?_
                  refine g_goto 675 C dL_law_671 (by decide) ?_
                  refine g_icmp_eq 680 C dL_law_675 (by decide) (zr_i (by omega) (by omega)) (zr_i (by omega) (by omega)) (fun c_675 => ?_) (fun c_675 => ?_)
                  · refine g_loc (L' := [(18, .int (zI z594)), (12, .int (zI v12)), (11, .int (zI (p : Int))), (10, .int (zI (g : Int))), (8, .int (zI rm)), (7, .int (zI (cnt : Int))), (5, .long (dgF cnt fv fs fd rm lt tk ov)), (4, .int (zI x)), (3, .int (zI (t : Int))), (2, .ref h2), (1, .ref hm), (0, .ref b)]) [1, 3, 4, 5, 6, 7, 8, 9, 10, 11, 12, 13] rfl ?_
                    exact K _ _ _ (by first | omega | (dsimp only [rmX3_init, rmL_build, rmL_act, rmL_below, rmL_cell, rmX3_digest, rmX3_stamps, rmX3_room, rmX3_valueOf, rmX3_stockOf, rmX3_vendedOf, rmX3_scarcest, rmX3_overpaid, rmX3_taken, rmX3_meanValue, rmX3_overpay, rmX3_ofStampFor, rmX3_stampsFor, rmX3_canPay, rmX3_most, rmX3_fewest, rmX3_ways, rmX3_gapFrom, rmX3_gapsTo, rmX3_reach, rmX3_reachNow, rmX3_reachWithRoom, rmX3_bestValue, rmX3_bestToPrint, rmX4_isThere, rmX4_print, rmX4_reach, rmL_reachPrinted, rmX3_lettersOf, rmX4_vend, rmX3_vend, rmX4_isSame, rmL_law]; omega)) (by first | omega | (dsimp only [rmX3_init, rmL_build, rmL_act, rmL_below, rmL_cell, rmX3_digest, rmX3_stamps, rmX3_room, rmX3_valueOf, rmX3_stockOf, rmX3_vendedOf, rmX3_scarcest, rmX3_overpaid, rmX3_taken, rmX3_meanValue, rmX3_overpay, rmX3_ofStampFor, rmX3_stampsFor, rmX3_canPay, rmX3_most, rmX3_fewest, rmX3_ways, rmX3_gapFrom, rmX3_gapsTo, rmX3_reach, rmX3_reachNow, rmX3_reachWithRoom, rmX3_bestValue, rmX3_bestToPrint, rmX4_isThere, rmX4_print, rmX4_reach, rmL_reachPrinted, rmX3_lettersOf, rmX4_vend, rmX3_vend, rmX4_isSame, rmL_law]; omega)) hX z594 f594
                  · exfalso; omega
              · refine g_iconst C dL_law_651 ?_
                refine g_goto 656 C dL_law_652 (by decide) ?_
                refine g_aload_n C dL_law_656 12 rfl ?_
                refine g_iconst C dL_law_657 ?_
                refine g_iload C dL_law_658 4 rfl ?_
                refine g_bipush C dL_law_660 (by decide) ?_
                refine g_iremE C dL_law_662 (by omega) (zr_i (by omega) (by omega)) (by omega) ⟨by decide, by decide⟩ (fun z662 z662a z662b z662e => ?_)
                refine g_iadd C dL_law_663 ?_
                refine g_top (q9 : Int) (by have := rem_one z605a z605b z662a z662b z605e z662e; omega) ?_
                refine g_mods [wZ h2 sa rm lt tk ov nw bs bS bM, wG sa cG cnt (rN ra cnt), w9, wQ ra cI fv fs fd cnt] [wZ h2 sa rm lt tk ov nw bs bS bM, wG sa cG cnt (rN ra cnt), wQ ra cI fv fs fd cnt, w9] [0, 1, 3, 2] (by decide) rfl ?_
                refine g_ws (w' := (((wZ h2 sa rm lt tk ov nw bs bS bM) ++ (wG sa cG cnt (rN ra cnt))) ++ (wQ ra cI fv fs fd cnt)) ++ (w9)) rfl rfl ?_
                obtain ⟨c20, gv0, gs0, gd0, tc0, tr0, ft0, tv0, tu0, fc0, M0, fa0, fb0, N0, rfl⟩ := hX
                refine g_callVX (wr := ((wZ h2 sa rm lt tk ov nw bs bS bM) ++ (wG sa cG cnt (rN ra cnt))) ++ (wQ ra cI fv fs fd cnt)) (st := [.int (zI 1)]) _ _ C cL_126 (met_X3_fewest l hl9 D cI cG cJ hm ad a2 bd pd cnt fv fs fd rm lt tk ov hI c20 gv0 gs0 gd0 tc0 tr0 ft0 tv0 tu0 fc0 M0 fa0 fb0 N0 (q9 : Int) (zr_i (by omega) (by omega))) gSp_r (ci := 3) (q0 := ((((wZ h2 sa rm lt tk ov nw bs bS bM) ++ (wG sa cG cnt (rN ra cnt))) ++ (wQ ra cI fv fs fd cnt)) : va_W).length) (at_r rfl) rfl (by decide) ⟨by first | omega | (dsimp only [rmX3_init, rmL_build, rmL_act, rmL_below, rmL_cell, rmX3_digest, rmX3_stamps, rmX3_room, rmX3_valueOf, rmX3_stockOf, rmX3_vendedOf, rmX3_scarcest, rmX3_overpaid, rmX3_taken, rmX3_meanValue, rmX3_overpay, rmX3_ofStampFor, rmX3_stampsFor, rmX3_canPay, rmX3_most, rmX3_fewest, rmX3_ways, rmX3_gapFrom, rmX3_gapsTo, rmX3_reach, rmX3_reachNow, rmX3_reachWithRoom, rmX3_bestValue, rmX3_bestToPrint, rmX4_isThere, rmX4_print, rmX4_reach, rmL_reachPrinted, rmX3_lettersOf, rmX4_vend, rmX3_vend, rmX4_isSame, rmL_law]; omega), by first | omega | (dsimp only [rmX3_init, rmL_build, rmL_act, rmL_below, rmL_cell, rmX3_digest, rmX3_stamps, rmX3_room, rmX3_valueOf, rmX3_stockOf, rmX3_vendedOf, rmX3_scarcest, rmX3_overpaid, rmX3_taken, rmX3_meanValue, rmX3_overpay, rmX3_ofStampFor, rmX3_stampsFor, rmX3_canPay, rmX3_most, rmX3_fewest, rmX3_ways, rmX3_gapFrom, rmX3_gapsTo, rmX3_reach, rmX3_reachNow, rmX3_reachWithRoom, rmX3_bestValue, rmX3_bestToPrint, rmX4_isThere, rmX4_print, rmX4_reach, rmL_reachPrinted, rmX3_lettersOf, rmX4_vend, rmX3_vend, rmX4_isSame, rmL_law]; omega)⟩ rfl rfl (Nat.le_of_ble_eq_true rfl) dL_law_664 (fun nm9 w9 h9 => ?_) ?_
                · exfalso
                  rcases h9 with ⟨_, h8, _⟩
                  exact h8 ⟨by omega, by omega⟩
                rintro v9 w9 ⟨z664, rfl, h664, hX⟩
                have f664 : (z664 = PF fv cnt 0 q9 ∧ PF fv cnt 0 q9 ≤ rm) ∨ (z664 = -1 ∧ rm < PF fv cnt 0 q9) := by
                  by_cases h9 : PF fv cnt 0 q9 ≤ rm
                  · exact Or.inl ⟨h664.2.trans (if_pos h9), h9⟩
                  · exact Or.inr ⟨h664.2.trans (if_neg h9), by omega⟩
                have pp664 := pf_pos (more := 0) hv1 (q := q9) (by omega) (by omega)
                rw [← g607] at fw wb
                refine g_ws (w' := (((wZ h2 sa rm lt tk ov nw bs bS bM) ++ (wG sa cG cnt (rN ra cnt))) ++ (wQ ra cI fv fs fd cnt)) ++ (w9)) (st' := [.int (zI z664), .int (zI 1)]) (by simp only [List.append_assoc]) rfl ?_
                refine g_mods [wZ h2 sa rm lt tk ov nw bs bS bM, wG sa cG cnt (rN ra cnt), wQ ra cI fv fs fd cnt, w9] [wZ h2 sa rm lt tk ov nw bs bS bM, wG sa cG cnt (rN ra cnt), w9, wQ ra cI fv fs fd cnt] [0, 1, 3, 2] (by decide) rfl ?_
                refine g_ws (w' := (((wZ h2 sa rm lt tk ov nw bs bS bM) ++ (wG sa cG cnt (rN ra cnt))) ++ (w9)) ++ (wQ ra cI fv fs fd cnt)) rfl rfl ?_
                refine g_if_ge 674 C dL_law_667 (by decide) (zr_i (by omega) (by omega)) (fun c_667 => ?_) (fun c_667 => ?_)
                · refine g_iconst C dL_law_674 ?_
                  refine g_icmp_eq 680 C dL_law_675 (by decide) (zr_i (by omega) (by omega)) (zr_i (by omega) (by omega)) (fun c_675 => ?_) (fun c_675 => ?_)
                  · refine g_loc (L' := [(18, .int (zI z594)), (12, .int (zI v12)), (11, .int (zI (p : Int))), (10, .int (zI (g : Int))), (8, .int (zI rm)), (7, .int (zI (cnt : Int))), (5, .long (dgF cnt fv fs fd rm lt tk ov)), (4, .int (zI x)), (3, .int (zI (t : Int))), (2, .ref h2), (1, .ref hm), (0, .ref b)]) [1, 3, 4, 5, 6, 7, 8, 9, 10, 11, 12, 13] rfl ?_
                    exact K _ _ _ (by first | omega | (dsimp only [rmX3_init, rmL_build, rmL_act, rmL_below, rmL_cell, rmX3_digest, rmX3_stamps, rmX3_room, rmX3_valueOf, rmX3_stockOf, rmX3_vendedOf, rmX3_scarcest, rmX3_overpaid, rmX3_taken, rmX3_meanValue, rmX3_overpay, rmX3_ofStampFor, rmX3_stampsFor, rmX3_canPay, rmX3_most, rmX3_fewest, rmX3_ways, rmX3_gapFrom, rmX3_gapsTo, rmX3_reach, rmX3_reachNow, rmX3_reachWithRoom, rmX3_bestValue, rmX3_bestToPrint, rmX4_isThere, rmX4_print, rmX4_reach, rmL_reachPrinted, rmX3_lettersOf, rmX4_vend, rmX3_vend, rmX4_isSame, rmL_law]; omega)) (by first | omega | (dsimp only [rmX3_init, rmL_build, rmL_act, rmL_below, rmL_cell, rmX3_digest, rmX3_stamps, rmX3_room, rmX3_valueOf, rmX3_stockOf, rmX3_vendedOf, rmX3_scarcest, rmX3_overpaid, rmX3_taken, rmX3_meanValue, rmX3_overpay, rmX3_ofStampFor, rmX3_stampsFor, rmX3_canPay, rmX3_most, rmX3_fewest, rmX3_ways, rmX3_gapFrom, rmX3_gapsTo, rmX3_reach, rmX3_reachNow, rmX3_reachWithRoom, rmX3_bestValue, rmX3_bestToPrint, rmX4_isThere, rmX4_print, rmX4_reach, rmL_reachPrinted, rmX3_lettersOf, rmX4_vend, rmX3_vend, rmX4_isSame, rmL_law]; omega)) hX z594 f594
                  · exfalso; omega
                · refine g_iconst C dL_law_670 ?_
                  refine g_goto 675 C dL_law_671 (by decide) ?_
                  refine g_icmp_eq 680 C dL_law_675 (by decide) (zr_i (by omega) (by omega)) (zr_i (by omega) (by omega)) (fun c_675 => ?_) (fun c_675 => ?_)
                  · refine g_loc (L' := [(18, .int (zI z594)), (12, .int (zI v12)), (11, .int (zI (p : Int))), (10, .int (zI (g : Int))), (8, .int (zI rm)), (7, .int (zI (cnt : Int))), (5, .long (dgF cnt fv fs fd rm lt tk ov)), (4, .int (zI x)), (3, .int (zI (t : Int))), (2, .ref h2), (1, .ref hm), (0, .ref b)]) [1, 3, 4, 5, 6, 7, 8, 9, 10, 11, 12, 13] rfl ?_
                    exact K _ _ _ (by first | omega | (dsimp only [rmX3_init, rmL_build, rmL_act, rmL_below, rmL_cell, rmX3_digest, rmX3_stamps, rmX3_room, rmX3_valueOf, rmX3_stockOf, rmX3_vendedOf, rmX3_scarcest, rmX3_overpaid, rmX3_taken, rmX3_meanValue, rmX3_overpay, rmX3_ofStampFor, rmX3_stampsFor, rmX3_canPay, rmX3_most, rmX3_fewest, rmX3_ways, rmX3_gapFrom, rmX3_gapsTo, rmX3_reach, rmX3_reachNow, rmX3_reachWithRoom, rmX3_bestValue, rmX3_bestToPrint, rmX4_isThere, rmX4_print, rmX4_reach, rmL_reachPrinted, rmX3_lettersOf, rmX4_vend, rmX3_vend, rmX4_isSame, rmL_law]; omega)) (by first | omega | (dsimp only [rmX3_init, rmL_build, rmL_act, rmL_below, rmL_cell, rmX3_digest, rmX3_stamps, rmX3_room, rmX3_valueOf, rmX3_stockOf, rmX3_vendedOf, rmX3_scarcest, rmX3_overpaid, rmX3_taken, rmX3_meanValue, rmX3_overpay, rmX3_ofStampFor, rmX3_stampsFor, rmX3_canPay, rmX3_most, rmX3_fewest, rmX3_ways, rmX3_gapFrom, rmX3_gapsTo, rmX3_reach, rmX3_reachNow, rmX3_reachWithRoom, rmX3_bestValue, rmX3_bestToPrint, rmX4_isThere, rmX4_print, rmX4_reach, rmL_reachPrinted, rmX3_lettersOf, rmX4_vend, rmX3_vend, rmX4_isSame, rmL_law]; omega)) hX z594 f594
                  · exfalso; omega
set_option maxHeartbeats 8000000 in
set_option maxRecDepth 100000 in
theorem law_688n (l : Launch) {E : gEnv} {D : va_G} {cI cG cJ : ClassId} {k0 n0 : Nat} (hl9 : l.stackTraces = false) (hm h2 b : Nat) (ad a2 bd pd : Nat → Nat) (T : Int) (hT1 : T ≤ 100) (cnt : Nat) (fv fs fd : Nat → Int) (rm lt tk ov : Int) (w1 : va_W) (sa : Nat) (ra : Nat → Nat) (nw bs : Value) (bS bM : Int) (hX : XW hm ad a2 bd pd cI cG cnt fv fs fd rm lt tk ov w1) (hI : XI cnt fv fs rm) (hY : YI cnt fd lt tk ov T) (x : Int) (t : Nat) (ht : t < 8) (C : gC E l rmL_law D 21 RL cL_law cI cG cJ) (hk : k0 ≤ 590000) (hn0 : n0 ≤ 7200000) (p g : Nat) (hp : 1 ≤ p ∧ p ≤ 300) (hg : g < 4) (few : Int) (hfw : (few = PF fv cnt 0 p ∧ PF fv cnt 0 p ≤ rm) ∨ (few = -1 ∧ rm < PF fv cnt 0 p)) (hg9 : PF fv cnt 0 p ≤ rm) (hp9 : 1 ≤ PF fv cnt 0 p)  (K : ∀ (k n : Nat) (w9 : va_W), k ≤ k0 + 10 → n ≤ n0 + 60 → XW hm ad a2 bd pd cI cG cnt fv fs fd rm lt tk ov w9 →  gW E k n ((((wZ h2 sa rm lt tk ov nw bs bS bM) ++ (wG sa cG cnt (rN ra cnt))) ++ (w9)) ++ (wQ ra cI fv fs fd cnt)) 731 [(18, .int (zI few)), (11, .int (zI (p : Int))), (10, .int (zI (g : Int))), (8, .int (zI rm)), (7, .int (zI (cnt : Int))), (5, .long (dgF cnt fv fs fd rm lt tk ov)), (4, .int (zI x)), (3, .int (zI (t : Int))), (2, .ref h2), (1, .ref hm), (0, .ref b)] []) : gW E k0 n0 ((((wZ h2 sa rm lt tk ov nw bs bS bM) ++ (wG sa cG cnt (rN ra cnt))) ++ (w1)) ++ (wQ ra cI fv fs fd cnt)) 688 [(20, .int (zI (-1))), (18, .int (zI few)), (11, .int (zI (p : Int))), (10, .int (zI (g : Int))), (8, .int (zI rm)), (7, .int (zI (cnt : Int))), (5, .long (dgF cnt fv fs fd rm lt tk ov)), (4, .int (zI x)), (3, .int (zI (t : Int))), (2, .ref h2), (1, .ref hm), (0, .ref b)] [] := by
  obtain ⟨hc, hS, h99, hr1, hr2⟩ := id hI
  have hr : 0 ≤ rm ∧ rm ≤ 12 := ⟨by omega, hr2⟩
  obtain ⟨y1, y2, y3, y4, y5, y6⟩ := id hY
  have hv1 : ∀ j, j < cnt → 1 ≤ fv j := fun j hj => (hS.1 j hj).1
  have hX := hX
  refine g_iload C dL_law_688 0 rfl ?_
  refine g_if_lt 721 C dL_law_690 (by decide) (zr_i (by omega) (by omega)) (fun c_690 => ?_) (fun c_690 => ?_)
  · refine g_iload C dL_law_721 0 rfl ?_
    refine g_if_ge 731 C dL_law_723 (by decide) (zr_i (by omega) (by omega)) (fun c_723 => ?_) (fun c_723 => ?_)
    · exfalso; omega
    · refine g_iload C dL_law_726 1 rfl ?_
      refine g_if_lt 767 C dL_law_728 (by decide) (zr_i (by omega) (by omega)) (fun c_728 => ?_) (fun c_728 => ?_)
      · exfalso; omega
      · refine g_loc (L' := [(18, .int (zI few)), (11, .int (zI (p : Int))), (10, .int (zI (g : Int))), (8, .int (zI rm)), (7, .int (zI (cnt : Int))), (5, .long (dgF cnt fv fs fd rm lt tk ov)), (4, .int (zI x)), (3, .int (zI (t : Int))), (2, .ref h2), (1, .ref hm), (0, .ref b)]) [1, 2, 3, 4, 5, 6, 7, 8, 9, 10, 11] rfl ?_
        exact K _ _ _ (by first | omega | (dsimp only [rmX3_init, rmL_build, rmL_act, rmL_below, rmL_cell, rmX3_digest, rmX3_stamps, rmX3_room, rmX3_valueOf, rmX3_stockOf, rmX3_vendedOf, rmX3_scarcest, rmX3_overpaid, rmX3_taken, rmX3_meanValue, rmX3_overpay, rmX3_ofStampFor, rmX3_stampsFor, rmX3_canPay, rmX3_most, rmX3_fewest, rmX3_ways, rmX3_gapFrom, rmX3_gapsTo, rmX3_reach, rmX3_reachNow, rmX3_reachWithRoom, rmX3_bestValue, rmX3_bestToPrint, rmX4_isThere, rmX4_print, rmX4_reach, rmL_reachPrinted, rmX3_lettersOf, rmX4_vend, rmX3_vend, rmX4_isSame, rmL_law]; omega)) (by first | omega | (dsimp only [rmX3_init, rmL_build, rmL_act, rmL_below, rmL_cell, rmX3_digest, rmX3_stamps, rmX3_room, rmX3_valueOf, rmX3_stockOf, rmX3_vendedOf, rmX3_scarcest, rmX3_overpaid, rmX3_taken, rmX3_meanValue, rmX3_overpay, rmX3_ofStampFor, rmX3_stampsFor, rmX3_canPay, rmX3_most, rmX3_fewest, rmX3_ways, rmX3_gapFrom, rmX3_gapsTo, rmX3_reach, rmX3_reachNow, rmX3_reachWithRoom, rmX3_bestValue, rmX3_bestToPrint, rmX4_isThere, rmX4_print, rmX4_reach, rmL_reachPrinted, rmX3_lettersOf, rmX4_vend, rmX3_vend, rmX4_isSame, rmL_law]; omega)) hX 
  · exfalso; omega
set_option maxHeartbeats 8000000 in
set_option maxRecDepth 100000 in
theorem law_688s (l : Launch) {E : gEnv} {D : va_G} {cI cG cJ : ClassId} {k0 n0 : Nat} (hl9 : l.stackTraces = false) (hm h2 b : Nat) (ad a2 bd pd : Nat → Nat) (T : Int) (hT1 : T ≤ 100) (cnt : Nat) (fv fs fd : Nat → Int) (rm lt tk ov : Int) (w1 : va_W) (sa : Nat) (ra : Nat → Nat) (nw bs : Value) (bS bM : Int) (hX : XW hm ad a2 bd pd cI cG cnt fv fs fd rm lt tk ov w1) (hI : XI cnt fv fs rm) (hY : YI cnt fd lt tk ov T) (x : Int) (t : Nat) (ht : t < 8) (C : gC E l rmL_law D 21 RL cL_law cI cG cJ) (hk : k0 ≤ 590000) (hn0 : n0 ≤ 7200000) (p g : Nat) (hp : 1 ≤ p ∧ p ≤ 300) (hg : g < 4) (few : Int) (hfw : (few = PF fv cnt 0 p ∧ PF fv cnt 0 p ≤ rm) ∨ (few = -1 ∧ rm < PF fv cnt 0 p)) (j : Nat) (hj : p ≤ j ∧ j ≤ 300) (hjr : rm < PF fv cnt 0 j) (hjp : p < j → PF fv cnt 0 p ≤ rm) (hp9 : 1 ≤ PF fv cnt 0 p)  (K : ∀ (k n : Nat) (w9 : va_W), k ≤ k0 + 10 → n ≤ n0 + 60 → XW hm ad a2 bd pd cI cG cnt fv fs fd rm lt tk ov w9 →  gW E k n ((((wZ h2 sa rm lt tk ov nw bs bS bM) ++ (wG sa cG cnt (rN ra cnt))) ++ (w9)) ++ (wQ ra cI fv fs fd cnt)) 731 [(18, .int (zI few)), (11, .int (zI (p : Int))), (10, .int (zI (g : Int))), (8, .int (zI rm)), (7, .int (zI (cnt : Int))), (5, .long (dgF cnt fv fs fd rm lt tk ov)), (4, .int (zI x)), (3, .int (zI (t : Int))), (2, .ref h2), (1, .ref hm), (0, .ref b)] []) : gW E k0 n0 ((((wZ h2 sa rm lt tk ov nw bs bS bM) ++ (wG sa cG cnt (rN ra cnt))) ++ (w1)) ++ (wQ ra cI fv fs fd cnt)) 688 [(20, .int (zI (j : Int))), (18, .int (zI few)), (11, .int (zI (p : Int))), (10, .int (zI (g : Int))), (8, .int (zI rm)), (7, .int (zI (cnt : Int))), (5, .long (dgF cnt fv fs fd rm lt tk ov)), (4, .int (zI x)), (3, .int (zI (t : Int))), (2, .ref h2), (1, .ref hm), (0, .ref b)] [] := by
  obtain ⟨hc, hS, h99, hr1, hr2⟩ := id hI
  have hr : 0 ≤ rm ∧ rm ≤ 12 := ⟨by omega, hr2⟩
  obtain ⟨y1, y2, y3, y4, y5, y6⟩ := id hY
  have hv1 : ∀ j, j < cnt → 1 ≤ fv j := fun j hj => (hS.1 j hj).1
  refine g_iload C dL_law_688 0 rfl ?_
  refine g_if_lt 721 C dL_law_690 (by decide) (zr_i (by omega) (by omega)) (fun c_690 => ?_) (fun c_690 => ?_)
  · exfalso; omega
  · refine g_iload C dL_law_693 0 rfl ?_
    refine g_iload C dL_law_695 2 rfl ?_
    refine g_icmp_lt 767 C dL_law_697 (by decide) (zr_i (by omega) (by omega)) (zr_i (by omega) (by omega)) (fun c_697 => ?_) (fun c_697 => ?_)
    · exfalso; omega
    · refine g_aload_n C dL_law_700 10 rfl ?_
      refine g_iload C dL_law_701 0 rfl ?_
      refine g_mods [wZ h2 sa rm lt tk ov nw bs bS bM, wG sa cG cnt (rN ra cnt), w1, wQ ra cI fv fs fd cnt] [wZ h2 sa rm lt tk ov nw bs bS bM, wG sa cG cnt (rN ra cnt), wQ ra cI fv fs fd cnt, w1] [0, 1, 3, 2] (by decide) rfl ?_
      refine g_ws (w' := (((wZ h2 sa rm lt tk ov nw bs bS bM) ++ (wG sa cG cnt (rN ra cnt))) ++ (wQ ra cI fv fs fd cnt)) ++ (w1)) rfl rfl ?_
      obtain ⟨c20, gv0, gs0, gd0, tc0, tr0, ft0, tv0, tu0, fc0, M0, fa0, fb0, N0, rfl⟩ := hX
      refine g_callVX (wr := ((wZ h2 sa rm lt tk ov nw bs bS bM) ++ (wG sa cG cnt (rN ra cnt))) ++ (wQ ra cI fv fs fd cnt)) (st := []) _ _ C cL_126 (met_X3_fewest l hl9 D cI cG cJ hm ad a2 bd pd cnt fv fs fd rm lt tk ov hI c20 gv0 gs0 gd0 tc0 tr0 ft0 tv0 tu0 fc0 M0 fa0 fb0 N0 (j : Int) (zr_i (by omega) (by omega))) gSp_r (ci := 3) (q0 := ((((wZ h2 sa rm lt tk ov nw bs bS bM) ++ (wG sa cG cnt (rN ra cnt))) ++ (wQ ra cI fv fs fd cnt)) : va_W).length) (at_r rfl) rfl (by decide) ⟨by first | omega | (dsimp only [rmX3_init, rmL_build, rmL_act, rmL_below, rmL_cell, rmX3_digest, rmX3_stamps, rmX3_room, rmX3_valueOf, rmX3_stockOf, rmX3_vendedOf, rmX3_scarcest, rmX3_overpaid, rmX3_taken, rmX3_meanValue, rmX3_overpay, rmX3_ofStampFor, rmX3_stampsFor, rmX3_canPay, rmX3_most, rmX3_fewest, rmX3_ways, rmX3_gapFrom, rmX3_gapsTo, rmX3_reach, rmX3_reachNow, rmX3_reachWithRoom, rmX3_bestValue, rmX3_bestToPrint, rmX4_isThere, rmX4_print, rmX4_reach, rmL_reachPrinted, rmX3_lettersOf, rmX4_vend, rmX3_vend, rmX4_isSame, rmL_law]; omega), by first | omega | (dsimp only [rmX3_init, rmL_build, rmL_act, rmL_below, rmL_cell, rmX3_digest, rmX3_stamps, rmX3_room, rmX3_valueOf, rmX3_stockOf, rmX3_vendedOf, rmX3_scarcest, rmX3_overpaid, rmX3_taken, rmX3_meanValue, rmX3_overpay, rmX3_ofStampFor, rmX3_stampsFor, rmX3_canPay, rmX3_most, rmX3_fewest, rmX3_ways, rmX3_gapFrom, rmX3_gapsTo, rmX3_reach, rmX3_reachNow, rmX3_reachWithRoom, rmX3_bestValue, rmX3_bestToPrint, rmX4_isThere, rmX4_print, rmX4_reach, rmL_reachPrinted, rmX3_lettersOf, rmX4_vend, rmX3_vend, rmX4_isSame, rmL_law]; omega)⟩ rfl rfl (Nat.le_of_ble_eq_true rfl) dL_law_703 (fun nm9 w9 h9 => ?_) ?_
      · exfalso
        rcases h9 with ⟨_, h8, _⟩
        exact h8 ⟨by omega, by omega⟩
      rintro v9 w9 ⟨z703, rfl, h703, hX⟩
      have f703 : (z703 = PF fv cnt 0 j ∧ PF fv cnt 0 j ≤ rm) ∨ (z703 = -1 ∧ rm < PF fv cnt 0 j) := by
        by_cases h9 : PF fv cnt 0 j ≤ rm
        · exact Or.inl ⟨h703.2.trans (if_pos h9), h9⟩
        · exact Or.inr ⟨h703.2.trans (if_neg h9), by omega⟩
      have pp703 := pf_pos (more := 0) hv1 (q := j) (by omega) (by omega)
      refine g_ws (w' := (((wZ h2 sa rm lt tk ov nw bs bS bM) ++ (wG sa cG cnt (rN ra cnt))) ++ (wQ ra cI fv fs fd cnt)) ++ (w9)) (st' := [.int (zI z703)]) (by simp only [List.append_assoc]) rfl ?_
      refine g_mods [wZ h2 sa rm lt tk ov nw bs bS bM, wG sa cG cnt (rN ra cnt), wQ ra cI fv fs fd cnt, w9] [wZ h2 sa rm lt tk ov nw bs bS bM, wG sa cG cnt (rN ra cnt), w9, wQ ra cI fv fs fd cnt] [0, 1, 3, 2] (by decide) rfl ?_
      refine g_ws (w' := (((wZ h2 sa rm lt tk ov nw bs bS bM) ++ (wG sa cG cnt (rN ra cnt))) ++ (w9)) ++ (wQ ra cI fv fs fd cnt)) rfl rfl ?_
      refine g_if_ge 767 C dL_law_706 (by decide) (zr_i (by omega) (by omega)) (fun c_706 => ?_) (fun c_706 => ?_)
      · exfalso; omega
      · refine g_iload C dL_law_709 0 rfl ?_
        refine g_iload C dL_law_711 2 rfl ?_
        refine g_icmp_le 721 C dL_law_713 (by decide) (zr_i (by omega) (by omega)) (zr_i (by omega) (by omega)) (fun c_713 => ?_) (fun c_713 => ?_)
        · refine g_iload C dL_law_721 0 rfl ?_
          refine g_if_ge 731 C dL_law_723 (by decide) (zr_i (by omega) (by omega)) (fun c_723 => ?_) (fun c_723 => ?_)
          · refine g_loc (L' := [(18, .int (zI few)), (11, .int (zI (p : Int))), (10, .int (zI (g : Int))), (8, .int (zI rm)), (7, .int (zI (cnt : Int))), (5, .long (dgF cnt fv fs fd rm lt tk ov)), (4, .int (zI x)), (3, .int (zI (t : Int))), (2, .ref h2), (1, .ref hm), (0, .ref b)]) [1, 2, 3, 4, 5, 6, 7, 8, 9, 10, 11] rfl ?_
            exact K _ _ _ (by first | omega | (dsimp only [rmX3_init, rmL_build, rmL_act, rmL_below, rmL_cell, rmX3_digest, rmX3_stamps, rmX3_room, rmX3_valueOf, rmX3_stockOf, rmX3_vendedOf, rmX3_scarcest, rmX3_overpaid, rmX3_taken, rmX3_meanValue, rmX3_overpay, rmX3_ofStampFor, rmX3_stampsFor, rmX3_canPay, rmX3_most, rmX3_fewest, rmX3_ways, rmX3_gapFrom, rmX3_gapsTo, rmX3_reach, rmX3_reachNow, rmX3_reachWithRoom, rmX3_bestValue, rmX3_bestToPrint, rmX4_isThere, rmX4_print, rmX4_reach, rmL_reachPrinted, rmX3_lettersOf, rmX4_vend, rmX3_vend, rmX4_isSame, rmL_law]; omega)) (by first | omega | (dsimp only [rmX3_init, rmL_build, rmL_act, rmL_below, rmL_cell, rmX3_digest, rmX3_stamps, rmX3_room, rmX3_valueOf, rmX3_stockOf, rmX3_vendedOf, rmX3_scarcest, rmX3_overpaid, rmX3_taken, rmX3_meanValue, rmX3_overpay, rmX3_ofStampFor, rmX3_stampsFor, rmX3_canPay, rmX3_most, rmX3_fewest, rmX3_ways, rmX3_gapFrom, rmX3_gapsTo, rmX3_reach, rmX3_reachNow, rmX3_reachWithRoom, rmX3_bestValue, rmX3_bestToPrint, rmX4_isThere, rmX4_print, rmX4_reach, rmL_reachPrinted, rmX3_lettersOf, rmX4_vend, rmX3_vend, rmX4_isSame, rmL_law]; omega)) hX 
          · exfalso; omega
        · refine g_iload C dL_law_716 1 rfl ?_
          refine g_if_lt 767 C dL_law_718 (by decide) (zr_i (by omega) (by omega)) (fun c_718 => ?_) (fun c_718 => ?_)
          · exfalso; omega
          · refine g_iload C dL_law_721 0 rfl ?_
            refine g_if_ge 731 C dL_law_723 (by decide) (zr_i (by omega) (by omega)) (fun c_723 => ?_) (fun c_723 => ?_)
            · refine g_loc (L' := [(18, .int (zI few)), (11, .int (zI (p : Int))), (10, .int (zI (g : Int))), (8, .int (zI rm)), (7, .int (zI (cnt : Int))), (5, .long (dgF cnt fv fs fd rm lt tk ov)), (4, .int (zI x)), (3, .int (zI (t : Int))), (2, .ref h2), (1, .ref hm), (0, .ref b)]) [1, 2, 3, 4, 5, 6, 7, 8, 9, 10, 11] rfl ?_
              exact K _ _ _ (by first | omega | (dsimp only [rmX3_init, rmL_build, rmL_act, rmL_below, rmL_cell, rmX3_digest, rmX3_stamps, rmX3_room, rmX3_valueOf, rmX3_stockOf, rmX3_vendedOf, rmX3_scarcest, rmX3_overpaid, rmX3_taken, rmX3_meanValue, rmX3_overpay, rmX3_ofStampFor, rmX3_stampsFor, rmX3_canPay, rmX3_most, rmX3_fewest, rmX3_ways, rmX3_gapFrom, rmX3_gapsTo, rmX3_reach, rmX3_reachNow, rmX3_reachWithRoom, rmX3_bestValue, rmX3_bestToPrint, rmX4_isThere, rmX4_print, rmX4_reach, rmL_reachPrinted, rmX3_lettersOf, rmX4_vend, rmX3_vend, rmX4_isSame, rmL_law]; omega)) (by first | omega | (dsimp only [rmX3_init, rmL_build, rmL_act, rmL_below, rmL_cell, rmX3_digest, rmX3_stamps, rmX3_room, rmX3_valueOf, rmX3_stockOf, rmX3_vendedOf, rmX3_scarcest, rmX3_overpaid, rmX3_taken, rmX3_meanValue, rmX3_overpay, rmX3_ofStampFor, rmX3_stampsFor, rmX3_canPay, rmX3_most, rmX3_fewest, rmX3_ways, rmX3_gapFrom, rmX3_gapsTo, rmX3_reach, rmX3_reachNow, rmX3_reachWithRoom, rmX3_bestValue, rmX3_bestToPrint, rmX4_isThere, rmX4_print, rmX4_reach, rmL_reachPrinted, rmX3_lettersOf, rmX4_vend, rmX3_vend, rmX4_isSame, rmL_law]; omega)) hX 
            · exfalso; omega
set_option maxHeartbeats 8000000 in
set_option maxRecDepth 100000 in
theorem law_731 (l : Launch) {E : gEnv} {D : va_G} {cI cG cJ : ClassId} {k0 n0 : Nat} (hl9 : l.stackTraces = false) (hm h2 b : Nat) (ad a2 bd pd : Nat → Nat) (T : Int) (hT1 : T ≤ 100) (cnt : Nat) (fv fs fd : Nat → Int) (rm lt tk ov : Int) (w1 : va_W) (sa : Nat) (ra : Nat → Nat) (nw bs : Value) (bS bM : Int) (hX : XW hm ad a2 bd pd cI cG cnt fv fs fd rm lt tk ov w1) (hI : XI cnt fv fs rm) (hY : YI cnt fd lt tk ov T) (x : Int) (t : Nat) (ht : t < 8) (C : gC E l rmL_law D 21 RL cL_law cI cG cJ) (hk : k0 ≤ 590000) (hn0 : n0 ≤ 7200000) (p g : Nat) (hp : 1 ≤ p ∧ p ≤ 300) (hg : g < 4) (few : Int) (hfw : (few = PF fv cnt 0 p ∧ PF fv cnt 0 p ≤ rm) ∨ (few = -1 ∧ rm < PF fv cnt 0 p)) (hp9 : 1 ≤ PF fv cnt 0 p)  (K : ∀ (k n : Nat) (w9 : va_W), k ≤ k0 + 10 → n ≤ n0 + 60 → XW hm ad a2 bd pd cI cG cnt fv fs fd rm lt tk ov w9 →  gW E k n ((((wZ h2 sa rm lt tk ov nw bs bS bM) ++ (wG sa cG cnt (rN ra cnt))) ++ (w9)) ++ (wQ ra cI fv fs fd cnt)) 769 [(10, .int (zI (g : Int))), (8, .int (zI rm)), (7, .int (zI (cnt : Int))), (5, .long (dgF cnt fv fs fd rm lt tk ov)), (4, .int (zI x)), (3, .int (zI (t : Int))), (2, .ref h2), (1, .ref hm), (0, .ref b)] []) : gW E k0 n0 ((((wZ h2 sa rm lt tk ov nw bs bS bM) ++ (wG sa cG cnt (rN ra cnt))) ++ (w1)) ++ (wQ ra cI fv fs fd cnt)) 731 [(18, .int (zI few)), (11, .int (zI (p : Int))), (10, .int (zI (g : Int))), (8, .int (zI rm)), (7, .int (zI (cnt : Int))), (5, .long (dgF cnt fv fs fd rm lt tk ov)), (4, .int (zI x)), (3, .int (zI (t : Int))), (2, .ref h2), (1, .ref hm), (0, .ref b)] [] := by
  obtain ⟨hc, hS, h99, hr1, hr2⟩ := id hI
  have hr : 0 ≤ rm ∧ rm ≤ 12 := ⟨by omega, hr2⟩
  obtain ⟨y1, y2, y3, y4, y5, y6⟩ := id hY
  have hv1 : ∀ j, j < cnt → 1 ≤ fv j := fun j hj => (hS.1 j hj).1
  have cb := cgp_bd (f := PF fv cnt 0) (rm := rm) p
  refine g_aload_n C dL_law_731 9 rfl ?_
  refine g_iload C dL_law_732 1 rfl ?_
  refine g_mods [wZ h2 sa rm lt tk ov nw bs bS bM, wG sa cG cnt (rN ra cnt), w1, wQ ra cI fv fs fd cnt] [wZ h2 sa rm lt tk ov nw bs bS bM, wG sa cG cnt (rN ra cnt), wQ ra cI fv fs fd cnt, w1] [0, 1, 3, 2] (by decide) rfl ?_
  refine g_ws (w' := (((wZ h2 sa rm lt tk ov nw bs bS bM) ++ (wG sa cG cnt (rN ra cnt))) ++ (wQ ra cI fv fs fd cnt)) ++ (w1)) rfl rfl ?_
  obtain ⟨c20, gv0, gs0, gd0, tc0, tr0, ft0, tv0, tu0, fc0, M0, fa0, fb0, N0, rfl⟩ := hX
  refine g_callVX (wr := ((wZ h2 sa rm lt tk ov nw bs bS bM) ++ (wG sa cG cnt (rN ra cnt))) ++ (wQ ra cI fv fs fd cnt)) (st := []) _ _ C cL_135 (met_X3_gapsTo l hl9 D cI cG cJ hm ad a2 bd pd cnt fv fs fd rm lt tk ov hI c20 gv0 gs0 gd0 tc0 tr0 ft0 tv0 tu0 fc0 M0 fa0 fb0 N0 (p : Int) (zr_i (by omega) (by omega))) gSp_r (ci := 3) (q0 := ((((wZ h2 sa rm lt tk ov nw bs bS bM) ++ (wG sa cG cnt (rN ra cnt))) ++ (wQ ra cI fv fs fd cnt)) : va_W).length) (at_r rfl) rfl (by decide) ⟨by first | omega | (dsimp only [rmX3_init, rmL_build, rmL_act, rmL_below, rmL_cell, rmX3_digest, rmX3_stamps, rmX3_room, rmX3_valueOf, rmX3_stockOf, rmX3_vendedOf, rmX3_scarcest, rmX3_overpaid, rmX3_taken, rmX3_meanValue, rmX3_overpay, rmX3_ofStampFor, rmX3_stampsFor, rmX3_canPay, rmX3_most, rmX3_fewest, rmX3_ways, rmX3_gapFrom, rmX3_gapsTo, rmX3_reach, rmX3_reachNow, rmX3_reachWithRoom, rmX3_bestValue, rmX3_bestToPrint, rmX4_isThere, rmX4_print, rmX4_reach, rmL_reachPrinted, rmX3_lettersOf, rmX4_vend, rmX3_vend, rmX4_isSame, rmL_law]; omega), by first | omega | (dsimp only [rmX3_init, rmL_build, rmL_act, rmL_below, rmL_cell, rmX3_digest, rmX3_stamps, rmX3_room, rmX3_valueOf, rmX3_stockOf, rmX3_vendedOf, rmX3_scarcest, rmX3_overpaid, rmX3_taken, rmX3_meanValue, rmX3_overpay, rmX3_ofStampFor, rmX3_stampsFor, rmX3_canPay, rmX3_most, rmX3_fewest, rmX3_ways, rmX3_gapFrom, rmX3_gapsTo, rmX3_reach, rmX3_reachNow, rmX3_reachWithRoom, rmX3_bestValue, rmX3_bestToPrint, rmX4_isThere, rmX4_print, rmX4_reach, rmL_reachPrinted, rmX3_lettersOf, rmX4_vend, rmX3_vend, rmX4_isSame, rmL_law]; omega)⟩ rfl rfl (Nat.le_of_ble_eq_true rfl) dL_law_734 (fun nm9 w9 h9 => ?_) ?_
  · exfalso
    rcases h9 with ⟨_, h8, _⟩
    exact h8 ⟨by omega, by omega⟩
  rintro v9 w9 ⟨z734, rfl, h734, hX⟩
  have g734 : z734 = ((cgp (PF fv cnt 0) rm p : Nat) : Int) := h734.2
  refine g_ws (w' := (((wZ h2 sa rm lt tk ov nw bs bS bM) ++ (wG sa cG cnt (rN ra cnt))) ++ (wQ ra cI fv fs fd cnt)) ++ (w9)) (st' := [.int (zI z734)]) (by simp only [List.append_assoc]) rfl ?_
  refine g_mods [wZ h2 sa rm lt tk ov nw bs bS bM, wG sa cG cnt (rN ra cnt), wQ ra cI fv fs fd cnt, w9] [wZ h2 sa rm lt tk ov nw bs bS bM, wG sa cG cnt (rN ra cnt), w9, wQ ra cI fv fs fd cnt] [0, 1, 3, 2] (by decide) rfl ?_
  refine g_ws (w' := (((wZ h2 sa rm lt tk ov nw bs bS bM) ++ (wG sa cG cnt (rN ra cnt))) ++ (w9)) ++ (wQ ra cI fv fs fd cnt)) rfl rfl ?_
  refine g_if_lt 767 C dL_law_737 (by decide) (zr_i (by omega) (by omega)) (fun c_737 => ?_) (fun c_737 => ?_)
  · exfalso; omega
  · refine g_aload_n C dL_law_740 9 rfl ?_
    refine g_iload C dL_law_741 1 rfl ?_
    refine g_mods [wZ h2 sa rm lt tk ov nw bs bS bM, wG sa cG cnt (rN ra cnt), w9, wQ ra cI fv fs fd cnt] [wZ h2 sa rm lt tk ov nw bs bS bM, wG sa cG cnt (rN ra cnt), wQ ra cI fv fs fd cnt, w9] [0, 1, 3, 2] (by decide) rfl ?_
    refine g_ws (w' := (((wZ h2 sa rm lt tk ov nw bs bS bM) ++ (wG sa cG cnt (rN ra cnt))) ++ (wQ ra cI fv fs fd cnt)) ++ (w9)) rfl rfl ?_
    obtain ⟨c20, gv0, gs0, gd0, tc0, tr0, ft0, tv0, tu0, fc0, M0, fa0, fb0, N0, rfl⟩ := hX
    refine g_callVX (wr := ((wZ h2 sa rm lt tk ov nw bs bS bM) ++ (wG sa cG cnt (rN ra cnt))) ++ (wQ ra cI fv fs fd cnt)) (st := []) _ _ C cL_135 (met_X3_gapsTo l hl9 D cI cG cJ hm ad a2 bd pd cnt fv fs fd rm lt tk ov hI c20 gv0 gs0 gd0 tc0 tr0 ft0 tv0 tu0 fc0 M0 fa0 fb0 N0 (p : Int) (zr_i (by omega) (by omega))) gSp_r (ci := 3) (q0 := ((((wZ h2 sa rm lt tk ov nw bs bS bM) ++ (wG sa cG cnt (rN ra cnt))) ++ (wQ ra cI fv fs fd cnt)) : va_W).length) (at_r rfl) rfl (by decide) ⟨by first | omega | (dsimp only [rmX3_init, rmL_build, rmL_act, rmL_below, rmL_cell, rmX3_digest, rmX3_stamps, rmX3_room, rmX3_valueOf, rmX3_stockOf, rmX3_vendedOf, rmX3_scarcest, rmX3_overpaid, rmX3_taken, rmX3_meanValue, rmX3_overpay, rmX3_ofStampFor, rmX3_stampsFor, rmX3_canPay, rmX3_most, rmX3_fewest, rmX3_ways, rmX3_gapFrom, rmX3_gapsTo, rmX3_reach, rmX3_reachNow, rmX3_reachWithRoom, rmX3_bestValue, rmX3_bestToPrint, rmX4_isThere, rmX4_print, rmX4_reach, rmL_reachPrinted, rmX3_lettersOf, rmX4_vend, rmX3_vend, rmX4_isSame, rmL_law]; omega), by first | omega | (dsimp only [rmX3_init, rmL_build, rmL_act, rmL_below, rmL_cell, rmX3_digest, rmX3_stamps, rmX3_room, rmX3_valueOf, rmX3_stockOf, rmX3_vendedOf, rmX3_scarcest, rmX3_overpaid, rmX3_taken, rmX3_meanValue, rmX3_overpay, rmX3_ofStampFor, rmX3_stampsFor, rmX3_canPay, rmX3_most, rmX3_fewest, rmX3_ways, rmX3_gapFrom, rmX3_gapsTo, rmX3_reach, rmX3_reachNow, rmX3_reachWithRoom, rmX3_bestValue, rmX3_bestToPrint, rmX4_isThere, rmX4_print, rmX4_reach, rmL_reachPrinted, rmX3_lettersOf, rmX4_vend, rmX3_vend, rmX4_isSame, rmL_law]; omega)⟩ rfl rfl (Nat.le_of_ble_eq_true rfl) dL_law_743 (fun nm9 w9 h9 => ?_) ?_
    · exfalso
      rcases h9 with ⟨_, h8, _⟩
      exact h8 ⟨by omega, by omega⟩
    rintro v9 w9 ⟨z743, rfl, h743, hX⟩
    have g743 : z743 = ((cgp (PF fv cnt 0) rm p : Nat) : Int) := h743.2
    refine g_ws (w' := (((wZ h2 sa rm lt tk ov nw bs bS bM) ++ (wG sa cG cnt (rN ra cnt))) ++ (wQ ra cI fv fs fd cnt)) ++ (w9)) (st' := [.int (zI z743)]) (by simp only [List.append_assoc]) rfl ?_
    refine g_mods [wZ h2 sa rm lt tk ov nw bs bS bM, wG sa cG cnt (rN ra cnt), wQ ra cI fv fs fd cnt, w9] [wZ h2 sa rm lt tk ov nw bs bS bM, wG sa cG cnt (rN ra cnt), w9, wQ ra cI fv fs fd cnt] [0, 1, 3, 2] (by decide) rfl ?_
    refine g_ws (w' := (((wZ h2 sa rm lt tk ov nw bs bS bM) ++ (wG sa cG cnt (rN ra cnt))) ++ (w9)) ++ (wQ ra cI fv fs fd cnt)) rfl rfl ?_
    refine g_iload C dL_law_746 1 rfl ?_
    refine g_icmp_gt 767 C dL_law_748 (by decide) (zr_i (by omega) (by omega)) (zr_i (by omega) (by omega)) (fun c_748 => ?_) (fun c_748 => ?_)
    · exfalso; omega
    · refine g_iload C dL_law_751 0 rfl ?_
      refine g_if_le 769 C dL_law_753 (by decide) (zr_i (by omega) (by omega)) (fun c_753 => ?_) (fun c_753 => ?_)
      · refine g_loc (L' := [(10, .int (zI (g : Int))), (8, .int (zI rm)), (7, .int (zI (cnt : Int))), (5, .long (dgF cnt fv fs fd rm lt tk ov)), (4, .int (zI x)), (3, .int (zI (t : Int))), (2, .ref h2), (1, .ref hm), (0, .ref b)]) [2, 3, 4, 5, 6, 7, 8, 9, 10] rfl ?_
        exact K _ _ _ (by first | omega | (dsimp only [rmX3_init, rmL_build, rmL_act, rmL_below, rmL_cell, rmX3_digest, rmX3_stamps, rmX3_room, rmX3_valueOf, rmX3_stockOf, rmX3_vendedOf, rmX3_scarcest, rmX3_overpaid, rmX3_taken, rmX3_meanValue, rmX3_overpay, rmX3_ofStampFor, rmX3_stampsFor, rmX3_canPay, rmX3_most, rmX3_fewest, rmX3_ways, rmX3_gapFrom, rmX3_gapsTo, rmX3_reach, rmX3_reachNow, rmX3_reachWithRoom, rmX3_bestValue, rmX3_bestToPrint, rmX4_isThere, rmX4_print, rmX4_reach, rmL_reachPrinted, rmX3_lettersOf, rmX4_vend, rmX3_vend, rmX4_isSame, rmL_law]; omega)) (by first | omega | (dsimp only [rmX3_init, rmL_build, rmL_act, rmL_below, rmL_cell, rmX3_digest, rmX3_stamps, rmX3_room, rmX3_valueOf, rmX3_stockOf, rmX3_vendedOf, rmX3_scarcest, rmX3_overpaid, rmX3_taken, rmX3_meanValue, rmX3_overpay, rmX3_ofStampFor, rmX3_stampsFor, rmX3_canPay, rmX3_most, rmX3_fewest, rmX3_ways, rmX3_gapFrom, rmX3_gapsTo, rmX3_reach, rmX3_reachNow, rmX3_reachWithRoom, rmX3_bestValue, rmX3_bestToPrint, rmX4_isThere, rmX4_print, rmX4_reach, rmL_reachPrinted, rmX3_lettersOf, rmX4_vend, rmX3_vend, rmX4_isSame, rmL_law]; omega)) hX 
      · refine g_aload_n C dL_law_756 9 rfl ?_
        refine g_iload C dL_law_757 1 rfl ?_
        refine g_mods [wZ h2 sa rm lt tk ov nw bs bS bM, wG sa cG cnt (rN ra cnt), w9, wQ ra cI fv fs fd cnt] [wZ h2 sa rm lt tk ov nw bs bS bM, wG sa cG cnt (rN ra cnt), wQ ra cI fv fs fd cnt, w9] [0, 1, 3, 2] (by decide) rfl ?_
        refine g_ws (w' := (((wZ h2 sa rm lt tk ov nw bs bS bM) ++ (wG sa cG cnt (rN ra cnt))) ++ (wQ ra cI fv fs fd cnt)) ++ (w9)) rfl rfl ?_
        obtain ⟨c20, gv0, gs0, gd0, tc0, tr0, ft0, tv0, tu0, fc0, M0, fa0, fb0, N0, rfl⟩ := hX
        refine g_callVX (wr := ((wZ h2 sa rm lt tk ov nw bs bS bM) ++ (wG sa cG cnt (rN ra cnt))) ++ (wQ ra cI fv fs fd cnt)) (st := []) _ _ C cL_135 (met_X3_gapsTo l hl9 D cI cG cJ hm ad a2 bd pd cnt fv fs fd rm lt tk ov hI c20 gv0 gs0 gd0 tc0 tr0 ft0 tv0 tu0 fc0 M0 fa0 fb0 N0 (p : Int) (zr_i (by omega) (by omega))) gSp_r (ci := 3) (q0 := ((((wZ h2 sa rm lt tk ov nw bs bS bM) ++ (wG sa cG cnt (rN ra cnt))) ++ (wQ ra cI fv fs fd cnt)) : va_W).length) (at_r rfl) rfl (by decide) ⟨by first | omega | (dsimp only [rmX3_init, rmL_build, rmL_act, rmL_below, rmL_cell, rmX3_digest, rmX3_stamps, rmX3_room, rmX3_valueOf, rmX3_stockOf, rmX3_vendedOf, rmX3_scarcest, rmX3_overpaid, rmX3_taken, rmX3_meanValue, rmX3_overpay, rmX3_ofStampFor, rmX3_stampsFor, rmX3_canPay, rmX3_most, rmX3_fewest, rmX3_ways, rmX3_gapFrom, rmX3_gapsTo, rmX3_reach, rmX3_reachNow, rmX3_reachWithRoom, rmX3_bestValue, rmX3_bestToPrint, rmX4_isThere, rmX4_print, rmX4_reach, rmL_reachPrinted, rmX3_lettersOf, rmX4_vend, rmX3_vend, rmX4_isSame, rmL_law]; omega), by first | omega | (dsimp only [rmX3_init, rmL_build, rmL_act, rmL_below, rmL_cell, rmX3_digest, rmX3_stamps, rmX3_room, rmX3_valueOf, rmX3_stockOf, rmX3_vendedOf, rmX3_scarcest, rmX3_overpaid, rmX3_taken, rmX3_meanValue, rmX3_overpay, rmX3_ofStampFor, rmX3_stampsFor, rmX3_canPay, rmX3_most, rmX3_fewest, rmX3_ways, rmX3_gapFrom, rmX3_gapsTo, rmX3_reach, rmX3_reachNow, rmX3_reachWithRoom, rmX3_bestValue, rmX3_bestToPrint, rmX4_isThere, rmX4_print, rmX4_reach, rmL_reachPrinted, rmX3_lettersOf, rmX4_vend, rmX3_vend, rmX4_isSame, rmL_law]; omega)⟩ rfl rfl (Nat.le_of_ble_eq_true rfl) dL_law_759 (fun nm9 w9 h9 => ?_) ?_
        · exfalso
          rcases h9 with ⟨_, h8, _⟩
          exact h8 ⟨by omega, by omega⟩
        rintro v9 w9 ⟨z759, rfl, h759, hX⟩
        have g759 : z759 = ((cgp (PF fv cnt 0) rm p : Nat) : Int) := h759.2
        refine g_ws (w' := (((wZ h2 sa rm lt tk ov nw bs bS bM) ++ (wG sa cG cnt (rN ra cnt))) ++ (wQ ra cI fv fs fd cnt)) ++ (w9)) (st' := [.int (zI z759)]) (by simp only [List.append_assoc]) rfl ?_
        refine g_mods [wZ h2 sa rm lt tk ov nw bs bS bM, wG sa cG cnt (rN ra cnt), wQ ra cI fv fs fd cnt, w9] [wZ h2 sa rm lt tk ov nw bs bS bM, wG sa cG cnt (rN ra cnt), w9, wQ ra cI fv fs fd cnt] [0, 1, 3, 2] (by decide) rfl ?_
        refine g_ws (w' := (((wZ h2 sa rm lt tk ov nw bs bS bM) ++ (wG sa cG cnt (rN ra cnt))) ++ (w9)) ++ (wQ ra cI fv fs fd cnt)) rfl rfl ?_
        refine g_iload C dL_law_762 1 rfl ?_
        refine g_icmp_ne 769 C dL_law_764 (by decide) (zr_i (by omega) (by omega)) (zr_i (by omega) (by omega)) (fun c_764 => ?_) (fun c_764 => ?_)
        · refine g_loc (L' := [(10, .int (zI (g : Int))), (8, .int (zI rm)), (7, .int (zI (cnt : Int))), (5, .long (dgF cnt fv fs fd rm lt tk ov)), (4, .int (zI x)), (3, .int (zI (t : Int))), (2, .ref h2), (1, .ref hm), (0, .ref b)]) [2, 3, 4, 5, 6, 7, 8, 9, 10] rfl ?_
          exact K _ _ _ (by first | omega | (dsimp only [rmX3_init, rmL_build, rmL_act, rmL_below, rmL_cell, rmX3_digest, rmX3_stamps, rmX3_room, rmX3_valueOf, rmX3_stockOf, rmX3_vendedOf, rmX3_scarcest, rmX3_overpaid, rmX3_taken, rmX3_meanValue, rmX3_overpay, rmX3_ofStampFor, rmX3_stampsFor, rmX3_canPay, rmX3_most, rmX3_fewest, rmX3_ways, rmX3_gapFrom, rmX3_gapsTo, rmX3_reach, rmX3_reachNow, rmX3_reachWithRoom, rmX3_bestValue, rmX3_bestToPrint, rmX4_isThere, rmX4_print, rmX4_reach, rmL_reachPrinted, rmX3_lettersOf, rmX4_vend, rmX3_vend, rmX4_isSame, rmL_law]; omega)) (by first | omega | (dsimp only [rmX3_init, rmL_build, rmL_act, rmL_below, rmL_cell, rmX3_digest, rmX3_stamps, rmX3_room, rmX3_valueOf, rmX3_stockOf, rmX3_vendedOf, rmX3_scarcest, rmX3_overpaid, rmX3_taken, rmX3_meanValue, rmX3_overpay, rmX3_ofStampFor, rmX3_stampsFor, rmX3_canPay, rmX3_most, rmX3_fewest, rmX3_ways, rmX3_gapFrom, rmX3_gapsTo, rmX3_reach, rmX3_reachNow, rmX3_reachWithRoom, rmX3_bestValue, rmX3_bestToPrint, rmX4_isThere, rmX4_print, rmX4_reach, rmL_reachPrinted, rmX3_lettersOf, rmX4_vend, rmX3_vend, rmX4_isSame, rmL_law]; omega)) hX 
        · exfalso; have h7 := cgp_no (f := PF fv cnt 0) (rm := rm) hp.1 (by omega); omega
