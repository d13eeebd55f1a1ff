/-! one act on both machines -/
abbrev rmL_act : Room := { frames := 12, cells := 800, slots := 6500, locals := 330 }
set_option maxHeartbeats 4000000 in
set_option maxRecDepth 100000 in
theorem act_no {E : gEnv} {l : Launch} {D : va_G} {cI cG cJ : ClassId} {k0 n0 : Nat} (hl9 : l.stackTraces = false) (hm h2 : Nat) (ad a2 bd pd : Nat → Nat) (T : Int) (hT1 : T ≤ 100) (cnt : Nat) (fv fs fd : Nat → Int) (rm lt tk ov : Int) (w1 : va_W) (sa : Nat) (ra : Nat → Nat) (nw bs : Value) (bS bM : Int) (hX : XW hm ad a2 bd pd cI cG cnt fv fs fd rm lt tk ov w1) (hI : XI cnt fv fs rm) (hY : YI cnt fd lt tk ov T) (x : Int) (C : gC E l rmL_act D 9 RL cL_act cI cG cJ) (hT : gTab E [(26, 170, 451, 60), (171, 232, 451, 60), (233, 264, 451, 60), (265, 341, 451, 60), (342, 380, 451, 60), (381, 450, 451, 60)]) (ret : gRZ E cL_act rmL_act (fun z w9 => z = 1 ∧ JS hm h2 ad a2 bd pd cI cG (T + 1) w9)) (hk : k0 ≤ 5) (hn0 : n0 ≤ 50) (v y sp : Int) (hv : 1 ≤ v ∧ v ≤ 60) (hy : 0 ≤ y ∧ y ≤ 99) (hno : ¬ (cnt < 8 ∧ hasB fv v cnt = false)) : gW E k0 n0 ((((wZ h2 sa rm lt tk ov nw bs bS bM) ++ (wG sa cG cnt (rN ra cnt))) ++ (w1)) ++ (wQ ra cI fv fs fd cnt)) 113 [(7, .int (zI y)), (6, .int (zI v)), (5, .int (zI 1)), (4, .int (zI sp)), (3, .int (zI (cnt : Int))), (0, .ref hm), (1, .ref h2), (2, .int (zI x))] [.int (zI 0)] := by
  obtain ⟨hc, hS, h99, hr1, hr2⟩ := id hI
  have hr : 0 ≤ rm ∧ rm ≤ 12 := ⟨by omega, hr2⟩
  refine g_istore (L' := [(5, .int (zI 0)), (7, .int (zI y)), (6, .int (zI v)), (4, .int (zI sp)), (3, .int (zI (cnt : Int))), (0, .ref hm), (1, .ref h2), (2, .int (zI x))]) C dL_act_113 (by decide) rfl ?_
  refine g_iload C dL_act_115 0 rfl ?_
  refine g_if_eq 148 C dL_act_117 (by decide) (zr_i (by omega) (by omega)) (fun c_117 => ?_) (fun c_117 => ?_)
  · refine g_aload_n C dL_act_148 5 rfl ?_
    refine g_iload C dL_act_149 2 rfl ?_
    refine g_iload C dL_act_151 1 rfl ?_
    refine g_mods [wZ h2 sa rm lt tk ov nw bs bS bM, wG sa cG cnt (rN ra cnt), w1, wQ ra cI fv fs fd cnt] [wZ h2 sa rm lt tk ov nw bs bS bM, wG sa cG cnt (rN ra cnt), wQ ra cI fv fs fd cnt, w1] [0, 1, 3, 2] (by decide) rfl ?_
    refine g_ws (w' := (((wZ h2 sa rm lt tk ov nw bs bS bM) ++ (wG sa cG cnt (rN ra cnt))) ++ (wQ ra cI fv fs fd cnt)) ++ (w1)) rfl rfl ?_
    obtain ⟨c20, gv0, gs0, gd0, tc0, tr0, ft0, tv0, tu0, fc0, M0, fa0, fb0, N0, rfl⟩ := hX
    refine g_callVX (wr := ((wZ h2 sa rm lt tk ov nw bs bS bM) ++ (wG sa cG cnt (rN ra cnt))) ++ (wQ ra cI fv fs fd cnt)) (st := []) _ _ C cL_29 (met_X3_addStamp l hl9 D cI cG cJ hm ad a2 bd pd cnt fv fs fd rm lt tk ov hI c20 gv0 gs0 gd0 tc0 tr0 ft0 tv0 tu0 fc0 M0 fa0 fb0 N0 v y (zr_i (by omega) (by omega)) (zr_i (by omega) (by omega))) gSp_r (ci := 3) (q0 := ((((wZ h2 sa rm lt tk ov nw bs bS bM) ++ (wG sa cG cnt (rN ra cnt))) ++ (wQ ra cI fv fs fd cnt)) : va_W).length) (at_r rfl) rfl (by decide) ⟨by dsimp only [rmX3_addStamp, rmL_act]; omega, by dsimp only [rmX3_addStamp, rmL_act]; omega⟩ rfl rfl (Nat.le_of_ble_eq_true rfl) dL_act_153 (fun nm9 w9 h9 => ?_) ?_
    · rcases h9 with ⟨_, h8, _⟩ | ⟨e9, _, _, hX⟩
      · exact absurd ⟨by omega, by omega, by omega, by omega⟩ h8
      · subst e9
        refine g_catch (hh := [(26, 170, 451, 60), (171, 232, 451, 60), (233, 264, 451, 60), (265, 341, 451, 60), (342, 380, 451, 60), (381, 450, 451, 60)]) [] ⟨26, 170, 451, 60⟩ [⟨171, 232, 451, 60⟩, ⟨233, 264, 451, 60⟩, ⟨265, 341, 451, 60⟩, ⟨342, 380, 451, 60⟩, ⟨381, 450, 451, 60⟩] C hT rfl (fun z h => absurd h List.not_mem_nil) (by decide) (by decide) lkISE (List.mem_of_getElem? (i := 1) rfl) (fun q9 => ?_)
        refine g_astore (L' := [(6, .ref q9), (5, .int (zI 0)), (7, .int (zI y)), (4, .int (zI sp)), (3, .int (zI (cnt : Int))), (0, .ref hm), (1, .ref h2), (2, .int (zI x))]) C dL_act_451 (by decide) rfl ?_
        refine g_iload C dL_act_453 1 rfl ?_
        refine g_if_ne 462 C dL_act_455 (by decide) (zr_i (by omega) (by omega)) (fun c_455 => ?_) (fun c_455 => ?_)
        · exfalso; omega
        · refine g_iconst C dL_act_458 ?_
          refine g_goto 463 C dL_act_459 (by decide) ?_
          refine g_mods [wZ h2 sa rm lt tk ov nw bs bS bM, wG sa cG cnt (rN ra cnt), wQ ra cI fv fs fd cnt, w9] [w9, wZ h2 sa rm lt tk ov nw bs bS bM, wG sa cG cnt (rN ra cnt), wQ ra cI fv fs fd cnt] [3, 0, 1, 2] (by decide) rfl ?_
          refine g_ws (w' := (((w9) ++ (wZ h2 sa rm lt tk ov nw bs bS bM)) ++ (wG sa cG cnt (rN ra cnt))) ++ (wQ ra cI fv fs fd cnt)) rfl rfl ?_
          exact ret _ _ _ _ _ _ (by dsimp only [rmL_act, rmX3_addStamp, rmX3_vend, rmX3_print, rmX3_setRoom, rmX3_withdraw, rmX4_isThere, rmX4_with, rmX4_without, rmX4_vend, rmL_below]; omega) (by dsimp only [rmL_act, rmX3_addStamp, rmX3_vend, rmX3_print, rmX3_setRoom, rmX3_withdraw, rmX4_isThere, rmX4_with, rmX4_without, rmX4_vend, rmL_below]; omega) dL_act_463 (Or.inr rfl) (⟨rfl, JS_mk hX hI (hY.up (by omega))⟩)
    rintro v9 w9 ⟨z9, rfl, hz9, hX⟩
    refine g_ws (w' := (((wZ h2 sa rm lt tk ov nw bs bS bM) ++ (wG sa cG cnt (rN ra cnt))) ++ (wQ ra cI fv fs fd cnt)) ++ (w9)) (st' := [.int (zI z9)]) (by simp only [List.append_assoc]) rfl ?_
    refine g_mods [wZ h2 sa rm lt tk ov nw bs bS bM, wG sa cG cnt (rN ra cnt), wQ ra cI fv fs fd cnt, w9] [wZ h2 sa rm lt tk ov nw bs bS bM, wG sa cG cnt (rN ra cnt), w9, wQ ra cI fv fs fd cnt] [0, 1, 3, 2] (by decide) rfl ?_
    refine g_ws (w' := (((wZ h2 sa rm lt tk ov nw bs bS bM) ++ (wG sa cG cnt (rN ra cnt))) ++ (w9)) ++ (wQ ra cI fv fs fd cnt)) rfl rfl ?_
    exfalso
    obtain ⟨_, h7, h8, _⟩ := hz9
    exact hno ⟨h7, h8⟩
  · exfalso; omega
set_option maxHeartbeats 4000000 in
set_option maxRecDepth 100000 in
theorem act_yes {E : gEnv} {l : Launch} {D : va_G} {cI cG cJ : ClassId} {k0 n0 : Nat} (hl9 : l.stackTraces = false) (hm h2 : Nat) (ad a2 bd pd : Nat → Nat) (T : Int) (hT1 : T ≤ 100) (cnt : Nat) (fv fs fd : Nat → Int) (rm lt tk ov : Int) (w1 : va_W) (sa : Nat) (ra : Nat → Nat) (nw bs : Value) (bS bM : Int) (hX : XW hm ad a2 bd pd cI cG cnt fv fs fd rm lt tk ov w1) (hI : XI cnt fv fs rm) (hY : YI cnt fd lt tk ov T) (x : Int) (C : gC E l rmL_act D 9 RL cL_act cI cG cJ) (hT : gTab E [(26, 170, 451, 60), (171, 232, 451, 60), (233, 264, 451, 60), (265, 341, 451, 60), (342, 380, 451, 60), (381, 450, 451, 60)]) (ret : gRZ E cL_act rmL_act (fun z w9 => z = 1 ∧ JS hm h2 ad a2 bd pd cI cG (T + 1) w9)) (hk : k0 ≤ 5) (hn0 : n0 ≤ 50) (v y sp : Int) (hv : 1 ≤ v ∧ v ≤ 60) (hy : 0 ≤ y ∧ y ≤ 99) (h8 : cnt < 8) (hno : ∀ j, j < cnt → fv j ≠ v) : gW E k0 n0 ((((wZ h2 sa rm lt tk ov nw bs bS bM) ++ (wG sa cG cnt (rN ra cnt))) ++ (w1)) ++ (wQ ra cI fv fs fd cnt)) 113 [(7, .int (zI y)), (6, .int (zI v)), (5, .int (zI 1)), (4, .int (zI sp)), (3, .int (zI (cnt : Int))), (0, .ref hm), (1, .ref h2), (2, .int (zI x))] [.int (zI 1)] := by
  obtain ⟨hc, hS, h99, hr1, hr2⟩ := id hI
  have hr : 0 ≤ rm ∧ rm ≤ 12 := ⟨by omega, hr2⟩
  refine g_istore (L' := [(5, .int (zI 1)), (7, .int (zI y)), (6, .int (zI v)), (4, .int (zI sp)), (3, .int (zI (cnt : Int))), (0, .ref hm), (1, .ref h2), (2, .int (zI x))]) C dL_act_113 (by decide) rfl ?_
  refine g_iload C dL_act_115 0 rfl ?_
  refine g_if_eq 148 C dL_act_117 (by decide) (zr_i (by omega) (by omega)) (fun c_117 => ?_) (fun c_117 => ?_)
  · exfalso; omega
  · refine g_aload_n C dL_act_120 6 rfl ?_
    refine g_aload_n C dL_act_121 6 rfl ?_
    refine g_getf C fL_9 0 rfl rfl dL_act_122 ?_
    refine g_iconst C dL_act_125 ?_
    refine g_newi (N := 3) C arrI (by decide) ⟨by dsimp only [rmL_act]; omega, by dsimp only [rmL_act]; omega⟩ dL_act_126 (fun a3 => ?_)
    refine g_ws (w' := ((((wZ h2 sa rm lt tk ov nw bs bS bM) ++ (wG sa cG cnt (rN ra cnt))) ++ (w1)) ++ (wQ ra cI fv fs fd cnt)) ++ ([(a3, .inl (cI, 3, .inl (zA (fun _ => 0))))])) rfl rfl ?_
    refine g_mods [wZ h2 sa rm lt tk ov nw bs bS bM, wG sa cG cnt (rN ra cnt), w1, wQ ra cI fv fs fd cnt, [(a3, .inl (cI, 3, .inl (zA (fun _ => 0))))]] [wZ h2 sa rm lt tk ov nw bs bS bM, wG sa cG cnt (rN ra cnt), [(a3, .inl (cI, 3, .inl (zA (fun _ => 0))))], w1, wQ ra cI fv fs fd cnt] [0, 1, 4, 2, 3] (by decide) rfl ?_
    refine g_ws (w' := ((((wZ h2 sa rm lt tk ov nw bs bS bM) ++ (wG sa cG cnt (rN ra cnt))) ++ ([(a3, .inl (cI, 3, .inl (zA (fun _ => 0))))])) ++ (w1)) ++ (wQ ra cI fv fs fd cnt)) rfl rfl ?_
    refine g_dup C dL_act_128 rfl ?_
    refine g_iconst C dL_act_129 ?_
    refine g_iload C dL_act_130 2 rfl ?_
    refine g_iast (w' := ((((wZ h2 sa rm lt tk ov nw bs bS bM) ++ (wG sa cG cnt (rN ra cnt))) ++ ([(a3, .inl (cI, 3, .inl (zA (zU (fun _ => 0) 0 v))))])) ++ (w1)) ++ (wQ ra cI fv fs fd cnt)) C 2 rfl (by decide) (by omega) (by omega) rfl dL_act_132 ?_
    refine g_dup C dL_act_133 rfl ?_
    refine g_iconst C dL_act_134 ?_
    refine g_iload C dL_act_135 1 rfl ?_
    refine g_iast (w' := ((((wZ h2 sa rm lt tk ov nw bs bS bM) ++ (wG sa cG cnt (rN ra cnt))) ++ ([(a3, .inl (cI, 3, .inl (zA (zU (zU (fun _ => 0) 0 v) 1 y))))])) ++ (w1)) ++ (wQ ra cI fv fs fd cnt)) C 2 rfl (by decide) (by omega) (by omega) rfl dL_act_137 ?_
    refine g_dup C dL_act_138 rfl ?_
    refine g_iconst C dL_act_139 ?_
    refine g_iconst C dL_act_140 ?_
    refine g_iast (w' := ((((wZ h2 sa rm lt tk ov nw bs bS bM) ++ (wG sa cG cnt (rN ra cnt))) ++ ([(a3, .inl (cI, 3, .inl (zA (zU (zU (zU (fun _ => 0) 0 v) 1 y) 2 0))))])) ++ (w1)) ++ (wQ ra cI fv fs fd cnt)) C 2 rfl (by decide) (by omega) (by omega) rfl dL_act_141 ?_
    refine g_mods [wZ h2 sa rm lt tk ov nw bs bS bM, wG sa cG cnt (rN ra cnt), [(a3, .inl (cI, 3, .inl (zA (zU (zU (zU (fun _ => 0) 0 v) 1 y) 2 0))))], w1, wQ ra cI fv fs fd cnt] [wZ h2 sa rm lt tk ov nw bs bS bM, w1, wG sa cG cnt (rN ra cnt), wQ ra cI fv fs fd cnt, [(a3, .inl (cI, 3, .inl (zA (zU (zU (zU (fun _ => 0) 0 v) 1 y) 2 0))))]] [0, 3, 1, 4, 2] (by decide) rfl ?_
    refine g_ws (w' := ((((wZ h2 sa rm lt tk ov nw bs bS bM) ++ (w1)) ++ (wG sa cG cnt (rN ra cnt))) ++ (wQ ra cI fv fs fd cnt)) ++ ([(a3, .inl (cI, 3, .inl (zA (zU (zU (zU (fun _ => 0) 0 v) 1 y) 2 0))))])) rfl rfl ?_
    refine g_eqw (w' := (((wZ h2 sa rm lt tk ov nw bs bS bM) ++ (w1)) ++ (wG sa cG cnt (rN (va_up ra cnt a3) cnt))) ++ (wQ (va_up ra cnt a3) cI (zU fv cnt v) (zU fs cnt y) (zU fd cnt 0) (cnt + 1))) (by rw [rw3_mk, wQ_ap2, rN_nx (ra := ra) (m := cnt) (a := a3)]) ?_
    refine g_eqw (w' := ((wZ h2 sa rm lt tk ov nw bs bS bM) ++ (w1)) ++ ((wG sa cG cnt (rN (va_up ra cnt a3) cnt)) ++ (wQ (va_up ra cnt a3) cI (zU fv cnt v) (zU fs cnt y) (zU fd cnt 0) (cnt + 1)))) (by simp only [List.append_assoc]) ?_
    refine g_callS (wr := (wZ h2 sa rm lt tk ov nw bs bS bM) ++ (w1)) (st := [.ref h2]) _ _ C cL_25 (met_X4_with l D cI cG cJ sa a3 cnt hc (va_up ra cnt a3) (wQ (va_up ra cnt a3) cI (zU fv cnt v) (zU fs cnt y) (zU fd cnt 0) (cnt + 1)) (fun j hj => wQ_any j (by omega)) wQ_last) gSp_r (by decide) ⟨by dsimp only [rmX4_with, rmL_act]; omega, by dsimp only [rmX4_with, rmL_act]; omega⟩ rfl rfl (Nat.le_of_ble_eq_true rfl) dL_act_142 ?_
    rintro v9 w9 ⟨z8, rfl, q3, rfl, rfl⟩
    refine g_ws (w' := ((((wZ h2 sa rm lt tk ov nw bs bS bM) ++ (w1)) ++ (wG q3 cG (cnt + 1) (rN (va_up (va_up ra cnt a3) cnt a3) (cnt + 1)))) ++ (wG sa cG cnt (rN (va_up ra cnt a3) cnt))) ++ (wQ (va_up ra cnt a3) cI (zU fv cnt v) (zU fs cnt y) (zU fd cnt 0) (cnt + 1))) (st' := [.ref q3, .ref h2]) (by simp only [List.append_assoc]) rfl ?_
    refine g_mods [wZ h2 sa rm lt tk ov nw bs bS bM, w1, wG q3 cG (cnt + 1) (rN (va_up (va_up ra cnt a3) cnt a3) (cnt + 1)), wG sa cG cnt (rN (va_up ra cnt a3) cnt), wQ (va_up ra cnt a3) cI (zU fv cnt v) (zU fs cnt y) (zU fd cnt 0) (cnt + 1)] [wZ h2 sa rm lt tk ov nw bs bS bM, wG q3 cG (cnt + 1) (rN (va_up (va_up ra cnt a3) cnt a3) (cnt + 1)), w1, wQ (va_up ra cnt a3) cI (zU fv cnt v) (zU fs cnt y) (zU fd cnt 0) (cnt + 1)] [0, 2, 1, 4] (by decide) rfl ?_
    refine g_ws (w' := (((wZ h2 sa rm lt tk ov nw bs bS bM) ++ (wG q3 cG (cnt + 1) (rN (va_up (va_up ra cnt a3) cnt a3) (cnt + 1)))) ++ (w1)) ++ (wQ (va_up ra cnt a3) cI (zU fv cnt v) (zU fs cnt y) (zU fd cnt 0) (cnt + 1))) rfl rfl ?_
    refine g_eqw (w' := (((wZ h2 sa rm lt tk ov nw bs bS bM) ++ (wG q3 cG (cnt + 1) (rN (va_up ra cnt a3) (cnt + 1)))) ++ (w1)) ++ (wQ (va_up ra cnt a3) cI (zU fv cnt v) (zU fs cnt y) (zU fd cnt 0) (cnt + 1))) (by rw [rN_ny]) ?_
    refine g_putl (w' := (((wZ h2 q3 rm lt tk ov nw bs bS bM) ++ (wG q3 cG (cnt + 1) (rN (va_up ra cnt a3) (cnt + 1)))) ++ (w1)) ++ (wQ (va_up ra cnt a3) cI (zU fv cnt v) (zU fs cnt y) (zU fd cnt 0) (cnt + 1))) C pL_9 0 rfl rfl rfl (Nat.le_of_ble_eq_true rfl) rfl dL_act_145 ?_
    refine g_aload_n C dL_act_148 5 rfl ?_
    refine g_iload C dL_act_149 2 rfl ?_
    refine g_iload C dL_act_151 1 rfl ?_
    refine g_mods [wZ h2 q3 rm lt tk ov nw bs bS bM, wG q3 cG (cnt + 1) (rN (va_up ra cnt a3) (cnt + 1)), w1, wQ (va_up ra cnt a3) cI (zU fv cnt v) (zU fs cnt y) (zU fd cnt 0) (cnt + 1)] [wZ h2 q3 rm lt tk ov nw bs bS bM, wG q3 cG (cnt + 1) (rN (va_up ra cnt a3) (cnt + 1)), wQ (va_up ra cnt a3) cI (zU fv cnt v) (zU fs cnt y) (zU fd cnt 0) (cnt + 1), w1] [0, 1, 3, 2] (by decide) rfl ?_
    refine g_ws (w' := (((wZ h2 q3 rm lt tk ov nw bs bS bM) ++ (wG q3 cG (cnt + 1) (rN (va_up ra cnt a3) (cnt + 1)))) ++ (wQ (va_up ra cnt a3) cI (zU fv cnt v) (zU fs cnt y) (zU fd cnt 0) (cnt + 1))) ++ (w1)) rfl rfl ?_
    obtain ⟨c20, gv0, gs0, gd0, tc0, tr0, ft0, tv0, tu0, fc0, M0, fa0, fb0, N0, rfl⟩ := hX
    refine g_callVX (wr := ((wZ h2 q3 rm lt tk ov nw bs bS bM) ++ (wG q3 cG (cnt + 1) (rN (va_up ra cnt a3) (cnt + 1)))) ++ (wQ (va_up ra cnt a3) cI (zU fv cnt v) (zU fs cnt y) (zU fd cnt 0) (cnt + 1))) (st := []) _ _ C cL_29 (met_X3_addStamp l hl9 D cI cG cJ hm ad a2 bd pd cnt fv fs fd rm lt tk ov hI c20 gv0 gs0 gd0 tc0 tr0 ft0 tv0 tu0 fc0 M0 fa0 fb0 N0 v y (zr_i (by omega) (by omega)) (zr_i (by omega) (by omega))) gSp_r (ci := 3) (q0 := ((((wZ h2 q3 rm lt tk ov nw bs bS bM) ++ (wG q3 cG (cnt + 1) (rN (va_up ra cnt a3) (cnt + 1)))) ++ (wQ (va_up ra cnt a3) cI (zU fv cnt v) (zU fs cnt y) (zU fd cnt 0) (cnt + 1))) : va_W).length) (at_r rfl) rfl (by decide) ⟨by dsimp only [rmX3_addStamp, rmL_act]; omega, by dsimp only [rmX3_addStamp, rmL_act]; omega⟩ rfl rfl (Nat.le_of_ble_eq_true rfl) dL_act_153 (fun nm9 w9 h9 => ?_) ?_
    · exfalso
      rcases h9 with ⟨_, h8, _⟩ | ⟨_, _, h8, _⟩
      · exact h8 ⟨by omega, by omega, by omega, by omega⟩
      · rcases h8 with h8 | h8
        · omega
        · obtain ⟨j, j1, j2⟩ := (hasB_iff cnt).mp h8
          exact hno j j1 j2
    rintro v9 w9 ⟨z9, rfl, hz9, hX⟩
    refine g_ws (w' := (((wZ h2 q3 rm lt tk ov nw bs bS bM) ++ (wG q3 cG (cnt + 1) (rN (va_up ra cnt a3) (cnt + 1)))) ++ (wQ (va_up ra cnt a3) cI (zU fv cnt v) (zU fs cnt y) (zU fd cnt 0) (cnt + 1))) ++ (w9)) (st' := [.int (zI z9)]) (by simp only [List.append_assoc]) rfl ?_
    refine g_mods [wZ h2 q3 rm lt tk ov nw bs bS bM, wG q3 cG (cnt + 1) (rN (va_up ra cnt a3) (cnt + 1)), wQ (va_up ra cnt a3) cI (zU fv cnt v) (zU fs cnt y) (zU fd cnt 0) (cnt + 1), w9] [wZ h2 q3 rm lt tk ov nw bs bS bM, wG q3 cG (cnt + 1) (rN (va_up ra cnt a3) (cnt + 1)), w9, wQ (va_up ra cnt a3) cI (zU fv cnt v) (zU fs cnt y) (zU fd cnt 0) (cnt + 1)] [0, 1, 3, 2] (by decide) rfl ?_
    refine g_ws (w' := (((wZ h2 q3 rm lt tk ov nw bs bS bM) ++ (wG q3 cG (cnt + 1) (rN (va_up ra cnt a3) (cnt + 1)))) ++ (w9)) ++ (wQ (va_up ra cnt a3) cI (zU fv cnt v) (zU fs cnt y) (zU fd cnt 0) (cnt + 1))) rfl rfl ?_
    refine g_iload_n C dL_act_156 4 rfl ?_
    refine g_icmp_ne 169 C dL_act_157 (by decide) (zr_i (by omega) (by omega)) (zr_i (by omega) (by omega)) (fun c_157 => ?_) (fun c_157 => ?_)
    · exfalso; omega
    · refine g_iload C dL_act_160 0 rfl ?_
      refine g_if_eq 169 C dL_act_162 (by decide) (zr_i (by omega) (by omega)) (fun c_162 => ?_) (fun c_162 => ?_)
      · exfalso; omega
      · refine g_iconst C dL_act_165 ?_
        refine g_goto 170 C dL_act_166 (by decide) ?_
        refine g_mods [wZ h2 q3 rm lt tk ov nw bs bS bM, wG q3 cG (cnt + 1) (rN (va_up ra cnt a3) (cnt + 1)), w9, wQ (va_up ra cnt a3) cI (zU fv cnt v) (zU fs cnt y) (zU fd cnt 0) (cnt + 1)] [w9, wZ h2 q3 rm lt tk ov nw bs bS bM, wG q3 cG (cnt + 1) (rN (va_up ra cnt a3) (cnt + 1)), wQ (va_up ra cnt a3) cI (zU fv cnt v) (zU fs cnt y) (zU fd cnt 0) (cnt + 1)] [2, 0, 1, 3] (by decide) rfl ?_
        refine g_ws (w' := (((w9) ++ (wZ h2 q3 rm lt tk ov nw bs bS bM)) ++ (wG q3 cG (cnt + 1) (rN (va_up ra cnt a3) (cnt + 1)))) ++ (wQ (va_up ra cnt a3) cI (zU fv cnt v) (zU fs cnt y) (zU fd cnt 0) (cnt + 1))) rfl rfl ?_
        exact ret _ _ _ _ _ _ (by dsimp only [rmL_act, rmX3_addStamp, rmX3_vend, rmX3_print, rmX3_setRoom, rmX3_withdraw, rmX4_isThere, rmX4_with, rmX4_without, rmX4_vend, rmL_below]; omega) (by dsimp only [rmL_act, rmX3_addStamp, rmX3_vend, rmX3_print, rmX3_setRoom, rmX3_withdraw, rmX4_isThere, rmX4_with, rmX4_without, rmX4_vend, rmL_below]; omega) dL_act_170 (Or.inr rfl) (⟨rfl, JS_mk hX (xi_add hI (by omega) ⟨by omega, by omega, by omega, by omega⟩ hz9.2.2.1) (hY.add.up (by omega))⟩)
set_option maxHeartbeats 4000000 in
set_option maxRecDepth 100000 in
theorem act_93 {E : gEnv} {l : Launch} {D : va_G} {cI cG cJ : ClassId} {k0 n0 : Nat} (hl9 : l.stackTraces = false) (hm h2 : Nat) (ad a2 bd pd : Nat → Nat) (T : Int) (hT1 : T ≤ 100) (cnt : Nat) (fv fs fd : Nat → Int) (rm lt tk ov : Int) (w1 : va_W) (sa : Nat) (ra : Nat → Nat) (nw bs : Value) (bS bM : Int) (hX : XW hm ad a2 bd pd cI cG cnt fv fs fd rm lt tk ov w1) (hI : XI cnt fv fs rm) (hY : YI cnt fd lt tk ov T) (x : Int) (C : gC E l rmL_act D 9 RL cL_act cI cG cJ) (hT : gTab E [(26, 170, 451, 60), (171, 232, 451, 60), (233, 264, 451, 60), (265, 341, 451, 60), (342, 380, 451, 60), (381, 450, 451, 60)]) (ret : gRZ E cL_act rmL_act (fun z w9 => z = 1 ∧ JS hm h2 ad a2 bd pd cI cG (T + 1) w9)) (hk : k0 ≤ 5) (hn0 : n0 ≤ 50) (v y sp : Int) (hv : 1 ≤ v ∧ v ≤ 60) (hy : 0 ≤ y ∧ y ≤ 99) : gW E k0 n0 ((((wZ h2 sa rm lt tk ov nw bs bS bM) ++ (wG sa cG cnt (rN ra cnt))) ++ (w1)) ++ (wQ ra cI fv fs fd cnt)) 93 [(7, .int (zI y)), (6, .int (zI v)), (5, .int (zI 1)), (4, .int (zI sp)), (3, .int (zI (cnt : Int))), (0, .ref hm), (1, .ref h2), (2, .int (zI x))] [] := by
  obtain ⟨hc, hS, h99, hr1, hr2⟩ := id hI
  have hr : 0 ≤ rm ∧ rm ≤ 12 := ⟨by omega, hr2⟩
  refine g_iload_n C dL_act_93 4 rfl ?_
  refine g_bipush C dL_act_94 (by decide) ?_
  refine g_icmp_ge 112 C dL_act_96 (by decide) (zr_i (by omega) (by omega)) (zr_i (by omega) (by omega)) (fun c_96 => ?_) (fun c_96 => ?_)
  · refine g_iconst C dL_act_112 ?_
    exact act_no hl9 hm h2 ad a2 bd pd T hT1 cnt fv fs fd rm lt tk ov w1 sa ra nw bs bS bM hX hI hY x C hT ret (by first | omega | (dsimp only [rmX4_isThere]; omega)) (by first | omega | (dsimp only [rmX4_isThere]; omega)) v y sp hv hy (fun q9 => by
      first
      | omega
      | (rcases hz9 with ⟨_, j, j1, j2⟩ | ⟨h1, _⟩
         · have := (hasB_iff cnt).mpr ⟨j, j1, j2⟩
           rw [q9.2] at this
           exact absurd this (by decide)
         · omega))
  · refine g_aload_n C dL_act_99 6 rfl ?_
    refine g_iload C dL_act_100 1 rfl ?_
    refine g_mods [wZ h2 sa rm lt tk ov nw bs bS bM, wG sa cG cnt (rN ra cnt), w1, wQ ra cI fv fs fd cnt] [w1, wZ h2 sa rm lt tk ov nw bs bS bM, wG sa cG cnt (rN ra cnt), wQ ra cI fv fs fd cnt] [2, 0, 1, 3] (by decide) rfl ?_
    refine g_ws (w' := (((w1) ++ (wZ h2 sa rm lt tk ov nw bs bS bM)) ++ (wG sa cG cnt (rN ra cnt))) ++ (wQ ra cI fv fs fd cnt)) rfl rfl ?_
    refine g_eqw (w' := (w1) ++ (((wZ h2 sa rm lt tk ov nw bs bS bM) ++ (wG sa cG cnt (rN ra cnt))) ++ (wQ ra cI fv fs fd cnt))) (by simp only [List.append_assoc]) ?_
    refine g_callV (wr := w1) (st := []) _ _ C cL_21 (met_X4_isThere l D cI cG cJ h2 sa ra cnt hc fv fs fd hS rm lt tk ov nw bs bS bM v (zr_i (by omega) (by omega))) gSp_r (ci := 4) (q0 := ((w1) : va_W).length) (at_r rfl) rfl (by decide) ⟨by dsimp only [rmX4_isThere, rmL_act]; omega, by dsimp only [rmX4_isThere, rmL_act]; omega⟩ rfl rfl (Nat.le_of_ble_eq_true rfl) dL_act_102 ?_
    rintro v9 w9 ⟨z9, rfl, hz9, rfl⟩
    refine g_ws (w' := (((w1) ++ (wZ h2 sa rm lt tk ov nw bs bS bM)) ++ (wG sa cG cnt (rN ra cnt))) ++ (wQ ra cI fv fs fd cnt)) (st' := [.int (zI z9)]) (by simp only [List.append_assoc]) rfl ?_
    refine g_mods [w1, wZ h2 sa rm lt tk ov nw bs bS bM, wG sa cG cnt (rN ra cnt), wQ ra cI fv fs fd cnt] [wZ h2 sa rm lt tk ov nw bs bS bM, wG sa cG cnt (rN ra cnt), w1, wQ ra cI fv fs fd cnt] [1, 2, 0, 3] (by decide) rfl ?_
    refine g_ws (w' := (((wZ h2 sa rm lt tk ov nw bs bS bM) ++ (wG sa cG cnt (rN ra cnt))) ++ (w1)) ++ (wQ ra cI fv fs fd cnt)) rfl rfl ?_
    have hz01 : z9 = 0 ∨ z9 = 1 := by omega
    refine g_if_ne 112 C dL_act_105 (by decide) (zr_i (by omega) (by omega)) (fun c_105 => ?_) (fun c_105 => ?_)
    · refine g_iconst C dL_act_112 ?_
      exact act_no hl9 hm h2 ad a2 bd pd T hT1 cnt fv fs fd rm lt tk ov w1 sa ra nw bs bS bM hX hI hY x C hT ret (by first | omega | (dsimp only [rmX4_isThere]; omega)) (by first | omega | (dsimp only [rmX4_isThere]; omega)) v y sp hv hy (fun q9 => by
        first
        | omega
        | (rcases hz9 with ⟨_, j, j1, j2⟩ | ⟨h1, _⟩
           · have := (hasB_iff cnt).mpr ⟨j, j1, j2⟩
             rw [q9.2] at this
             exact absurd this (by decide)
           · omega))
    · refine g_iconst C dL_act_108 ?_
      refine g_goto 113 C dL_act_109 (by decide) ?_
      exact act_yes hl9 hm h2 ad a2 bd pd T hT1 cnt fv fs fd rm lt tk ov w1 sa ra nw bs bS bM hX hI hY x C hT ret (by first | omega | (dsimp only [rmX4_isThere]; omega)) (by first | omega | (dsimp only [rmX4_isThere]; omega)) v y sp hv hy (by omega) (fun j hj => by
        rcases hz9 with ⟨h1, h2⟩ | ⟨h1, h2⟩
        · omega
        · exact h2 j hj)
