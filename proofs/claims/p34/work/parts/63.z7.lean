/-! one act on both machines -/
abbrev rmL_act : Room := { frames := 12, cells := 800, slots := 6500, locals := 330 }
set_option maxHeartbeats 4000000 in
set_option maxRecDepth 100000 in
theorem act_no {E : gEnv} {l : Launch} {D : va_G} {cI cG cJ : ClassId} {k0 n0 : Nat} (hl9 : l.stackTraces = false) (hm h2 : Nat) (ad a2 bd pd : Nat → Nat) (T : Int) (hT1 : T ≤ 100) (cnt : Nat) (fv fs fd : Nat → Int) (rm lt tk ov : Int) (w1 : va_W) (sa : Nat) (ra : Nat → Nat) (nw bs : Value) (bS bM : Int) (hX : XW hm ad a2 bd pd cI cG cnt fv fs fd rm lt tk ov w1) (hI : XI cnt fv fs rm) (hY : YI cnt fd lt tk ov T) (x : Int) (C : gC E l rmL_act D 9 RL cL_act cI cG cJ) (hT : gTab E [(26, 170, 451, 60), (171, 232, 451, 60), (233, 264, 451, 60), (265, 341, 451, 60), (342, 380, 451, 60), (381, 450, 451, 60)]) (ret : gRZ E cL_act rmL_act (fun z w9 => z = 1 ∧ JS hm h2 ad a2 bd pd cI cG (T + 1) w9)) (hk : k0 ≤ 5) (hn0 : n0 ≤ 50) (v y sp : Int) (hv : 1 ≤ v ∧ v ≤ 60) (hy : 0 ≤ y ∧ y ≤ 99) (hno : ¬ (cnt < 8 ∧ hasB fv v cnt = false)) : gW E k0 n0 ((((wZ h2 sa rm lt tk ov nw bs bS bM) ++ (wG sa cG cnt (rN ra cnt))) ++ (w1)) ++ (wQ ra cI fv fs fd cnt)) 113 [(7, .int (zI y)), (6, .int (zI v)), (5, .int (zI 1)), (4, .int (zI sp)), (3, .int (zI (cnt : Int))), (0, .ref hm), (1, .ref h2), (2, .int (zI x))] [.int (zI 0)] := by
  obtain ⟨hc, hS, h99, hr1, hr2⟩ := id hI
  have hr : 0 ≤ rm ∧ rm ≤ 12 := ⟨by omega, hr2⟩
  refine g_istore (L' := [(5, .int (zI 0)), (7, .int (zI y)), (6, .int (zI v)), (4, .int (zI sp)), (3, .int (zI (cnt : Int))), (0, .ref hm), (1, .ref h2), (2, .int (zI x))]) C dL_act_113 (by decide) rfl ?_
  refine g_iload C dL_act_115 0 rfl ?_
  refine g_if_eq 148 C dL_act_117 (by decide) (zr_i (by omega) (by omega)) (fun c_117 => ?_) (fun c_117 => ?_)
  · refine g_aload_n C dL_act_148 5 rfl ?_
    refine g_iload C dL_act_149 2 rfl ?_
    refine g_iload C dL_act_151 1 rfl ?_
    refine g_mods [wZ h2 sa rm lt tk ov nw bs bS bM, wG sa cG cnt (rN ra cnt), w1, wQ ra cI fv fs fd cnt] [wZ h2 sa rm lt tk ov nw bs bS bM, wG sa cG cnt (rN ra cnt), wQ ra cI fv fs fd cnt, w1] [0, 1, 3, 2] (by decide) rfl ?_
    refine g_ws (w' := (((wZ h2 sa rm lt tk ov nw bs bS bM) ++ (wG sa cG cnt (rN ra cnt))) ++ (wQ ra cI fv fs fd cnt)) ++ (w1)) rfl rfl ?_
    obtain ⟨c20, gv0, gs0, gd0, tc0, tr0, ft0, tv0, tu0, fc0, M0, fa0, fb0, N0, rfl⟩ := hX
    refine g_callVX (wr := ((wZ h2 sa rm lt tk ov nw bs bS bM) ++ (wG sa cG cnt (rN ra cnt))) ++ (wQ ra cI fv fs fd cnt)) (st := []) _ _ C cL_29 (met_X3_addStamp l hl9 D cI cG cJ hm ad a2 bd pd cnt fv fs fd rm lt tk ov hI c20 gv0 gs0 gd0 tc0 tr0 ft0 tv0 tu0 fc0 M0 fa0 fb0 N0 v y (zr_i (by omega) (by omega)) (zr_i (by omega) (by omega))) gSp_r (ci := 3) (q0 := ((((wZ h2 sa rm lt tk ov nw bs bS bM) ++ (wG sa cG cnt (rN ra cnt))) ++ (wQ ra cI fv fs fd cnt)) : va_W).length) (at_r rfl) rfl (by decide) ⟨by dsimp only [rmX3_addStamp, rmL_act]; omega, by dsimp only [rmX3_addStamp, rmL_act]; omega⟩ rfl rfl (Nat.le_of_ble_eq_true rfl) dL_act_153 (fun nm9 w9 h9 => ?_) ?_
    · rcases h9 with ⟨_, h8, _⟩ | ⟨e9, _, _, hX⟩
      · exact absurd ⟨by omega, by omega, by omega, by omega⟩ h8
      · subst e9
        refine g_catch (hh := [(26, 170, 451, 60), (171, 232, 451, 60), (233, 264, 451, 60), (265, 341, 451, 60), (342, 380, 451, 60), (381, 450, 451, 60)]) [] ⟨26, 170, 451, 60⟩ [⟨171, 232, 451, 60⟩, ⟨233, 264, 451, 60⟩, ⟨265, 341, 451, 60⟩, ⟨342, 380, 451, 60⟩, ⟨381, 450, 451, 60⟩] C hT rfl (fun z h => absurd h List.not_mem_nil) (by decide) (by decide) lkISE (List.mem_of_getElem? (i := 1) rfl) (fun q9 => ?_)
        refine g_astore (L' := [(6, .ref q9), (5, .int (zI 0)), (7, .int (zI y)), (4, .int (zI sp)), (3, .int (zI (cnt : Int))), (0, .ref hm), (1, .ref h2), (2, .int (zI x))]) C dL_act_451 (by decide) rfl ?_
        refine g_iload C dL_act_453 1 rfl ?_
        refine g_if_ne 462 C dL_act_455 (by decide) (zr_i (by omega) (by omega)) (fun c_455 => ?_) (fun c_455 => ?_)
        · exfalso; omega
        · refine g_iconst C dL_act_458 ?_
          refine g_goto 463 C dL_act_459 (by decide) ?_
          refine g_mods [wZ h2 sa rm lt tk ov nw bs bS bM, wG sa cG cnt (rN ra cnt), wQ ra cI fv fs fd cnt, w9] [w9, wZ h2 sa rm lt tk ov nw bs bS bM, wG sa cG cnt (rN ra cnt), wQ ra cI fv fs fd cnt] [3, 0, 1, 2] (by decide) rfl ?_
          refine g_ws (w' := (((w9) ++ (wZ h2 sa rm lt tk ov nw bs bS bM)) ++ (wG sa cG cnt (rN ra cnt))) ++ (wQ ra cI fv fs fd cnt)) rfl rfl ?_
          exact ret _ _ _ _ _ _ (by dsimp only [rmL_act, rmX3_addStamp, rmX3_vend, rmX3_print, rmX3_setRoom, rmX3_withdraw, rmX4_isThere, rmX4_with, rmX4_without, rmX4_vend, rmL_below]; omega) (by dsimp only [rmL_act, rmX3_addStamp, rmX3_vend, rmX3_print, rmX3_setRoom, rmX3_withdraw, rmX4_isThere, rmX4_with, rmX4_without, rmX4_vend, rmL_below]; omega) dL_act_463 (Or.inr rfl) (⟨rfl, JS_mk hX hI (hY.up (by omega))⟩)
    rintro v9 w9 ⟨z9, rfl, hz9, hX⟩
    refine g_ws (w' := (((wZ h2 sa rm lt tk ov nw bs bS bM) ++ (wG sa cG cnt (rN ra cnt))) ++ (wQ ra cI fv fs fd cnt)) ++ (w9)) (st' := [.int (zI z9)]) (by simp only [List.append_assoc]) rfl ?_
    refine g_mods [wZ h2 sa rm lt tk ov nw bs bS bM, wG sa cG cnt (rN ra cnt), wQ ra cI fv fs fd cnt, w9] [wZ h2 sa rm lt tk ov nw bs bS bM, wG sa cG cnt (rN ra cnt), w9, wQ ra cI fv fs fd cnt] [0, 1, 3, 2] (by decide) rfl ?_
    refine g_ws (w' := (((wZ h2 sa rm lt tk ov nw bs bS bM) ++ (wG sa cG cnt (rN ra cnt))) ++ (w9)) ++ (wQ ra cI fv fs fd cnt)) rfl rfl ?_
    exfalso
    obtain ⟨_, h7, h8, _⟩ := hz9
    exact hno ⟨h7, h8⟩
  · exfalso; omega
set_option maxHeartbeats 4000000 in
set_option maxRecDepth 100000 in
theorem act_yes {E : gEnv} {l : Launch} {D : va_G} {cI cG cJ : ClassId} {k0 n0 : Nat} (hl9 : l.stackTraces = false) (hm h2 : Nat) (ad a2 bd pd : Nat → Nat) (T : Int) (hT1 : T ≤ 100) (cnt : Nat) (fv fs fd : Nat → Int) (rm lt tk ov : Int) (w1 : va_W) (sa : Nat) (ra : Nat → Nat) (nw bs : Value) (bS bM : Int) (hX : XW hm ad a2 bd pd cI cG cnt fv fs fd rm lt tk ov w1) (hI : XI cnt fv fs rm) (hY : YI cnt fd lt tk ov T) (x : Int) (C : gC E l rmL_act D 9 RL cL_act cI cG cJ) (hT : gTab E [(26, 170, 451, 60), (171, 232, 451, 60), (233, 264, 451, 60), (265, 341, 451, 60), (342, 380, 451, 60), (381, 450, 451, 60)]) (ret : gRZ E cL_act rmL_act (fun z w9 => z = 1 ∧ JS hm h2 ad a2 bd pd cI cG (T + 1) w9)) (hk : k0 ≤ 5) (hn0 : n0 ≤ 50) (v y sp : Int) (hv : 1 ≤ v ∧ v ≤ 60) (hy : 0 ≤ y ∧ y ≤ 99) (h8 : cnt < 8) (hno : ∀ j, j < cnt → fv j ≠ v) : gW E k0 n0 ((((wZ h2 sa rm lt tk ov nw bs bS bM) ++ (wG sa cG cnt (rN ra cnt))) ++ (w1)) ++ (wQ ra cI fv fs fd cnt)) 113 [(7, .int (zI y)), (6, .int (zI v)), (5, .int (zI 1)), (4, .int (zI sp)), (3, .int (zI (cnt : Int))), (0, .ref hm), (1, .ref h2), (2, .int (zI x))] [.int (zI 1)] := by
  obtain ⟨hc, hS, h99, hr1, hr2⟩ := id hI
  have hr : 0 ≤ rm ∧ rm ≤ 12 := ⟨by omega, hr2⟩
  refine g_istore (L' := [(5, .int (zI 1)), (7, .int (zI y)), (6, .int (zI v)), (4, .int (zI sp)), (3, .int (zI (cnt : Int))), (0, .ref hm), (1, .ref h2), (2, .int (zI x))]) C dL_act_113 (by decide) rfl ?_
  refine g_iload C dL_act_115 0 rfl ?_
  refine g_if_eq 148 C dL_act_117 (by decide) (zr_i (by omega) (by omega)) (fun c_117 => ?_) (fun c_117 => ?_)
  · exfalso; omega
  · refine g_aload_n C dL_act_120 6 rfl ?_
    refine g_aload_n C dL_act_121 6 rfl ?_
    refine g_getf C fL_9 0 rfl rfl dL_act_122 ?_
    refine g_iconst C dL_act_125 ?_
    refine g_newi (N := 3) C arrI (by decide) ⟨by dsimp only [rmL_act]; omega, by dsimp only [rmL_act]; omega⟩ dL_act_126 (fun a3 => ?_)
    refine g_ws (w' := ((((wZ h2 sa rm lt tk ov nw bs bS bM) ++ (wG sa cG cnt (rN ra cnt))) ++ (w1)) ++ (wQ ra cI fv fs fd cnt)) ++ ([(a3, .inl (cI, 3, .inl (zA (fun _ => 0))))])) rfl rfl ?_
    refine g_mods [wZ h2 sa rm lt tk ov nw bs bS bM, wG sa cG cnt (rN ra cnt), w1, wQ ra cI fv fs fd cnt, [(a3, .inl (cI, 3, .inl (zA (fun _ => 0))))]] [wZ h2 sa rm lt tk ov nw bs bS bM, wG sa cG cnt (rN ra cnt), [(a3, .inl (cI, 3, .inl (zA (fun _ => 0))))], w1, wQ ra cI fv fs fd cnt] [0, 1, 4, 2, 3] (by decide) rfl ?_
    refine g_ws (w' := ((((wZ h2 sa rm lt tk ov nw bs bS bM) ++ (wG sa cG cnt (rN ra cnt))) ++ ([(a3, .inl (cI, 3, .inl (zA (fun _ => 0))))])) ++ (w1)) ++ (wQ ra cI fv fs fd cnt)) rfl rfl ?_
    refine g_dup C dL_act_128 rfl ?_
    refine g_iconst C dL_act_129 ?_
    refine g_iload C dL_act_130 2 rfl ?_
    refine g_iast (w' := ((((wZ h2 sa rm lt tk ov nw bs bS bM) ++ (wG sa cG cnt (rN ra cnt))) ++ ([(a3, .inl (cI, 3, .inl (zA (zU (fun _ => 0) 0 v))))])) ++ (w1)) ++ (wQ ra cI fv fs fd cnt)) C 2 rfl (by decide) (by omega) (by omega) rfl dL_act_132 ?_
    refine g_dup C dL_act_133 rfl ?_
    refine g_iconst C dL_act_134 ?_
    refine g_iload C dL_act_135 1 rfl ?_
    refine g_iast (w' := ((((wZ h2 sa rm lt tk ov nw bs bS bM) ++ (wG sa cG cnt (rN ra cnt))) ++ ([(a3, .inl (cI, 3, .inl (zA (zU (zU (fun _ => 0) 0 v) 1 y))))])) ++ (w1)) ++ (wQ ra cI fv fs fd cnt)) C 2 rfl (by decide) (by omega) (by omega) rfl dL_act_137 ?_
    refine g_dup C dL_act_138 rfl ?_
    refine g_iconst C dL_act_139 ?_
    refine g_iconst C dL_act_140 ?_
    refine g_iast (w' := ((((wZ h2 sa rm lt tk ov nw bs bS bM) ++ (wG sa cG cnt (rN ra cnt))) ++ ([(a3, .inl (cI, 3, .inl (zA (zU (zU (zU (fun _ => 0) 0 v) 1 y) 2 0))))])) ++ (w1)) ++ (wQ ra cI fv fs fd cnt)) C 2 rfl (by decide) (by omega) (by omega) rfl dL_act_141 ?_
    refine g_mods [wZ h2 sa rm lt tk ov nw bs bS bM, wG sa cG cnt (rN ra cnt), [(a3, .inl (cI, 3, .inl (zA (zU (zU (zU (fun _ => 0) 0 v) 1 y) 2 0))))], w1, wQ ra cI fv fs fd cnt] [wZ h2 sa rm lt tk ov nw bs bS bM, w1, wG sa cG cnt (rN ra cnt), wQ ra cI fv fs fd cnt, [(a3, .inl (cI, 3, .inl (zA (zU (zU (zU (fun _ => 0) 0 v) 1 y) 2 0))))]] [0, 3, 1, 4, 2] (by decide) rfl ?_
    refine g_ws (w' := ((((wZ h2 sa rm lt tk ov nw bs bS bM) ++ (w1)) ++ (wG sa cG cnt (rN ra cnt))) ++ (wQ ra cI fv fs fd cnt)) ++ ([(a3, .inl (cI, 3, .inl (zA (zU (zU (zU (fun _ => 0) 0 v) 1 y) 2 0))))])) rfl rfl ?_
    refine g_eqw (w' := (((wZ h2 sa rm lt tk ov nw bs bS bM) ++ (w1)) ++ (wG sa cG cnt (rN (va_up ra cnt a3) cnt))) ++ (wQ (va_up ra cnt a3) cI (zU fv cnt v) (zU fs cnt y) (zU fd cnt 0) (cnt + 1))) (by rw [rw3_mk, wQ_ap2, rN_nx (ra := ra) (m := cnt) (a := a3)]) ?_
    refine g_eqw (w' := ((wZ h2 sa rm lt tk ov nw bs bS bM) ++ (w1)) ++ ((wG sa cG cnt (rN (va_up ra cnt a3) cnt)) ++ (wQ (va_up ra cnt a3) cI (zU fv cnt v) (zU fs cnt y) (zU fd cnt 0) (cnt + 1)))) (by simp only [List.append_assoc]) ?_
    refine g_callS (wr := (wZ h2 sa rm lt tk ov nw bs bS bM) ++ (w1)) (st := [.ref h2]) _ _ C cL_25 (met_X4_with l D cI cG cJ sa a3 cnt hc (va_up ra cnt a3) (wQ (va_up ra cnt a3) cI (zU fv cnt v) (zU fs cnt y) (zU fd cnt 0) (cnt + 1)) (fun j hj => wQ_any j (by omega)) wQ_last) gSp_r (by decide) ⟨by dsimp only [rmX4_with, rmL_act]; omega, by dsimp only [rmX4_with, rmL_act]; omega⟩ rfl rfl (Nat.le_of_ble_eq_true rfl) dL_act_142 ?_
    rintro v9 w9 ⟨z8, rfl, q3, rfl, rfl⟩
    refine g_ws (w' := ((((wZ h2 sa rm lt tk ov nw bs bS bM) ++ (w1)) ++ (wG q3 cG (cnt + 1) (rN (va_up (va_up ra cnt a3) cnt a3) (cnt + 1)))) ++ (wG sa cG cnt (rN (va_up ra cnt a3) cnt))) ++ (wQ (va_up ra cnt a3) cI (zU fv cnt v) (zU fs cnt y) (zU fd cnt 0) (cnt + 1))) (st' := [.ref q3, .ref h2]) (by simp only [List.append_assoc]) rfl ?_
    refine g_mods [wZ h2 sa rm lt tk ov nw bs bS bM, w1, wG q3 cG (cnt + 1) (rN (va_up (va_up ra cnt a3) cnt a3) (cnt + 1)), wG sa cG cnt (rN (va_up ra cnt a3) cnt), wQ (va_up ra cnt a3) cI (zU fv cnt v) (zU fs cnt y) (zU fd cnt 0) (cnt + 1)] [wZ h2 sa rm lt tk ov nw bs bS bM, wG q3 cG (cnt + 1) (rN (va_up (va_up ra cnt a3) cnt a3) (cnt + 1)), w1, wQ (va_up ra cnt a3) cI (zU fv cnt v) (zU fs cnt y) (zU fd cnt 0) (cnt + 1)] [0, 2, 1, 4] (by decide) rfl ?_
    refine g_ws (w' := (((wZ h2 sa rm lt tk ov nw bs bS bM) ++ (wG q3 cG (cnt + 1) (rN (va_up (va_up ra cnt a3) cnt a3) (cnt + 1)))) ++ (w1)) ++ (wQ (va_up ra cnt a3) cI (zU fv cnt v) (zU fs cnt y) (zU fd cnt 0) (cnt + 1))) rfl rfl ?_
    refine g_eqw (w' := (((wZ h2 sa rm lt tk ov nw bs bS bM) ++ (wG q3 cG (cnt + 1) (rN (va_up ra cnt a3) (cnt + 1)))) ++ (w1)) ++ (wQ (va_up ra cnt a3) cI (zU fv cnt v) (zU fs cnt y) (zU fd cnt 0) (cnt + 1))) (by rw [rN_ny]) ?_
    refine g_putl (w' := (((wZ h2 q3 rm lt tk ov nw bs bS bM) ++ (wG q3 cG (cnt + 1) (rN (va_up ra cnt a3) (cnt + 1)))) ++ (w1)) ++ (wQ (va_up ra cnt a3) cI (zU fv cnt v) (zU fs cnt y) (zU fd cnt 0) (cnt + 1))) C pL_9 0 rfl rfl rfl (Nat.le_of_ble_eq_true rfl) rfl dL_act_145 ?_
    refine g_aload_n C dL_act_148 5 rfl ?_
    refine g_iload C dL_act_149 2 rfl ?_
    refine g_iload C dL_act_151 1 rfl ?_
    refine g_mods [wZ h2 q3 rm lt tk ov nw bs bS bM, wG q3 cG (cnt + 1) (rN (va_up ra cnt a3) (cnt + 1)), w1, wQ (va_up ra cnt a3) cI (zU fv cnt v) (zU fs cnt y) (zU fd cnt 0) (cnt + 1)] [wZ h2 q3 rm lt tk ov nw bs bS bM, wG q3 cG (cnt + 1) (rN (va_up ra cnt a3) (cnt + 1)), wQ (va_up ra cnt a3) cI (zU fv cnt v) (zU fs cnt y) (zU fd cnt 0) (cnt + 1), w1] [0, 1, 3, 2] (by decide) rfl ?_
    refine g_ws (w' := (((wZ h2 q3 rm lt tk ov nw bs bS bM) ++ (wG q3 cG (cnt + 1) (rN (va_up ra cnt a3) (cnt + 1)))) ++ (wQ (va_up ra cnt a3) cI (zU fv cnt v) (zU fs cnt y) (zU fd cnt 0) (cnt + 1))) ++ (w1)) rfl rfl ?_
    obtain ⟨c20, gv0, gs0, gd0, tc0, tr0, ft0, tv0, tu0, fc0, M0, fa0, fb0, N0, rfl⟩ := hX
    refine g_callVX (wr := ((wZ h2 q3 rm lt tk ov nw bs bS bM) ++ (wG q3 cG (cnt + 1) (rN (va_up ra cnt a3) (cnt + 1)))) ++ (wQ (va_up ra cnt a3) cI (zU fv cnt v) (zU fs cnt y) (zU fd cnt 0) (cnt + 1))) (st := []) _ _ C cL_29 (met_X3_addStamp l hl9 D cI cG cJ hm ad a2 bd pd cnt fv fs fd rm lt tk ov hI c20 gv0 gs0 gd0 tc0 tr0 ft0 tv0 tu0 fc0 M0 fa0 fb0 N0 v y (zr_i (by omega) (by omega)) (zr_i (by omega) (by omega))) gSp_r (ci := 3) (q0 := ((((wZ h2 q3 rm lt tk ov nw bs bS bM) ++ (wG q3 cG (cnt + 1) (rN (va_up ra cnt a3) (cnt + 1)))) ++ (wQ (va_up ra cnt a3) cI (zU fv cnt v) (zU fs cnt y) (zU fd cnt 0) (cnt + 1))) : va_W).length) (at_r rfl) rfl (by decide) ⟨by dsimp only [rmX3_addStamp, rmL_act]; omega, by dsimp only [rmX3_addStamp, rmL_act]; omega⟩ rfl rfl (Nat.le_of_ble_eq_true rfl) dL_act_153 (fun nm9 w9 h9 => ?_) ?_
    · exfalso
      rcases h9 with ⟨_, h8, _⟩ | ⟨_, _, h8, _⟩
      · exact h8 ⟨by omega, by omega, by omega, by omega⟩
      · rcases h8 with h8 | h8
        · omega
        · obtain ⟨j, j1, j2⟩ := (hasB_iff cnt).mp h8
          exact hno j j1 j2
    rintro v9 w9 ⟨z9, rfl, hz9, hX⟩
    refine g_ws (w' := (((wZ h2 q3 rm lt tk ov nw bs bS bM) ++ (wG q3 cG (cnt + 1) (rN (va_up ra cnt a3) (cnt + 1)))) ++ (wQ (va_up ra cnt a3) cI (zU fv cnt v) (zU fs cnt y) (zU fd cnt 0) (cnt + 1))) ++ (w9)) (st' := [.int (zI z9)]) (by simp only [List.append_assoc]) rfl ?_
    refine g_mods [wZ h2 q3 rm lt tk ov nw bs bS bM, wG q3 cG (cnt + 1) (rN (va_up ra cnt a3) (cnt + 1)), wQ (va_up ra cnt a3) cI (zU fv cnt v) (zU fs cnt y) (zU fd cnt 0) (cnt + 1), w9] [wZ h2 q3 rm lt tk ov nw bs bS bM, wG q3 cG (cnt + 1) (rN (va_up ra cnt a3) (cnt + 1)), w9, wQ (va_up ra cnt a3) cI (zU fv cnt v) (zU fs cnt y) (zU fd cnt 0) (cnt + 1)] [0, 1, 3, 2] (by decide) rfl ?_
    refine g_ws (w' := (((wZ h2 q3 rm lt tk ov nw bs bS bM) ++ (wG q3 cG (cnt + 1) (rN (va_up ra cnt a3) (cnt + 1)))) ++ (w9)) ++ (wQ (va_up ra cnt a3) cI (zU fv cnt v) (zU fs cnt y) (zU fd cnt 0) (cnt + 1))) rfl rfl ?_
    refine g_iload_n C dL_act_156 4 rfl ?_
    refine g_icmp_ne 169 C dL_act_157 (by decide) (zr_i (by omega) (by omega)) (zr_i (by omega) (by omega)) (fun c_157 => ?_) (fun c_157 => ?_)
    · exfalso; omega
    · refine g_iload C dL_act_160 0 rfl ?_
      refine g_if_eq 169 C dL_act_162 (by decide) (zr_i (by omega) (by omega)) (fun c_162 => ?_) (fun c_162 => ?_)
      · exfalso; omega
      · refine g_iconst C dL_act_165 ?_
        refine g_goto 170 C dL_act_166 (by decide) ?_
        refine g_mods [wZ h2 q3 rm lt tk ov nw bs bS bM, wG q3 cG (cnt + 1) (rN (va_up ra cnt a3) (cnt + 1)), w9, wQ (va_up ra cnt a3) cI (zU fv cnt v) (zU fs cnt y) (zU fd cnt 0) (cnt + 1)] [w9, wZ h2 q3 rm lt tk ov nw bs bS bM, wG q3 cG (cnt + 1) (rN (va_up ra cnt a3) (cnt + 1)), wQ (va_up ra cnt a3) cI (zU fv cnt v) (zU fs cnt y) (zU fd cnt 0) (cnt + 1)] [2, 0, 1, 3] (by decide) rfl ?_
        refine g_ws (w' := (((w9) ++ (wZ h2 q3 rm lt tk ov nw bs bS bM)) ++ (wG q3 cG (cnt + 1) (rN (va_up ra cnt a3) (cnt + 1)))) ++ (wQ (va_up ra cnt a3) cI (zU fv cnt v) (zU fs cnt y) (zU fd cnt 0) (cnt + 1))) rfl rfl ?_
        exact ret _ _ _ _ _ _ (by dsimp only [rmL_act, rmX3_addStamp, rmX3_vend, rmX3_print, rmX3_setRoom, rmX3_withdraw, rmX4_isThere, rmX4_with, rmX4_without, rmX4_vend, rmL_below]; omega) (by dsimp only [rmL_act, rmX3_addStamp, rmX3_vend, rmX3_print, rmX3_setRoom, rmX3_withdraw, rmX4_isThere, rmX4_with, rmX4_without, rmX4_vend, rmL_below]; omega) dL_act_170 (Or.inr rfl) (⟨rfl, JS_mk hX (xi_add hI (by omega) ⟨by omega, by omega, by omega, by omega⟩ hz9.2.2.1) (hY.add.up (by omega))⟩)
set_option maxHeartbeats 4000000 in
set_option maxRecDepth 100000 in
theorem act_93 {E : gEnv} {l : Launch} {D : va_G} {cI cG cJ : ClassId} {k0 n0 : Nat} (hl9 : l.stackTraces = false) (hm h2 : Nat) (ad a2 bd pd : Nat → Nat) (T : Int) (hT1 : T ≤ 100) (cnt : Nat) (fv fs fd : Nat → Int) (rm lt tk ov : Int) (w1 : va_W) (sa : Nat) (ra : Nat → Nat) (nw bs : Value) (bS bM : Int) (hX : XW hm ad a2 bd pd cI cG cnt fv fs fd rm lt tk ov w1) (hI : XI cnt fv fs rm) (hY : YI cnt fd lt tk ov T) (x : Int) (C : gC E l rmL_act D 9 RL cL_act cI cG cJ) (hT : gTab E [(26, 170, 451, 60), (171, 232, 451, 60), (233, 264, 451, 60), (265, 341, 451, 60), (342, 380, 451, 60), (381, 450, 451, 60)]) (ret : gRZ E cL_act rmL_act (fun z w9 => z = 1 ∧ JS hm h2 ad a2 bd pd cI cG (T + 1) w9)) (hk : k0 ≤ 5) (hn0 : n0 ≤ 50) (v y sp : Int) (hv : 1 ≤ v ∧ v ≤ 60) (hy : 0 ≤ y ∧ y ≤ 99) : gW E k0 n0 ((((wZ h2 sa rm lt tk ov nw bs bS bM) ++ (wG sa cG cnt (rN ra cnt))) ++ (w1)) ++ (wQ ra cI fv fs fd cnt)) 93 [(7, .int (zI y)), (6, .int (zI v)), (5, .int (zI 1)), (4, .int (zI sp)), (3, .int (zI (cnt : Int))), (0, .ref hm), (1, .ref h2), (2, .int (zI x))] [] := by
  obtain ⟨hc, hS, h99, hr1, hr2⟩ := id hI
  have hr : 0 ≤ rm ∧ rm ≤ 12 := ⟨by omega, hr2⟩
  refine g_iload_n C dL_act_93 4 rfl ?_
  refine g_bipush C dL_act_94 (by decide) ?_
  refine g_icmp_ge 112 C dL_act_96 (by decide) (zr_i (by omega) (by omega)) (zr_i (by omega) (by omega)) (fun c_96 => ?_) (fun c_96 => ?_)
  · refine g_iconst C dL_act_112 ?_
    exact act_no hl9 hm h2 ad a2 bd pd T hT1 cnt fv fs fd rm lt tk ov w1 sa ra nw bs bS bM hX hI hY x C hT ret (by first | omega | (dsimp only [rmX4_isThere]; omega)) (by first | omega | (dsimp only [rmX4_isThere]; omega)) v y sp hv hy (fun q9 => by
      first
      | omega
      | (rcases hz9 with ⟨_, j, j1, j2⟩ | ⟨h1, _⟩
         · have := (hasB_iff cnt).mpr ⟨j, j1, j2⟩
           rw [q9.2] at this
           exact absurd this (by decide)
         · omega))
  · refine g_aload_n C dL_act_99 6 rfl ?_
    refine g_iload C dL_act_100 1 rfl ?_
    refine g_mods [wZ h2 sa rm lt tk ov nw bs bS bM, wG sa cG cnt (rN ra cnt), w1, wQ ra cI fv fs fd cnt] [w1, wZ h2 sa rm lt tk ov nw bs bS bM, wG sa cG cnt (rN ra cnt), wQ ra cI fv fs fd cnt] [2, 0, 1, 3] (by decide) rfl ?_
    refine g_ws (w' := (((w1) ++ (wZ h2 sa rm lt tk ov nw bs bS bM)) ++ (wG sa cG cnt (rN ra cnt))) ++ (wQ ra cI fv fs fd cnt)) rfl rfl ?_
    refine g_eqw (w' := (w1) ++ (((wZ h2 sa rm lt tk ov nw bs bS bM) ++ (wG sa cG cnt (rN ra cnt))) ++ (wQ ra cI fv fs fd cnt))) (by simp only [List.append_assoc]) ?_
    refine g_callV (wr := w1) (st := []) _ _ C cL_21 (met_X4_isThere l D cI cG cJ h2 sa ra cnt hc fv fs fd hS rm lt tk ov nw bs bS bM v (zr_i (by omega) (by omega))) gSp_r (ci := 4) (q0 := ((w1) : va_W).length) (at_r rfl) rfl (by decide) ⟨by dsimp only [rmX4_isThere, rmL_act]; omega, by dsimp only [rmX4_isThere, rmL_act]; omega⟩ rfl rfl (Nat.le_of_ble_eq_true rfl) dL_act_102 ?_
    rintro v9 w9 ⟨z9, rfl, hz9, rfl⟩
    refine g_ws (w' := (((w1) ++ (wZ h2 sa rm lt tk ov nw bs bS bM)) ++ (wG sa cG cnt (rN ra cnt))) ++ (wQ ra cI fv fs fd cnt)) (st' := [.int (zI z9)]) (by simp only [List.append_assoc]) rfl ?_
    refine g_mods [w1, wZ h2 sa rm lt tk ov nw bs bS bM, wG sa cG cnt (rN ra cnt), wQ ra cI fv fs fd cnt] [wZ h2 sa rm lt tk ov nw bs bS bM, wG sa cG cnt (rN ra cnt), w1, wQ ra cI fv fs fd cnt] [1, 2, 0, 3] (by decide) rfl ?_
    refine g_ws (w' := (((wZ h2 sa rm lt tk ov nw bs bS bM) ++ (wG sa cG cnt (rN ra cnt))) ++ (w1)) ++ (wQ ra cI fv fs fd cnt)) rfl rfl ?_
    have hz01 : z9 = 0 ∨ z9 = 1 := by omega
    refine g_if_ne 112 C dL_act_105 (by decide) (zr_i (by omega) (by omega)) (fun c_105 => ?_) (fun c_105 => ?_)
    · refine g_iconst C dL_act_112 ?_
      exact act_no hl9 hm h2 ad a2 bd pd T hT1 cnt fv fs fd rm lt tk ov w1 sa ra nw bs bS bM hX hI hY x C hT ret (by first | omega | (dsimp only [rmX4_isThere]; omega)) (by first | omega | (dsimp only [rmX4_isThere]; omega)) v y sp hv hy (fun q9 => by
        first
        | omega
        | (rcases hz9 with ⟨_, j, j1, j2⟩ | ⟨h1, _⟩
           · have := (hasB_iff cnt).mpr ⟨j, j1, j2⟩
             rw [q9.2] at this
             exact absurd this (by decide)
           · omega))
    · refine g_iconst C dL_act_108 ?_
      refine g_goto 113 C dL_act_109 (by decide) ?_
      exact act_yes hl9 hm h2 ad a2 bd pd T hT1 cnt fv fs fd rm lt tk ov w1 sa ra nw bs bS bM hX hI hY x C hT ret (by first | omega | (dsimp only [rmX4_isThere]; omega)) (by first | omega | (dsimp only [rmX4_isThere]; omega)) v y sp hv hy (by omega) (fun j hj => by
        rcases hz9 with ⟨h1, h2⟩ | ⟨h1, h2⟩
        · omega
        · exact h2 j hj)
set_option maxHeartbeats 4000000 in
set_option maxRecDepth 100000 in
theorem act_39 {E : gEnv} {l : Launch} {D : va_G} {cI cG cJ : ClassId} {k0 n0 : Nat} (hl9 : l.stackTraces = false) (hm h2 : Nat) (ad a2 bd pd : Nat → Nat) (T : Int) (hT1 : T ≤ 100) (cnt : Nat) (fv fs fd : Nat → Int) (rm lt tk ov : Int) (w1 : va_W) (sa : Nat) (ra : Nat → Nat) (nw bs : Value) (bS bM : Int) (hX : XW hm ad a2 bd pd cI cG cnt fv fs fd rm lt tk ov w1) (hI : XI cnt fv fs rm) (hY : YI cnt fd lt tk ov T) (x : Int) (C : gC E l rmL_act D 9 RL cL_act cI cG cJ) (hT : gTab E [(26, 170, 451, 60), (171, 232, 451, 60), (233, 264, 451, 60), (265, 341, 451, 60), (342, 380, 451, 60), (381, 450, 451, 60)]) (ret : gRZ E cL_act rmL_act (fun z w9 => z = 1 ∧ JS hm h2 ad a2 bd pd cI cG (T + 1) w9)) (hk : k0 ≤ 5) (hn0 : n0 ≤ 50) (sp : Int) : gW E k0 n0 ((((wZ h2 sa rm lt tk ov nw bs bS bM) ++ (wG sa cG cnt (rN ra cnt))) ++ (w1)) ++ (wQ ra cI fv fs fd cnt)) 39 [(5, .int (zI 1)), (4, .int (zI sp)), (3, .int (zI (cnt : Int))), (0, .ref hm), (1, .ref h2), (2, .int (zI x))] [] := by
  obtain ⟨hc, hS, h99, hr1, hr2⟩ := id hI
  have hr : 0 ≤ rm ∧ rm ≤ 12 := ⟨by omega, hr2⟩
  refine g_iconst C dL_act_39 ?_
  refine g_iload_n C dL_act_40 5 rfl ?_
  refine g_iconst C dL_act_41 ?_
  refine g_ishr C dL_act_42 (fun z1x z1xr => ?_)
  refine g_iload_n C dL_act_43 5 rfl ?_
  refine g_bipush C dL_act_44 (by decide) ?_
  refine g_ishr C dL_act_46 (fun z2x z2xr => ?_)
  refine g_iconst C dL_act_47 ?_
  refine g_callS (wr := (((wZ h2 sa rm lt tk ov nw bs bS bM) ++ (wG sa cG cnt (rN ra cnt))) ++ (w1)) ++ (wQ ra cI fv fs fd cnt)) (st := [.int (zI z1x), .int (zI 1)]) _ _ C cL_15 (met_L_below l D cI cG cJ z2x 2 (by omega) (zr_i (by omega) (by omega))) gSp_e (by decide) ⟨by dsimp only [rmL_below, rmL_act]; omega, by dsimp only [rmL_below, rmL_act]; omega⟩ rfl rfl (Nat.le_of_ble_eq_true rfl) dL_act_48 ?_
  rintro v9 w9 ⟨b48, rfl, b48h, rfl⟩
  refine g_ws (w' := (((wZ h2 sa rm lt tk ov nw bs bS bM) ++ (wG sa cG cnt (rN ra cnt))) ++ (w1)) ++ (wQ ra cI fv fs fd cnt)) (st' := [.int (zI b48), .int (zI z1x), .int (zI 1)]) (List.append_nil _) rfl ?_
  refine g_if_ne 59 C dL_act_51 (by decide) (zr_i (by omega) (by omega)) (fun c_51 => ?_) (fun c_51 => ?_)
  · refine g_bipush C dL_act_59 (by decide) ?_
    refine g_callS (wr := (((wZ h2 sa rm lt tk ov nw bs bS bM) ++ (wG sa cG cnt (rN ra cnt))) ++ (w1)) ++ (wQ ra cI fv fs fd cnt)) (st := [.int (zI 1)]) _ _ C cL_15 (met_L_below l D cI cG cJ z1x 12 (by omega) (zr_i (by omega) (by omega))) gSp_e (by decide) ⟨by dsimp only [rmL_below, rmL_act]; omega, by dsimp only [rmL_below, rmL_act]; omega⟩ rfl rfl (Nat.le_of_ble_eq_true rfl) dL_act_61 ?_
    rintro v9 w9 ⟨b61, rfl, b61h, rfl⟩
    refine g_ws (w' := (((wZ h2 sa rm lt tk ov nw bs bS bM) ++ (wG sa cG cnt (rN ra cnt))) ++ (w1)) ++ (wQ ra cI fv fs fd cnt)) (st' := [.int (zI b61), .int (zI 1)]) (List.append_nil _) rfl ?_
    refine g_iadd C dL_act_64 ?_
    refine g_istore (L' := [(6, .int (zI (1 + b61))), (5, .int (zI 1)), (4, .int (zI sp)), (3, .int (zI (cnt : Int))), (0, .ref hm), (1, .ref h2), (2, .int (zI x))]) C dL_act_65 (by decide) rfl ?_
    refine g_iload_n C dL_act_67 6 rfl ?_
    refine g_iconst C dL_act_68 ?_
    refine g_ishr C dL_act_69 (fun z3x z3xr => ?_)
    refine g_iload_n C dL_act_70 6 rfl ?_
    refine g_bipush C dL_act_71 (by decide) ?_
    refine g_ishr C dL_act_73 (fun z4x z4xr => ?_)
    refine g_iconst C dL_act_74 ?_
    refine g_callS (wr := (((wZ h2 sa rm lt tk ov nw bs bS bM) ++ (wG sa cG cnt (rN ra cnt))) ++ (w1)) ++ (wQ ra cI fv fs fd cnt)) (st := [.int (zI z3x)]) _ _ C cL_15 (met_L_below l D cI cG cJ z4x 2 (by omega) (zr_i (by omega) (by omega))) gSp_e (by decide) ⟨by dsimp only [rmL_below, rmL_act]; omega, by dsimp only [rmL_below, rmL_act]; omega⟩ rfl rfl (Nat.le_of_ble_eq_true rfl) dL_act_75 ?_
    rintro v9 w9 ⟨b75, rfl, b75h, rfl⟩
    refine g_ws (w' := (((wZ h2 sa rm lt tk ov nw bs bS bM) ++ (wG sa cG cnt (rN ra cnt))) ++ (w1)) ++ (wQ ra cI fv fs fd cnt)) (st' := [.int (zI b75), .int (zI z3x)]) (List.append_nil _) rfl ?_
    refine g_if_ne 86 C dL_act_78 (by decide) (zr_i (by omega) (by omega)) (fun c_78 => ?_) (fun c_78 => ?_)
    · refine g_bipush C dL_act_86 (by decide) ?_
      refine g_callS (wr := (((wZ h2 sa rm lt tk ov nw bs bS bM) ++ (wG sa cG cnt (rN ra cnt))) ++ (w1)) ++ (wQ ra cI fv fs fd cnt)) (st := []) _ _ C cL_15 (met_L_below l D cI cG cJ z3x 6 (by omega) (zr_i (by omega) (by omega))) gSp_e (by decide) ⟨by dsimp only [rmL_below, rmL_act]; omega, by dsimp only [rmL_below, rmL_act]; omega⟩ rfl rfl (Nat.le_of_ble_eq_true rfl) dL_act_88 ?_
      rintro v9 w9 ⟨b88, rfl, b88h, rfl⟩
      refine g_ws (w' := (((wZ h2 sa rm lt tk ov nw bs bS bM) ++ (wG sa cG cnt (rN ra cnt))) ++ (w1)) ++ (wQ ra cI fv fs fd cnt)) (st' := [.int (zI b88)]) (List.append_nil _) rfl ?_
      refine g_istore (L' := [(7, .int (zI b88)), (6, .int (zI (1 + b61))), (5, .int (zI 1)), (4, .int (zI sp)), (3, .int (zI (cnt : Int))), (0, .ref hm), (1, .ref h2), (2, .int (zI x))]) C dL_act_91 (by decide) rfl ?_
      exact act_93 hl9 hm h2 ad a2 bd pd T hT1 cnt fv fs fd rm lt tk ov w1 sa ra nw bs bS bM hX hI hY x C hT ret (by first | omega | (dsimp only [rmL_below, rmX4_isThere]; omega)) (by first | omega | (dsimp only [rmL_below, rmX4_isThere]; omega)) (1 + b61) b88 sp (by omega) (by omega)
    · refine g_bipush C dL_act_81 (by decide) ?_
      refine g_goto 88 C dL_act_83 (by decide) ?_
      refine g_callS (wr := (((wZ h2 sa rm lt tk ov nw bs bS bM) ++ (wG sa cG cnt (rN ra cnt))) ++ (w1)) ++ (wQ ra cI fv fs fd cnt)) (st := []) _ _ C cL_15 (met_L_below l D cI cG cJ z3x 100 (by omega) (zr_i (by omega) (by omega))) gSp_e (by decide) ⟨by dsimp only [rmL_below, rmL_act]; omega, by dsimp only [rmL_below, rmL_act]; omega⟩ rfl rfl (Nat.le_of_ble_eq_true rfl) dL_act_88 ?_
      rintro v9 w9 ⟨b88, rfl, b88h, rfl⟩
      refine g_ws (w' := (((wZ h2 sa rm lt tk ov nw bs bS bM) ++ (wG sa cG cnt (rN ra cnt))) ++ (w1)) ++ (wQ ra cI fv fs fd cnt)) (st' := [.int (zI b88)]) (List.append_nil _) rfl ?_
      refine g_istore (L' := [(7, .int (zI b88)), (6, .int (zI (1 + b61))), (5, .int (zI 1)), (4, .int (zI sp)), (3, .int (zI (cnt : Int))), (0, .ref hm), (1, .ref h2), (2, .int (zI x))]) C dL_act_91 (by decide) rfl ?_
      exact act_93 hl9 hm h2 ad a2 bd pd T hT1 cnt fv fs fd rm lt tk ov w1 sa ra nw bs bS bM hX hI hY x C hT ret (by first | omega | (dsimp only [rmL_below, rmX4_isThere]; omega)) (by first | omega | (dsimp only [rmL_below, rmX4_isThere]; omega)) (1 + b61) b88 sp (by omega) (by omega)
  · refine g_bipush C dL_act_54 (by decide) ?_
    refine g_goto 61 C dL_act_56 (by decide) ?_
    refine g_callS (wr := (((wZ h2 sa rm lt tk ov nw bs bS bM) ++ (wG sa cG cnt (rN ra cnt))) ++ (w1)) ++ (wQ ra cI fv fs fd cnt)) (st := [.int (zI 1)]) _ _ C cL_15 (met_L_below l D cI cG cJ z1x 60 (by omega) (zr_i (by omega) (by omega))) gSp_e (by decide) ⟨by dsimp only [rmL_below, rmL_act]; omega, by dsimp only [rmL_below, rmL_act]; omega⟩ rfl rfl (Nat.le_of_ble_eq_true rfl) dL_act_61 ?_
    rintro v9 w9 ⟨b61, rfl, b61h, rfl⟩
    refine g_ws (w' := (((wZ h2 sa rm lt tk ov nw bs bS bM) ++ (wG sa cG cnt (rN ra cnt))) ++ (w1)) ++ (wQ ra cI fv fs fd cnt)) (st' := [.int (zI b61), .int (zI 1)]) (List.append_nil _) rfl ?_
    refine g_iadd C dL_act_64 ?_
    refine g_istore (L' := [(6, .int (zI (1 + b61))), (5, .int (zI 1)), (4, .int (zI sp)), (3, .int (zI (cnt : Int))), (0, .ref hm), (1, .ref h2), (2, .int (zI x))]) C dL_act_65 (by decide) rfl ?_
    refine g_iload_n C dL_act_67 6 rfl ?_
    refine g_iconst C dL_act_68 ?_
    refine g_ishr C dL_act_69 (fun z5x z5xr => ?_)
    refine g_iload_n C dL_act_70 6 rfl ?_
    refine g_bipush C dL_act_71 (by decide) ?_
    refine g_ishr C dL_act_73 (fun z6x z6xr => ?_)
    refine g_iconst C dL_act_74 ?_
    refine g_callS (wr := (((wZ h2 sa rm lt tk ov nw bs bS bM) ++ (wG sa cG cnt (rN ra cnt))) ++ (w1)) ++ (wQ ra cI fv fs fd cnt)) (st := [.int (zI z5x)]) _ _ C cL_15 (met_L_below l D cI cG cJ z6x 2 (by omega) (zr_i (by omega) (by omega))) gSp_e (by decide) ⟨by dsimp only [rmL_below, rmL_act]; omega, by dsimp only [rmL_below, rmL_act]; omega⟩ rfl rfl (Nat.le_of_ble_eq_true rfl) dL_act_75 ?_
    rintro v9 w9 ⟨b75, rfl, b75h, rfl⟩
    refine g_ws (w' := (((wZ h2 sa rm lt tk ov nw bs bS bM) ++ (wG sa cG cnt (rN ra cnt))) ++ (w1)) ++ (wQ ra cI fv fs fd cnt)) (st' := [.int (zI b75), .int (zI z5x)]) (List.append_nil _) rfl ?_
    refine g_if_ne 86 C dL_act_78 (by decide) (zr_i (by omega) (by omega)) (fun c_78 => ?_) (fun c_78 => ?_)
    · refine g_bipush C dL_act_86 (by decide) ?_
      refine g_callS (wr := (((wZ h2 sa rm lt tk ov nw bs bS bM) ++ (wG sa cG cnt (rN ra cnt))) ++ (w1)) ++ (wQ ra cI fv fs fd cnt)) (st := []) _ _ C cL_15 (met_L_below l D cI cG cJ z5x 6 (by omega) (zr_i (by omega) (by omega))) gSp_e (by decide) ⟨by dsimp only [rmL_below, rmL_act]; omega, by dsimp only [rmL_below, rmL_act]; omega⟩ rfl rfl (Nat.le_of_ble_eq_true rfl) dL_act_88 ?_
      rintro v9 w9 ⟨b88, rfl, b88h, rfl⟩
      refine g_ws (w' := (((wZ h2 sa rm lt tk ov nw bs bS bM) ++ (wG sa cG cnt (rN ra cnt))) ++ (w1)) ++ (wQ ra cI fv fs fd cnt)) (st' := [.int (zI b88)]) (List.append_nil _) rfl ?_
      refine g_istore (L' := [(7, .int (zI b88)), (6, .int (zI (1 + b61))), (5, .int (zI 1)), (4, .int (zI sp)), (3, .int (zI (cnt : Int))), (0, .ref hm), (1, .ref h2), (2, .int (zI x))]) C dL_act_91 (by decide) rfl ?_
      exact act_93 hl9 hm h2 ad a2 bd pd T hT1 cnt fv fs fd rm lt tk ov w1 sa ra nw bs bS bM hX hI hY x C hT ret (by first | omega | (dsimp only [rmL_below, rmX4_isThere]; omega)) (by first | omega | (dsimp only [rmL_below, rmX4_isThere]; omega)) (1 + b61) b88 sp (by omega) (by omega)
    · refine g_bipush C dL_act_81 (by decide) ?_
      refine g_goto 88 C dL_act_83 (by decide) ?_
      refine g_callS (wr := (((wZ h2 sa rm lt tk ov nw bs bS bM) ++ (wG sa cG cnt (rN ra cnt))) ++ (w1)) ++ (wQ ra cI fv fs fd cnt)) (st := []) _ _ C cL_15 (met_L_below l D cI cG cJ z5x 100 (by omega) (zr_i (by omega) (by omega))) gSp_e (by decide) ⟨by dsimp only [rmL_below, rmL_act]; omega, by dsimp only [rmL_below, rmL_act]; omega⟩ rfl rfl (Nat.le_of_ble_eq_true rfl) dL_act_88 ?_
      rintro v9 w9 ⟨b88, rfl, b88h, rfl⟩
      refine g_ws (w' := (((wZ h2 sa rm lt tk ov nw bs bS bM) ++ (wG sa cG cnt (rN ra cnt))) ++ (w1)) ++ (wQ ra cI fv fs fd cnt)) (st' := [.int (zI b88)]) (List.append_nil _) rfl ?_
      refine g_istore (L' := [(7, .int (zI b88)), (6, .int (zI (1 + b61))), (5, .int (zI 1)), (4, .int (zI sp)), (3, .int (zI (cnt : Int))), (0, .ref hm), (1, .ref h2), (2, .int (zI x))]) C dL_act_91 (by decide) rfl ?_
      exact act_93 hl9 hm h2 ad a2 bd pd T hT1 cnt fv fs fd rm lt tk ov w1 sa ra nw bs bS bM hX hI hY x C hT ret (by first | omega | (dsimp only [rmL_below, rmX4_isThere]; omega)) (by first | omega | (dsimp only [rmL_below, rmX4_isThere]; omega)) (1 + b61) b88 sp (by omega) (by omega)
set_option maxHeartbeats 4000000 in
set_option maxRecDepth 100000 in
theorem act_220 {E : gEnv} {l : Launch} {D : va_G} {cI cG cJ : ClassId} {k0 n0 : Nat} (hl9 : l.stackTraces = false) (hm h2 : Nat) (ad a2 bd pd : Nat → Nat) (T : Int) (hT1 : T ≤ 100) (cnt : Nat) (fv fs fd : Nat → Int) (rm lt tk ov : Int) (w1 : va_W) (sa : Nat) (ra : Nat → Nat) (nw bs : Value) (bS bM : Int) (hX : XW hm ad a2 bd pd cI cG cnt fv fs fd rm lt tk ov w1) (hI : XI cnt fv fs rm) (hY : YI cnt fd lt tk ov T) (x : Int) (C : gC E l rmL_act D 9 RL cL_act cI cG cJ) (hT : gTab E [(26, 170, 451, 60), (171, 232, 451, 60), (233, 264, 451, 60), (265, 341, 451, 60), (342, 380, 451, 60), (381, 450, 451, 60)]) (ret : gRZ E cL_act rmL_act (fun z w9 => z = 1 ∧ JS hm h2 ad a2 bd pd cI cG (T + 1) w9)) (hk : k0 ≤ 5) (hn0 : n0 ≤ 50) (s : Nat) (hs : s < cnt) : gW E k0 n0 ((((wZ h2 sa rm lt tk ov nw bs bS bM) ++ (wG sa cG cnt (rN ra cnt))) ++ (w1)) ++ (wQ ra cI fv fs fd cnt)) 220 [(6, .ref (ra s)), (5, .int (zI 1)), (4, .int (zI (s : Int))), (3, .int (zI (cnt : Int))), (0, .ref hm), (1, .ref h2), (2, .int (zI x))] [] := by
  obtain ⟨hc, hS, h99, hr1, hr2⟩ := id hI
  have hr : 0 ≤ rm ∧ rm ≤ 12 := ⟨by omega, hr2⟩
  refine g_iload_n C dL_act_220 6 rfl ?_
  refine g_bipush C dL_act_221 (by decide) ?_
  refine g_ishr C dL_act_223 (fun z1x z1xr => ?_)
  refine g_iconst C dL_act_224 ?_
  refine g_callS (wr := (((wZ h2 sa rm lt tk ov nw bs bS bM) ++ (wG sa cG cnt (rN ra cnt))) ++ (w1)) ++ (wQ ra cI fv fs fd cnt)) (st := []) _ _ C cL_15 (met_L_below l D cI cG cJ z1x 3 (by omega) (zr_i (by omega) (by omega))) gSp_e (by decide) ⟨by dsimp only [rmL_below, rmL_act]; omega, by dsimp only [rmL_below, rmL_act]; omega⟩ rfl rfl (Nat.le_of_ble_eq_true rfl) dL_act_225 ?_
  rintro v9 w9 ⟨b225, rfl, b225h, rfl⟩
  refine g_ws (w' := (((wZ h2 sa rm lt tk ov nw bs bS bM) ++ (wG sa cG cnt (rN ra cnt))) ++ (w1)) ++ (wQ ra cI fv fs fd cnt)) (st' := [.int (zI b225)]) (List.append_nil _) rfl ?_
  refine g_if_le 233 C dL_act_228 (by decide) (zr_i (by omega) (by omega)) (fun c_228 => ?_) (fun c_228 => ?_)
  · refine g_aload_n C dL_act_233 5 rfl ?_
    refine g_aload_n C dL_act_234 5 rfl ?_
    refine g_getf C fL_9 0 rfl rfl dL_act_235 ?_
    refine g_iload C dL_act_238 2 rfl ?_
    refine g_mods [wZ h2 sa rm lt tk ov nw bs bS bM, wG sa cG cnt (rN ra cnt), w1, wQ ra cI fv fs fd cnt] [wZ h2 sa rm lt tk ov nw bs bS bM, w1, wG sa cG cnt (rN ra cnt), wQ ra cI fv fs fd cnt] [0, 2, 1, 3] (by decide) rfl ?_
    refine g_ws (w' := (((wZ h2 sa rm lt tk ov nw bs bS bM) ++ (w1)) ++ (wG sa cG cnt (rN ra cnt))) ++ (wQ ra cI fv fs fd cnt)) rfl rfl ?_
    refine g_eqw (w' := ((wZ h2 sa rm lt tk ov nw bs bS bM) ++ (w1)) ++ ((wG sa cG cnt (rN ra cnt)) ++ (wQ ra cI fv fs fd cnt))) (by simp only [List.append_assoc]) ?_
    refine g_callS (wr := (wZ h2 sa rm lt tk ov nw bs bS bM) ++ (w1)) (st := [.ref h2]) _ _ C cL_34 (met_X4_without l D cI cG cJ sa s cnt hc hs ra (wQ ra cI fv fs fd cnt) (fun j hj => wQ_any j hj)) gSp_r (by decide) ⟨by dsimp only [rmX4_without, rmL_act]; omega, by dsimp only [rmX4_without, rmL_act]; omega⟩ rfl rfl (Nat.le_of_ble_eq_true rfl) dL_act_240 ?_
    rintro v9 w9 ⟨z8, rfl, q3, rfl, rfl⟩
    refine g_ws (w' := ((((wZ h2 sa rm lt tk ov nw bs bS bM) ++ (w1)) ++ (wG q3 cG (cnt - 1) (rN (woF ra s) (cnt - 1)))) ++ (wG sa cG cnt (rN ra cnt))) ++ (wQ ra cI fv fs fd cnt)) (st' := [.ref q3, .ref h2]) (by simp only [List.append_assoc]) rfl ?_
    refine g_mods [wZ h2 sa rm lt tk ov nw bs bS bM, w1, wG q3 cG (cnt - 1) (rN (woF ra s) (cnt - 1)), wG sa cG cnt (rN ra cnt), wQ ra cI fv fs fd cnt] [wZ h2 sa rm lt tk ov nw bs bS bM, wG q3 cG (cnt - 1) (rN (woF ra s) (cnt - 1)), w1, wQ ra cI fv fs fd cnt] [0, 2, 1, 4] (by decide) rfl ?_
    refine g_ws (w' := (((wZ h2 sa rm lt tk ov nw bs bS bM) ++ (wG q3 cG (cnt - 1) (rN (woF ra s) (cnt - 1)))) ++ (w1)) ++ (wQ ra cI fv fs fd cnt)) rfl rfl ?_
    refine g_putl (w' := (((wZ h2 q3 rm lt tk ov nw bs bS bM) ++ (wG q3 cG (cnt - 1) (rN (woF ra s) (cnt - 1)))) ++ (w1)) ++ (wQ ra cI fv fs fd cnt)) C pL_9 0 rfl rfl rfl (Nat.le_of_ble_eq_true rfl) rfl dL_act_243 ?_
    refine g_row hs ?_
    refine g_ws (w' := ((((wZ h2 q3 rm lt tk ov nw bs bS bM) ++ (wG q3 cG (cnt - 1) (rN (woF ra s) (cnt - 1)))) ++ (w1)) ++ ([((ra s), .inl (cI, 3, .inl (zA (rw3 (fv s) (fs s) (fd s)))))])) ++ (wQ (woF ra s) cI (rmv fv s (cnt - 1)) (rmv fs s (cnt - 1)) (rmv fd s (cnt - 1)) (cnt - 1))) rfl rfl ?_
    refine g_mods [wZ h2 q3 rm lt tk ov nw bs bS bM, wG q3 cG (cnt - 1) (rN (woF ra s) (cnt - 1)), w1, [((ra s), .inl (cI, 3, .inl (zA (rw3 (fv s) (fs s) (fd s)))))], wQ (woF ra s) cI (rmv fv s (cnt - 1)) (rmv fs s (cnt - 1)) (rmv fd s (cnt - 1)) (cnt - 1)] [wZ h2 q3 rm lt tk ov nw bs bS bM, wG q3 cG (cnt - 1) (rN (woF ra s) (cnt - 1)), [((ra s), .inl (cI, 3, .inl (zA (rw3 (fv s) (fs s) (fd s)))))], w1, wQ (woF ra s) cI (rmv fv s (cnt - 1)) (rmv fs s (cnt - 1)) (rmv fd s (cnt - 1)) (cnt - 1)] [0, 1, 3, 2, 4] (by decide) rfl ?_
    refine g_ws (w' := ((((wZ h2 q3 rm lt tk ov nw bs bS bM) ++ (wG q3 cG (cnt - 1) (rN (woF ra s) (cnt - 1)))) ++ ([((ra s), .inl (cI, 3, .inl (zA (rw3 (fv s) (fs s) (fd s)))))])) ++ (w1)) ++ (wQ (woF ra s) cI (rmv fv s (cnt - 1)) (rmv fs s (cnt - 1)) (rmv fd s (cnt - 1)) (cnt - 1))) rfl rfl ?_
    refine g_aload_n C dL_act_246 4 rfl ?_
    refine g_iload C dL_act_247 2 rfl ?_
    refine g_mods [wZ h2 q3 rm lt tk ov nw bs bS bM, wG q3 cG (cnt - 1) (rN (woF ra s) (cnt - 1)), [((ra s), .inl (cI, 3, .inl (zA (rw3 (fv s) (fs s) (fd s)))))], w1, wQ (woF ra s) cI (rmv fv s (cnt - 1)) (rmv fs s (cnt - 1)) (rmv fd s (cnt - 1)) (cnt - 1)] [wZ h2 q3 rm lt tk ov nw bs bS bM, wG q3 cG (cnt - 1) (rN (woF ra s) (cnt - 1)), [((ra s), .inl (cI, 3, .inl (zA (rw3 (fv s) (fs s) (fd s)))))], wQ (woF ra s) cI (rmv fv s (cnt - 1)) (rmv fs s (cnt - 1)) (rmv fd s (cnt - 1)) (cnt - 1), w1] [0, 1, 2, 4, 3] (by decide) rfl ?_
    refine g_ws (w' := ((((wZ h2 q3 rm lt tk ov nw bs bS bM) ++ (wG q3 cG (cnt - 1) (rN (woF ra s) (cnt - 1)))) ++ ([((ra s), .inl (cI, 3, .inl (zA (rw3 (fv s) (fs s) (fd s)))))])) ++ (wQ (woF ra s) cI (rmv fv s (cnt - 1)) (rmv fs s (cnt - 1)) (rmv fd s (cnt - 1)) (cnt - 1))) ++ (w1)) rfl rfl ?_
    obtain ⟨c20, gv0, gs0, gd0, tc0, tr0, ft0, tv0, tu0, fc0, M0, fa0, fb0, N0, rfl⟩ := hX
    refine g_callVX (wr := (((wZ h2 q3 rm lt tk ov nw bs bS bM) ++ (wG q3 cG (cnt - 1) (rN (woF ra s) (cnt - 1)))) ++ ([((ra s), .inl (cI, 3, .inl (zA (rw3 (fv s) (fs s) (fd s)))))])) ++ (wQ (woF ra s) cI (rmv fv s (cnt - 1)) (rmv fs s (cnt - 1)) (rmv fd s (cnt - 1)) (cnt - 1))) (st := []) _ _ C cL_38 (met_X3_withdraw l hl9 D cI cG cJ hm ad a2 bd pd cnt fv fs fd rm lt tk ov hI c20 gv0 gs0 gd0 tc0 tr0 ft0 tv0 tu0 fc0 M0 fa0 fb0 N0 (s : Int) (zr_i (by omega) (by omega))) gSp_r (ci := 3) (q0 := (((((wZ h2 q3 rm lt tk ov nw bs bS bM) ++ (wG q3 cG (cnt - 1) (rN (woF ra s) (cnt - 1)))) ++ ([((ra s), .inl (cI, 3, .inl (zA (rw3 (fv s) (fs s) (fd s)))))])) ++ (wQ (woF ra s) cI (rmv fv s (cnt - 1)) (rmv fs s (cnt - 1)) (rmv fd s (cnt - 1)) (cnt - 1))) : va_W).length) (at_r rfl) rfl (by decide) ⟨by dsimp only [rmX3_withdraw, rmL_act]; omega, by dsimp only [rmX3_withdraw, rmL_act]; omega⟩ rfl rfl (Nat.le_of_ble_eq_true rfl) dL_act_249 (fun nm9 w9 h9 => ?_) ?_
    · exfalso
      rcases h9 with ⟨_, h8, _⟩
      exact h8 ⟨by omega, by omega⟩
    rintro v9 w9 ⟨z9, rfl, hz9, hX⟩
    have hz8 : z9 = fs s := hz9.2
    have hsb := hS.2.1 s hs
    refine g_ws (w' := ((((wZ h2 q3 rm lt tk ov nw bs bS bM) ++ (wG q3 cG (cnt - 1) (rN (woF ra s) (cnt - 1)))) ++ ([((ra s), .inl (cI, 3, .inl (zA (rw3 (fv s) (fs s) (fd s)))))])) ++ (wQ (woF ra s) cI (rmv fv s (cnt - 1)) (rmv fs s (cnt - 1)) (rmv fd s (cnt - 1)) (cnt - 1))) ++ (w9)) (st' := [.int (zI z9)]) (by simp only [List.append_assoc]) rfl ?_
    refine g_mods [wZ h2 q3 rm lt tk ov nw bs bS bM, wG q3 cG (cnt - 1) (rN (woF ra s) (cnt - 1)), [((ra s), .inl (cI, 3, .inl (zA (rw3 (fv s) (fs s) (fd s)))))], wQ (woF ra s) cI (rmv fv s (cnt - 1)) (rmv fs s (cnt - 1)) (rmv fd s (cnt - 1)) (cnt - 1), w9] [wZ h2 q3 rm lt tk ov nw bs bS bM, wG q3 cG (cnt - 1) (rN (woF ra s) (cnt - 1)), [((ra s), .inl (cI, 3, .inl (zA (rw3 (fv s) (fs s) (fd s)))))], w9, wQ (woF ra s) cI (rmv fv s (cnt - 1)) (rmv fs s (cnt - 1)) (rmv fd s (cnt - 1)) (cnt - 1)] [0, 1, 2, 4, 3] (by decide) rfl ?_
    refine g_ws (w' := ((((wZ h2 q3 rm lt tk ov nw bs bS bM) ++ (wG q3 cG (cnt - 1) (rN (woF ra s) (cnt - 1)))) ++ ([((ra s), .inl (cI, 3, .inl (zA (rw3 (fv s) (fs s) (fd s)))))])) ++ (w9)) ++ (wQ (woF ra s) cI (rmv fv s (cnt - 1)) (rmv fs s (cnt - 1)) (rmv fd s (cnt - 1)) (cnt - 1))) rfl rfl ?_
    refine g_aload C dL_act_252 0 rfl ?_
    refine g_iconst C dL_act_254 ?_
    refine g_iald C 2 rfl (by decide) (by omega) (by omega) (v := ((rw3 (fv s) (fs s) (fd s)) 1)) rfl dL_act_255 ?_
    refine g_top (fs s) (rfl) ?_
    refine g_icmp_ne 263 C dL_act_256 (by decide) (zr_i (by omega) (by omega)) (hS.zs hs) (fun c_256 => ?_) (fun c_256 => ?_)
    · exfalso; omega
    · refine g_iconst C dL_act_259 ?_
      refine g_goto 264 C dL_act_260 (by decide) ?_
      refine g_mods [wZ h2 q3 rm lt tk ov nw bs bS bM, wG q3 cG (cnt - 1) (rN (woF ra s) (cnt - 1)), [((ra s), .inl (cI, 3, .inl (zA (rw3 (fv s) (fs s) (fd s)))))], w9, wQ (woF ra s) cI (rmv fv s (cnt - 1)) (rmv fs s (cnt - 1)) (rmv fd s (cnt - 1)) (cnt - 1)] [w9, wZ h2 q3 rm lt tk ov nw bs bS bM, wG q3 cG (cnt - 1) (rN (woF ra s) (cnt - 1)), wQ (woF ra s) cI (rmv fv s (cnt - 1)) (rmv fs s (cnt - 1)) (rmv fd s (cnt - 1)) (cnt - 1)] [3, 0, 1, 4] (by decide) rfl ?_
      refine g_ws (w' := (((w9) ++ (wZ h2 q3 rm lt tk ov nw bs bS bM)) ++ (wG q3 cG (cnt - 1) (rN (woF ra s) (cnt - 1)))) ++ (wQ (woF ra s) cI (rmv fv s (cnt - 1)) (rmv fs s (cnt - 1)) (rmv fd s (cnt - 1)) (cnt - 1))) rfl rfl ?_
      exact ret _ _ _ _ _ _ (by dsimp only [rmL_act, rmX3_addStamp, rmX3_vend, rmX3_print, rmX3_setRoom, rmX3_withdraw, rmX4_isThere, rmX4_with, rmX4_without, rmX4_vend, rmL_below]; omega) (by dsimp only [rmL_act, rmX3_addStamp, rmX3_vend, rmX3_print, rmX3_setRoom, rmX3_withdraw, rmX4_isThere, rmX4_with, rmX4_without, rmX4_vend, rmL_below]; omega) dL_act_264 (Or.inr rfl) (⟨rfl, JS_mk hX (xi_wd hI hs) (hY.wd.up (by omega))⟩)
  · refine g_iconst C dL_act_231 ?_
    refine g_mods [wZ h2 sa rm lt tk ov nw bs bS bM, wG sa cG cnt (rN ra cnt), w1, wQ ra cI fv fs fd cnt] [w1, wZ h2 sa rm lt tk ov nw bs bS bM, wG sa cG cnt (rN ra cnt), wQ ra cI fv fs fd cnt] [2, 0, 1, 3] (by decide) rfl ?_
    refine g_ws (w' := (((w1) ++ (wZ h2 sa rm lt tk ov nw bs bS bM)) ++ (wG sa cG cnt (rN ra cnt))) ++ (wQ ra cI fv fs fd cnt)) rfl rfl ?_
    exact ret _ _ _ _ _ _ (by dsimp only [rmL_act, rmX3_addStamp, rmX3_vend, rmX3_print, rmX3_setRoom, rmX3_withdraw, rmX4_isThere, rmX4_with, rmX4_without, rmX4_vend, rmL_below]; omega) (by dsimp only [rmL_act, rmX3_addStamp, rmX3_vend, rmX3_print, rmX3_setRoom, rmX3_withdraw, rmX4_isThere, rmX4_with, rmX4_without, rmX4_vend, rmL_below]; omega) dL_act_232 (Or.inr rfl) (⟨rfl, JS_mk hX hI (hY.up (by omega))⟩)
set_option maxHeartbeats 4000000 in
set_option maxRecDepth 100000 in
theorem act_265 {E : gEnv} {l : Launch} {D : va_G} {cI cG cJ : ClassId} {k0 n0 : Nat} (hl9 : l.stackTraces = false) (hm h2 : Nat) (ad a2 bd pd : Nat → Nat) (T : Int) (hT1 : T ≤ 100) (cnt : Nat) (fv fs fd : Nat → Int) (rm lt tk ov : Int) (w1 : va_W) (sa : Nat) (ra : Nat → Nat) (nw bs : Value) (bS bM : Int) (hX : XW hm ad a2 bd pd cI cG cnt fv fs fd rm lt tk ov w1) (hI : XI cnt fv fs rm) (hY : YI cnt fd lt tk ov T) (x : Int) (C : gC E l rmL_act D 9 RL cL_act cI cG cJ) (hT : gTab E [(26, 170, 451, 60), (171, 232, 451, 60), (233, 264, 451, 60), (265, 341, 451, 60), (342, 380, 451, 60), (381, 450, 451, 60)]) (ret : gRZ E cL_act rmL_act (fun z w9 => z = 1 ∧ JS hm h2 ad a2 bd pd cI cG (T + 1) w9)) (hk : k0 ≤ 5) (hn0 : n0 ≤ 50) (s : Nat) (hs : s < cnt) : gW E k0 n0 ((((wZ h2 sa rm lt tk ov nw bs bS bM) ++ (wG sa cG cnt (rN ra cnt))) ++ (w1)) ++ (wQ ra cI fv fs fd cnt)) 265 [(6, .ref (ra s)), (5, .int (zI 1)), (4, .int (zI (s : Int))), (3, .int (zI (cnt : Int))), (0, .ref hm), (1, .ref h2), (2, .int (zI x))] [] := by
  obtain ⟨hc, hS, h99, hr1, hr2⟩ := id hI
  have hr : 0 ≤ rm ∧ rm ≤ 12 := ⟨by omega, hr2⟩
  refine g_iconst C dL_act_265 ?_
  refine g_iload_n C dL_act_266 6 rfl ?_
  refine g_iconst C dL_act_267 ?_
  refine g_ishr C dL_act_268 (fun z1x z1xr => ?_)
  refine g_iload_n C dL_act_269 6 rfl ?_
  refine g_bipush C dL_act_270 (by decide) ?_
  refine g_ishr C dL_act_272 (fun z2x z2xr => ?_)
  refine g_iconst C dL_act_273 ?_
  refine g_callS (wr := (((wZ h2 sa rm lt tk ov nw bs bS bM) ++ (wG sa cG cnt (rN ra cnt))) ++ (w1)) ++ (wQ ra cI fv fs fd cnt)) (st := [.int (zI z1x), .int (zI 1)]) _ _ C cL_15 (met_L_below l D cI cG cJ z2x 2 (by omega) (zr_i (by omega) (by omega))) gSp_e (by decide) ⟨by dsimp only [rmL_below, rmL_act]; omega, by dsimp only [rmL_below, rmL_act]; omega⟩ rfl rfl (Nat.le_of_ble_eq_true rfl) dL_act_274 ?_
  rintro v9 w9 ⟨b274, rfl, b274h, rfl⟩
  refine g_ws (w' := (((wZ h2 sa rm lt tk ov nw bs bS bM) ++ (wG sa cG cnt (rN ra cnt))) ++ (w1)) ++ (wQ ra cI fv fs fd cnt)) (st' := [.int (zI b274), .int (zI z1x), .int (zI 1)]) (List.append_nil _) rfl ?_
  refine g_if_ne 285 C dL_act_277 (by decide) (zr_i (by omega) (by omega)) (fun c_277 => ?_) (fun c_277 => ?_)
  · refine g_bipush C dL_act_285 (by decide) ?_
    refine g_callS (wr := (((wZ h2 sa rm lt tk ov nw bs bS bM) ++ (wG sa cG cnt (rN ra cnt))) ++ (w1)) ++ (wQ ra cI fv fs fd cnt)) (st := [.int (zI 1)]) _ _ C cL_15 (met_L_below l D cI cG cJ z1x 8 (by omega) (zr_i (by omega) (by omega))) gSp_e (by decide) ⟨by dsimp only [rmL_below, rmL_act]; omega, by dsimp only [rmL_below, rmL_act]; omega⟩ rfl rfl (Nat.le_of_ble_eq_true rfl) dL_act_287 ?_
    rintro v9 w9 ⟨b287, rfl, b287h, rfl⟩
    refine g_ws (w' := (((wZ h2 sa rm lt tk ov nw bs bS bM) ++ (wG sa cG cnt (rN ra cnt))) ++ (w1)) ++ (wQ ra cI fv fs fd cnt)) (st' := [.int (zI b287), .int (zI 1)]) (List.append_nil _) rfl ?_
    refine g_iadd C dL_act_290 ?_
    refine g_istore (L' := [(7, .int (zI (1 + b287))), (6, .ref (ra s)), (5, .int (zI 1)), (4, .int (zI (s : Int))), (3, .int (zI (cnt : Int))), (0, .ref hm), (1, .ref h2), (2, .int (zI x))]) C dL_act_291 (by decide) rfl ?_
    have hsb := hS.2.1 s hs
    have hs9 := h99 s hs
    refine g_aload C dL_act_293 1 rfl ?_
    refine g_iconst C dL_act_295 ?_
    refine g_aload C dL_act_296 1 rfl ?_
    refine g_iconst C dL_act_298 ?_
    refine g_iald C _ (wQ_at (j := s) (by omega)) (by decide) (by decide) (by decide) (v := (fs s)) rfl dL_act_299 ?_
    refine g_iload C dL_act_300 0 rfl ?_
    refine g_iadd C dL_act_302 ?_
    refine g_bipush C dL_act_303 (by decide) ?_
    refine g_icmp_le 313 C dL_act_305 (by decide) (zr_i (by omega) (by omega)) (zr_i (by omega) (by omega)) (fun c_305 => ?_) (fun c_305 => ?_)
    · refine g_aload C dL_act_313 1 rfl ?_
      refine g_iconst C dL_act_315 ?_
      refine g_iald C _ (wQ_at (j := s) (by omega)) (by decide) (by decide) (by decide) (v := (fs s)) rfl dL_act_316 ?_
      refine g_iload C dL_act_317 0 rfl ?_
      refine g_iadd C dL_act_319 ?_
      refine g_top (min (fs s + (1 + b287)) 99) (by omega) ?_
      refine g_iast (w' := (((wZ h2 sa rm lt tk ov nw bs bS bM) ++ (wG sa cG cnt (rN ra cnt))) ++ (w1)) ++ (wQ ra cI fv (zU fs s (min (fs s + (1 + b287)) 99)) fd cnt)) C _ (wQ_at (j := s) (by omega)) (by decide) (by decide) (by decide) (wQ_s1 (by omega)) dL_act_320 ?_
      refine g_aload_n C dL_act_321 5 rfl ?_
      refine g_iload C dL_act_322 3 rfl ?_
      refine g_iload C dL_act_324 0 rfl ?_
      refine g_mods [wZ h2 sa rm lt tk ov nw bs bS bM, wG sa cG cnt (rN ra cnt), w1, wQ ra cI fv (zU fs s (min (fs s + (1 + b287)) 99)) fd cnt] [wZ h2 sa rm lt tk ov nw bs bS bM, wG sa cG cnt (rN ra cnt), wQ ra cI fv (zU fs s (min (fs s + (1 + b287)) 99)) fd cnt, w1] [0, 1, 3, 2] (by decide) rfl ?_
      refine g_ws (w' := (((wZ h2 sa rm lt tk ov nw bs bS bM) ++ (wG sa cG cnt (rN ra cnt))) ++ (wQ ra cI fv (zU fs s (min (fs s + (1 + b287)) 99)) fd cnt)) ++ (w1)) rfl rfl ?_
      obtain ⟨c20, gv0, gs0, gd0, tc0, tr0, ft0, tv0, tu0, fc0, M0, fa0, fb0, N0, rfl⟩ := hX
      refine g_callVX (wr := ((wZ h2 sa rm lt tk ov nw bs bS bM) ++ (wG sa cG cnt (rN ra cnt))) ++ (wQ ra cI fv (zU fs s (min (fs s + (1 + b287)) 99)) fd cnt)) (st := []) _ _ C cL_42 (met_X3_print l hl9 D cI cG cJ hm ad a2 bd pd cnt fv fs fd rm lt tk ov hI c20 gv0 gs0 gd0 tc0 tr0 ft0 tv0 tu0 fc0 M0 fa0 fb0 N0 (s : Int) (1 + b287) (zr_i (by omega) (by omega)) (zr_i (by omega) (by omega))) gSp_r (ci := 3) (q0 := ((((wZ h2 sa rm lt tk ov nw bs bS bM) ++ (wG sa cG cnt (rN ra cnt))) ++ (wQ ra cI fv (zU fs s (min (fs s + (1 + b287)) 99)) fd cnt)) : va_W).length) (at_r rfl) rfl (by decide) ⟨by dsimp only [rmX3_print, rmL_act]; omega, by dsimp only [rmX3_print, rmL_act]; omega⟩ rfl rfl (Nat.le_of_ble_eq_true rfl) dL_act_326 (fun nm9 w9 h9 => ?_) ?_
      · exfalso
        rcases h9 with ⟨_, h8, _⟩ | ⟨_, _, h8, _⟩
        · exact h8 ⟨by omega, by omega⟩
        · exact h8 ⟨by omega, by omega⟩
      rintro v9 w9 ⟨z9, rfl, hz9, hX⟩
      have hz8 : z9 = min (fs s + (1 + b287)) 99 := hz9.2.2
      refine g_ws (w' := (((wZ h2 sa rm lt tk ov nw bs bS bM) ++ (wG sa cG cnt (rN ra cnt))) ++ (wQ ra cI fv (zU fs s (min (fs s + (1 + b287)) 99)) fd cnt)) ++ (w9)) (st' := [.int (zI z9)]) (by simp only [List.append_assoc]) rfl ?_
      refine g_mods [wZ h2 sa rm lt tk ov nw bs bS bM, wG sa cG cnt (rN ra cnt), wQ ra cI fv (zU fs s (min (fs s + (1 + b287)) 99)) fd cnt, w9] [wZ h2 sa rm lt tk ov nw bs bS bM, wG sa cG cnt (rN ra cnt), w9, wQ ra cI fv (zU fs s (min (fs s + (1 + b287)) 99)) fd cnt] [0, 1, 3, 2] (by decide) rfl ?_
      refine g_ws (w' := (((wZ h2 sa rm lt tk ov nw bs bS bM) ++ (wG sa cG cnt (rN ra cnt))) ++ (w9)) ++ (wQ ra cI fv (zU fs s (min (fs s + (1 + b287)) 99)) fd cnt)) rfl rfl ?_
      refine g_aload C dL_act_329 1 rfl ?_
      refine g_iconst C dL_act_331 ?_
      refine g_iald C _ (wQ_at (j := s) (by omega)) (by decide) (by decide) (by decide) (v := ((zU fs s (min (fs s + (1 + b287)) 99)) s)) rfl dL_act_332 ?_
      refine g_top (min (fs s + (1 + b287)) 99) (if_pos rfl) ?_
      refine g_icmp_ne 340 C dL_act_333 (by decide) (zr_i (by omega) (by omega)) (zr_i (by omega) (by omega)) (fun c_333 => ?_) (fun c_333 => ?_)
      · exfalso; omega
      · refine g_iconst C dL_act_336 ?_
        refine g_goto 341 C dL_act_337 (by decide) ?_
        refine g_mods [wZ h2 sa rm lt tk ov nw bs bS bM, wG sa cG cnt (rN ra cnt), w9, wQ ra cI fv (zU fs s (min (fs s + (1 + b287)) 99)) fd cnt] [w9, wZ h2 sa rm lt tk ov nw bs bS bM, wG sa cG cnt (rN ra cnt), wQ ra cI fv (zU fs s (min (fs s + (1 + b287)) 99)) fd cnt] [2, 0, 1, 3] (by decide) rfl ?_
        refine g_ws (w' := (((w9) ++ (wZ h2 sa rm lt tk ov nw bs bS bM)) ++ (wG sa cG cnt (rN ra cnt))) ++ (wQ ra cI fv (zU fs s (min (fs s + (1 + b287)) 99)) fd cnt)) rfl rfl ?_
        exact ret _ _ _ _ _ _ (by dsimp only [rmL_act, rmX3_addStamp, rmX3_vend, rmX3_print, rmX3_setRoom, rmX3_withdraw, rmX4_isThere, rmX4_with, rmX4_without, rmX4_vend, rmL_below]; omega) (by dsimp only [rmL_act, rmX3_addStamp, rmX3_vend, rmX3_print, rmX3_setRoom, rmX3_withdraw, rmX4_isThere, rmX4_with, rmX4_without, rmX4_vend, rmL_below]; omega) dL_act_341 (Or.inr rfl) (⟨rfl, JS_mk hX (xi_print hI hs (by omega)) (hY.up (by omega))⟩)
    · refine g_bipush C dL_act_308 (by decide) ?_
      refine g_goto 320 C dL_act_310 (by decide) ?_
      refine g_top (min (fs s + (1 + b287)) 99) (by omega) ?_
      refine g_iast (w' := (((wZ h2 sa rm lt tk ov nw bs bS bM) ++ (wG sa cG cnt (rN ra cnt))) ++ (w1)) ++ (wQ ra cI fv (zU fs s (min (fs s + (1 + b287)) 99)) fd cnt)) C _ (wQ_at (j := s) (by omega)) (by decide) (by decide) (by decide) (wQ_s1 (by omega)) dL_act_320 ?_
      refine g_aload_n C dL_act_321 5 rfl ?_
      refine g_iload C dL_act_322 3 rfl ?_
      refine g_iload C dL_act_324 0 rfl ?_
      refine g_mods [wZ h2 sa rm lt tk ov nw bs bS bM, wG sa cG cnt (rN ra cnt), w1, wQ ra cI fv (zU fs s (min (fs s + (1 + b287)) 99)) fd cnt] [wZ h2 sa rm lt tk ov nw bs bS bM, wG sa cG cnt (rN ra cnt), wQ ra cI fv (zU fs s (min (fs s + (1 + b287)) 99)) fd cnt, w1] [0, 1, 3, 2] (by decide) rfl ?_
      refine g_ws (w' := (((wZ h2 sa rm lt tk ov nw bs bS bM) ++ (wG sa cG cnt (rN ra cnt))) ++ (wQ ra cI fv (zU fs s (min (fs s + (1 + b287)) 99)) fd cnt)) ++ (w1)) rfl rfl ?_
      obtain ⟨c20, gv0, gs0, gd0, tc0, tr0, ft0, tv0, tu0, fc0, M0, fa0, fb0, N0, rfl⟩ := hX
      refine g_callVX (wr := ((wZ h2 sa rm lt tk ov nw bs bS bM) ++ (wG sa cG cnt (rN ra cnt))) ++ (wQ ra cI fv (zU fs s (min (fs s + (1 + b287)) 99)) fd cnt)) (st := []) _ _ C cL_42 (met_X3_print l hl9 D cI cG cJ hm ad a2 bd pd cnt fv fs fd rm lt tk ov hI c20 gv0 gs0 gd0 tc0 tr0 ft0 tv0 tu0 fc0 M0 fa0 fb0 N0 (s : Int) (1 + b287) (zr_i (by omega) (by omega)) (zr_i (by omega) (by omega))) gSp_r (ci := 3) (q0 := ((((wZ h2 sa rm lt tk ov nw bs bS bM) ++ (wG sa cG cnt (rN ra cnt))) ++ (wQ ra cI fv (zU fs s (min (fs s + (1 + b287)) 99)) fd cnt)) : va_W).length) (at_r rfl) rfl (by decide) ⟨by dsimp only [rmX3_print, rmL_act]; omega, by dsimp only [rmX3_print, rmL_act]; omega⟩ rfl rfl (Nat.le_of_ble_eq_true rfl) dL_act_326 (fun nm9 w9 h9 => ?_) ?_
      · exfalso
        rcases h9 with ⟨_, h8, _⟩ | ⟨_, _, h8, _⟩
        · exact h8 ⟨by omega, by omega⟩
        · exact h8 ⟨by omega, by omega⟩
      rintro v9 w9 ⟨z9, rfl, hz9, hX⟩
      have hz8 : z9 = min (fs s + (1 + b287)) 99 := hz9.2.2
      refine g_ws (w' := (((wZ h2 sa rm lt tk ov nw bs bS bM) ++ (wG sa cG cnt (rN ra cnt))) ++ (wQ ra cI fv (zU fs s (min (fs s + (1 + b287)) 99)) fd cnt)) ++ (w9)) (st' := [.int (zI z9)]) (by simp only [List.append_assoc]) rfl ?_
      refine g_mods [wZ h2 sa rm lt tk ov nw bs bS bM, wG sa cG cnt (rN ra cnt), wQ ra cI fv (zU fs s (min (fs s + (1 + b287)) 99)) fd cnt, w9] [wZ h2 sa rm lt tk ov nw bs bS bM, wG sa cG cnt (rN ra cnt), w9, wQ ra cI fv (zU fs s (min (fs s + (1 + b287)) 99)) fd cnt] [0, 1, 3, 2] (by decide) rfl ?_
      refine g_ws (w' := (((wZ h2 sa rm lt tk ov nw bs bS bM) ++ (wG sa cG cnt (rN ra cnt))) ++ (w9)) ++ (wQ ra cI fv (zU fs s (min (fs s + (1 + b287)) 99)) fd cnt)) rfl rfl ?_
      refine g_aload C dL_act_329 1 rfl ?_
      refine g_iconst C dL_act_331 ?_
      refine g_iald C _ (wQ_at (j := s) (by omega)) (by decide) (by decide) (by decide) (v := ((zU fs s (min (fs s + (1 + b287)) 99)) s)) rfl dL_act_332 ?_
      refine g_top (min (fs s + (1 + b287)) 99) (if_pos rfl) ?_
      refine g_icmp_ne 340 C dL_act_333 (by decide) (zr_i (by omega) (by omega)) (zr_i (by omega) (by omega)) (fun c_333 => ?_) (fun c_333 => ?_)
      · exfalso; omega
      · refine g_iconst C dL_act_336 ?_
        refine g_goto 341 C dL_act_337 (by decide) ?_
        refine g_mods [wZ h2 sa rm lt tk ov nw bs bS bM, wG sa cG cnt (rN ra cnt), w9, wQ ra cI fv (zU fs s (min (fs s + (1 + b287)) 99)) fd cnt] [w9, wZ h2 sa rm lt tk ov nw bs bS bM, wG sa cG cnt (rN ra cnt), wQ ra cI fv (zU fs s (min (fs s + (1 + b287)) 99)) fd cnt] [2, 0, 1, 3] (by decide) rfl ?_
        refine g_ws (w' := (((w9) ++ (wZ h2 sa rm lt tk ov nw bs bS bM)) ++ (wG sa cG cnt (rN ra cnt))) ++ (wQ ra cI fv (zU fs s (min (fs s + (1 + b287)) 99)) fd cnt)) rfl rfl ?_
        exact ret _ _ _ _ _ _ (by dsimp only [rmL_act, rmX3_addStamp, rmX3_vend, rmX3_print, rmX3_setRoom, rmX3_withdraw, rmX4_isThere, rmX4_with, rmX4_without, rmX4_vend, rmL_below]; omega) (by dsimp only [rmL_act, rmX3_addStamp, rmX3_vend, rmX3_print, rmX3_setRoom, rmX3_withdraw, rmX4_isThere, rmX4_with, rmX4_without, rmX4_vend, rmL_below]; omega) dL_act_341 (Or.inr rfl) (⟨rfl, JS_mk hX (xi_print hI hs (by omega)) (hY.up (by omega))⟩)
  · refine g_bipush C dL_act_280 (by decide) ?_
    refine g_goto 287 C dL_act_282 (by decide) ?_
    refine g_callS (wr := (((wZ h2 sa rm lt tk ov nw bs bS bM) ++ (wG sa cG cnt (rN ra cnt))) ++ (w1)) ++ (wQ ra cI fv fs fd cnt)) (st := [.int (zI 1)]) _ _ C cL_15 (met_L_below l D cI cG cJ z1x 99 (by omega) (zr_i (by omega) (by omega))) gSp_e (by decide) ⟨by dsimp only [rmL_below, rmL_act]; omega, by dsimp only [rmL_below, rmL_act]; omega⟩ rfl rfl (Nat.le_of_ble_eq_true rfl) dL_act_287 ?_
    rintro v9 w9 ⟨b287, rfl, b287h, rfl⟩
    refine g_ws (w' := (((wZ h2 sa rm lt tk ov nw bs bS bM) ++ (wG sa cG cnt (rN ra cnt))) ++ (w1)) ++ (wQ ra cI fv fs fd cnt)) (st' := [.int (zI b287), .int (zI 1)]) (List.append_nil _) rfl ?_
    refine g_iadd C dL_act_290 ?_
    refine g_istore (L' := [(7, .int (zI (1 + b287))), (6, .ref (ra s)), (5, .int (zI 1)), (4, .int (zI (s : Int))), (3, .int (zI (cnt : Int))), (0, .ref hm), (1, .ref h2), (2, .int (zI x))]) C dL_act_291 (by decide) rfl ?_
    have hsb := hS.2.1 s hs
    have hs9 := h99 s hs
    refine g_aload C dL_act_293 1 rfl ?_
    refine g_iconst C dL_act_295 ?_
    refine g_aload C dL_act_296 1 rfl ?_
    refine g_iconst C dL_act_298 ?_
    refine g_iald C _ (wQ_at (j := s) (by omega)) (by decide) (by decide) (by decide) (v := (fs s)) rfl dL_act_299 ?_
    refine g_iload C dL_act_300 0 rfl ?_
    refine g_iadd C dL_act_302 ?_
    refine g_bipush C dL_act_303 (by decide) ?_
    refine g_icmp_le 313 C dL_act_305 (by decide) (zr_i (by omega) (by omega)) (zr_i (by omega) (by omega)) (fun c_305 => ?_) (fun c_305 => ?_)
    · refine g_aload C dL_act_313 1 rfl ?_
      refine g_iconst C dL_act_315 ?_
      refine g_iald C _ (wQ_at (j := s) (by omega)) (by decide) (by decide) (by decide) (v := (fs s)) rfl dL_act_316 ?_
      refine g_iload C dL_act_317 0 rfl ?_
      refine g_iadd C dL_act_319 ?_
      refine g_top (min (fs s + (1 + b287)) 99) (by omega) ?_
      refine g_iast (w' := (((wZ h2 sa rm lt tk ov nw bs bS bM) ++ (wG sa cG cnt (rN ra cnt))) ++ (w1)) ++ (wQ ra cI fv (zU fs s (min (fs s + (1 + b287)) 99)) fd cnt)) C _ (wQ_at (j := s) (by omega)) (by decide) (by decide) (by decide) (wQ_s1 (by omega)) dL_act_320 ?_
      refine g_aload_n C dL_act_321 5 rfl ?_
      refine g_iload C dL_act_322 3 rfl ?_
      refine g_iload C dL_act_324 0 rfl ?_
      refine g_mods [wZ h2 sa rm lt tk ov nw bs bS bM, wG sa cG cnt (rN ra cnt), w1, wQ ra cI fv (zU fs s (min (fs s + (1 + b287)) 99)) fd cnt] [wZ h2 sa rm lt tk ov nw bs bS bM, wG sa cG cnt (rN ra cnt), wQ ra cI fv (zU fs s (min (fs s + (1 + b287)) 99)) fd cnt, w1] [0, 1, 3, 2] (by decide) rfl ?_
      refine g_ws (w' := (((wZ h2 sa rm lt tk ov nw bs bS bM) ++ (wG sa cG cnt (rN ra cnt))) ++ (wQ ra cI fv (zU fs s (min (fs s + (1 + b287)) 99)) fd cnt)) ++ (w1)) rfl rfl ?_
      obtain ⟨c20, gv0, gs0, gd0, tc0, tr0, ft0, tv0, tu0, fc0, M0, fa0, fb0, N0, rfl⟩ := hX
      refine g_callVX (wr := ((wZ h2 sa rm lt tk ov nw bs bS bM) ++ (wG sa cG cnt (rN ra cnt))) ++ (wQ ra cI fv (zU fs s (min (fs s + (1 + b287)) 99)) fd cnt)) (st := []) _ _ C cL_42 (met_X3_print l hl9 D cI cG cJ hm ad a2 bd pd cnt fv fs fd rm lt tk ov hI c20 gv0 gs0 gd0 tc0 tr0 ft0 tv0 tu0 fc0 M0 fa0 fb0 N0 (s : Int) (1 + b287) (zr_i (by omega) (by omega)) (zr_i (by omega) (by omega))) gSp_r (ci := 3) (q0 := ((((wZ h2 sa rm lt tk ov nw bs bS bM) ++ (wG sa cG cnt (rN ra cnt))) ++ (wQ ra cI fv (zU fs s (min (fs s + (1 + b287)) 99)) fd cnt)) : va_W).length) (at_r rfl) rfl (by decide) ⟨by dsimp only [rmX3_print, rmL_act]; omega, by dsimp only [rmX3_print, rmL_act]; omega⟩ rfl rfl (Nat.le_of_ble_eq_true rfl) dL_act_326 (fun nm9 w9 h9 => ?_) ?_
      · exfalso
        rcases h9 with ⟨_, h8, _⟩ | ⟨_, _, h8, _⟩
        · exact h8 ⟨by omega, by omega⟩
        · exact h8 ⟨by omega, by omega⟩
      rintro v9 w9 ⟨z9, rfl, hz9, hX⟩
      have hz8 : z9 = min (fs s + (1 + b287)) 99 := hz9.2.2
      refine g_ws (w' := (((wZ h2 sa rm lt tk ov nw bs bS bM) ++ (wG sa cG cnt (rN ra cnt))) ++ (wQ ra cI fv (zU fs s (min (fs s + (1 + b287)) 99)) fd cnt)) ++ (w9)) (st' := [.int (zI z9)]) (by simp only [List.append_assoc]) rfl ?_
      refine g_mods [wZ h2 sa rm lt tk ov nw bs bS bM, wG sa cG cnt (rN ra cnt), wQ ra cI fv (zU fs s (min (fs s + (1 + b287)) 99)) fd cnt, w9] [wZ h2 sa rm lt tk ov nw bs bS bM, wG sa cG cnt (rN ra cnt), w9, wQ ra cI fv (zU fs s (min (fs s + (1 + b287)) 99)) fd cnt] [0, 1, 3, 2] (by decide) rfl ?_
      refine g_ws (w' := (((wZ h2 sa rm lt tk ov nw bs bS bM) ++ (wG sa cG cnt (rN ra cnt))) ++ (w9)) ++ (wQ ra cI fv (zU fs s (min (fs s + (1 + b287)) 99)) fd cnt)) rfl rfl ?_
      refine g_aload C dL_act_329 1 rfl ?_
      refine g_iconst C dL_act_331 ?_
      refine g_iald C _ (wQ_at (j := s) (by omega)) (by decide) (by decide) (by decide) (v := ((zU fs s (min (fs s + (1 + b287)) 99)) s)) rfl dL_act_332 ?_
      refine g_top (min (fs s + (1 + b287)) 99) (if_pos rfl) ?_
      refine g_icmp_ne 340 C dL_act_333 (by decide) (zr_i (by omega) (by omega)) (zr_i (by omega) (by omega)) (fun c_333 => ?_) (fun c_333 => ?_)
      · exfalso; omega
      · refine g_iconst C dL_act_336 ?_
        refine g_goto 341 C dL_act_337 (by decide) ?_
        refine g_mods [wZ h2 sa rm lt tk ov nw bs bS bM, wG sa cG cnt (rN ra cnt), w9, wQ ra cI fv (zU fs s (min (fs s + (1 + b287)) 99)) fd cnt] [w9, wZ h2 sa rm lt tk ov nw bs bS bM, wG sa cG cnt (rN ra cnt), wQ ra cI fv (zU fs s (min (fs s + (1 + b287)) 99)) fd cnt] [2, 0, 1, 3] (by decide) rfl ?_
        refine g_ws (w' := (((w9) ++ (wZ h2 sa rm lt tk ov nw bs bS bM)) ++ (wG sa cG cnt (rN ra cnt))) ++ (wQ ra cI fv (zU fs s (min (fs s + (1 + b287)) 99)) fd cnt)) rfl rfl ?_
        exact ret _ _ _ _ _ _ (by dsimp only [rmL_act, rmX3_addStamp, rmX3_vend, rmX3_print, rmX3_setRoom, rmX3_withdraw, rmX4_isThere, rmX4_with, rmX4_without, rmX4_vend, rmL_below]; omega) (by dsimp only [rmL_act, rmX3_addStamp, rmX3_vend, rmX3_print, rmX3_setRoom, rmX3_withdraw, rmX4_isThere, rmX4_with, rmX4_without, rmX4_vend, rmL_below]; omega) dL_act_341 (Or.inr rfl) (⟨rfl, JS_mk hX (xi_print hI hs (by omega)) (hY.up (by omega))⟩)
    · refine g_bipush C dL_act_308 (by decide) ?_
      refine g_goto 320 C dL_act_310 (by decide) ?_
      refine g_top (min (fs s + (1 + b287)) 99) (by omega) ?_
      refine g_iast (w' := (((wZ h2 sa rm lt tk ov nw bs bS bM) ++ (wG sa cG cnt (rN ra cnt))) ++ (w1)) ++ (wQ ra cI fv (zU fs s (min (fs s + (1 + b287)) 99)) fd cnt)) C _ (wQ_at (j := s) (by omega)) (by decide) (by decide) (by decide) (wQ_s1 (by omega)) dL_act_320 ?_
      refine g_aload_n C dL_act_321 5 rfl ?_
      refine g_iload C dL_act_322 3 rfl ?_
      refine g_iload C dL_act_324 0 rfl ?_
      refine g_mods [wZ h2 sa rm lt tk ov nw bs bS bM, wG sa cG cnt (rN ra cnt), w1, wQ ra cI fv (zU fs s (min (fs s + (1 + b287)) 99)) fd cnt] [wZ h2 sa rm lt tk ov nw bs bS bM, wG sa cG cnt (rN ra cnt), wQ ra cI fv (zU fs s (min (fs s + (1 + b287)) 99)) fd cnt, w1] [0, 1, 3, 2] (by decide) rfl ?_
      refine g_ws (w' := (((wZ h2 sa rm lt tk ov nw bs bS bM) ++ (wG sa cG cnt (rN ra cnt))) ++ (wQ ra cI fv (zU fs s (min (fs s + (1 + b287)) 99)) fd cnt)) ++ (w1)) rfl rfl ?_
      obtain ⟨c20, gv0, gs0, gd0, tc0, tr0, ft0, tv0, tu0, fc0, M0, fa0, fb0, N0, rfl⟩ := hX
      refine g_callVX (wr := ((wZ h2 sa rm lt tk ov nw bs bS bM) ++ (wG sa cG cnt (rN ra cnt))) ++ (wQ ra cI fv (zU fs s (min (fs s + (1 + b287)) 99)) fd cnt)) (st := []) _ _ C cL_42 (met_X3_print l hl9 D cI cG cJ hm ad a2 bd pd cnt fv fs fd rm lt tk ov hI c20 gv0 gs0 gd0 tc0 tr0 ft0 tv0 tu0 fc0 M0 fa0 fb0 N0 (s : Int) (1 + b287) (zr_i (by omega) (by omega)) (zr_i (by omega) (by omega))) gSp_r (ci := 3) (q0 := ((((wZ h2 sa rm lt tk ov nw bs bS bM) ++ (wG sa cG cnt (rN ra cnt))) ++ (wQ ra cI fv (zU fs s (min (fs s + (1 + b287)) 99)) fd cnt)) : va_W).length) (at_r rfl) rfl (by decide) ⟨by dsimp only [rmX3_print, rmL_act]; omega, by dsimp only [rmX3_print, rmL_act]; omega⟩ rfl rfl (Nat.le_of_ble_eq_true rfl) dL_act_326 (fun nm9 w9 h9 => ?_) ?_
      · exfalso
        rcases h9 with ⟨_, h8, _⟩ | ⟨_, _, h8, _⟩
        · exact h8 ⟨by omega, by omega⟩
        · exact h8 ⟨by omega, by omega⟩
      rintro v9 w9 ⟨z9, rfl, hz9, hX⟩
      have hz8 : z9 = min (fs s + (1 + b287)) 99 := hz9.2.2
      refine g_ws (w' := (((wZ h2 sa rm lt tk ov nw bs bS bM) ++ (wG sa cG cnt (rN ra cnt))) ++ (wQ ra cI fv (zU fs s (min (fs s + (1 + b287)) 99)) fd cnt)) ++ (w9)) (st' := [.int (zI z9)]) (by simp only [List.append_assoc]) rfl ?_
      refine g_mods [wZ h2 sa rm lt tk ov nw bs bS bM, wG sa cG cnt (rN ra cnt), wQ ra cI fv (zU fs s (min (fs s + (1 + b287)) 99)) fd cnt, w9] [wZ h2 sa rm lt tk ov nw bs bS bM, wG sa cG cnt (rN ra cnt), w9, wQ ra cI fv (zU fs s (min (fs s + (1 + b287)) 99)) fd cnt] [0, 1, 3, 2] (by decide) rfl ?_
      refine g_ws (w' := (((wZ h2 sa rm lt tk ov nw bs bS bM) ++ (wG sa cG cnt (rN ra cnt))) ++ (w9)) ++ (wQ ra cI fv (zU fs s (min (fs s + (1 + b287)) 99)) fd cnt)) rfl rfl ?_
      refine g_aload C dL_act_329 1 rfl ?_
      refine g_iconst C dL_act_331 ?_
      refine g_iald C _ (wQ_at (j := s) (by omega)) (by decide) (by decide) (by decide) (v := ((zU fs s (min (fs s + (1 + b287)) 99)) s)) rfl dL_act_332 ?_
      refine g_top (min (fs s + (1 + b287)) 99) (if_pos rfl) ?_
      refine g_icmp_ne 340 C dL_act_333 (by decide) (zr_i (by omega) (by omega)) (zr_i (by omega) (by omega)) (fun c_333 => ?_) (fun c_333 => ?_)
      · exfalso; omega
      · refine g_iconst C dL_act_336 ?_
        refine g_goto 341 C dL_act_337 (by decide) ?_
        refine g_mods [wZ h2 sa rm lt tk ov nw bs bS bM, wG sa cG cnt (rN ra cnt), w9, wQ ra cI fv (zU fs s (min (fs s + (1 + b287)) 99)) fd cnt] [w9, wZ h2 sa rm lt tk ov nw bs bS bM, wG sa cG cnt (rN ra cnt), wQ ra cI fv (zU fs s (min (fs s + (1 + b287)) 99)) fd cnt] [2, 0, 1, 3] (by decide) rfl ?_
        refine g_ws (w' := (((w9) ++ (wZ h2 sa rm lt tk ov nw bs bS bM)) ++ (wG sa cG cnt (rN ra cnt))) ++ (wQ ra cI fv (zU fs s (min (fs s + (1 + b287)) 99)) fd cnt)) rfl rfl ?_
        exact ret _ _ _ _ _ _ (by dsimp only [rmL_act, rmX3_addStamp, rmX3_vend, rmX3_print, rmX3_setRoom, rmX3_withdraw, rmX4_isThere, rmX4_with, rmX4_without, rmX4_vend, rmL_below]; omega) (by dsimp only [rmL_act, rmX3_addStamp, rmX3_vend, rmX3_print, rmX3_setRoom, rmX3_withdraw, rmX4_isThere, rmX4_with, rmX4_without, rmX4_vend, rmL_below]; omega) dL_act_341 (Or.inr rfl) (⟨rfl, JS_mk hX (xi_print hI hs (by omega)) (hY.up (by omega))⟩)
set_option maxHeartbeats 4000000 in
set_option maxRecDepth 100000 in
theorem act_342 {E : gEnv} {l : Launch} {D : va_G} {cI cG cJ : ClassId} {k0 n0 : Nat} (hl9 : l.stackTraces = false) (hm h2 : Nat) (ad a2 bd pd : Nat → Nat) (T : Int) (hT1 : T ≤ 100) (cnt : Nat) (fv fs fd : Nat → Int) (rm lt tk ov : Int) (w1 : va_W) (sa : Nat) (ra : Nat → Nat) (nw bs : Value) (bS bM : Int) (hX : XW hm ad a2 bd pd cI cG cnt fv fs fd rm lt tk ov w1) (hI : XI cnt fv fs rm) (hY : YI cnt fd lt tk ov T) (x : Int) (C : gC E l rmL_act D 9 RL cL_act cI cG cJ) (hT : gTab E [(26, 170, 451, 60), (171, 232, 451, 60), (233, 264, 451, 60), (265, 341, 451, 60), (342, 380, 451, 60), (381, 450, 451, 60)]) (ret : gRZ E cL_act rmL_act (fun z w9 => z = 1 ∧ JS hm h2 ad a2 bd pd cI cG (T + 1) w9)) (hk : k0 ≤ 5) (hn0 : n0 ≤ 50) (s : Nat) (hs : s < cnt) : gW E k0 n0 ((((wZ h2 sa rm lt tk ov nw bs bS bM) ++ (wG sa cG cnt (rN ra cnt))) ++ (w1)) ++ (wQ ra cI fv fs fd cnt)) 342 [(6, .ref (ra s)), (5, .int (zI 1)), (4, .int (zI (s : Int))), (3, .int (zI (cnt : Int))), (0, .ref hm), (1, .ref h2), (2, .int (zI x))] [] := by
  obtain ⟨hc, hS, h99, hr1, hr2⟩ := id hI
  have hr : 0 ≤ rm ∧ rm ≤ 12 := ⟨by omega, hr2⟩
  refine g_aload_n C dL_act_342 5 rfl ?_
  refine g_getf C fL_45 0 rfl rfl dL_act_343 ?_
  refine g_istore (L' := [(7, .int (zI rm)), (6, .ref (ra s)), (5, .int (zI 1)), (4, .int (zI (s : Int))), (3, .int (zI (cnt : Int))), (0, .ref hm), (1, .ref h2), (2, .int (zI x))]) C dL_act_346 (by decide) rfl ?_
  refine g_aload_n C dL_act_348 6 rfl ?_
  refine g_iconst C dL_act_349 ?_
  refine g_iload_n C dL_act_350 7 rfl ?_
  refine g_iconst C dL_act_351 ?_
  refine g_ishr C dL_act_352 (fun z1x z1xr => ?_)
  refine g_bipush C dL_act_353 (by decide) ?_
  refine g_callS (wr := (((wZ h2 sa rm lt tk ov nw bs bS bM) ++ (wG sa cG cnt (rN ra cnt))) ++ (w1)) ++ (wQ ra cI fv fs fd cnt)) (st := [.int (zI 1), .ref h2]) _ _ C cL_15 (met_L_below l D cI cG cJ z1x 12 (by omega) (zr_i (by omega) (by omega))) gSp_e (by decide) ⟨by dsimp only [rmL_below, rmL_act]; omega, by dsimp only [rmL_below, rmL_act]; omega⟩ rfl rfl (Nat.le_of_ble_eq_true rfl) dL_act_355 ?_
  rintro v9 w9 ⟨b355, rfl, b355h, rfl⟩
  refine g_ws (w' := (((wZ h2 sa rm lt tk ov nw bs bS bM) ++ (wG sa cG cnt (rN ra cnt))) ++ (w1)) ++ (wQ ra cI fv fs fd cnt)) (st' := [.int (zI b355), .int (zI 1), .ref h2]) (List.append_nil _) rfl ?_
  refine g_iadd C dL_act_358 ?_
  refine g_putl (w' := (((wZ h2 sa (1 + b355) lt tk ov nw bs bS bM) ++ (wG sa cG cnt (rN ra cnt))) ++ (w1)) ++ (wQ ra cI fv fs fd cnt)) C pL_45 0 rfl rfl rfl (Nat.le_of_ble_eq_true rfl) rfl dL_act_359 ?_
  refine g_aload_n C dL_act_362 5 rfl ?_
  refine g_aload_n C dL_act_363 6 rfl ?_
  refine g_getf C fL_45 0 rfl rfl dL_act_364 ?_
  refine g_mods [wZ h2 sa (1 + b355) lt tk ov nw bs bS bM, wG sa cG cnt (rN ra cnt), w1, wQ ra cI fv fs fd cnt] [wZ h2 sa (1 + b355) lt tk ov nw bs bS bM, wG sa cG cnt (rN ra cnt), wQ ra cI fv fs fd cnt, w1] [0, 1, 3, 2] (by decide) rfl ?_
  refine g_ws (w' := (((wZ h2 sa (1 + b355) lt tk ov nw bs bS bM) ++ (wG sa cG cnt (rN ra cnt))) ++ (wQ ra cI fv fs fd cnt)) ++ (w1)) rfl rfl ?_
  obtain ⟨c20, gv0, gs0, gd0, tc0, tr0, ft0, tv0, tu0, fc0, M0, fa0, fb0, N0, rfl⟩ := hX
  refine g_callVX (wr := ((wZ h2 sa (1 + b355) lt tk ov nw bs bS bM) ++ (wG sa cG cnt (rN ra cnt))) ++ (wQ ra cI fv fs fd cnt)) (st := []) _ _ C cL_49 (met_X3_setRoom l hl9 D cI cG cJ hm ad a2 bd pd cnt fv fs fd rm lt tk ov hI c20 gv0 gs0 gd0 tc0 tr0 ft0 tv0 tu0 fc0 M0 fa0 fb0 N0 (1 + b355) (zr_i (by omega) (by omega))) gSp_r (ci := 3) (q0 := ((((wZ h2 sa (1 + b355) lt tk ov nw bs bS bM) ++ (wG sa cG cnt (rN ra cnt))) ++ (wQ ra cI fv fs fd cnt)) : va_W).length) (at_r rfl) rfl (by decide) ⟨by dsimp only [rmX3_setRoom, rmL_act]; omega, by dsimp only [rmX3_setRoom, rmL_act]; omega⟩ rfl rfl (Nat.le_of_ble_eq_true rfl) dL_act_367 (fun nm9 w9 h9 => ?_) ?_
  · exfalso
    rcases h9 with ⟨_, h8, _⟩
    exact h8 ⟨by omega, by omega⟩
  rintro v9 w9 ⟨z9, rfl, hz9, hX⟩
  refine g_ws (w' := (((wZ h2 sa (1 + b355) lt tk ov nw bs bS bM) ++ (wG sa cG cnt (rN ra cnt))) ++ (wQ ra cI fv fs fd cnt)) ++ (w9)) (st' := [.int (zI z9)]) (by simp only [List.append_assoc]) rfl ?_
  refine g_mods [wZ h2 sa (1 + b355) lt tk ov nw bs bS bM, wG sa cG cnt (rN ra cnt), wQ ra cI fv fs fd cnt, w9] [wZ h2 sa (1 + b355) lt tk ov nw bs bS bM, wG sa cG cnt (rN ra cnt), w9, wQ ra cI fv fs fd cnt] [0, 1, 3, 2] (by decide) rfl ?_
  refine g_ws (w' := (((wZ h2 sa (1 + b355) lt tk ov nw bs bS bM) ++ (wG sa cG cnt (rN ra cnt))) ++ (w9)) ++ (wQ ra cI fv fs fd cnt)) rfl rfl ?_
  refine g_iload C dL_act_370 0 rfl ?_
  refine g_icmp_ne 379 C dL_act_372 (by decide) (zr_i (by omega) (by omega)) (zr_i (by omega) (by omega)) (fun c_372 => ?_) (fun c_372 => ?_)
  · exfalso; omega
  · refine g_iconst C dL_act_375 ?_
    refine g_goto 380 C dL_act_376 (by decide) ?_
    refine g_mods [wZ h2 sa (1 + b355) lt tk ov nw bs bS bM, wG sa cG cnt (rN ra cnt), w9, wQ ra cI fv fs fd cnt] [w9, wZ h2 sa (1 + b355) lt tk ov nw bs bS bM, wG sa cG cnt (rN ra cnt), wQ ra cI fv fs fd cnt] [2, 0, 1, 3] (by decide) rfl ?_
    refine g_ws (w' := (((w9) ++ (wZ h2 sa (1 + b355) lt tk ov nw bs bS bM)) ++ (wG sa cG cnt (rN ra cnt))) ++ (wQ ra cI fv fs fd cnt)) rfl rfl ?_
    exact ret _ _ _ _ _ _ (by dsimp only [rmL_act, rmX3_addStamp, rmX3_vend, rmX3_print, rmX3_setRoom, rmX3_withdraw, rmX4_isThere, rmX4_with, rmX4_without, rmX4_vend, rmL_below]; omega) (by dsimp only [rmL_act, rmX3_addStamp, rmX3_vend, rmX3_print, rmX3_setRoom, rmX3_withdraw, rmX4_isThere, rmX4_with, rmX4_without, rmX4_vend, rmL_below]; omega) dL_act_380 (Or.inr rfl) (⟨rfl, JS_mk hX (xi_room hI (by omega)) (hY.up (by omega))⟩)
set_option maxHeartbeats 4000000 in
set_option maxRecDepth 100000 in
theorem act_381 {E : gEnv} {l : Launch} {D : va_G} {cI cG cJ : ClassId} {k0 n0 : Nat} (hl9 : l.stackTraces = false) (hm h2 : Nat) (ad a2 bd pd : Nat → Nat) (T : Int) (hT1 : T ≤ 100) (cnt : Nat) (fv fs fd : Nat → Int) (rm lt tk ov : Int) (w1 : va_W) (sa : Nat) (ra : Nat → Nat) (nw bs : Value) (bS bM : Int) (hX : XW hm ad a2 bd pd cI cG cnt fv fs fd rm lt tk ov w1) (hI : XI cnt fv fs rm) (hY : YI cnt fd lt tk ov T) (x : Int) (C : gC E l rmL_act D 9 RL cL_act cI cG cJ) (hT : gTab E [(26, 170, 451, 60), (171, 232, 451, 60), (233, 264, 451, 60), (265, 341, 451, 60), (342, 380, 451, 60), (381, 450, 451, 60)]) (ret : gRZ E cL_act rmL_act (fun z w9 => z = 1 ∧ JS hm h2 ad a2 bd pd cI cG (T + 1) w9)) (hk : k0 ≤ 5) (hn0 : n0 ≤ 50) (s : Nat) (hs : s < cnt) : gW E k0 n0 ((((wZ h2 sa rm lt tk ov nw bs bS bM) ++ (wG sa cG cnt (rN ra cnt))) ++ (w1)) ++ (wQ ra cI fv fs fd cnt)) 381 [(6, .ref (ra s)), (5, .int (zI 1)), (4, .int (zI (s : Int))), (3, .int (zI (cnt : Int))), (0, .ref hm), (1, .ref h2), (2, .int (zI x))] [] := by
  obtain ⟨hc, hS, h99, hr1, hr2⟩ := id hI
  have hr : 0 ≤ rm ∧ rm ≤ 12 := ⟨by omega, hr2⟩
  refine g_iconst C dL_act_381 ?_
  refine g_iload_n C dL_act_382 6 rfl ?_
  refine g_iconst C dL_act_383 ?_
  refine g_ishr C dL_act_384 (fun z1x z1xr => ?_)
  refine g_iload_n C dL_act_385 6 rfl ?_
  refine g_bipush C dL_act_386 (by decide) ?_
  refine g_ishr C dL_act_388 (fun z2x z2xr => ?_)
  refine g_iconst C dL_act_389 ?_
  refine g_callS (wr := (((wZ h2 sa rm lt tk ov nw bs bS bM) ++ (wG sa cG cnt (rN ra cnt))) ++ (w1)) ++ (wQ ra cI fv fs fd cnt)) (st := [.int (zI z1x), .int (zI 1)]) _ _ C cL_15 (met_L_below l D cI cG cJ z2x 2 (by omega) (zr_i (by omega) (by omega))) gSp_e (by decide) ⟨by dsimp only [rmL_below, rmL_act]; omega, by dsimp only [rmL_below, rmL_act]; omega⟩ rfl rfl (Nat.le_of_ble_eq_true rfl) dL_act_390 ?_
  rintro v9 w9 ⟨b390, rfl, b390h, rfl⟩
  refine g_ws (w' := (((wZ h2 sa rm lt tk ov nw bs bS bM) ++ (wG sa cG cnt (rN ra cnt))) ++ (w1)) ++ (wQ ra cI fv fs fd cnt)) (st' := [.int (zI b390), .int (zI z1x), .int (zI 1)]) (List.append_nil _) rfl ?_
  refine g_if_ne 402 C dL_act_393 (by decide) (zr_i (by omega) (by omega)) (fun c_393 => ?_) (fun c_393 => ?_)
  · refine g_bipush C dL_act_402 (by decide) ?_
    refine g_callS (wr := (((wZ h2 sa rm lt tk ov nw bs bS bM) ++ (wG sa cG cnt (rN ra cnt))) ++ (w1)) ++ (wQ ra cI fv fs fd cnt)) (st := [.int (zI 1)]) _ _ C cL_15 (met_L_below l D cI cG cJ z1x 60 (by omega) (zr_i (by omega) (by omega))) gSp_e (by decide) ⟨by dsimp only [rmL_below, rmL_act]; omega, by dsimp only [rmL_below, rmL_act]; omega⟩ rfl rfl (Nat.le_of_ble_eq_true rfl) dL_act_404 ?_
    rintro v9 w9 ⟨b404, rfl, b404h, rfl⟩
    refine g_ws (w' := (((wZ h2 sa rm lt tk ov nw bs bS bM) ++ (wG sa cG cnt (rN ra cnt))) ++ (w1)) ++ (wQ ra cI fv fs fd cnt)) (st' := [.int (zI b404), .int (zI 1)]) (List.append_nil _) rfl ?_
    refine g_iadd C dL_act_407 ?_
    refine g_istore (L' := [(7, .int (zI (1 + b404))), (6, .ref (ra s)), (5, .int (zI 1)), (4, .int (zI (s : Int))), (3, .int (zI (cnt : Int))), (0, .ref hm), (1, .ref h2), (2, .int (zI x))]) C dL_act_408 (by decide) rfl ?_
    obtain ⟨p, hp⟩ : ∃ p : Nat, 1 + b404 = (p : Int) := ⟨(1 + b404).toNat, by omega⟩
    refine g_lw (w' := (((wZ h2 sa rm lt tk ov nw bs bS bM) ++ (wG sa cG cnt (rN ra cnt))) ++ (w1)) ++ (wQ ra cI fv fs fd cnt)) (L' := [(7, .int (zI (p : Int))), (6, .ref (ra s)), (5, .int (zI 1)), (4, .int (zI (s : Int))), (3, .int (zI (cnt : Int))), (0, .ref hm), (1, .ref h2), (2, .int (zI x))]) rfl (by rw [hp]) ?_
    refine g_aload_n C dL_act_410 6 rfl ?_
    refine g_getf C fL_52 0 rfl rfl dL_act_411 ?_
    refine g_istore (L' := [(8, .int (zI ov)), (7, .int (zI (p : Int))), (6, .ref (ra s)), (5, .int (zI 1)), (4, .int (zI (s : Int))), (3, .int (zI (cnt : Int))), (0, .ref hm), (1, .ref h2), (2, .int (zI x))]) C dL_act_414 (by decide) rfl ?_
    obtain ⟨q1, q2, q3, q4, q5, q6⟩ := id hY
    refine g_aload_n C dL_act_416 7 rfl ?_
    refine g_iload C dL_act_417 1 rfl ?_
    refine g_mods [wZ h2 sa rm lt tk ov nw bs bS bM, wG sa cG cnt (rN ra cnt), w1, wQ ra cI fv fs fd cnt] [w1, wZ h2 sa rm lt tk ov nw bs bS bM, wG sa cG cnt (rN ra cnt), wQ ra cI fv fs fd cnt] [2, 0, 1, 3] (by decide) rfl ?_
    refine g_ws (w' := (((w1) ++ (wZ h2 sa rm lt tk ov nw bs bS bM)) ++ (wG sa cG cnt (rN ra cnt))) ++ (wQ ra cI fv fs fd cnt)) rfl rfl ?_
    refine g_eqw (w' := (w1) ++ (((wZ h2 sa rm lt tk ov nw bs bS bM) ++ (wG sa cG cnt (rN ra cnt))) ++ (wQ ra cI fv fs fd cnt))) (by simp only [List.append_assoc]) ?_
    refine g_callV (wr := w1) (st := []) _ _ C cL_55 (met_X4_vend l D cI cG cJ h2 sa ra cnt hc fv fs fd hS rm lt tk ov hr nw bs bS bM p (by omega)) gSp_r (ci := 4) (q0 := ((w1) : va_W).length) (at_r rfl) rfl (by decide) ⟨by dsimp only [rmX4_vend, rmL_act]; omega, by dsimp only [rmX4_vend, rmL_act]; omega⟩ rfl rfl (Nat.le_of_ble_eq_true rfl) dL_act_419 ?_
    rintro v9 w9 ⟨z9, rfl, hz9⟩
    refine g_ws (w' := (w1) ++ (w9)) (st' := [.int (zI z9)]) (by simp only [List.append_assoc]) rfl ?_
    rcases hz9 with ⟨g1, rfl, sa1, ra1, nw1, bs1, x1, y1, rfl⟩ | ⟨g1, rfl, sa1, ra1, nw1, bs1, x1, y1, rfl⟩
    · refine g_ws (w' := (((w1) ++ (wZ h2 sa1 rm lt tk ov nw1 bs1 x1 y1)) ++ (wG sa1 cG cnt (rN ra1 cnt))) ++ (wQ ra1 cI fv fs fd cnt)) (by simp only [List.append_assoc]) rfl ?_
      refine g_mods [w1, wZ h2 sa1 rm lt tk ov nw1 bs1 x1 y1, wG sa1 cG cnt (rN ra1 cnt), wQ ra1 cI fv fs fd cnt] [wZ h2 sa1 rm lt tk ov nw1 bs1 x1 y1, wG sa1 cG cnt (rN ra1 cnt), w1, wQ ra1 cI fv fs fd cnt] [1, 2, 0, 3] (by decide) rfl ?_
      refine g_ws (w' := (((wZ h2 sa1 rm lt tk ov nw1 bs1 x1 y1) ++ (wG sa1 cG cnt (rN ra1 cnt))) ++ (w1)) ++ (wQ ra1 cI fv fs fd cnt)) rfl rfl ?_
      refine g_istore (L' := [(5, .int (zI 0)), (8, .int (zI ov)), (7, .int (zI (p : Int))), (6, .ref (ra s)), (4, .int (zI (s : Int))), (3, .int (zI (cnt : Int))), (0, .ref hm), (1, .ref h2), (2, .int (zI x))]) C dL_act_422 (by decide) rfl ?_
      refine g_aload_n C dL_act_424 6 rfl ?_
      refine g_iload C dL_act_425 2 rfl ?_
      refine g_mods [wZ h2 sa1 rm lt tk ov nw1 bs1 x1 y1, wG sa1 cG cnt (rN ra1 cnt), w1, wQ ra1 cI fv fs fd cnt] [wZ h2 sa1 rm lt tk ov nw1 bs1 x1 y1, wG sa1 cG cnt (rN ra1 cnt), wQ ra1 cI fv fs fd cnt, w1] [0, 1, 3, 2] (by decide) rfl ?_
      refine g_ws (w' := (((wZ h2 sa1 rm lt tk ov nw1 bs1 x1 y1) ++ (wG sa1 cG cnt (rN ra1 cnt))) ++ (wQ ra1 cI fv fs fd cnt)) ++ (w1)) rfl rfl ?_
      obtain ⟨c20, gv0, gs0, gd0, tc0, tr0, ft0, tv0, tu0, fc0, M0, fa0, fb0, N0, rfl⟩ := hX
      refine g_callVX (wr := ((wZ h2 sa1 rm lt tk ov nw1 bs1 x1 y1) ++ (wG sa1 cG cnt (rN ra1 cnt))) ++ (wQ ra1 cI fv fs fd cnt)) (st := []) _ _ C cL_58 (met_X3_vend l hl9 D cI cG cJ hm ad a2 bd pd cnt fv fs fd rm lt tk ov hI c20 gv0 gs0 gd0 tc0 tr0 ft0 tv0 tu0 fc0 M0 fa0 fb0 N0 (p : Int) (zr_i (by omega) (by omega))) gSp_r (ci := 3) (q0 := ((((wZ h2 sa1 rm lt tk ov nw1 bs1 x1 y1) ++ (wG sa1 cG cnt (rN ra1 cnt))) ++ (wQ ra1 cI fv fs fd cnt)) : va_W).length) (at_r rfl) rfl (by decide) ⟨by dsimp only [rmX3_vend, rmL_act]; omega, by dsimp only [rmX3_vend, rmL_act]; omega⟩ rfl rfl (Nat.le_of_ble_eq_true rfl) dL_act_427 (fun nm9 w9 h9 => ?_) ?_
      · rcases h9 with ⟨_, h8, _⟩ | ⟨e9, _, _, hX⟩
        · exact absurd ⟨by omega, by omega⟩ h8
        · subst e9
          refine g_catch (hh := [(26, 170, 451, 60), (171, 232, 451, 60), (233, 264, 451, 60), (265, 341, 451, 60), (342, 380, 451, 60), (381, 450, 451, 60)]) [⟨26, 170, 451, 60⟩, ⟨171, 232, 451, 60⟩, ⟨233, 264, 451, 60⟩, ⟨265, 341, 451, 60⟩, ⟨342, 380, 451, 60⟩] ⟨381, 450, 451, 60⟩ [] C hT rfl (by intro z hz; simp only [List.mem_cons, List.not_mem_nil, or_false] at hz; rcases hz with rfl | rfl | rfl | rfl | rfl <;> exact Or.inl (by decide)) (by decide) (by decide) lkISE (List.mem_of_getElem? (i := 1) rfl) (fun q9 => ?_)
          refine g_astore (L' := [(6, .ref q9), (5, .int (zI 0)), (8, .int (zI ov)), (7, .int (zI (p : Int))), (4, .int (zI (s : Int))), (3, .int (zI (cnt : Int))), (0, .ref hm), (1, .ref h2), (2, .int (zI x))]) C dL_act_451 (by decide) rfl ?_
          refine g_iload C dL_act_453 1 rfl ?_
          refine g_if_ne 462 C dL_act_455 (by decide) (zr_i (by omega) (by omega)) (fun c_455 => ?_) (fun c_455 => ?_)
          · exfalso; omega
          · refine g_iconst C dL_act_458 ?_
            refine g_goto 463 C dL_act_459 (by decide) ?_
            refine g_mods [wZ h2 sa1 rm lt tk ov nw1 bs1 x1 y1, wG sa1 cG cnt (rN ra1 cnt), wQ ra1 cI fv fs fd cnt, w9] [w9, wZ h2 sa1 rm lt tk ov nw1 bs1 x1 y1, wG sa1 cG cnt (rN ra1 cnt), wQ ra1 cI fv fs fd cnt] [3, 0, 1, 2] (by decide) rfl ?_
            refine g_ws (w' := (((w9) ++ (wZ h2 sa1 rm lt tk ov nw1 bs1 x1 y1)) ++ (wG sa1 cG cnt (rN ra1 cnt))) ++ (wQ ra1 cI fv fs fd cnt)) rfl rfl ?_
            exact ret _ _ _ _ _ _ (by dsimp only [rmL_act, rmX3_addStamp, rmX3_vend, rmX3_print, rmX3_setRoom, rmX3_withdraw, rmX4_isThere, rmX4_with, rmX4_without, rmX4_vend, rmL_below]; omega) (by dsimp only [rmL_act, rmX3_addStamp, rmX3_vend, rmX3_print, rmX3_setRoom, rmX3_withdraw, rmX4_isThere, rmX4_with, rmX4_without, rmX4_vend, rmL_below]; omega) dL_act_463 (Or.inr rfl) (⟨rfl, JS_mk hX hI (hY.up (by omega))⟩)
      rintro v9 w9 ⟨z7, rfl, hv9, hX⟩
      exact absurd g1 hv9.2.1
    · refine g_ws (w' := (((w1) ++ (wZ h2 sa1 rm (lt + 1) (tk + (LSm cnt fv fs rm p)) (ov + ((LSm cnt fv fs rm p) - (p : Int))) nw1 bs1 x1 y1)) ++ (wG sa1 cG cnt (rN ra1 cnt))) ++ (wQ ra1 cI fv (sbS cnt fs (CH cnt fv fs rm (LSm cnt fv fs rm p).toNat)) (cpy fd (fun j => fd j + CH cnt fv fs rm (LSm cnt fv fs rm p).toNat j) cnt) cnt)) (by simp only [List.append_assoc]) rfl ?_
      refine g_mods [w1, wZ h2 sa1 rm (lt + 1) (tk + (LSm cnt fv fs rm p)) (ov + ((LSm cnt fv fs rm p) - (p : Int))) nw1 bs1 x1 y1, wG sa1 cG cnt (rN ra1 cnt), wQ ra1 cI fv (sbS cnt fs (CH cnt fv fs rm (LSm cnt fv fs rm p).toNat)) (cpy fd (fun j => fd j + CH cnt fv fs rm (LSm cnt fv fs rm p).toNat j) cnt) cnt] [wZ h2 sa1 rm (lt + 1) (tk + (LSm cnt fv fs rm p)) (ov + ((LSm cnt fv fs rm p) - (p : Int))) nw1 bs1 x1 y1, wG sa1 cG cnt (rN ra1 cnt), w1, wQ ra1 cI fv (sbS cnt fs (CH cnt fv fs rm (LSm cnt fv fs rm p).toNat)) (cpy fd (fun j => fd j + CH cnt fv fs rm (LSm cnt fv fs rm p).toNat j) cnt) cnt] [1, 2, 0, 3] (by decide) rfl ?_
      refine g_ws (w' := (((wZ h2 sa1 rm (lt + 1) (tk + (LSm cnt fv fs rm p)) (ov + ((LSm cnt fv fs rm p) - (p : Int))) nw1 bs1 x1 y1) ++ (wG sa1 cG cnt (rN ra1 cnt))) ++ (w1)) ++ (wQ ra1 cI fv (sbS cnt fs (CH cnt fv fs rm (LSm cnt fv fs rm p).toNat)) (cpy fd (fun j => fd j + CH cnt fv fs rm (LSm cnt fv fs rm p).toNat j) cnt) cnt)) rfl rfl ?_
      refine g_istore (L' := [(5, .int (zI 1)), (8, .int (zI ov)), (7, .int (zI (p : Int))), (6, .ref (ra s)), (4, .int (zI (s : Int))), (3, .int (zI (cnt : Int))), (0, .ref hm), (1, .ref h2), (2, .int (zI x))]) C dL_act_422 (by decide) rfl ?_
      refine g_aload_n C dL_act_424 6 rfl ?_
      refine g_iload C dL_act_425 2 rfl ?_
      refine g_mods [wZ h2 sa1 rm (lt + 1) (tk + (LSm cnt fv fs rm p)) (ov + ((LSm cnt fv fs rm p) - (p : Int))) nw1 bs1 x1 y1, wG sa1 cG cnt (rN ra1 cnt), w1, wQ ra1 cI fv (sbS cnt fs (CH cnt fv fs rm (LSm cnt fv fs rm p).toNat)) (cpy fd (fun j => fd j + CH cnt fv fs rm (LSm cnt fv fs rm p).toNat j) cnt) cnt] [wZ h2 sa1 rm (lt + 1) (tk + (LSm cnt fv fs rm p)) (ov + ((LSm cnt fv fs rm p) - (p : Int))) nw1 bs1 x1 y1, wG sa1 cG cnt (rN ra1 cnt), wQ ra1 cI fv (sbS cnt fs (CH cnt fv fs rm (LSm cnt fv fs rm p).toNat)) (cpy fd (fun j => fd j + CH cnt fv fs rm (LSm cnt fv fs rm p).toNat j) cnt) cnt, w1] [0, 1, 3, 2] (by decide) rfl ?_
      refine g_ws (w' := (((wZ h2 sa1 rm (lt + 1) (tk + (LSm cnt fv fs rm p)) (ov + ((LSm cnt fv fs rm p) - (p : Int))) nw1 bs1 x1 y1) ++ (wG sa1 cG cnt (rN ra1 cnt))) ++ (wQ ra1 cI fv (sbS cnt fs (CH cnt fv fs rm (LSm cnt fv fs rm p).toNat)) (cpy fd (fun j => fd j + CH cnt fv fs rm (LSm cnt fv fs rm p).toNat j) cnt) cnt)) ++ (w1)) rfl rfl ?_
      obtain ⟨c20, gv0, gs0, gd0, tc0, tr0, ft0, tv0, tu0, fc0, M0, fa0, fb0, N0, rfl⟩ := hX
      refine g_callVX (wr := ((wZ h2 sa1 rm (lt + 1) (tk + (LSm cnt fv fs rm p)) (ov + ((LSm cnt fv fs rm p) - (p : Int))) nw1 bs1 x1 y1) ++ (wG sa1 cG cnt (rN ra1 cnt))) ++ (wQ ra1 cI fv (sbS cnt fs (CH cnt fv fs rm (LSm cnt fv fs rm p).toNat)) (cpy fd (fun j => fd j + CH cnt fv fs rm (LSm cnt fv fs rm p).toNat j) cnt) cnt)) (st := []) _ _ C cL_58 (met_X3_vend l hl9 D cI cG cJ hm ad a2 bd pd cnt fv fs fd rm lt tk ov hI c20 gv0 gs0 gd0 tc0 tr0 ft0 tv0 tu0 fc0 M0 fa0 fb0 N0 (p : Int) (zr_i (by omega) (by omega))) gSp_r (ci := 3) (q0 := ((((wZ h2 sa1 rm (lt + 1) (tk + (LSm cnt fv fs rm p)) (ov + ((LSm cnt fv fs rm p) - (p : Int))) nw1 bs1 x1 y1) ++ (wG sa1 cG cnt (rN ra1 cnt))) ++ (wQ ra1 cI fv (sbS cnt fs (CH cnt fv fs rm (LSm cnt fv fs rm p).toNat)) (cpy fd (fun j => fd j + CH cnt fv fs rm (LSm cnt fv fs rm p).toNat j) cnt) cnt)) : va_W).length) (at_r rfl) rfl (by decide) ⟨by dsimp only [rmX3_vend, rmL_act]; omega, by dsimp only [rmX3_vend, rmL_act]; omega⟩ rfl rfl (Nat.le_of_ble_eq_true rfl) dL_act_427 (fun nm9 w9 h9 => ?_) ?_
      · exfalso
        rcases h9 with ⟨_, h8, _⟩ | ⟨_, _, h8, _⟩
        · exact h8 ⟨by omega, by omega⟩
        · exact g1 h8
      rintro v9 w9 ⟨z7, rfl, hv9, hX⟩
      have hz8 : z7 = (LSm cnt fv fs rm p) - (p : Int) := hv9.2.2
      have hb9 := LS_bd hI (by omega) g1
      refine g_ws (w' := (((wZ h2 sa1 rm (lt + 1) (tk + (LSm cnt fv fs rm p)) (ov + ((LSm cnt fv fs rm p) - (p : Int))) nw1 bs1 x1 y1) ++ (wG sa1 cG cnt (rN ra1 cnt))) ++ (wQ ra1 cI fv (sbS cnt fs (CH cnt fv fs rm (LSm cnt fv fs rm p).toNat)) (cpy fd (fun j => fd j + CH cnt fv fs rm (LSm cnt fv fs rm p).toNat j) cnt) cnt)) ++ (w9)) (st' := [.int (zI z7)]) (by simp only [List.append_assoc]) rfl ?_
      refine g_mods [wZ h2 sa1 rm (lt + 1) (tk + (LSm cnt fv fs rm p)) (ov + ((LSm cnt fv fs rm p) - (p : Int))) nw1 bs1 x1 y1, wG sa1 cG cnt (rN ra1 cnt), wQ ra1 cI fv (sbS cnt fs (CH cnt fv fs rm (LSm cnt fv fs rm p).toNat)) (cpy fd (fun j => fd j + CH cnt fv fs rm (LSm cnt fv fs rm p).toNat j) cnt) cnt, w9] [wZ h2 sa1 rm (lt + 1) (tk + (LSm cnt fv fs rm p)) (ov + ((LSm cnt fv fs rm p) - (p : Int))) nw1 bs1 x1 y1, wG sa1 cG cnt (rN ra1 cnt), w9, wQ ra1 cI fv (sbS cnt fs (CH cnt fv fs rm (LSm cnt fv fs rm p).toNat)) (cpy fd (fun j => fd j + CH cnt fv fs rm (LSm cnt fv fs rm p).toNat j) cnt) cnt] [0, 1, 3, 2] (by decide) rfl ?_
      refine g_ws (w' := (((wZ h2 sa1 rm (lt + 1) (tk + (LSm cnt fv fs rm p)) (ov + ((LSm cnt fv fs rm p) - (p : Int))) nw1 bs1 x1 y1) ++ (wG sa1 cG cnt (rN ra1 cnt))) ++ (w9)) ++ (wQ ra1 cI fv (sbS cnt fs (CH cnt fv fs rm (LSm cnt fv fs rm p).toNat)) (cpy fd (fun j => fd j + CH cnt fv fs rm (LSm cnt fv fs rm p).toNat j) cnt) cnt)) rfl rfl ?_
      refine g_aload_n C dL_act_430 7 rfl ?_
      refine g_getf C fL_52 0 rfl rfl dL_act_431 ?_
      refine g_iload C dL_act_434 1 rfl ?_
      refine g_isub C dL_act_436 ?_
      refine g_icmp_ne 449 C dL_act_437 (by decide) (zr_i (by omega) (by omega)) (zr_i (by omega) (by omega)) (fun c_437 => ?_) (fun c_437 => ?_)
      · exfalso; omega
      · refine g_iload C dL_act_440 0 rfl ?_
        refine g_if_eq 449 C dL_act_442 (by decide) (zr_i (by omega) (by omega)) (fun c_442 => ?_) (fun c_442 => ?_)
        · exfalso; omega
        · refine g_iconst C dL_act_445 ?_
          refine g_goto 450 C dL_act_446 (by decide) ?_
          refine g_mods [wZ h2 sa1 rm (lt + 1) (tk + (LSm cnt fv fs rm p)) (ov + ((LSm cnt fv fs rm p) - (p : Int))) nw1 bs1 x1 y1, wG sa1 cG cnt (rN ra1 cnt), w9, wQ ra1 cI fv (sbS cnt fs (CH cnt fv fs rm (LSm cnt fv fs rm p).toNat)) (cpy fd (fun j => fd j + CH cnt fv fs rm (LSm cnt fv fs rm p).toNat j) cnt) cnt] [w9, wZ h2 sa1 rm (lt + 1) (tk + (LSm cnt fv fs rm p)) (ov + ((LSm cnt fv fs rm p) - (p : Int))) nw1 bs1 x1 y1, wG sa1 cG cnt (rN ra1 cnt), wQ ra1 cI fv (sbS cnt fs (CH cnt fv fs rm (LSm cnt fv fs rm p).toNat)) (cpy fd (fun j => fd j + CH cnt fv fs rm (LSm cnt fv fs rm p).toNat j) cnt) cnt] [2, 0, 1, 3] (by decide) rfl ?_
          refine g_ws (w' := (((w9) ++ (wZ h2 sa1 rm (lt + 1) (tk + (LSm cnt fv fs rm p)) (ov + ((LSm cnt fv fs rm p) - (p : Int))) nw1 bs1 x1 y1)) ++ (wG sa1 cG cnt (rN ra1 cnt))) ++ (wQ ra1 cI fv (sbS cnt fs (CH cnt fv fs rm (LSm cnt fv fs rm p).toNat)) (cpy fd (fun j => fd j + CH cnt fv fs rm (LSm cnt fv fs rm p).toNat j) cnt) cnt)) rfl rfl ?_
          exact ret _ _ _ _ _ _ (by dsimp only [rmL_act, rmX3_addStamp, rmX3_vend, rmX3_print, rmX3_setRoom, rmX3_withdraw, rmX4_isThere, rmX4_with, rmX4_without, rmX4_vend, rmL_below]; omega) (by dsimp only [rmL_act, rmX3_addStamp, rmX3_vend, rmX3_print, rmX3_setRoom, rmX3_withdraw, rmX4_isThere, rmX4_with, rmX4_without, rmX4_vend, rmL_below]; omega) dL_act_450 (Or.inr rfl) (⟨rfl, JS_mk hX (xi_vend hI) (hY.vend hI (by omega) g1)⟩)
  · refine g_sipush C dL_act_396 (by decide) ?_
    refine g_goto 404 C dL_act_399 (by decide) ?_
    refine g_callS (wr := (((wZ h2 sa rm lt tk ov nw bs bS bM) ++ (wG sa cG cnt (rN ra cnt))) ++ (w1)) ++ (wQ ra cI fv fs fd cnt)) (st := [.int (zI 1)]) _ _ C cL_15 (met_L_below l D cI cG cJ z1x 300 (by omega) (zr_i (by omega) (by omega))) gSp_e (by decide) ⟨by dsimp only [rmL_below, rmL_act]; omega, by dsimp only [rmL_below, rmL_act]; omega⟩ rfl rfl (Nat.le_of_ble_eq_true rfl) dL_act_404 ?_
    rintro v9 w9 ⟨b404, rfl, b404h, rfl⟩
    refine g_ws (w' := (((wZ h2 sa rm lt tk ov nw bs bS bM) ++ (wG sa cG cnt (rN ra cnt))) ++ (w1)) ++ (wQ ra cI fv fs fd cnt)) (st' := [.int (zI b404), .int (zI 1)]) (List.append_nil _) rfl ?_
    refine g_iadd C dL_act_407 ?_
    refine g_istore (L' := [(7, .int (zI (1 + b404))), (6, .ref (ra s)), (5, .int (zI 1)), (4, .int (zI (s : Int))), (3, .int (zI (cnt : Int))), (0, .ref hm), (1, .ref h2), (2, .int (zI x))]) C dL_act_408 (by decide) rfl ?_
    obtain ⟨p, hp⟩ : ∃ p : Nat, 1 + b404 = (p : Int) := ⟨(1 + b404).toNat, by omega⟩
    refine g_lw (w' := (((wZ h2 sa rm lt tk ov nw bs bS bM) ++ (wG sa cG cnt (rN ra cnt))) ++ (w1)) ++ (wQ ra cI fv fs fd cnt)) (L' := [(7, .int (zI (p : Int))), (6, .ref (ra s)), (5, .int (zI 1)), (4, .int (zI (s : Int))), (3, .int (zI (cnt : Int))), (0, .ref hm), (1, .ref h2), (2, .int (zI x))]) rfl (by rw [hp]) ?_
    refine g_aload_n C dL_act_410 6 rfl ?_
    refine g_getf C fL_52 0 rfl rfl dL_act_411 ?_
    refine g_istore (L' := [(8, .int (zI ov)), (7, .int (zI (p : Int))), (6, .ref (ra s)), (5, .int (zI 1)), (4, .int (zI (s : Int))), (3, .int (zI (cnt : Int))), (0, .ref hm), (1, .ref h2), (2, .int (zI x))]) C dL_act_414 (by decide) rfl ?_
    obtain ⟨q1, q2, q3, q4, q5, q6⟩ := id hY
    refine g_aload_n C dL_act_416 7 rfl ?_
    refine g_iload C dL_act_417 1 rfl ?_
    refine g_mods [wZ h2 sa rm lt tk ov nw bs bS bM, wG sa cG cnt (rN ra cnt), w1, wQ ra cI fv fs fd cnt] [w1, wZ h2 sa rm lt tk ov nw bs bS bM, wG sa cG cnt (rN ra cnt), wQ ra cI fv fs fd cnt] [2, 0, 1, 3] (by decide) rfl ?_
    refine g_ws (w' := (((w1) ++ (wZ h2 sa rm lt tk ov nw bs bS bM)) ++ (wG sa cG cnt (rN ra cnt))) ++ (wQ ra cI fv fs fd cnt)) rfl rfl ?_
    refine g_eqw (w' := (w1) ++ (((wZ h2 sa rm lt tk ov nw bs bS bM) ++ (wG sa cG cnt (rN ra cnt))) ++ (wQ ra cI fv fs fd cnt))) (by simp only [List.append_assoc]) ?_
    refine g_callV (wr := w1) (st := []) _ _ C cL_55 (met_X4_vend l D cI cG cJ h2 sa ra cnt hc fv fs fd hS rm lt tk ov hr nw bs bS bM p (by omega)) gSp_r (ci := 4) (q0 := ((w1) : va_W).length) (at_r rfl) rfl (by decide) ⟨by dsimp only [rmX4_vend, rmL_act]; omega, by dsimp only [rmX4_vend, rmL_act]; omega⟩ rfl rfl (Nat.le_of_ble_eq_true rfl) dL_act_419 ?_
    rintro v9 w9 ⟨z9, rfl, hz9⟩
    refine g_ws (w' := (w1) ++ (w9)) (st' := [.int (zI z9)]) (by simp only [List.append_assoc]) rfl ?_
    rcases hz9 with ⟨g1, rfl, sa1, ra1, nw1, bs1, x1, y1, rfl⟩ | ⟨g1, rfl, sa1, ra1, nw1, bs1, x1, y1, rfl⟩
    · refine g_ws (w' := (((w1) ++ (wZ h2 sa1 rm lt tk ov nw1 bs1 x1 y1)) ++ (wG sa1 cG cnt (rN ra1 cnt))) ++ (wQ ra1 cI fv fs fd cnt)) (by simp only [List.append_assoc]) rfl ?_
      refine g_mods [w1, wZ h2 sa1 rm lt tk ov nw1 bs1 x1 y1, wG sa1 cG cnt (rN ra1 cnt), wQ ra1 cI fv fs fd cnt] [wZ h2 sa1 rm lt tk ov nw1 bs1 x1 y1, wG sa1 cG cnt (rN ra1 cnt), w1, wQ ra1 cI fv fs fd cnt] [1, 2, 0, 3] (by decide) rfl ?_
      refine g_ws (w' := (((wZ h2 sa1 rm lt tk ov nw1 bs1 x1 y1) ++ (wG sa1 cG cnt (rN ra1 cnt))) ++ (w1)) ++ (wQ ra1 cI fv fs fd cnt)) rfl rfl ?_
      refine g_istore (L' := [(5, .int (zI 0)), (8, .int (zI ov)), (7, .int (zI (p : Int))), (6, .ref (ra s)), (4, .int (zI (s : Int))), (3, .int (zI (cnt : Int))), (0, .ref hm), (1, .ref h2), (2, .int (zI x))]) C dL_act_422 (by decide) rfl ?_
      refine g_aload_n C dL_act_424 6 rfl ?_
      refine g_iload C dL_act_425 2 rfl ?_
      refine g_mods [wZ h2 sa1 rm lt tk ov nw1 bs1 x1 y1, wG sa1 cG cnt (rN ra1 cnt), w1, wQ ra1 cI fv fs fd cnt] [wZ h2 sa1 rm lt tk ov nw1 bs1 x1 y1, wG sa1 cG cnt (rN ra1 cnt), wQ ra1 cI fv fs fd cnt, w1] [0, 1, 3, 2] (by decide) rfl ?_
      refine g_ws (w' := (((wZ h2 sa1 rm lt tk ov nw1 bs1 x1 y1) ++ (wG sa1 cG cnt (rN ra1 cnt))) ++ (wQ ra1 cI fv fs fd cnt)) ++ (w1)) rfl rfl ?_
      obtain ⟨c20, gv0, gs0, gd0, tc0, tr0, ft0, tv0, tu0, fc0, M0, fa0, fb0, N0, rfl⟩ := hX
      refine g_callVX (wr := ((wZ h2 sa1 rm lt tk ov nw1 bs1 x1 y1) ++ (wG sa1 cG cnt (rN ra1 cnt))) ++ (wQ ra1 cI fv fs fd cnt)) (st := []) _ _ C cL_58 (met_X3_vend l hl9 D cI cG cJ hm ad a2 bd pd cnt fv fs fd rm lt tk ov hI c20 gv0 gs0 gd0 tc0 tr0 ft0 tv0 tu0 fc0 M0 fa0 fb0 N0 (p : Int) (zr_i (by omega) (by omega))) gSp_r (ci := 3) (q0 := ((((wZ h2 sa1 rm lt tk ov nw1 bs1 x1 y1) ++ (wG sa1 cG cnt (rN ra1 cnt))) ++ (wQ ra1 cI fv fs fd cnt)) : va_W).length) (at_r rfl) rfl (by decide) ⟨by dsimp only [rmX3_vend, rmL_act]; omega, by dsimp only [rmX3_vend, rmL_act]; omega⟩ rfl rfl (Nat.le_of_ble_eq_true rfl) dL_act_427 (fun nm9 w9 h9 => ?_) ?_
      · rcases h9 with ⟨_, h8, _⟩ | ⟨e9, _, _, hX⟩
        · exact absurd ⟨by omega, by omega⟩ h8
        · subst e9
          refine g_catch (hh := [(26, 170, 451, 60), (171, 232, 451, 60), (233, 264, 451, 60), (265, 341, 451, 60), (342, 380, 451, 60), (381, 450, 451, 60)]) [⟨26, 170, 451, 60⟩, ⟨171, 232, 451, 60⟩, ⟨233, 264, 451, 60⟩, ⟨265, 341, 451, 60⟩, ⟨342, 380, 451, 60⟩] ⟨381, 450, 451, 60⟩ [] C hT rfl (by intro z hz; simp only [List.mem_cons, List.not_mem_nil, or_false] at hz; rcases hz with rfl | rfl | rfl | rfl | rfl <;> exact Or.inl (by decide)) (by decide) (by decide) lkISE (List.mem_of_getElem? (i := 1) rfl) (fun q9 => ?_)
          refine g_astore (L' := [(6, .ref q9), (5, .int (zI 0)), (8, .int (zI ov)), (7, .int (zI (p : Int))), (4, .int (zI (s : Int))), (3, .int (zI (cnt : Int))), (0, .ref hm), (1, .ref h2), (2, .int (zI x))]) C dL_act_451 (by decide) rfl ?_
          refine g_iload C dL_act_453 1 rfl ?_
          refine g_if_ne 462 C dL_act_455 (by decide) (zr_i (by omega) (by omega)) (fun c_455 => ?_) (fun c_455 => ?_)
          · exfalso; omega
          · refine g_iconst C dL_act_458 ?_
            refine g_goto 463 C dL_act_459 (by decide) ?_
            refine g_mods [wZ h2 sa1 rm lt tk ov nw1 bs1 x1 y1, wG sa1 cG cnt (rN ra1 cnt), wQ ra1 cI fv fs fd cnt, w9] [w9, wZ h2 sa1 rm lt tk ov nw1 bs1 x1 y1, wG sa1 cG cnt (rN ra1 cnt), wQ ra1 cI fv fs fd cnt] [3, 0, 1, 2] (by decide) rfl ?_
            refine g_ws (w' := (((w9) ++ (wZ h2 sa1 rm lt tk ov nw1 bs1 x1 y1)) ++ (wG sa1 cG cnt (rN ra1 cnt))) ++ (wQ ra1 cI fv fs fd cnt)) rfl rfl ?_
            exact ret _ _ _ _ _ _ (by dsimp only [rmL_act, rmX3_addStamp, rmX3_vend, rmX3_print, rmX3_setRoom, rmX3_withdraw, rmX4_isThere, rmX4_with, rmX4_without, rmX4_vend, rmL_below]; omega) (by dsimp only [rmL_act, rmX3_addStamp, rmX3_vend, rmX3_print, rmX3_setRoom, rmX3_withdraw, rmX4_isThere, rmX4_with, rmX4_without, rmX4_vend, rmL_below]; omega) dL_act_463 (Or.inr rfl) (⟨rfl, JS_mk hX hI (hY.up (by omega))⟩)
      rintro v9 w9 ⟨z7, rfl, hv9, hX⟩
      exact absurd g1 hv9.2.1
    · refine g_ws (w' := (((w1) ++ (wZ h2 sa1 rm (lt + 1) (tk + (LSm cnt fv fs rm p)) (ov + ((LSm cnt fv fs rm p) - (p : Int))) nw1 bs1 x1 y1)) ++ (wG sa1 cG cnt (rN ra1 cnt))) ++ (wQ ra1 cI fv (sbS cnt fs (CH cnt fv fs rm (LSm cnt fv fs rm p).toNat)) (cpy fd (fun j => fd j + CH cnt fv fs rm (LSm cnt fv fs rm p).toNat j) cnt) cnt)) (by simp only [List.append_assoc]) rfl ?_
      refine g_mods [w1, wZ h2 sa1 rm (lt + 1) (tk + (LSm cnt fv fs rm p)) (ov + ((LSm cnt fv fs rm p) - (p : Int))) nw1 bs1 x1 y1, wG sa1 cG cnt (rN ra1 cnt), wQ ra1 cI fv (sbS cnt fs (CH cnt fv fs rm (LSm cnt fv fs rm p).toNat)) (cpy fd (fun j => fd j + CH cnt fv fs rm (LSm cnt fv fs rm p).toNat j) cnt) cnt] [wZ h2 sa1 rm (lt + 1) (tk + (LSm cnt fv fs rm p)) (ov + ((LSm cnt fv fs rm p) - (p : Int))) nw1 bs1 x1 y1, wG sa1 cG cnt (rN ra1 cnt), w1, wQ ra1 cI fv (sbS cnt fs (CH cnt fv fs rm (LSm cnt fv fs rm p).toNat)) (cpy fd (fun j => fd j + CH cnt fv fs rm (LSm cnt fv fs rm p).toNat j) cnt) cnt] [1, 2, 0, 3] (by decide) rfl ?_
      refine g_ws (w' := (((wZ h2 sa1 rm (lt + 1) (tk + (LSm cnt fv fs rm p)) (ov + ((LSm cnt fv fs rm p) - (p : Int))) nw1 bs1 x1 y1) ++ (wG sa1 cG cnt (rN ra1 cnt))) ++ (w1)) ++ (wQ ra1 cI fv (sbS cnt fs (CH cnt fv fs rm (LSm cnt fv fs rm p).toNat)) (cpy fd (fun j => fd j + CH cnt fv fs rm (LSm cnt fv fs rm p).toNat j) cnt) cnt)) rfl rfl ?_
      refine g_istore (L' := [(5, .int (zI 1)), (8, .int (zI ov)), (7, .int (zI (p : Int))), (6, .ref (ra s)), (4, .int (zI (s : Int))), (3, .int (zI (cnt : Int))), (0, .ref hm), (1, .ref h2), (2, .int (zI x))]) C dL_act_422 (by decide) rfl ?_
      refine g_aload_n C dL_act_424 6 rfl ?_
      refine g_iload C dL_act_425 2 rfl ?_
      refine g_mods [wZ h2 sa1 rm (lt + 1) (tk + (LSm cnt fv fs rm p)) (ov + ((LSm cnt fv fs rm p) - (p : Int))) nw1 bs1 x1 y1, wG sa1 cG cnt (rN ra1 cnt), w1, wQ ra1 cI fv (sbS cnt fs (CH cnt fv fs rm (LSm cnt fv fs rm p).toNat)) (cpy fd (fun j => fd j + CH cnt fv fs rm (LSm cnt fv fs rm p).toNat j) cnt) cnt] [wZ h2 sa1 rm (lt + 1) (tk + (LSm cnt fv fs rm p)) (ov + ((LSm cnt fv fs rm p) - (p : Int))) nw1 bs1 x1 y1, wG sa1 cG cnt (rN ra1 cnt), wQ ra1 cI fv (sbS cnt fs (CH cnt fv fs rm (LSm cnt fv fs rm p).toNat)) (cpy fd (fun j => fd j + CH cnt fv fs rm (LSm cnt fv fs rm p).toNat j) cnt) cnt, w1] [0, 1, 3, 2] (by decide) rfl ?_
      refine g_ws (w' := (((wZ h2 sa1 rm (lt + 1) (tk + (LSm cnt fv fs rm p)) (ov + ((LSm cnt fv fs rm p) - (p : Int))) nw1 bs1 x1 y1) ++ (wG sa1 cG cnt (rN ra1 cnt))) ++ (wQ ra1 cI fv (sbS cnt fs (CH cnt fv fs rm (LSm cnt fv fs rm p).toNat)) (cpy fd (fun j => fd j + CH cnt fv fs rm (LSm cnt fv fs rm p).toNat j) cnt) cnt)) ++ (w1)) rfl rfl ?_
      obtain ⟨c20, gv0, gs0, gd0, tc0, tr0, ft0, tv0, tu0, fc0, M0, fa0, fb0, N0, rfl⟩ := hX
      refine g_callVX (wr := ((wZ h2 sa1 rm (lt + 1) (tk + (LSm cnt fv fs rm p)) (ov + ((LSm cnt fv fs rm p) - (p : Int))) nw1 bs1 x1 y1) ++ (wG sa1 cG cnt (rN ra1 cnt))) ++ (wQ ra1 cI fv (sbS cnt fs (CH cnt fv fs rm (LSm cnt fv fs rm p).toNat)) (cpy fd (fun j => fd j + CH cnt fv fs rm (LSm cnt fv fs rm p).toNat j) cnt) cnt)) (st := []) _ _ C cL_58 (met_X3_vend l hl9 D cI cG cJ hm ad a2 bd pd cnt fv fs fd rm lt tk ov hI c20 gv0 gs0 gd0 tc0 tr0 ft0 tv0 tu0 fc0 M0 fa0 fb0 N0 (p : Int) (zr_i (by omega) (by omega))) gSp_r (ci := 3) (q0 := ((((wZ h2 sa1 rm (lt + 1) (tk + (LSm cnt fv fs rm p)) (ov + ((LSm cnt fv fs rm p) - (p : Int))) nw1 bs1 x1 y1) ++ (wG sa1 cG cnt (rN ra1 cnt))) ++ (wQ ra1 cI fv (sbS cnt fs (CH cnt fv fs rm (LSm cnt fv fs rm p).toNat)) (cpy fd (fun j => fd j + CH cnt fv fs rm (LSm cnt fv fs rm p).toNat j) cnt) cnt)) : va_W).length) (at_r rfl) rfl (by decide) ⟨by dsimp only [rmX3_vend, rmL_act]; omega, by dsimp only [rmX3_vend, rmL_act]; omega⟩ rfl rfl (Nat.le_of_ble_eq_true rfl) dL_act_427 (fun nm9 w9 h9 => ?_) ?_
      · exfalso
        rcases h9 with ⟨_, h8, _⟩ | ⟨_, _, h8, _⟩
        · exact h8 ⟨by omega, by omega⟩
        · exact g1 h8
      rintro v9 w9 ⟨z7, rfl, hv9, hX⟩
      have hz8 : z7 = (LSm cnt fv fs rm p) - (p : Int) := hv9.2.2
      have hb9 := LS_bd hI (by omega) g1
      refine g_ws (w' := (((wZ h2 sa1 rm (lt + 1) (tk + (LSm cnt fv fs rm p)) (ov + ((LSm cnt fv fs rm p) - (p : Int))) nw1 bs1 x1 y1) ++ (wG sa1 cG cnt (rN ra1 cnt))) ++ (wQ ra1 cI fv (sbS cnt fs (CH cnt fv fs rm (LSm cnt fv fs rm p).toNat)) (cpy fd (fun j => fd j + CH cnt fv fs rm (LSm cnt fv fs rm p).toNat j) cnt) cnt)) ++ (w9)) (st' := [.int (zI z7)]) (by simp only [List.append_assoc]) rfl ?_
      refine g_mods [wZ h2 sa1 rm (lt + 1) (tk + (LSm cnt fv fs rm p)) (ov + ((LSm cnt fv fs rm p) - (p : Int))) nw1 bs1 x1 y1, wG sa1 cG cnt (rN ra1 cnt), wQ ra1 cI fv (sbS cnt fs (CH cnt fv fs rm (LSm cnt fv fs rm p).toNat)) (cpy fd (fun j => fd j + CH cnt fv fs rm (LSm cnt fv fs rm p).toNat j) cnt) cnt, w9] [wZ h2 sa1 rm (lt + 1) (tk + (LSm cnt fv fs rm p)) (ov + ((LSm cnt fv fs rm p) - (p : Int))) nw1 bs1 x1 y1, wG sa1 cG cnt (rN ra1 cnt), w9, wQ ra1 cI fv (sbS cnt fs (CH cnt fv fs rm (LSm cnt fv fs rm p).toNat)) (cpy fd (fun j => fd j + CH cnt fv fs rm (LSm cnt fv fs rm p).toNat j) cnt) cnt] [0, 1, 3, 2] (by decide) rfl ?_
      refine g_ws (w' := (((wZ h2 sa1 rm (lt + 1) (tk + (LSm cnt fv fs rm p)) (ov + ((LSm cnt fv fs rm p) - (p : Int))) nw1 bs1 x1 y1) ++ (wG sa1 cG cnt (rN ra1 cnt))) ++ (w9)) ++ (wQ ra1 cI fv (sbS cnt fs (CH cnt fv fs rm (LSm cnt fv fs rm p).toNat)) (cpy fd (fun j => fd j + CH cnt fv fs rm (LSm cnt fv fs rm p).toNat j) cnt) cnt)) rfl rfl ?_
      refine g_aload_n C dL_act_430 7 rfl ?_
      refine g_getf C fL_52 0 rfl rfl dL_act_431 ?_
      refine g_iload C dL_act_434 1 rfl ?_
      refine g_isub C dL_act_436 ?_
      refine g_icmp_ne 449 C dL_act_437 (by decide) (zr_i (by omega) (by omega)) (zr_i (by omega) (by omega)) (fun c_437 => ?_) (fun c_437 => ?_)
      · exfalso; omega
      · refine g_iload C dL_act_440 0 rfl ?_
        refine g_if_eq 449 C dL_act_442 (by decide) (zr_i (by omega) (by omega)) (fun c_442 => ?_) (fun c_442 => ?_)
        · exfalso; omega
        · refine g_iconst C dL_act_445 ?_
          refine g_goto 450 C dL_act_446 (by decide) ?_
          refine g_mods [wZ h2 sa1 rm (lt + 1) (tk + (LSm cnt fv fs rm p)) (ov + ((LSm cnt fv fs rm p) - (p : Int))) nw1 bs1 x1 y1, wG sa1 cG cnt (rN ra1 cnt), w9, wQ ra1 cI fv (sbS cnt fs (CH cnt fv fs rm (LSm cnt fv fs rm p).toNat)) (cpy fd (fun j => fd j + CH cnt fv fs rm (LSm cnt fv fs rm p).toNat j) cnt) cnt] [w9, wZ h2 sa1 rm (lt + 1) (tk + (LSm cnt fv fs rm p)) (ov + ((LSm cnt fv fs rm p) - (p : Int))) nw1 bs1 x1 y1, wG sa1 cG cnt (rN ra1 cnt), wQ ra1 cI fv (sbS cnt fs (CH cnt fv fs rm (LSm cnt fv fs rm p).toNat)) (cpy fd (fun j => fd j + CH cnt fv fs rm (LSm cnt fv fs rm p).toNat j) cnt) cnt] [2, 0, 1, 3] (by decide) rfl ?_
          refine g_ws (w' := (((w9) ++ (wZ h2 sa1 rm (lt + 1) (tk + (LSm cnt fv fs rm p)) (ov + ((LSm cnt fv fs rm p) - (p : Int))) nw1 bs1 x1 y1)) ++ (wG sa1 cG cnt (rN ra1 cnt))) ++ (wQ ra1 cI fv (sbS cnt fs (CH cnt fv fs rm (LSm cnt fv fs rm p).toNat)) (cpy fd (fun j => fd j + CH cnt fv fs rm (LSm cnt fv fs rm p).toNat j) cnt) cnt)) rfl rfl ?_
          exact ret _ _ _ _ _ _ (by dsimp only [rmL_act, rmX3_addStamp, rmX3_vend, rmX3_print, rmX3_setRoom, rmX3_withdraw, rmX4_isThere, rmX4_with, rmX4_without, rmX4_vend, rmL_below]; omega) (by dsimp only [rmL_act, rmX3_addStamp, rmX3_vend, rmX3_print, rmX3_setRoom, rmX3_withdraw, rmX4_isThere, rmX4_with, rmX4_without, rmX4_vend, rmL_below]; omega) dL_act_450 (Or.inr rfl) (⟨rfl, JS_mk hX (xi_vend hI) (hY.vend hI (by omega) g1)⟩)
set_option maxHeartbeats 4000000 in
set_option maxRecDepth 100000 in
theorem act_171 {E : gEnv} {l : Launch} {D : va_G} {cI cG cJ : ClassId} {k0 n0 : Nat} (hl9 : l.stackTraces = false) (hm h2 : Nat) (ad a2 bd pd : Nat → Nat) (T : Int) (hT1 : T ≤ 100) (cnt : Nat) (fv fs fd : Nat → Int) (rm lt tk ov : Int) (w1 : va_W) (sa : Nat) (ra : Nat → Nat) (nw bs : Value) (bS bM : Int) (hX : XW hm ad a2 bd pd cI cG cnt fv fs fd rm lt tk ov w1) (hI : XI cnt fv fs rm) (hY : YI cnt fd lt tk ov T) (x : Int) (C : gC E l rmL_act D 9 RL cL_act cI cG cJ) (hT : gTab E [(26, 170, 451, 60), (171, 232, 451, 60), (233, 264, 451, 60), (265, 341, 451, 60), (342, 380, 451, 60), (381, 450, 451, 60)]) (ret : gRZ E cL_act rmL_act (fun z w9 => z = 1 ∧ JS hm h2 ad a2 bd pd cI cG (T + 1) w9)) (hk : k0 ≤ 5) (hn0 : n0 ≤ 50) (s : Nat) (hs : s < cnt) : gW E k0 n0 ((((wZ h2 sa rm lt tk ov nw bs bS bM) ++ (wG sa cG cnt (rN ra cnt))) ++ (w1)) ++ (wQ ra cI fv fs fd cnt)) 171 [(5, .int (zI 1)), (4, .int (zI (s : Int))), (3, .int (zI (cnt : Int))), (0, .ref hm), (1, .ref h2), (2, .int (zI x))] [] := by
  obtain ⟨hc, hS, h99, hr1, hr2⟩ := id hI
  have hr : 0 ≤ rm ∧ rm ≤ 12 := ⟨by omega, hr2⟩
  refine g_aload_n C dL_act_171 4 rfl ?_
  refine g_getf C fL_9 0 rfl rfl dL_act_172 ?_
  refine g_iload C dL_act_175 1 rfl ?_
  refine g_aald (y := ra s) C 1 rfl (by omega) (by omega) (by omega) (rN_at (by omega)) dL_act_177 ?_
  refine g_astore (L' := [(6, .ref (ra s)), (5, .int (zI 1)), (4, .int (zI (s : Int))), (3, .int (zI (cnt : Int))), (0, .ref hm), (1, .ref h2), (2, .int (zI x))]) C dL_act_178 (by decide) rfl ?_
  refine g_iload_n C dL_act_180 6 rfl ?_
  refine g_bipush C dL_act_181 (by decide) ?_
  refine g_callS (wr := (((wZ h2 sa rm lt tk ov nw bs bS bM) ++ (wG sa cG cnt (rN ra cnt))) ++ (w1)) ++ (wQ ra cI fv fs fd cnt)) (st := []) _ _ C cL_15 (met_L_below l D cI cG cJ x 13 (by omega) (zr_i (by omega) (by omega))) gSp_e (by decide) ⟨by dsimp only [rmL_below, rmL_act]; omega, by dsimp only [rmL_below, rmL_act]; omega⟩ rfl rfl (Nat.le_of_ble_eq_true rfl) dL_act_183 ?_
  rintro v9 w9 ⟨b183, rfl, b183h, rfl⟩
  refine g_ws (w' := (((wZ h2 sa rm lt tk ov nw bs bS bM) ++ (wG sa cG cnt (rN ra cnt))) ++ (w1)) ++ (wQ ra cI fv fs fd cnt)) (st' := [.int (zI b183)]) (List.append_nil _) rfl ?_
  by_cases e1 : b183 = 1
  · subst e1
    refine g_tsIn 220 C dL_act_186 (zr_i (by decide) (by decide)) (by decide) (by decide) rfl (by decide) ?_
    exact act_220 hl9 hm h2 ad a2 bd pd T hT1 cnt fv fs fd rm lt tk ov w1 sa ra nw bs bS bM hX hI hY x C hT ret (by first | omega | (dsimp only [rmL_below, rmX4_isThere]; omega)) (by first | omega | (dsimp only [rmL_below, rmX4_isThere]; omega)) s hs
  by_cases e2 : b183 = 2
  · subst e2
    refine g_tsIn 265 C dL_act_186 (zr_i (by decide) (by decide)) (by decide) (by decide) rfl (by decide) ?_
    exact act_265 hl9 hm h2 ad a2 bd pd T hT1 cnt fv fs fd rm lt tk ov w1 sa ra nw bs bS bM hX hI hY x C hT ret (by first | omega | (dsimp only [rmL_below, rmX4_isThere]; omega)) (by first | omega | (dsimp only [rmL_below, rmX4_isThere]; omega)) s hs
  by_cases e3 : b183 = 3
  · subst e3
    refine g_tsIn 265 C dL_act_186 (zr_i (by decide) (by decide)) (by decide) (by decide) rfl (by decide) ?_
    exact act_265 hl9 hm h2 ad a2 bd pd T hT1 cnt fv fs fd rm lt tk ov w1 sa ra nw bs bS bM hX hI hY x C hT ret (by first | omega | (dsimp only [rmL_below, rmX4_isThere]; omega)) (by first | omega | (dsimp only [rmL_below, rmX4_isThere]; omega)) s hs
  by_cases e4 : b183 = 4
  · subst e4
    refine g_tsIn 342 C dL_act_186 (zr_i (by decide) (by decide)) (by decide) (by decide) rfl (by decide) ?_
    exact act_342 hl9 hm h2 ad a2 bd pd T hT1 cnt fv fs fd rm lt tk ov w1 sa ra nw bs bS bM hX hI hY x C hT ret (by first | omega | (dsimp only [rmL_below, rmX4_isThere]; omega)) (by first | omega | (dsimp only [rmL_below, rmX4_isThere]; omega)) s hs
  by_cases e5 : b183 = 5
  · subst e5
    refine g_tsIn 342 C dL_act_186 (zr_i (by decide) (by decide)) (by decide) (by decide) rfl (by decide) ?_
    exact act_342 hl9 hm h2 ad a2 bd pd T hT1 cnt fv fs fd rm lt tk ov w1 sa ra nw bs bS bM hX hI hY x C hT ret (by first | omega | (dsimp only [rmL_below, rmX4_isThere]; omega)) (by first | omega | (dsimp only [rmL_below, rmX4_isThere]; omega)) s hs
  by_cases e0 : b183 < 1 ∨ 5 < b183
  · refine g_tsOut 381 C dL_act_186 (zr_i (by omega) (by omega)) e0 (by decide) ?_
    exact act_381 hl9 hm h2 ad a2 bd pd T hT1 cnt fv fs fd rm lt tk ov w1 sa ra nw bs bS bM hX hI hY x C hT ret (by first | omega | (dsimp only [rmL_below, rmX4_isThere]; omega)) (by first | omega | (dsimp only [rmL_below, rmX4_isThere]; omega)) s hs
  · exfalso
    omega
set_option maxHeartbeats 4000000 in
set_option maxRecDepth 100000 in
theorem met_L_act (l : Launch) (hl9 : l.stackTraces = false) (D : va_G) (cI cG cJ : ClassId) (hm h2 : Nat) (ad a2 bd pd : Nat → Nat) (T : Int) (hT1 : T ≤ 100) (x : Int) (w : va_W) (hJ : JS hm h2 ad a2 bd pd cI cG T w) : gMH l yL_act cL_act 9 (some .boolean) [(26, 170, 451, 60), (171, 232, 451, 60), (233, 264, 451, 60), (265, 341, 451, 60), (342, 380, 451, 60), (381, 450, 451, 60)] rmL_act D cI cG cJ [.ref hm, .ref h2, .int (zI x)] w (gI (fun z w9 => z = 1 ∧ JS hm h2 ad a2 bd pd cI cG (T + 1) w9)) := by
  obtain ⟨cnt, fv, fs, fd, rm, lt, tk, ov, w1, w2, rfl, hX, ⟨sa, ra, nw, bs, bS, bM, rfl⟩, hI, hY⟩ := hJ
  obtain ⟨hc, hS, h99, hr1, hr2⟩ := id hI
  refine gMH_Z (by decide) rfl (Nat.le_of_ble_eq_true rfl) (fun E C hT ret => ?_)
  refine g_ws (w' := (((w1) ++ (wZ h2 sa rm lt tk ov nw bs bS bM)) ++ (wG sa cG cnt (rN ra cnt))) ++ (wQ ra cI fv fs fd cnt)) (by simp only [List.append_assoc]) rfl ?_
  refine g_mods [w1, wZ h2 sa rm lt tk ov nw bs bS bM, wG sa cG cnt (rN ra cnt), wQ ra cI fv fs fd cnt] [wZ h2 sa rm lt tk ov nw bs bS bM, wG sa cG cnt (rN ra cnt), w1, wQ ra cI fv fs fd cnt] [1, 2, 0, 3] (by decide) rfl ?_
  refine g_ws (w' := (((wZ h2 sa rm lt tk ov nw bs bS bM) ++ (wG sa cG cnt (rN ra cnt))) ++ (w1)) ++ (wQ ra cI fv fs fd cnt)) rfl rfl ?_
  refine g_aload_n C dL_act_0 1 rfl ?_
  refine g_getf C fL_9 0 rfl rfl dL_act_1 ?_
  refine g_alenG C 1 rfl dL_act_4 ?_
  refine g_istore_n (L' := [(3, .int (zI ((cnt : Nat) : Int))), (0, .ref hm), (1, .ref h2), (2, .int (zI x))]) C dL_act_5 (by decide) rfl ?_
  refine g_iload_n C dL_act_6 0 rfl ?_
  refine g_if_ne 14 C dL_act_7 (by decide) (zr_i (by omega) (by omega)) (fun c_7 => ?_) (fun c_7 => ?_)
  · refine g_iload_n C dL_act_14 3 rfl ?_
    refine g_iconst C dL_act_15 ?_
    refine g_ishr C dL_act_16 (fun z1x z1xr => ?_)
    refine g_iload_n C dL_act_17 0 rfl ?_
    refine g_callS (wr := (((wZ h2 sa rm lt tk ov nw bs bS bM) ++ (wG sa cG cnt (rN ra cnt))) ++ (w1)) ++ (wQ ra cI fv fs fd cnt)) (st := []) _ _ C cL_15 (met_L_below l D cI cG cJ z1x ((cnt : Nat) : Int) (by omega) (zr_i (by omega) (by omega))) gSp_e (by decide) ⟨by dsimp only [rmL_below, rmL_act]; omega, by dsimp only [rmL_below, rmL_act]; omega⟩ rfl rfl (Nat.le_of_ble_eq_true rfl) dL_act_18 ?_
    rintro v9 w9 ⟨b18, rfl, b18h, rfl⟩
    refine g_ws (w' := (((wZ h2 sa rm lt tk ov nw bs bS bM) ++ (wG sa cG cnt (rN ra cnt))) ++ (w1)) ++ (wQ ra cI fv fs fd cnt)) (st' := [.int (zI b18)]) (List.append_nil _) rfl ?_
    refine g_istore (L' := [(4, .int (zI b18)), (3, .int (zI ((cnt : Nat) : Int))), (0, .ref hm), (1, .ref h2), (2, .int (zI x))]) C dL_act_21 (by decide) rfl ?_
    refine g_iconst C dL_act_23 ?_
    refine g_istore (L' := [(5, .int (zI 1)), (4, .int (zI b18)), (3, .int (zI ((cnt : Nat) : Int))), (0, .ref hm), (1, .ref h2), (2, .int (zI x))]) C dL_act_24 (by decide) rfl ?_
    refine g_iload_n C dL_act_26 2 rfl ?_
    refine g_if_eq 39 C dL_act_27 (by decide) (zr_i (by omega) (by omega)) (fun c_27 => ?_) (fun c_27 => ?_)
    · exact act_39 hl9 hm h2 ad a2 bd pd T hT1 cnt fv fs fd rm lt tk ov w1 sa ra nw bs bS bM hX hI hY x C hT ret (by first | omega | (dsimp only [rmL_below]; omega)) (by first | omega | (dsimp only [rmL_below]; omega)) b18
    · refine g_iload_n C dL_act_30 5 rfl ?_
      refine g_bipush C dL_act_31 (by decide) ?_
      refine g_callS (wr := (((wZ h2 sa rm lt tk ov nw bs bS bM) ++ (wG sa cG cnt (rN ra cnt))) ++ (w1)) ++ (wQ ra cI fv fs fd cnt)) (st := []) _ _ C cL_15 (met_L_below l D cI cG cJ x 13 (by omega) (zr_i (by omega) (by omega))) gSp_e (by decide) ⟨by dsimp only [rmL_below, rmL_act]; omega, by dsimp only [rmL_below, rmL_act]; omega⟩ rfl rfl (Nat.le_of_ble_eq_true rfl) dL_act_33 ?_
      rintro v9 w9 ⟨b33, rfl, b33h, rfl⟩
      refine g_ws (w' := (((wZ h2 sa rm lt tk ov nw bs bS bM) ++ (wG sa cG cnt (rN ra cnt))) ++ (w1)) ++ (wQ ra cI fv fs fd cnt)) (st' := [.int (zI b33)]) (List.append_nil _) rfl ?_
      refine g_if_ne 171 C dL_act_36 (by decide) (zr_i (by omega) (by omega)) (fun c_36 => ?_) (fun c_36 => ?_)
      · obtain ⟨s, hs⟩ : ∃ s : Nat, b18 = (s : Int) := ⟨b18.toNat, by omega⟩
        subst hs
        exact act_171 hl9 hm h2 ad a2 bd pd T hT1 cnt fv fs fd rm lt tk ov w1 sa ra nw bs bS bM hX hI hY x C hT ret (by first | omega | (dsimp only [rmL_below]; omega)) (by first | omega | (dsimp only [rmL_below]; omega)) s (by omega)
      · exact act_39 hl9 hm h2 ad a2 bd pd T hT1 cnt fv fs fd rm lt tk ov w1 sa ra nw bs bS bM hX hI hY x C hT ret (by first | omega | (dsimp only [rmL_below]; omega)) (by first | omega | (dsimp only [rmL_below]; omega)) b18
  · refine g_iconst C dL_act_10 ?_
    refine g_goto 21 C dL_act_11 (by decide) ?_
    refine g_istore (L' := [(4, .int (zI 0)), (3, .int (zI ((cnt : Nat) : Int))), (0, .ref hm), (1, .ref h2), (2, .int (zI x))]) C dL_act_21 (by decide) rfl ?_
    refine g_iconst C dL_act_23 ?_
    refine g_istore (L' := [(5, .int (zI 1)), (4, .int (zI 0)), (3, .int (zI ((cnt : Nat) : Int))), (0, .ref hm), (1, .ref h2), (2, .int (zI x))]) C dL_act_24 (by decide) rfl ?_
    refine g_iload_n C dL_act_26 2 rfl ?_
    refine g_if_eq 39 C dL_act_27 (by decide) (zr_i (by omega) (by omega)) (fun c_27 => ?_) (fun c_27 => ?_)
    · exact act_39 hl9 hm h2 ad a2 bd pd T hT1 cnt fv fs fd rm lt tk ov w1 sa ra nw bs bS bM hX hI hY x C hT ret (by first | omega | (dsimp only [rmL_below]; omega)) (by first | omega | (dsimp only [rmL_below]; omega)) 0
    · refine g_iload_n C dL_act_30 5 rfl ?_
      refine g_bipush C dL_act_31 (by decide) ?_
      refine g_callS (wr := (((wZ h2 sa rm lt tk ov nw bs bS bM) ++ (wG sa cG cnt (rN ra cnt))) ++ (w1)) ++ (wQ ra cI fv fs fd cnt)) (st := []) _ _ C cL_15 (met_L_below l D cI cG cJ x 13 (by omega) (zr_i (by omega) (by omega))) gSp_e (by decide) ⟨by dsimp only [rmL_below, rmL_act]; omega, by dsimp only [rmL_below, rmL_act]; omega⟩ rfl rfl (Nat.le_of_ble_eq_true rfl) dL_act_33 ?_
      rintro v9 w9 ⟨b33, rfl, b33h, rfl⟩
      refine g_ws (w' := (((wZ h2 sa rm lt tk ov nw bs bS bM) ++ (wG sa cG cnt (rN ra cnt))) ++ (w1)) ++ (wQ ra cI fv fs fd cnt)) (st' := [.int (zI b33)]) (List.append_nil _) rfl ?_
      refine g_if_ne 171 C dL_act_36 (by decide) (zr_i (by omega) (by omega)) (fun c_36 => ?_) (fun c_36 => ?_)
      · exfalso
        omega
      · exact act_39 hl9 hm h2 ad a2 bd pd T hT1 cnt fv fs fd rm lt tk ov w1 sa ra nw bs bS bM hX hI hY x C hT ret (by first | omega | (dsimp only [rmL_below]; omega)) (by first | omega | (dsimp only [rmL_below]; omega)) 0
