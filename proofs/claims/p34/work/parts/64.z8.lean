/-! a machine that cells choose -/
abbrev rmL_build : Room := { frames := 12, cells := 200, slots := 600, locals := 330 }
set_option maxHeartbeats 4000000 in
set_option maxRecDepth 100000 in
theorem met_L_build (l : Launch) (hl9 : l.stackTraces = false) (D : va_G) (cI cG cJ : ClassId) (hm : Nat) (ad a2 bd pd : Nat → Nat) (b N : Nat) (xs : Nat → Int32) (hN : N ≤ 2000) (w1 : va_W) (hX : XW hm ad a2 bd pd cI cG 0 (fun _ => 0) (fun _ => 0) (fun _ => 0) 6 0 0 0 w1) : gMetX l yL_build cL_build 8 (some (.object "StampVendorLaw$Sim")) rmL_build D cI cG cJ [.ref hm, .ref b] w1 b N xs (gA (fun z w9 => ∃ h2 : Nat, z = .ref h2 ∧ JS hm h2 ad a2 bd pd cI cG 0 w9)) := by
  refine gMetX_A (Or.inl ⟨_, rfl⟩) (by decide) rfl (Nat.le_of_ble_eq_true rfl) (fun E C hXs ret => ?_)
  refine g_new (ci := 4) [.int (zI 0), .int (zI 0), .int (zI 0), .int (zI 0), .null, .null, .null, .int (zI 0), .int (zI 0)] C nwL_10 rfl inlX4 tyX4 tyX4_ok dfX4 ⟨Nat.le_of_ble_eq_true rfl, Nat.le_of_ble_eq_true rfl⟩ dL_build_0 (fun h2 => ?_)
  refine g_ws (w' := (w1) ++ ([(h2, .inr (4, [.int (zI 0), .int (zI 0), .int (zI 0), .int (zI 0), .null, .null, .null, .int (zI 0), .int (zI 0)]))])) rfl rfl ?_
  refine g_dup C dL_build_3 rfl ?_
  refine g_callN (wr := w1) (st := [.ref h2]) _ _ C cnL_62 (met_X4_init l D cI cG cJ h2) gSp_r (by decide) ⟨by dsimp only [rmX4_init, rmL_build]; omega, by dsimp only [rmX4_init, rmL_build]; omega⟩ rfl rfl (Nat.le_of_ble_eq_true rfl) dL_build_4 ?_
  rintro v9 w9 ⟨rfl, q0, rfl⟩
  refine g_ws (w' := ((w1) ++ (wZ h2 q0 6 0 0 0 .null .null 0 0)) ++ (wG q0 cG 0 (rN (fun _ => 0) 0))) (st' := [.ref h2]) (by simp only [List.append_assoc]) rfl ?_
  refine g_mods [w1, wZ h2 q0 6 0 0 0 .null .null 0 0, wG q0 cG 0 (rN (fun _ => 0) 0)] [wZ h2 q0 6 0 0 0 .null .null 0 0, wG q0 cG 0 (rN (fun _ => 0) 0), w1] [1, 2, 0] (by decide) rfl ?_
  refine g_ws (w' := ((wZ h2 q0 6 0 0 0 .null .null 0 0) ++ (wG q0 cG 0 (rN (fun _ => 0) 0))) ++ (w1)) rfl rfl ?_
  refine g_eqw (w' := (((wZ h2 q0 6 0 0 0 .null .null 0 0) ++ (wG q0 cG 0 (rN (fun _ => 0) 0))) ++ (w1)) ++ (wQ (fun _ => 0) cI (fun _ => 0) (fun _ => 0) (fun _ => 0) 0)) ((List.append_nil _).symm) ?_
  refine g_astore_n (L' := [(2, .ref h2), (0, .ref hm), (1, .ref b)]) C dL_build_7 (by decide) rfl ?_
  refine g_iconst C dL_build_8 ?_
  refine g_aload_n C dL_build_9 2 rfl ?_
  refine g_iconst C dL_build_10 ?_
  refine g_callSY (wr := (((wZ h2 q0 6 0 0 0 .null .null 0 0) ++ (wG q0 cG 0 (rN (fun _ => 0) 0))) ++ (w1)) ++ (wQ (fun _ => 0) cI (fun _ => 0) (fun _ => 0) (fun _ => 0) 0)) (st := [.int (zI 1)]) _ _ C hXs cL_63 (met_L_cell l D cI cG cJ b N xs hN 0 (by omega)) gSp_e (by decide) ⟨by dsimp only [rmL_cell, rmL_build]; omega, by dsimp only [rmL_cell, rmL_build]; omega⟩ rfl rfl (Nat.le_of_ble_eq_true rfl) dL_build_11 ?_
  rintro v9 w9 ⟨c11, rfl, c11h, rfl⟩
  refine g_ws (w' := (((wZ h2 q0 6 0 0 0 .null .null 0 0) ++ (wG q0 cG 0 (rN (fun _ => 0) 0))) ++ (w1)) ++ (wQ (fun _ => 0) cI (fun _ => 0) (fun _ => 0) (fun _ => 0) 0)) (st' := [.int (zI c11), .int (zI 1)]) (List.append_nil _) rfl ?_
  refine g_bipush C dL_build_14 (by decide) ?_
  refine g_callS (wr := (((wZ h2 q0 6 0 0 0 .null .null 0 0) ++ (wG q0 cG 0 (rN (fun _ => 0) 0))) ++ (w1)) ++ (wQ (fun _ => 0) cI (fun _ => 0) (fun _ => 0) (fun _ => 0) 0)) (st := [.int (zI 1)]) _ _ C cL_15 (met_L_below l D cI cG cJ c11 8 (by omega) (zr_i (by omega) (by omega))) gSp_e (by decide) ⟨by dsimp only [rmL_below, rmL_build]; omega, by dsimp only [rmL_below, rmL_build]; omega⟩ rfl rfl (Nat.le_of_ble_eq_true rfl) dL_build_16 ?_
  rintro v9 w9 ⟨b16, rfl, b16h, rfl⟩
  refine g_ws (w' := (((wZ h2 q0 6 0 0 0 .null .null 0 0) ++ (wG q0 cG 0 (rN (fun _ => 0) 0))) ++ (w1)) ++ (wQ (fun _ => 0) cI (fun _ => 0) (fun _ => 0) (fun _ => 0) 0)) (st' := [.int (zI b16), .int (zI 1)]) (List.append_nil _) rfl ?_
  refine g_iadd C dL_build_19 ?_
  refine g_istore_n (L' := [(3, .int (zI (1 + b16))), (2, .ref h2), (0, .ref hm), (1, .ref b)]) C dL_build_20 (by decide) rfl ?_
  refine g_aload_n C dL_build_21 1 rfl ?_
  refine g_iconst C dL_build_22 ?_
  refine g_aload_n C dL_build_23 3 rfl ?_
  refine g_iconst C dL_build_24 ?_
  refine g_callSY (wr := (((wZ h2 q0 6 0 0 0 .null .null 0 0) ++ (wG q0 cG 0 (rN (fun _ => 0) 0))) ++ (w1)) ++ (wQ (fun _ => 0) cI (fun _ => 0) (fun _ => 0) (fun _ => 0) 0)) (st := [.int (zI 1), .ref h2]) _ _ C hXs cL_63 (met_L_cell l D cI cG cJ b N xs hN 0 (by omega)) gSp_e (by decide) ⟨by dsimp only [rmL_cell, rmL_build]; omega, by dsimp only [rmL_cell, rmL_build]; omega⟩ rfl rfl (Nat.le_of_ble_eq_true rfl) dL_build_25 ?_
  rintro v9 w9 ⟨c25, rfl, c25h, rfl⟩
  refine g_ws (w' := (((wZ h2 q0 6 0 0 0 .null .null 0 0) ++ (wG q0 cG 0 (rN (fun _ => 0) 0))) ++ (w1)) ++ (wQ (fun _ => 0) cI (fun _ => 0) (fun _ => 0) (fun _ => 0) 0)) (st' := [.int (zI c25), .int (zI 1), .ref h2]) (List.append_nil _) rfl ?_
  refine g_iconst C dL_build_28 ?_
  refine g_ishr C dL_build_29 (fun z1x z1xr => ?_)
  refine g_bipush C dL_build_30 (by decide) ?_
  refine g_callS (wr := (((wZ h2 q0 6 0 0 0 .null .null 0 0) ++ (wG q0 cG 0 (rN (fun _ => 0) 0))) ++ (w1)) ++ (wQ (fun _ => 0) cI (fun _ => 0) (fun _ => 0) (fun _ => 0) 0)) (st := [.int (zI 1), .ref h2]) _ _ C cL_15 (met_L_below l D cI cG cJ z1x 12 (by omega) (zr_i (by omega) (by omega))) gSp_e (by decide) ⟨by dsimp only [rmL_below, rmL_build]; omega, by dsimp only [rmL_below, rmL_build]; omega⟩ rfl rfl (Nat.le_of_ble_eq_true rfl) dL_build_32 ?_
  rintro v9 w9 ⟨b32, rfl, b32h, rfl⟩
  refine g_ws (w' := (((wZ h2 q0 6 0 0 0 .null .null 0 0) ++ (wG q0 cG 0 (rN (fun _ => 0) 0))) ++ (w1)) ++ (wQ (fun _ => 0) cI (fun _ => 0) (fun _ => 0) (fun _ => 0) 0)) (st' := [.int (zI b32), .int (zI 1), .ref h2]) (List.append_nil _) rfl ?_
  refine g_iadd C dL_build_35 ?_
  refine g_putl (w' := (((wZ h2 q0 (1 + b32) 0 0 0 .null .null 0 0) ++ (wG q0 cG 0 (rN (fun _ => 0) 0))) ++ (w1)) ++ (wQ (fun _ => 0) cI (fun _ => 0) (fun _ => 0) (fun _ => 0) 0)) C pL_45 0 rfl rfl rfl (Nat.le_of_ble_eq_true rfl) rfl dL_build_36 ?_
  refine g_aload_n C dL_build_39 2 rfl ?_
  refine g_aload_n C dL_build_40 1 rfl ?_
  refine g_getf C fL_45 0 rfl rfl dL_build_41 ?_
  refine g_mods [wZ h2 q0 (1 + b32) 0 0 0 .null .null 0 0, wG q0 cG 0 (rN (fun _ => 0) 0), w1, wQ (fun _ => 0) cI (fun _ => 0) (fun _ => 0) (fun _ => 0) 0] [wZ h2 q0 (1 + b32) 0 0 0 .null .null 0 0, wG q0 cG 0 (rN (fun _ => 0) 0), wQ (fun _ => 0) cI (fun _ => 0) (fun _ => 0) (fun _ => 0) 0, w1] [0, 1, 3, 2] (by decide) rfl ?_
  refine g_ws (w' := (((wZ h2 q0 (1 + b32) 0 0 0 .null .null 0 0) ++ (wG q0 cG 0 (rN (fun _ => 0) 0))) ++ (wQ (fun _ => 0) cI (fun _ => 0) (fun _ => 0) (fun _ => 0) 0)) ++ (w1)) rfl rfl ?_
  obtain ⟨c20, gv0, gs0, gd0, tc0, tr0, ft0, tv0, tu0, fc0, M0, fa0, fb0, N0, rfl⟩ := hX
  refine g_callVX (wr := ((wZ h2 q0 (1 + b32) 0 0 0 .null .null 0 0) ++ (wG q0 cG 0 (rN (fun _ => 0) 0))) ++ (wQ (fun _ => 0) cI (fun _ => 0) (fun _ => 0) (fun _ => 0) 0)) (st := []) _ _ C cL_49 (met_X3_setRoom l hl9 D cI cG cJ hm ad a2 bd pd 0 (fun _ => 0) (fun _ => 0) (fun _ => 0) 6 0 0 0 xi_0 c20 gv0 gs0 gd0 tc0 tr0 ft0 tv0 tu0 fc0 M0 fa0 fb0 N0 (1 + b32) (zr_i (by omega) (by omega))) gSp_r (ci := 3) (q0 := ((((wZ h2 q0 (1 + b32) 0 0 0 .null .null 0 0) ++ (wG q0 cG 0 (rN (fun _ => 0) 0))) ++ (wQ (fun _ => 0) cI (fun _ => 0) (fun _ => 0) (fun _ => 0) 0)) : va_W).length) (at_r rfl) rfl (by decide) ⟨by dsimp only [rmX3_setRoom, rmL_build]; omega, by dsimp only [rmX3_setRoom, rmL_build]; omega⟩ rfl rfl (Nat.le_of_ble_eq_true rfl) dL_build_44 (fun nm9 w9 h9 => ?_) ?_
  · exfalso
    rcases h9 with ⟨_, h8, _⟩
    exact h8 ⟨by omega, by omega⟩
  rintro v9 w9 ⟨z9, rfl, hz9, hX⟩
  refine g_ws (w' := (((wZ h2 q0 (1 + b32) 0 0 0 .null .null 0 0) ++ (wG q0 cG 0 (rN (fun _ => 0) 0))) ++ (wQ (fun _ => 0) cI (fun _ => 0) (fun _ => 0) (fun _ => 0) 0)) ++ (w9)) (st' := [.int (zI z9)]) (by simp only [List.append_assoc]) rfl ?_
  refine g_mods [wZ h2 q0 (1 + b32) 0 0 0 .null .null 0 0, wG q0 cG 0 (rN (fun _ => 0) 0), wQ (fun _ => 0) cI (fun _ => 0) (fun _ => 0) (fun _ => 0) 0, w9] [wZ h2 q0 (1 + b32) 0 0 0 .null .null 0 0, wG q0 cG 0 (rN (fun _ => 0) 0), w9, wQ (fun _ => 0) cI (fun _ => 0) (fun _ => 0) (fun _ => 0) 0] [0, 1, 3, 2] (by decide) rfl ?_
  refine g_ws (w' := (((wZ h2 q0 (1 + b32) 0 0 0 .null .null 0 0) ++ (wG q0 cG 0 (rN (fun _ => 0) 0))) ++ (w9)) ++ (wQ (fun _ => 0) cI (fun _ => 0) (fun _ => 0) (fun _ => 0) 0)) rfl rfl ?_
  refine g_bipush C dL_build_47 (by decide) ?_
  refine g_icmp_eq 54 C dL_build_49 (by decide) (zr_i (by omega) (by omega)) (zr_i (by omega) (by omega)) (fun c_49 => ?_) (fun c_49 => ?_)
  · refine g_iconst C dL_build_54 ?_
    refine g_istore (L' := [(4, .int (zI 0)), (3, .int (zI (1 + b16))), (2, .ref h2), (0, .ref hm), (1, .ref b)]) C dL_build_55 (by decide) rfl ?_
    have loop_57 : ∀ (fu : Nat) (k : Nat) (cnt : Nat) (fv : Nat → Int) (fs : Nat → Int) (fd : Nat → Int) (sa : Nat) (ra : Nat → Nat) (w1 : va_W), (hk : (k : Int) ≤ 1 + b16) → (hck : cnt ≤ k) → (hX : XW hm ad a2 bd pd cI cG cnt fv fs fd (1 + b32) 0 0 0 w1) → (hI : XI cnt fv fs (1 + b32)) → (hY : YI cnt fd 0 0 0 0) → 9 - k < fu → gW E (9 + 12 * k) (50 + 40 * k) ((((wZ h2 sa (1 + b32) 0 0 0 .null .null 0 0) ++ (wG sa cG cnt (rN ra cnt))) ++ (w1)) ++ (wQ ra cI fv fs fd cnt)) 57 [(4, .int (zI (k : Int))), (3, .int (zI (1 + b16))), (2, .ref h2), (0, .ref hm), (1, .ref b)] [] := by
      intro fu
      induction fu with
      | zero => intro k cnt fv fs fd sa ra w1 hk hck hX hI hY h9; exact absurd h9 (Nat.not_lt_zero _)
      | succ fu ih_57 =>
        intro k cnt fv fs fd sa ra w1 hk hck hX hI hY hmu_57
        refine g_iload C dL_build_57 0 rfl ?_
        refine g_iload_n C dL_build_59 1 rfl ?_
        refine g_icmp_ge 195 C dL_build_60 (by decide) (zr_i (by omega) (by omega)) (zr_i (by omega) (by omega)) (fun c_60 => ?_) (fun c_60 => ?_)
        · refine g_aload_n C dL_build_195 2 rfl ?_
          refine g_mods [wZ h2 sa (1 + b32) 0 0 0 .null .null 0 0, wG sa cG cnt (rN ra cnt), w1, wQ ra cI fv fs fd cnt] [w1, wZ h2 sa (1 + b32) 0 0 0 .null .null 0 0, wG sa cG cnt (rN ra cnt), wQ ra cI fv fs fd cnt] [2, 0, 1, 3] (by decide) rfl ?_
          refine g_ws (w' := (((w1) ++ (wZ h2 sa (1 + b32) 0 0 0 .null .null 0 0)) ++ (wG sa cG cnt (rN ra cnt))) ++ (wQ ra cI fv fs fd cnt)) rfl rfl ?_
          exact ret _ _ _ _ _ _ (by first | omega | (dsimp only [rmL_build]; omega)) (by first | omega | (dsimp only [rmL_build]; omega)) dL_build_196 (Or.inr ⟨_, rfl⟩) (⟨h2, rfl, JS_mk hX hI hY⟩)
        · refine g_aload_n C dL_build_63 4 rfl ?_
          refine g_iconst C dL_build_64 ?_
          refine g_iload C dL_build_65 0 rfl ?_
          refine g_iadd C dL_build_67 ?_
          refine g_callSY (wr := (((wZ h2 sa (1 + b32) 0 0 0 .null .null 0 0) ++ (wG sa cG cnt (rN ra cnt))) ++ (w1)) ++ (wQ ra cI fv fs fd cnt)) (st := []) _ _ C hXs cL_63 (met_L_cell l D cI cG cJ b N xs hN (1 + (k : Int)) (by omega)) gSp_e (by decide) ⟨by dsimp only [rmL_cell, rmL_build]; omega, by dsimp only [rmL_cell, rmL_build]; omega⟩ rfl rfl (Nat.le_of_ble_eq_true rfl) dL_build_68 ?_
          rintro v9 w9 ⟨c68, rfl, c68h, rfl⟩
          refine g_ws (w' := (((wZ h2 sa (1 + b32) 0 0 0 .null .null 0 0) ++ (wG sa cG cnt (rN ra cnt))) ++ (w1)) ++ (wQ ra cI fv fs fd cnt)) (st' := [.int (zI c68)]) (List.append_nil _) rfl ?_
          refine g_iconst C dL_build_71 ?_
          refine g_ishr C dL_build_72 (fun z2x z2xr => ?_)
          refine g_istore (L' := [(5, .int (zI z2x)), (4, .int (zI (k : Int))), (3, .int (zI (1 + b16))), (2, .ref h2), (0, .ref hm), (1, .ref b)]) C dL_build_73 (by decide) rfl ?_
          refine g_iconst C dL_build_75 ?_
          refine g_iload C dL_build_76 0 rfl ?_
          refine g_iconst C dL_build_78 ?_
          refine g_ishr C dL_build_79 (fun z3x z3xr => ?_)
          refine g_iload C dL_build_80 0 rfl ?_
          refine g_iconst C dL_build_82 ?_
          refine g_callS (wr := (((wZ h2 sa (1 + b32) 0 0 0 .null .null 0 0) ++ (wG sa cG cnt (rN ra cnt))) ++ (w1)) ++ (wQ ra cI fv fs fd cnt)) (st := [.int (zI z3x), .int (zI 1)]) _ _ C cL_15 (met_L_below l D cI cG cJ z2x 2 (by omega) (zr_i (by omega) (by omega))) gSp_e (by decide) ⟨by dsimp only [rmL_below, rmL_build]; omega, by dsimp only [rmL_below, rmL_build]; omega⟩ rfl rfl (Nat.le_of_ble_eq_true rfl) dL_build_83 ?_
          rintro v9 w9 ⟨b83, rfl, b83h, rfl⟩
          refine g_ws (w' := (((wZ h2 sa (1 + b32) 0 0 0 .null .null 0 0) ++ (wG sa cG cnt (rN ra cnt))) ++ (w1)) ++ (wQ ra cI fv fs fd cnt)) (st' := [.int (zI b83), .int (zI z3x), .int (zI 1)]) (List.append_nil _) rfl ?_
          refine g_if_ne 94 C dL_build_86 (by decide) (zr_i (by omega) (by omega)) (fun c_86 => ?_) (fun c_86 => ?_)
          · refine g_bipush C dL_build_94 (by decide) ?_
            refine g_callS (wr := (((wZ h2 sa (1 + b32) 0 0 0 .null .null 0 0) ++ (wG sa cG cnt (rN ra cnt))) ++ (w1)) ++ (wQ ra cI fv fs fd cnt)) (st := [.int (zI 1)]) _ _ C cL_15 (met_L_below l D cI cG cJ z3x 10 (by omega) (zr_i (by omega) (by omega))) gSp_e (by decide) ⟨by dsimp only [rmL_below, rmL_build]; omega, by dsimp only [rmL_below, rmL_build]; omega⟩ rfl rfl (Nat.le_of_ble_eq_true rfl) dL_build_96 ?_
            rintro v9 w9 ⟨b96, rfl, b96h, rfl⟩
            refine g_ws (w' := (((wZ h2 sa (1 + b32) 0 0 0 .null .null 0 0) ++ (wG sa cG cnt (rN ra cnt))) ++ (w1)) ++ (wQ ra cI fv fs fd cnt)) (st' := [.int (zI b96), .int (zI 1)]) (List.append_nil _) rfl ?_
            refine g_iadd C dL_build_99 ?_
            refine g_istore (L' := [(6, .int (zI (1 + b96))), (5, .int (zI z2x)), (4, .int (zI (k : Int))), (3, .int (zI (1 + b16))), (2, .ref h2), (0, .ref hm), (1, .ref b)]) C dL_build_100 (by decide) rfl ?_
            refine g_iload C dL_build_102 1 rfl ?_
            refine g_bipush C dL_build_104 (by decide) ?_
            refine g_ishr C dL_build_106 (fun z4x z4xr => ?_)
            refine g_iload C dL_build_107 1 rfl ?_
            refine g_iconst C dL_build_109 ?_
            refine g_ishr C dL_build_110 (fun z5x z5xr => ?_)
            refine g_iconst C dL_build_111 ?_
            refine g_callS (wr := (((wZ h2 sa (1 + b32) 0 0 0 .null .null 0 0) ++ (wG sa cG cnt (rN ra cnt))) ++ (w1)) ++ (wQ ra cI fv fs fd cnt)) (st := [.int (zI z4x)]) _ _ C cL_15 (met_L_below l D cI cG cJ z5x 2 (by omega) (zr_i (by omega) (by omega))) gSp_e (by decide) ⟨by dsimp only [rmL_below, rmL_build]; omega, by dsimp only [rmL_below, rmL_build]; omega⟩ rfl rfl (Nat.le_of_ble_eq_true rfl) dL_build_112 ?_
            rintro v9 w9 ⟨b112, rfl, b112h, rfl⟩
            refine g_ws (w' := (((wZ h2 sa (1 + b32) 0 0 0 .null .null 0 0) ++ (wG sa cG cnt (rN ra cnt))) ++ (w1)) ++ (wQ ra cI fv fs fd cnt)) (st' := [.int (zI b112), .int (zI z4x)]) (List.append_nil _) rfl ?_
            refine g_if_ne 123 C dL_build_115 (by decide) (zr_i (by omega) (by omega)) (fun c_115 => ?_) (fun c_115 => ?_)
            · refine g_iconst C dL_build_123 ?_
              refine g_callS (wr := (((wZ h2 sa (1 + b32) 0 0 0 .null .null 0 0) ++ (wG sa cG cnt (rN ra cnt))) ++ (w1)) ++ (wQ ra cI fv fs fd cnt)) (st := []) _ _ C cL_15 (met_L_below l D cI cG cJ z4x 5 (by omega) (zr_i (by omega) (by omega))) gSp_e (by decide) ⟨by dsimp only [rmL_below, rmL_build]; omega, by dsimp only [rmL_below, rmL_build]; omega⟩ rfl rfl (Nat.le_of_ble_eq_true rfl) dL_build_124 ?_
              rintro v9 w9 ⟨b124, rfl, b124h, rfl⟩
              refine g_ws (w' := (((wZ h2 sa (1 + b32) 0 0 0 .null .null 0 0) ++ (wG sa cG cnt (rN ra cnt))) ++ (w1)) ++ (wQ ra cI fv fs fd cnt)) (st' := [.int (zI b124)]) (List.append_nil _) rfl ?_
              refine g_istore (L' := [(7, .int (zI b124)), (6, .int (zI (1 + b96))), (5, .int (zI z2x)), (4, .int (zI (k : Int))), (3, .int (zI (1 + b16))), (2, .ref h2), (0, .ref hm), (1, .ref b)]) C dL_build_127 (by decide) rfl ?_
              refine g_aload_n C dL_build_129 5 rfl ?_
              refine g_iload C dL_build_130 1 rfl ?_
              refine g_mods [wZ h2 sa (1 + b32) 0 0 0 .null .null 0 0, wG sa cG cnt (rN ra cnt), w1, wQ ra cI fv fs fd cnt] [w1, wZ h2 sa (1 + b32) 0 0 0 .null .null 0 0, wG sa cG cnt (rN ra cnt), wQ ra cI fv fs fd cnt] [2, 0, 1, 3] (by decide) rfl ?_
              refine g_ws (w' := (((w1) ++ (wZ h2 sa (1 + b32) 0 0 0 .null .null 0 0)) ++ (wG sa cG cnt (rN ra cnt))) ++ (wQ ra cI fv fs fd cnt)) rfl rfl ?_
              refine g_eqw (w' := (w1) ++ (((wZ h2 sa (1 + b32) 0 0 0 .null .null 0 0) ++ (wG sa cG cnt (rN ra cnt))) ++ (wQ ra cI fv fs fd cnt))) (by simp only [List.append_assoc]) ?_
              refine g_callV (wr := w1) (st := []) _ _ C cL_21 (met_X4_isThere l D cI cG cJ h2 sa ra cnt (by omega) fv fs fd hI.2.1 (1 + b32) 0 0 0 .null .null 0 0 (1 + b96) (zr_i (by omega) (by omega))) gSp_r (ci := 4) (q0 := ((w1) : va_W).length) (at_r rfl) rfl (by decide) ⟨by dsimp only [rmX4_isThere, rmL_build]; omega, by dsimp only [rmX4_isThere, rmL_build]; omega⟩ rfl rfl (Nat.le_of_ble_eq_true rfl) dL_build_132 ?_
              rintro v9 w9 ⟨z9, rfl, hz8, rfl⟩
              refine g_ws (w' := (((w1) ++ (wZ h2 sa (1 + b32) 0 0 0 .null .null 0 0)) ++ (wG sa cG cnt (rN ra cnt))) ++ (wQ ra cI fv fs fd cnt)) (st' := [.int (zI z9)]) (by simp only [List.append_assoc]) rfl ?_
              refine g_mods [w1, wZ h2 sa (1 + b32) 0 0 0 .null .null 0 0, wG sa cG cnt (rN ra cnt), wQ ra cI fv fs fd cnt] [wZ h2 sa (1 + b32) 0 0 0 .null .null 0 0, wG sa cG cnt (rN ra cnt), w1, wQ ra cI fv fs fd cnt] [1, 2, 0, 3] (by decide) rfl ?_
              refine g_ws (w' := (((wZ h2 sa (1 + b32) 0 0 0 .null .null 0 0) ++ (wG sa cG cnt (rN ra cnt))) ++ (w1)) ++ (wQ ra cI fv fs fd cnt)) rfl rfl ?_
              refine g_if_eq 141 C dL_build_135 (by decide) (zr_i (by omega) (by omega)) (fun c_135 => ?_) (fun c_135 => ?_)
              · refine g_aload_n C dL_build_141 5 rfl ?_
                refine g_aload_n C dL_build_142 5 rfl ?_
                refine g_getf C fL_9 0 rfl rfl dL_build_143 ?_
                refine g_iconst C dL_build_146 ?_
                refine g_newi (N := 3) C arrI (by decide) ⟨by dsimp only [rmL_build]; omega, by dsimp only [rmL_build]; omega⟩ dL_build_147 (fun a3 => ?_)
                refine g_ws (w' := ((((wZ h2 sa (1 + b32) 0 0 0 .null .null 0 0) ++ (wG sa cG cnt (rN ra cnt))) ++ (w1)) ++ (wQ ra cI fv fs fd cnt)) ++ ([(a3, .inl (cI, 3, .inl (zA (fun _ => 0))))])) rfl rfl ?_
                refine g_mods [wZ h2 sa (1 + b32) 0 0 0 .null .null 0 0, wG sa cG cnt (rN ra cnt), w1, wQ ra cI fv fs fd cnt, [(a3, .inl (cI, 3, .inl (zA (fun _ => 0))))]] [wZ h2 sa (1 + b32) 0 0 0 .null .null 0 0, wG sa cG cnt (rN ra cnt), [(a3, .inl (cI, 3, .inl (zA (fun _ => 0))))], w1, wQ ra cI fv fs fd cnt] [0, 1, 4, 2, 3] (by decide) rfl ?_
                refine g_ws (w' := ((((wZ h2 sa (1 + b32) 0 0 0 .null .null 0 0) ++ (wG sa cG cnt (rN ra cnt))) ++ ([(a3, .inl (cI, 3, .inl (zA (fun _ => 0))))])) ++ (w1)) ++ (wQ ra cI fv fs fd cnt)) rfl rfl ?_
                refine g_dup C dL_build_149 rfl ?_
                refine g_iconst C dL_build_150 ?_
                refine g_iload C dL_build_151 1 rfl ?_
                refine g_iast (w' := ((((wZ h2 sa (1 + b32) 0 0 0 .null .null 0 0) ++ (wG sa cG cnt (rN ra cnt))) ++ ([(a3, .inl (cI, 3, .inl (zA (zU (fun _ => 0) 0 (1 + b96)))))])) ++ (w1)) ++ (wQ ra cI fv fs fd cnt)) C 2 rfl (by decide) (by omega) (by omega) rfl dL_build_153 ?_
                refine g_dup C dL_build_154 rfl ?_
                refine g_iconst C dL_build_155 ?_
                refine g_iload C dL_build_156 0 rfl ?_
                refine g_iast (w' := ((((wZ h2 sa (1 + b32) 0 0 0 .null .null 0 0) ++ (wG sa cG cnt (rN ra cnt))) ++ ([(a3, .inl (cI, 3, .inl (zA (zU (zU (fun _ => 0) 0 (1 + b96)) 1 b124))))])) ++ (w1)) ++ (wQ ra cI fv fs fd cnt)) C 2 rfl (by decide) (by omega) (by omega) rfl dL_build_158 ?_
                refine g_dup C dL_build_159 rfl ?_
                refine g_iconst C dL_build_160 ?_
                refine g_iconst C dL_build_161 ?_
                refine g_iast (w' := ((((wZ h2 sa (1 + b32) 0 0 0 .null .null 0 0) ++ (wG sa cG cnt (rN ra cnt))) ++ ([(a3, .inl (cI, 3, .inl (zA (zU (zU (zU (fun _ => 0) 0 (1 + b96)) 1 b124) 2 0))))])) ++ (w1)) ++ (wQ ra cI fv fs fd cnt)) C 2 rfl (by decide) (by omega) (by omega) rfl dL_build_162 ?_
                refine g_mods [wZ h2 sa (1 + b32) 0 0 0 .null .null 0 0, wG sa cG cnt (rN ra cnt), [(a3, .inl (cI, 3, .inl (zA (zU (zU (zU (fun _ => 0) 0 (1 + b96)) 1 b124) 2 0))))], w1, wQ ra cI fv fs fd cnt] [wZ h2 sa (1 + b32) 0 0 0 .null .null 0 0, w1, wG sa cG cnt (rN ra cnt), wQ ra cI fv fs fd cnt, [(a3, .inl (cI, 3, .inl (zA (zU (zU (zU (fun _ => 0) 0 (1 + b96)) 1 b124) 2 0))))]] [0, 3, 1, 4, 2] (by decide) rfl ?_
                refine g_ws (w' := ((((wZ h2 sa (1 + b32) 0 0 0 .null .null 0 0) ++ (w1)) ++ (wG sa cG cnt (rN ra cnt))) ++ (wQ ra cI fv fs fd cnt)) ++ ([(a3, .inl (cI, 3, .inl (zA (zU (zU (zU (fun _ => 0) 0 (1 + b96)) 1 b124) 2 0))))])) rfl rfl ?_
                refine g_eqw (w' := (((wZ h2 sa (1 + b32) 0 0 0 .null .null 0 0) ++ (w1)) ++ (wG sa cG cnt (rN (va_up ra cnt a3) cnt))) ++ (wQ (va_up ra cnt a3) cI (zU fv cnt (1 + b96)) (zU fs cnt b124) (zU fd cnt 0) (cnt + 1))) (by rw [rw3_mk, wQ_ap2, rN_nx (ra := ra) (m := cnt) (a := a3)]) ?_
                refine g_eqw (w' := ((wZ h2 sa (1 + b32) 0 0 0 .null .null 0 0) ++ (w1)) ++ ((wG sa cG cnt (rN (va_up ra cnt a3) cnt)) ++ (wQ (va_up ra cnt a3) cI (zU fv cnt (1 + b96)) (zU fs cnt b124) (zU fd cnt 0) (cnt + 1)))) (by simp only [List.append_assoc]) ?_
                refine g_callS (wr := (wZ h2 sa (1 + b32) 0 0 0 .null .null 0 0) ++ (w1)) (st := [.ref h2]) _ _ C cL_25 (met_X4_with l D cI cG cJ sa a3 cnt (by omega) (va_up ra cnt a3) (wQ (va_up ra cnt a3) cI (zU fv cnt (1 + b96)) (zU fs cnt b124) (zU fd cnt 0) (cnt + 1)) (fun j hj => wQ_any j (by omega)) wQ_last) gSp_r (by decide) ⟨by dsimp only [rmX4_with, rmL_build]; omega, by dsimp only [rmX4_with, rmL_build]; omega⟩ rfl rfl (Nat.le_of_ble_eq_true rfl) dL_build_163 ?_
                rintro v9 w9 ⟨z8, rfl, q3, rfl, rfl⟩
                refine g_ws (w' := ((((wZ h2 sa (1 + b32) 0 0 0 .null .null 0 0) ++ (w1)) ++ (wG q3 cG (cnt + 1) (rN (va_up (va_up ra cnt a3) cnt a3) (cnt + 1)))) ++ (wG sa cG cnt (rN (va_up ra cnt a3) cnt))) ++ (wQ (va_up ra cnt a3) cI (zU fv cnt (1 + b96)) (zU fs cnt b124) (zU fd cnt 0) (cnt + 1))) (st' := [.ref q3, .ref h2]) (by simp only [List.append_assoc]) rfl ?_
                refine g_mods [wZ h2 sa (1 + b32) 0 0 0 .null .null 0 0, w1, wG q3 cG (cnt + 1) (rN (va_up (va_up ra cnt a3) cnt a3) (cnt + 1)), wG sa cG cnt (rN (va_up ra cnt a3) cnt), wQ (va_up ra cnt a3) cI (zU fv cnt (1 + b96)) (zU fs cnt b124) (zU fd cnt 0) (cnt + 1)] [wZ h2 sa (1 + b32) 0 0 0 .null .null 0 0, wG q3 cG (cnt + 1) (rN (va_up (va_up ra cnt a3) cnt a3) (cnt + 1)), w1, wQ (va_up ra cnt a3) cI (zU fv cnt (1 + b96)) (zU fs cnt b124) (zU fd cnt 0) (cnt + 1)] [0, 2, 1, 4] (by decide) rfl ?_
                refine g_ws (w' := (((wZ h2 sa (1 + b32) 0 0 0 .null .null 0 0) ++ (wG q3 cG (cnt + 1) (rN (va_up (va_up ra cnt a3) cnt a3) (cnt + 1)))) ++ (w1)) ++ (wQ (va_up ra cnt a3) cI (zU fv cnt (1 + b96)) (zU fs cnt b124) (zU fd cnt 0) (cnt + 1))) rfl rfl ?_
                refine g_eqw (w' := (((wZ h2 sa (1 + b32) 0 0 0 .null .null 0 0) ++ (wG q3 cG (cnt + 1) (rN (va_up ra cnt a3) (cnt + 1)))) ++ (w1)) ++ (wQ (va_up ra cnt a3) cI (zU fv cnt (1 + b96)) (zU fs cnt b124) (zU fd cnt 0) (cnt + 1))) (by rw [rN_ny]) ?_
                refine g_putl (w' := (((wZ h2 q3 (1 + b32) 0 0 0 .null .null 0 0) ++ (wG q3 cG (cnt + 1) (rN (va_up ra cnt a3) (cnt + 1)))) ++ (w1)) ++ (wQ (va_up ra cnt a3) cI (zU fv cnt (1 + b96)) (zU fs cnt b124) (zU fd cnt 0) (cnt + 1))) C pL_9 0 rfl rfl rfl (Nat.le_of_ble_eq_true rfl) rfl dL_build_166 ?_
                refine g_aload_n C dL_build_169 6 rfl ?_
                refine g_iload C dL_build_170 1 rfl ?_
                refine g_iload C dL_build_172 0 rfl ?_
                refine g_mods [wZ h2 q3 (1 + b32) 0 0 0 .null .null 0 0, wG q3 cG (cnt + 1) (rN (va_up ra cnt a3) (cnt + 1)), w1, wQ (va_up ra cnt a3) cI (zU fv cnt (1 + b96)) (zU fs cnt b124) (zU fd cnt 0) (cnt + 1)] [wZ h2 q3 (1 + b32) 0 0 0 .null .null 0 0, wG q3 cG (cnt + 1) (rN (va_up ra cnt a3) (cnt + 1)), wQ (va_up ra cnt a3) cI (zU fv cnt (1 + b96)) (zU fs cnt b124) (zU fd cnt 0) (cnt + 1), w1] [0, 1, 3, 2] (by decide) rfl ?_
                refine g_ws (w' := (((wZ h2 q3 (1 + b32) 0 0 0 .null .null 0 0) ++ (wG q3 cG (cnt + 1) (rN (va_up ra cnt a3) (cnt + 1)))) ++ (wQ (va_up ra cnt a3) cI (zU fv cnt (1 + b96)) (zU fs cnt b124) (zU fd cnt 0) (cnt + 1))) ++ (w1)) rfl rfl ?_
                obtain ⟨c20, gv0, gs0, gd0, tc0, tr0, ft0, tv0, tu0, fc0, M0, fa0, fb0, N0, rfl⟩ := hX
                refine g_callVX (wr := ((wZ h2 q3 (1 + b32) 0 0 0 .null .null 0 0) ++ (wG q3 cG (cnt + 1) (rN (va_up ra cnt a3) (cnt + 1)))) ++ (wQ (va_up ra cnt a3) cI (zU fv cnt (1 + b96)) (zU fs cnt b124) (zU fd cnt 0) (cnt + 1))) (st := []) _ _ C cL_29 (met_X3_addStamp l hl9 D cI cG cJ hm ad a2 bd pd cnt fv fs fd (1 + b32) 0 0 0 hI c20 gv0 gs0 gd0 tc0 tr0 ft0 tv0 tu0 fc0 M0 fa0 fb0 N0 (1 + b96) b124 (zr_i (by omega) (by omega)) (zr_i (by omega) (by omega))) gSp_r (ci := 3) (q0 := ((((wZ h2 q3 (1 + b32) 0 0 0 .null .null 0 0) ++ (wG q3 cG (cnt + 1) (rN (va_up ra cnt a3) (cnt + 1)))) ++ (wQ (va_up ra cnt a3) cI (zU fv cnt (1 + b96)) (zU fs cnt b124) (zU fd cnt 0) (cnt + 1))) : va_W).length) (at_r rfl) rfl (by decide) ⟨by dsimp only [rmX3_addStamp, rmL_build]; omega, by dsimp only [rmX3_addStamp, rmL_build]; omega⟩ rfl rfl (Nat.le_of_ble_eq_true rfl) dL_build_174 (fun nm9 w9 h9 => ?_) ?_
                · exfalso
                  rcases h9 with ⟨_, h8, _⟩ | ⟨_, _, h8, _⟩
                  · exact h8 ⟨by omega, by omega, by omega, by omega⟩
                  · rcases h8 with h8 | h8
                    · omega
                    · obtain ⟨j, j1, j2⟩ := (hasB_iff cnt).mp h8
                      rcases hz8 with ⟨g1, _⟩ | ⟨_, g2⟩
                      · omega
                      · exact g2 j j1 j2
                rintro v9 w9 ⟨z9, rfl, hz9, hX⟩
                have hz7 : z9 = (cnt : Int) := hz9.2.2.2
                refine g_ws (w' := (((wZ h2 q3 (1 + b32) 0 0 0 .null .null 0 0) ++ (wG q3 cG (cnt + 1) (rN (va_up ra cnt a3) (cnt + 1)))) ++ (wQ (va_up ra cnt a3) cI (zU fv cnt (1 + b96)) (zU fs cnt b124) (zU fd cnt 0) (cnt + 1))) ++ (w9)) (st' := [.int (zI z9)]) (by simp only [List.append_assoc]) rfl ?_
                refine g_mods [wZ h2 q3 (1 + b32) 0 0 0 .null .null 0 0, wG q3 cG (cnt + 1) (rN (va_up ra cnt a3) (cnt + 1)), wQ (va_up ra cnt a3) cI (zU fv cnt (1 + b96)) (zU fs cnt b124) (zU fd cnt 0) (cnt + 1), w9] [wZ h2 q3 (1 + b32) 0 0 0 .null .null 0 0, wG q3 cG (cnt + 1) (rN (va_up ra cnt a3) (cnt + 1)), w9, wQ (va_up ra cnt a3) cI (zU fv cnt (1 + b96)) (zU fs cnt b124) (zU fd cnt 0) (cnt + 1)] [0, 1, 3, 2] (by decide) rfl ?_
                refine g_ws (w' := (((wZ h2 q3 (1 + b32) 0 0 0 .null .null 0 0) ++ (wG q3 cG (cnt + 1) (rN (va_up ra cnt a3) (cnt + 1)))) ++ (w9)) ++ (wQ (va_up ra cnt a3) cI (zU fv cnt (1 + b96)) (zU fs cnt b124) (zU fd cnt 0) (cnt + 1))) rfl rfl ?_
                refine g_aload_n C dL_build_177 5 rfl ?_
                refine g_getf C fL_9 0 rfl rfl dL_build_178 ?_
                refine g_alenG C 1 rfl dL_build_181 ?_
                refine g_iconst C dL_build_182 ?_
                refine g_isub C dL_build_183 ?_
                refine g_icmp_eq 189 C dL_build_184 (by decide) (zr_i (by omega) (by omega)) (zr_i (by omega) (by omega)) (fun c_184 => ?_) (fun c_184 => ?_)
                · refine g_iinc (L' := [(4, .int (zI ((k : Int) + 1))), (7, .int (zI b124)), (6, .int (zI (1 + b96))), (5, .int (zI z2x)), (3, .int (zI (1 + b16))), (2, .ref h2), (0, .ref hm), (1, .ref b)]) C dL_build_189 3 rfl (by decide) rfl ?_
                  refine g_goto 57 C dL_build_192 (by decide) ?_
                  refine g_loc (L' := [(4, .int (zI ((k : Int) + 1))), (3, .int (zI (1 + b16))), (2, .ref h2), (0, .ref hm), (1, .ref b)]) [0, 4, 5, 6, 7] rfl ?_
                  refine g_widen (k' := 9 + 12 * (k + 1)) (n' := 50 + 40 * (k + 1)) (by first | omega | (dsimp only [rmL_below, rmL_cell, rmX4_isThere, rmX4_with, rmX3_addStamp]; omega)) (by first | omega | (dsimp only [rmL_below, rmL_cell, rmX4_isThere, rmX4_with, rmX3_addStamp]; omega)) ?_
                  exact ih_57 (k + 1) (cnt + 1) (zU fv cnt (1 + b96)) (zU fs cnt b124) (zU fd cnt 0) q3 (va_up ra cnt a3) w9 (by omega) (by omega) hX (xi_add hI (by omega) ⟨by omega, by omega, by omega, by omega⟩ hz9.2.2.1) hY.add (by omega)
                · exfalso; omega
              · refine g_goto 189 C dL_build_138 (by decide) ?_
                refine g_iinc (L' := [(4, .int (zI ((k : Int) + 1))), (7, .int (zI b124)), (6, .int (zI (1 + b96))), (5, .int (zI z2x)), (3, .int (zI (1 + b16))), (2, .ref h2), (0, .ref hm), (1, .ref b)]) C dL_build_189 3 rfl (by decide) rfl ?_
                refine g_goto 57 C dL_build_192 (by decide) ?_
                refine g_loc (L' := [(4, .int (zI ((k : Int) + 1))), (3, .int (zI (1 + b16))), (2, .ref h2), (0, .ref hm), (1, .ref b)]) [0, 4, 5, 6, 7] rfl ?_
                refine g_widen (k' := 9 + 12 * (k + 1)) (n' := 50 + 40 * (k + 1)) (by first | omega | (dsimp only [rmL_below, rmL_cell, rmX4_isThere, rmX4_with, rmX3_addStamp]; omega)) (by first | omega | (dsimp only [rmL_below, rmL_cell, rmX4_isThere, rmX4_with, rmX3_addStamp]; omega)) ?_
                exact ih_57 (k + 1) cnt fv fs fd sa ra w1 (by omega) (by omega) hX hI hY (by omega)
            · refine g_bipush C dL_build_118 (by decide) ?_
              refine g_goto 124 C dL_build_120 (by decide) ?_
              refine g_callS (wr := (((wZ h2 sa (1 + b32) 0 0 0 .null .null 0 0) ++ (wG sa cG cnt (rN ra cnt))) ++ (w1)) ++ (wQ ra cI fv fs fd cnt)) (st := []) _ _ C cL_15 (met_L_below l D cI cG cJ z4x 100 (by omega) (zr_i (by omega) (by omega))) gSp_e (by decide) ⟨by dsimp only [rmL_below, rmL_build]; omega, by dsimp only [rmL_below, rmL_build]; omega⟩ rfl rfl (Nat.le_of_ble_eq_true rfl) dL_build_124 ?_
              rintro v9 w9 ⟨b124, rfl, b124h, rfl⟩
              refine g_ws (w' := (((wZ h2 sa (1 + b32) 0 0 0 .null .null 0 0) ++ (wG sa cG cnt (rN ra cnt))) ++ (w1)) ++ (wQ ra cI fv fs fd cnt)) (st' := [.int (zI b124)]) (List.append_nil _) rfl ?_
              refine g_istore (L' := [(7, .int (zI b124)), (6, .int (zI (1 + b96))), (5, .int (zI z2x)), (4, .int (zI (k : Int))), (3, .int (zI (1 + b16))), (2, .ref h2), (0, .ref hm), (1, .ref b)]) C dL_build_127 (by decide) rfl ?_
              refine g_aload_n C dL_build_129 5 rfl ?_
              refine g_iload C dL_build_130 1 rfl ?_
              refine g_mods [wZ h2 sa (1 + b32) 0 0 0 .null .null 0 0, wG sa cG cnt (rN ra cnt), w1, wQ ra cI fv fs fd cnt] [w1, wZ h2 sa (1 + b32) 0 0 0 .null .null 0 0, wG sa cG cnt (rN ra cnt), wQ ra cI fv fs fd cnt] [2, 0, 1, 3] (by decide) rfl ?_
              refine g_ws (w' := (((w1) ++ (wZ h2 sa (1 + b32) 0 0 0 .null .null 0 0)) ++ (wG sa cG cnt (rN ra cnt))) ++ (wQ ra cI fv fs fd cnt)) rfl rfl ?_
              refine g_eqw (w' := (w1) ++ (((wZ h2 sa (1 + b32) 0 0 0 .null .null 0 0) ++ (wG sa cG cnt (rN ra cnt))) ++ (wQ ra cI fv fs fd cnt))) (by simp only [List.append_assoc]) ?_
              refine g_callV (wr := w1) (st := []) _ _ C cL_21 (met_X4_isThere l D cI cG cJ h2 sa ra cnt (by omega) fv fs fd hI.2.1 (1 + b32) 0 0 0 .null .null 0 0 (1 + b96) (zr_i (by omega) (by omega))) gSp_r (ci := 4) (q0 := ((w1) : va_W).length) (at_r rfl) rfl (by decide) ⟨by dsimp only [rmX4_isThere, rmL_build]; omega, by dsimp only [rmX4_isThere, rmL_build]; omega⟩ rfl rfl (Nat.le_of_ble_eq_true rfl) dL_build_132 ?_
              rintro v9 w9 ⟨z9, rfl, hz8, rfl⟩
              refine g_ws (w' := (((w1) ++ (wZ h2 sa (1 + b32) 0 0 0 .null .null 0 0)) ++ (wG sa cG cnt (rN ra cnt))) ++ (wQ ra cI fv fs fd cnt)) (st' := [.int (zI z9)]) (by simp only [List.append_assoc]) rfl ?_
              refine g_mods [w1, wZ h2 sa (1 + b32) 0 0 0 .null .null 0 0, wG sa cG cnt (rN ra cnt), wQ ra cI fv fs fd cnt] [wZ h2 sa (1 + b32) 0 0 0 .null .null 0 0, wG sa cG cnt (rN ra cnt), w1, wQ ra cI fv fs fd cnt] [1, 2, 0, 3] (by decide) rfl ?_
              refine g_ws (w' := (((wZ h2 sa (1 + b32) 0 0 0 .null .null 0 0) ++ (wG sa cG cnt (rN ra cnt))) ++ (w1)) ++ (wQ ra cI fv fs fd cnt)) rfl rfl ?_
              refine g_if_eq 141 C dL_build_135 (by decide) (zr_i (by omega) (by omega)) (fun c_135 => ?_) (fun c_135 => ?_)
              · refine g_aload_n C dL_build_141 5 rfl ?_
                refine g_aload_n C dL_build_142 5 rfl ?_
                refine g_getf C fL_9 0 rfl rfl dL_build_143 ?_
                refine g_iconst C dL_build_146 ?_
                refine g_newi (N := 3) C arrI (by decide) ⟨by dsimp only [rmL_build]; omega, by dsimp only [rmL_build]; omega⟩ dL_build_147 (fun a3 => ?_)
                refine g_ws (w' := ((((wZ h2 sa (1 + b32) 0 0 0 .null .null 0 0) ++ (wG sa cG cnt (rN ra cnt))) ++ (w1)) ++ (wQ ra cI fv fs fd cnt)) ++ ([(a3, .inl (cI, 3, .inl (zA (fun _ => 0))))])) rfl rfl ?_
                refine g_mods [wZ h2 sa (1 + b32) 0 0 0 .null .null 0 0, wG sa cG cnt (rN ra cnt), w1, wQ ra cI fv fs fd cnt, [(a3, .inl (cI, 3, .inl (zA (fun _ => 0))))]] [wZ h2 sa (1 + b32) 0 0 0 .null .null 0 0, wG sa cG cnt (rN ra cnt), [(a3, .inl (cI, 3, .inl (zA (fun _ => 0))))], w1, wQ ra cI fv fs fd cnt] [0, 1, 4, 2, 3] (by decide) rfl ?_
                refine g_ws (w' := ((((wZ h2 sa (1 + b32) 0 0 0 .null .null 0 0) ++ (wG sa cG cnt (rN ra cnt))) ++ ([(a3, .inl (cI, 3, .inl (zA (fun _ => 0))))])) ++ (w1)) ++ (wQ ra cI fv fs fd cnt)) rfl rfl ?_
                refine g_dup C dL_build_149 rfl ?_
                refine g_iconst C dL_build_150 ?_
                refine g_iload C dL_build_151 1 rfl ?_
                refine g_iast (w' := ((((wZ h2 sa (1 + b32) 0 0 0 .null .null 0 0) ++ (wG sa cG cnt (rN ra cnt))) ++ ([(a3, .inl (cI, 3, .inl (zA (zU (fun _ => 0) 0 (1 + b96)))))])) ++ (w1)) ++ (wQ ra cI fv fs fd cnt)) C 2 rfl (by decide) (by omega) (by omega) rfl dL_build_153 ?_
                refine g_dup C dL_build_154 rfl ?_
                refine g_iconst C dL_build_155 ?_
                refine g_iload C dL_build_156 0 rfl ?_
                refine g_iast (w' := ((((wZ h2 sa (1 + b32) 0 0 0 .null .null 0 0) ++ (wG sa cG cnt (rN ra cnt))) ++ ([(a3, .inl (cI, 3, .inl (zA (zU (zU (fun _ => 0) 0 (1 + b96)) 1 b124))))])) ++ (w1)) ++ (wQ ra cI fv fs fd cnt)) C 2 rfl (by decide) (by omega) (by omega) rfl dL_build_158 ?_
                refine g_dup C dL_build_159 rfl ?_
                refine g_iconst C dL_build_160 ?_
                refine g_iconst C dL_build_161 ?_
                refine g_iast (w' := ((((wZ h2 sa (1 + b32) 0 0 0 .null .null 0 0) ++ (wG sa cG cnt (rN ra cnt))) ++ ([(a3, .inl (cI, 3, .inl (zA (zU (zU (zU (fun _ => 0) 0 (1 + b96)) 1 b124) 2 0))))])) ++ (w1)) ++ (wQ ra cI fv fs fd cnt)) C 2 rfl (by decide) (by omega) (by omega) rfl dL_build_162 ?_
                refine g_mods [wZ h2 sa (1 + b32) 0 0 0 .null .null 0 0, wG sa cG cnt (rN ra cnt), [(a3, .inl (cI, 3, .inl (zA (zU (zU (zU (fun _ => 0) 0 (1 + b96)) 1 b124) 2 0))))], w1, wQ ra cI fv fs fd cnt] [wZ h2 sa (1 + b32) 0 0 0 .null .null 0 0, w1, wG sa cG cnt (rN ra cnt), wQ ra cI fv fs fd cnt, [(a3, .inl (cI, 3, .inl (zA (zU (zU (zU (fun _ => 0) 0 (1 + b96)) 1 b124) 2 0))))]] [0, 3, 1, 4, 2] (by decide) rfl ?_
                refine g_ws (w' := ((((wZ h2 sa (1 + b32) 0 0 0 .null .null 0 0) ++ (w1)) ++ (wG sa cG cnt (rN ra cnt))) ++ (wQ ra cI fv fs fd cnt)) ++ ([(a3, .inl (cI, 3, .inl (zA (zU (zU (zU (fun _ => 0) 0 (1 + b96)) 1 b124) 2 0))))])) rfl rfl ?_
                refine g_eqw (w' := (((wZ h2 sa (1 + b32) 0 0 0 .null .null 0 0) ++ (w1)) ++ (wG sa cG cnt (rN (va_up ra cnt a3) cnt))) ++ (wQ (va_up ra cnt a3) cI (zU fv cnt (1 + b96)) (zU fs cnt b124) (zU fd cnt 0) (cnt + 1))) (by rw [rw3_mk, wQ_ap2, rN_nx (ra := ra) (m := cnt) (a := a3)]) ?_
                refine g_eqw (w' := ((wZ h2 sa (1 + b32) 0 0 0 .null .null 0 0) ++ (w1)) ++ ((wG sa cG cnt (rN (va_up ra cnt a3) cnt)) ++ (wQ (va_up ra cnt a3) cI (zU fv cnt (1 + b96)) (zU fs cnt b124) (zU fd cnt 0) (cnt + 1)))) (by simp only [List.append_assoc]) ?_
                refine g_callS (wr := (wZ h2 sa (1 + b32) 0 0 0 .null .null 0 0) ++ (w1)) (st := [.ref h2]) _ _ C cL_25 (met_X4_with l D cI cG cJ sa a3 cnt (by omega) (va_up ra cnt a3) (wQ (va_up ra cnt a3) cI (zU fv cnt (1 + b96)) (zU fs cnt b124) (zU fd cnt 0) (cnt + 1)) (fun j hj => wQ_any j (by omega)) wQ_last) gSp_r (by decide) ⟨by dsimp only [rmX4_with, rmL_build]; omega, by dsimp only [rmX4_with, rmL_build]; omega⟩ rfl rfl (Nat.le_of_ble_eq_true rfl) dL_build_163 ?_
                rintro v9 w9 ⟨z8, rfl, q3, rfl, rfl⟩
                refine g_ws (w' := ((((wZ h2 sa (1 + b32) 0 0 0 .null .null 0 0) ++ (w1)) ++ (wG q3 cG (cnt + 1) (rN (va_up (va_up ra cnt a3) cnt a3) (cnt + 1)))) ++ (wG sa cG cnt (rN (va_up ra cnt a3) cnt))) ++ (wQ (va_up ra cnt a3) cI (zU fv cnt (1 + b96)) (zU fs cnt b124) (zU fd cnt 0) (cnt + 1))) (st' := [.ref q3, .ref h2]) (by simp only [List.append_assoc]) rfl ?_
                refine g_mods [wZ h2 sa (1 + b32) 0 0 0 .null .null 0 0, w1, wG q3 cG (cnt + 1) (rN (va_up (va_up ra cnt a3) cnt a3) (cnt + 1)), wG sa cG cnt (rN (va_up ra cnt a3) cnt), wQ (va_up ra cnt a3) cI (zU fv cnt (1 + b96)) (zU fs cnt b124) (zU fd cnt 0) (cnt + 1)] [wZ h2 sa (1 + b32) 0 0 0 .null .null 0 0, wG q3 cG (cnt + 1) (rN (va_up (va_up ra cnt a3) cnt a3) (cnt + 1)), w1, wQ (va_up ra cnt a3) cI (zU fv cnt (1 + b96)) (zU fs cnt b124) (zU fd cnt 0) (cnt + 1)] [0, 2, 1, 4] (by decide) rfl ?_
                refine g_ws (w' := (((wZ h2 sa (1 + b32) 0 0 0 .null .null 0 0) ++ (wG q3 cG (cnt + 1) (rN (va_up (va_up ra cnt a3) cnt a3) (cnt + 1)))) ++ (w1)) ++ (wQ (va_up ra cnt a3) cI (zU fv cnt (1 + b96)) (zU fs cnt b124) (zU fd cnt 0) (cnt + 1))) rfl rfl ?_
                refine g_eqw (w' := (((wZ h2 sa (1 + b32) 0 0 0 .null .null 0 0) ++ (wG q3 cG (cnt + 1) (rN (va_up ra cnt a3) (cnt + 1)))) ++ (w1)) ++ (wQ (va_up ra cnt a3) cI (zU fv cnt (1 + b96)) (zU fs cnt b124) (zU fd cnt 0) (cnt + 1))) (by rw [rN_ny]) ?_
                refine g_putl (w' := (((wZ h2 q3 (1 + b32) 0 0 0 .null .null 0 0) ++ (wG q3 cG (cnt + 1) (rN (va_up ra cnt a3) (cnt + 1)))) ++ (w1)) ++ (wQ (va_up ra cnt a3) cI (zU fv cnt (1 + b96)) (zU fs cnt b124) (zU fd cnt 0) (cnt + 1))) C pL_9 0 rfl rfl rfl (Nat.le_of_ble_eq_true rfl) rfl dL_build_166 ?_
                refine g_aload_n C dL_build_169 6 rfl ?_
                refine g_iload C dL_build_170 1 rfl ?_
                refine g_iload C dL_build_172 0 rfl ?_
                refine g_mods [wZ h2 q3 (1 + b32) 0 0 0 .null .null 0 0, wG q3 cG (cnt + 1) (rN (va_up ra cnt a3) (cnt + 1)), w1, wQ (va_up ra cnt a3) cI (zU fv cnt (1 + b96)) (zU fs cnt b124) (zU fd cnt 0) (cnt + 1)] [wZ h2 q3 (1 + b32) 0 0 0 .null .null 0 0, wG q3 cG (cnt + 1) (rN (va_up ra cnt a3) (cnt + 1)), wQ (va_up ra cnt a3) cI (zU fv cnt (1 + b96)) (zU fs cnt b124) (zU fd cnt 0) (cnt + 1), w1] [0, 1, 3, 2] (by decide) rfl ?_
                refine g_ws (w' := (((wZ h2 q3 (1 + b32) 0 0 0 .null .null 0 0) ++ (wG q3 cG (cnt + 1) (rN (va_up ra cnt a3) (cnt + 1)))) ++ (wQ (va_up ra cnt a3) cI (zU fv cnt (1 + b96)) (zU fs cnt b124) (zU fd cnt 0) (cnt + 1))) ++ (w1)) rfl rfl ?_
                obtain ⟨c20, gv0, gs0, gd0, tc0, tr0, ft0, tv0, tu0, fc0, M0, fa0, fb0, N0, rfl⟩ := hX
                refine g_callVX (wr := ((wZ h2 q3 (1 + b32) 0 0 0 .null .null 0 0) ++ (wG q3 cG (cnt + 1) (rN (va_up ra cnt a3) (cnt + 1)))) ++ (wQ (va_up ra cnt a3) cI (zU fv cnt (1 + b96)) (zU fs cnt b124) (zU fd cnt 0) (cnt + 1))) (st := []) _ _ C cL_29 (met_X3_addStamp l hl9 D cI cG cJ hm ad a2 bd pd cnt fv fs fd (1 + b32) 0 0 0 hI c20 gv0 gs0 gd0 tc0 tr0 ft0 tv0 tu0 fc0 M0 fa0 fb0 N0 (1 + b96) b124 (zr_i (by omega) (by omega)) (zr_i (by omega) (by omega))) gSp_r (ci := 3) (q0 := ((((wZ h2 q3 (1 + b32) 0 0 0 .null .null 0 0) ++ (wG q3 cG (cnt + 1) (rN (va_up ra cnt a3) (cnt + 1)))) ++ (wQ (va_up ra cnt a3) cI (zU fv cnt (1 + b96)) (zU fs cnt b124) (zU fd cnt 0) (cnt + 1))) : va_W).length) (at_r rfl) rfl (by decide) ⟨by dsimp only [rmX3_addStamp, rmL_build]; omega, by dsimp only [rmX3_addStamp, rmL_build]; omega⟩ rfl rfl (Nat.le_of_ble_eq_true rfl) dL_build_174 (fun nm9 w9 h9 => ?_) ?_
                · exfalso
                  rcases h9 with ⟨_, h8, _⟩ | ⟨_, _, h8, _⟩
                  · exact h8 ⟨by omega, by omega, by omega, by omega⟩
                  · rcases h8 with h8 | h8
                    · omega
                    · obtain ⟨j, j1, j2⟩ := (hasB_iff cnt).mp h8
                      rcases hz8 with ⟨g1, _⟩ | ⟨_, g2⟩
                      · omega
                      · exact g2 j j1 j2
                rintro v9 w9 ⟨z9, rfl, hz9, hX⟩
                have hz7 : z9 = (cnt : Int) := hz9.2.2.2
                refine g_ws (w' := (((wZ h2 q3 (1 + b32) 0 0 0 .null .null 0 0) ++ (wG q3 cG (cnt + 1) (rN (va_up ra cnt a3) (cnt + 1)))) ++ (wQ (va_up ra cnt a3) cI (zU fv cnt (1 + b96)) (zU fs cnt b124) (zU fd cnt 0) (cnt + 1))) ++ (w9)) (st' := [.int (zI z9)]) (by simp only [List.append_assoc]) rfl ?_
                refine g_mods [wZ h2 q3 (1 + b32) 0 0 0 .null .null 0 0, wG q3 cG (cnt + 1) (rN (va_up ra cnt a3) (cnt + 1)), wQ (va_up ra cnt a3) cI (zU fv cnt (1 + b96)) (zU fs cnt b124) (zU fd cnt 0) (cnt + 1), w9] [wZ h2 q3 (1 + b32) 0 0 0 .null .null 0 0, wG q3 cG (cnt + 1) (rN (va_up ra cnt a3) (cnt + 1)), w9, wQ (va_up ra cnt a3) cI (zU fv cnt (1 + b96)) (zU fs cnt b124) (zU fd cnt 0) (cnt + 1)] [0, 1, 3, 2] (by decide) rfl ?_
                refine g_ws (w' := (((wZ h2 q3 (1 + b32) 0 0 0 .null .null 0 0) ++ (wG q3 cG (cnt + 1) (rN (va_up ra cnt a3) (cnt + 1)))) ++ (w9)) ++ (wQ (va_up ra cnt a3) cI (zU fv cnt (1 + b96)) (zU fs cnt b124) (zU fd cnt 0) (cnt + 1))) rfl rfl ?_
                refine g_aload_n C dL_build_177 5 rfl ?_
                refine g_getf C fL_9 0 rfl rfl dL_build_178 ?_
                refine g_alenG C 1 rfl dL_build_181 ?_
                refine g_iconst C dL_build_182 ?_
                refine g_isub C dL_build_183 ?_
                refine g_icmp_eq 189 C dL_build_184 (by decide) (zr_i (by omega) (by omega)) (zr_i (by omega) (by omega)) (fun c_184 => ?_) (fun c_184 => ?_)
                · refine g_iinc (L' := [(4, .int (zI ((k : Int) + 1))), (7, .int (zI b124)), (6, .int (zI (1 + b96))), (5, .int (zI z2x)), (3, .int (zI (1 + b16))), (2, .ref h2), (0, .ref hm), (1, .ref b)]) C dL_build_189 3 rfl (by decide) rfl ?_
                  refine g_goto 57 C dL_build_192 (by decide) ?_
                  refine g_loc (L' := [(4, .int (zI ((k : Int) + 1))), (3, .int (zI (1 + b16))), (2, .ref h2), (0, .ref hm), (1, .ref b)]) [0, 4, 5, 6, 7] rfl ?_
                  refine g_widen (k' := 9 + 12 * (k + 1)) (n' := 50 + 40 * (k + 1)) (by first | omega | (dsimp only [rmL_below, rmL_cell, rmX4_isThere, rmX4_with, rmX3_addStamp]; omega)) (by first | omega | (dsimp only [rmL_below, rmL_cell, rmX4_isThere, rmX4_with, rmX3_addStamp]; omega)) ?_
                  exact ih_57 (k + 1) (cnt + 1) (zU fv cnt (1 + b96)) (zU fs cnt b124) (zU fd cnt 0) q3 (va_up ra cnt a3) w9 (by omega) (by omega) hX (xi_add hI (by omega) ⟨by omega, by omega, by omega, by omega⟩ hz9.2.2.1) hY.add (by omega)
                · exfalso; omega
              · refine g_goto 189 C dL_build_138 (by decide) ?_
                refine g_iinc (L' := [(4, .int (zI ((k : Int) + 1))), (7, .int (zI b124)), (6, .int (zI (1 + b96))), (5, .int (zI z2x)), (3, .int (zI (1 + b16))), (2, .ref h2), (0, .ref hm), (1, .ref b)]) C dL_build_189 3 rfl (by decide) rfl ?_
                refine g_goto 57 C dL_build_192 (by decide) ?_
                refine g_loc (L' := [(4, .int (zI ((k : Int) + 1))), (3, .int (zI (1 + b16))), (2, .ref h2), (0, .ref hm), (1, .ref b)]) [0, 4, 5, 6, 7] rfl ?_
                refine g_widen (k' := 9 + 12 * (k + 1)) (n' := 50 + 40 * (k + 1)) (by first | omega | (dsimp only [rmL_below, rmL_cell, rmX4_isThere, rmX4_with, rmX3_addStamp]; omega)) (by first | omega | (dsimp only [rmL_below, rmL_cell, rmX4_isThere, rmX4_with, rmX3_addStamp]; omega)) ?_
                exact ih_57 (k + 1) cnt fv fs fd sa ra w1 (by omega) (by omega) hX hI hY (by omega)
          · refine g_bipush C dL_build_89 (by decide) ?_
            refine g_goto 96 C dL_build_91 (by decide) ?_
            refine g_callS (wr := (((wZ h2 sa (1 + b32) 0 0 0 .null .null 0 0) ++ (wG sa cG cnt (rN ra cnt))) ++ (w1)) ++ (wQ ra cI fv fs fd cnt)) (st := [.int (zI 1)]) _ _ C cL_15 (met_L_below l D cI cG cJ z3x 60 (by omega) (zr_i (by omega) (by omega))) gSp_e (by decide) ⟨by dsimp only [rmL_below, rmL_build]; omega, by dsimp only [rmL_below, rmL_build]; omega⟩ rfl rfl (Nat.le_of_ble_eq_true rfl) dL_build_96 ?_
            rintro v9 w9 ⟨b96, rfl, b96h, rfl⟩
            refine g_ws (w' := (((wZ h2 sa (1 + b32) 0 0 0 .null .null 0 0) ++ (wG sa cG cnt (rN ra cnt))) ++ (w1)) ++ (wQ ra cI fv fs fd cnt)) (st' := [.int (zI b96), .int (zI 1)]) (List.append_nil _) rfl ?_
            refine g_iadd C dL_build_99 ?_
            refine g_istore (L' := [(6, .int (zI (1 + b96))), (5, .int (zI z2x)), (4, .int (zI (k : Int))), (3, .int (zI (1 + b16))), (2, .ref h2), (0, .ref hm), (1, .ref b)]) C dL_build_100 (by decide) rfl ?_
            refine g_iload C dL_build_102 1 rfl ?_
            refine g_bipush C dL_build_104 (by decide) ?_
            refine g_ishr C dL_build_106 (fun z6x z6xr => ?_)
            refine g_iload C dL_build_107 1 rfl ?_
            refine g_iconst C dL_build_109 ?_
            refine g_ishr C dL_build_110 (fun z7x z7xr => ?_)
            refine g_iconst C dL_build_111 ?_
            refine g_callS (wr := (((wZ h2 sa (1 + b32) 0 0 0 .null .null 0 0) ++ (wG sa cG cnt (rN ra cnt))) ++ (w1)) ++ (wQ ra cI fv fs fd cnt)) (st := [.int (zI z6x)]) _ _ C cL_15 (met_L_below l D cI cG cJ z7x 2 (by omega) (zr_i (by omega) (by omega))) gSp_e (by decide) ⟨by dsimp only [rmL_below, rmL_build]; omega, by dsimp only [rmL_below, rmL_build]; omega⟩ rfl rfl (Nat.le_of_ble_eq_true rfl) dL_build_112 ?_
            rintro v9 w9 ⟨b112, rfl, b112h, rfl⟩
            refine g_ws (w' := (((wZ h2 sa (1 + b32) 0 0 0 .null .null 0 0) ++ (wG sa cG cnt (rN ra cnt))) ++ (w1)) ++ (wQ ra cI fv fs fd cnt)) (st' := [.int (zI b112), .int (zI z6x)]) (List.append_nil _) rfl ?_
            refine g_if_ne 123 C dL_build_115 (by decide) (zr_i (by omega) (by omega)) (fun c_115 => ?_) (fun c_115 => ?_)
            · refine g_iconst C dL_build_123 ?_
              refine g_callS (wr := (((wZ h2 sa (1 + b32) 0 0 0 .null .null 0 0) ++ (wG sa cG cnt (rN ra cnt))) ++ (w1)) ++ (wQ ra cI fv fs fd cnt)) (st := []) _ _ C cL_15 (met_L_below l D cI cG cJ z6x 5 (by omega) (zr_i (by omega) (by omega))) gSp_e (by decide) ⟨by dsimp only [rmL_below, rmL_build]; omega, by dsimp only [rmL_below, rmL_build]; omega⟩ rfl rfl (Nat.le_of_ble_eq_true rfl) dL_build_124 ?_
              rintro v9 w9 ⟨b124, rfl, b124h, rfl⟩
              refine g_ws (w' := (((wZ h2 sa (1 + b32) 0 0 0 .null .null 0 0) ++ (wG sa cG cnt (rN ra cnt))) ++ (w1)) ++ (wQ ra cI fv fs fd cnt)) (st' := [.int (zI b124)]) (List.append_nil _) rfl ?_
              refine g_istore (L' := [(7, .int (zI b124)), (6, .int (zI (1 + b96))), (5, .int (zI z2x)), (4, .int (zI (k : Int))), (3, .int (zI (1 + b16))), (2, .ref h2), (0, .ref hm), (1, .ref b)]) C dL_build_127 (by decide) rfl ?_
              refine g_aload_n C dL_build_129 5 rfl ?_
              refine g_iload C dL_build_130 1 rfl ?_
              refine g_mods [wZ h2 sa (1 + b32) 0 0 0 .null .null 0 0, wG sa cG cnt (rN ra cnt), w1, wQ ra cI fv fs fd cnt] [w1, wZ h2 sa (1 + b32) 0 0 0 .null .null 0 0, wG sa cG cnt (rN ra cnt), wQ ra cI fv fs fd cnt] [2, 0, 1, 3] (by decide) rfl ?_
              refine g_ws (w' := (((w1) ++ (wZ h2 sa (1 + b32) 0 0 0 .null .null 0 0)) ++ (wG sa cG cnt (rN ra cnt))) ++ (wQ ra cI fv fs fd cnt)) rfl rfl ?_
              refine g_eqw (w' := (w1) ++ (((wZ h2 sa (1 + b32) 0 0 0 .null .null 0 0) ++ (wG sa cG cnt (rN ra cnt))) ++ (wQ ra cI fv fs fd cnt))) (by simp only [List.append_assoc]) ?_
              refine g_callV (wr := w1) (st := []) _ _ C cL_21 (met_X4_isThere l D cI cG cJ h2 sa ra cnt (by omega) fv fs fd hI.2.1 (1 + b32) 0 0 0 .null .null 0 0 (1 + b96) (zr_i (by omega) (by omega))) gSp_r (ci := 4) (q0 := ((w1) : va_W).length) (at_r rfl) rfl (by decide) ⟨by dsimp only [rmX4_isThere, rmL_build]; omega, by dsimp only [rmX4_isThere, rmL_build]; omega⟩ rfl rfl (Nat.le_of_ble_eq_true rfl) dL_build_132 ?_
              rintro v9 w9 ⟨z9, rfl, hz8, rfl⟩
              refine g_ws (w' := (((w1) ++ (wZ h2 sa (1 + b32) 0 0 0 .null .null 0 0)) ++ (wG sa cG cnt (rN ra cnt))) ++ (wQ ra cI fv fs fd cnt)) (st' := [.int (zI z9)]) (by simp only [List.append_assoc]) rfl ?_
              refine g_mods [w1, wZ h2 sa (1 + b32) 0 0 0 .null .null 0 0, wG sa cG cnt (rN ra cnt), wQ ra cI fv fs fd cnt] [wZ h2 sa (1 + b32) 0 0 0 .null .null 0 0, wG sa cG cnt (rN ra cnt), w1, wQ ra cI fv fs fd cnt] [1, 2, 0, 3] (by decide) rfl ?_
              refine g_ws (w' := (((wZ h2 sa (1 + b32) 0 0 0 .null .null 0 0) ++ (wG sa cG cnt (rN ra cnt))) ++ (w1)) ++ (wQ ra cI fv fs fd cnt)) rfl rfl ?_
              refine g_if_eq 141 C dL_build_135 (by decide) (zr_i (by omega) (by omega)) (fun c_135 => ?_) (fun c_135 => ?_)
              · refine g_aload_n C dL_build_141 5 rfl ?_
                refine g_aload_n C dL_build_142 5 rfl ?_
                refine g_getf C fL_9 0 rfl rfl dL_build_143 ?_
                refine g_iconst C dL_build_146 ?_
                refine g_newi (N := 3) C arrI (by decide) ⟨by dsimp only [rmL_build]; omega, by dsimp only [rmL_build]; omega⟩ dL_build_147 (fun a3 => ?_)
                refine g_ws (w' := ((((wZ h2 sa (1 + b32) 0 0 0 .null .null 0 0) ++ (wG sa cG cnt (rN ra cnt))) ++ (w1)) ++ (wQ ra cI fv fs fd cnt)) ++ ([(a3, .inl (cI, 3, .inl (zA (fun _ => 0))))])) rfl rfl ?_
                refine g_mods [wZ h2 sa (1 + b32) 0 0 0 .null .null 0 0, wG sa cG cnt (rN ra cnt), w1, wQ ra cI fv fs fd cnt, [(a3, .inl (cI, 3, .inl (zA (fun _ => 0))))]] [wZ h2 sa (1 + b32) 0 0 0 .null .null 0 0, wG sa cG cnt (rN ra cnt), [(a3, .inl (cI, 3, .inl (zA (fun _ => 0))))], w1, wQ ra cI fv fs fd cnt] [0, 1, 4, 2, 3] (by decide) rfl ?_
                refine g_ws (w' := ((((wZ h2 sa (1 + b32) 0 0 0 .null .null 0 0) ++ (wG sa cG cnt (rN ra cnt))) ++ ([(a3, .inl (cI, 3, .inl (zA (fun _ => 0))))])) ++ (w1)) ++ (wQ ra cI fv fs fd cnt)) rfl rfl ?_
                refine g_dup C dL_build_149 rfl ?_
                refine g_iconst C dL_build_150 ?_
                refine g_iload C dL_build_151 1 rfl ?_
                refine g_iast (w' := ((((wZ h2 sa (1 + b32) 0 0 0 .null .null 0 0) ++ (wG sa cG cnt (rN ra cnt))) ++ ([(a3, .inl (cI, 3, .inl (zA (zU (fun _ => 0) 0 (1 + b96)))))])) ++ (w1)) ++ (wQ ra cI fv fs fd cnt)) C 2 rfl (by decide) (by omega) (by omega) rfl dL_build_153 ?_
                refine g_dup C dL_build_154 rfl ?_
                refine g_iconst C dL_build_155 ?_
                refine g_iload C dL_build_156 0 rfl ?_
                refine g_iast (w' := ((((wZ h2 sa (1 + b32) 0 0 0 .null .null 0 0) ++ (wG sa cG cnt (rN ra cnt))) ++ ([(a3, .inl (cI, 3, .inl (zA (zU (zU (fun _ => 0) 0 (1 + b96)) 1 b124))))])) ++ (w1)) ++ (wQ ra cI fv fs fd cnt)) C 2 rfl (by decide) (by omega) (by omega) rfl dL_build_158 ?_
                refine g_dup C dL_build_159 rfl ?_
                refine g_iconst C dL_build_160 ?_
                refine g_iconst C dL_build_161 ?_
                refine g_iast (w' := ((((wZ h2 sa (1 + b32) 0 0 0 .null .null 0 0) ++ (wG sa cG cnt (rN ra cnt))) ++ ([(a3, .inl (cI, 3, .inl (zA (zU (zU (zU (fun _ => 0) 0 (1 + b96)) 1 b124) 2 0))))])) ++ (w1)) ++ (wQ ra cI fv fs fd cnt)) C 2 rfl (by decide) (by omega) (by omega) rfl dL_build_162 ?_
                refine g_mods [wZ h2 sa (1 + b32) 0 0 0 .null .null 0 0, wG sa cG cnt (rN ra cnt), [(a3, .inl (cI, 3, .inl (zA (zU (zU (zU (fun _ => 0) 0 (1 + b96)) 1 b124) 2 0))))], w1, wQ ra cI fv fs fd cnt] [wZ h2 sa (1 + b32) 0 0 0 .null .null 0 0, w1, wG sa cG cnt (rN ra cnt), wQ ra cI fv fs fd cnt, [(a3, .inl (cI, 3, .inl (zA (zU (zU (zU (fun _ => 0) 0 (1 + b96)) 1 b124) 2 0))))]] [0, 3, 1, 4, 2] (by decide) rfl ?_
                refine g_ws (w' := ((((wZ h2 sa (1 + b32) 0 0 0 .null .null 0 0) ++ (w1)) ++ (wG sa cG cnt (rN ra cnt))) ++ (wQ ra cI fv fs fd cnt)) ++ ([(a3, .inl (cI, 3, .inl (zA (zU (zU (zU (fun _ => 0) 0 (1 + b96)) 1 b124) 2 0))))])) rfl rfl ?_
                refine g_eqw (w' := (((wZ h2 sa (1 + b32) 0 0 0 .null .null 0 0) ++ (w1)) ++ (wG sa cG cnt (rN (va_up ra cnt a3) cnt))) ++ (wQ (va_up ra cnt a3) cI (zU fv cnt (1 + b96)) (zU fs cnt b124) (zU fd cnt 0) (cnt + 1))) (by rw [rw3_mk, wQ_ap2, rN_nx (ra := ra) (m := cnt) (a := a3)]) ?_
                refine g_eqw (w' := ((wZ h2 sa (1 + b32) 0 0 0 .null .null 0 0) ++ (w1)) ++ ((wG sa cG cnt (rN (va_up ra cnt a3) cnt)) ++ (wQ (va_up ra cnt a3) cI (zU fv cnt (1 + b96)) (zU fs cnt b124) (zU fd cnt 0) (cnt + 1)))) (by simp only [List.append_assoc]) ?_
                refine g_callS (wr := (wZ h2 sa (1 + b32) 0 0 0 .null .null 0 0) ++ (w1)) (st := [.ref h2]) _ _ C cL_25 (met_X4_with l D cI cG cJ sa a3 cnt (by omega) (va_up ra cnt a3) (wQ (va_up ra cnt a3) cI (zU fv cnt (1 + b96)) (zU fs cnt b124) (zU fd cnt 0) (cnt + 1)) (fun j hj => wQ_any j (by omega)) wQ_last) gSp_r (by decide) ⟨by dsimp only [rmX4_with, rmL_build]; omega, by dsimp only [rmX4_with, rmL_build]; omega⟩ rfl rfl (Nat.le_of_ble_eq_true rfl) dL_build_163 ?_
                rintro v9 w9 ⟨z8, rfl, q3, rfl, rfl⟩
                refine g_ws (w' := ((((wZ h2 sa (1 + b32) 0 0 0 .null .null 0 0) ++ (w1)) ++ (wG q3 cG (cnt + 1) (rN (va_up (va_up ra cnt a3) cnt a3) (cnt + 1)))) ++ (wG sa cG cnt (rN (va_up ra cnt a3) cnt))) ++ (wQ (va_up ra cnt a3) cI (zU fv cnt (1 + b96)) (zU fs cnt b124) (zU fd cnt 0) (cnt + 1))) (st' := [.ref q3, .ref h2]) (by simp only [List.append_assoc]) rfl ?_
                refine g_mods [wZ h2 sa (1 + b32) 0 0 0 .null .null 0 0, w1, wG q3 cG (cnt + 1) (rN (va_up (va_up ra cnt a3) cnt a3) (cnt + 1)), wG sa cG cnt (rN (va_up ra cnt a3) cnt), wQ (va_up ra cnt a3) cI (zU fv cnt (1 + b96)) (zU fs cnt b124) (zU fd cnt 0) (cnt + 1)] [wZ h2 sa (1 + b32) 0 0 0 .null .null 0 0, wG q3 cG (cnt + 1) (rN (va_up (va_up ra cnt a3) cnt a3) (cnt + 1)), w1, wQ (va_up ra cnt a3) cI (zU fv cnt (1 + b96)) (zU fs cnt b124) (zU fd cnt 0) (cnt + 1)] [0, 2, 1, 4] (by decide) rfl ?_
                refine g_ws (w' := (((wZ h2 sa (1 + b32) 0 0 0 .null .null 0 0) ++ (wG q3 cG (cnt + 1) (rN (va_up (va_up ra cnt a3) cnt a3) (cnt + 1)))) ++ (w1)) ++ (wQ (va_up ra cnt a3) cI (zU fv cnt (1 + b96)) (zU fs cnt b124) (zU fd cnt 0) (cnt + 1))) rfl rfl ?_
                refine g_eqw (w' := (((wZ h2 sa (1 + b32) 0 0 0 .null .null 0 0) ++ (wG q3 cG (cnt + 1) (rN (va_up ra cnt a3) (cnt + 1)))) ++ (w1)) ++ (wQ (va_up ra cnt a3) cI (zU fv cnt (1 + b96)) (zU fs cnt b124) (zU fd cnt 0) (cnt + 1))) (by rw [rN_ny]) ?_
                refine g_putl (w' := (((wZ h2 q3 (1 + b32) 0 0 0 .null .null 0 0) ++ (wG q3 cG (cnt + 1) (rN (va_up ra cnt a3) (cnt + 1)))) ++ (w1)) ++ (wQ (va_up ra cnt a3) cI (zU fv cnt (1 + b96)) (zU fs cnt b124) (zU fd cnt 0) (cnt + 1))) C pL_9 0 rfl rfl rfl (Nat.le_of_ble_eq_true rfl) rfl dL_build_166 ?_
                refine g_aload_n C dL_build_169 6 rfl ?_
                refine g_iload C dL_build_170 1 rfl ?_
                refine g_iload C dL_build_172 0 rfl ?_
                refine g_mods [wZ h2 q3 (1 + b32) 0 0 0 .null .null 0 0, wG q3 cG (cnt + 1) (rN (va_up ra cnt a3) (cnt + 1)), w1, wQ (va_up ra cnt a3) cI (zU fv cnt (1 + b96)) (zU fs cnt b124) (zU fd cnt 0) (cnt + 1)] [wZ h2 q3 (1 + b32) 0 0 0 .null .null 0 0, wG q3 cG (cnt + 1) (rN (va_up ra cnt a3) (cnt + 1)), wQ (va_up ra cnt a3) cI (zU fv cnt (1 + b96)) (zU fs cnt b124) (zU fd cnt 0) (cnt + 1), w1] [0, 1, 3, 2] (by decide) rfl ?_
                refine g_ws (w' := (((wZ h2 q3 (1 + b32) 0 0 0 .null .null 0 0) ++ (wG q3 cG (cnt + 1) (rN (va_up ra cnt a3) (cnt + 1)))) ++ (wQ (va_up ra cnt a3) cI (zU fv cnt (1 + b96)) (zU fs cnt b124) (zU fd cnt 0) (cnt + 1))) ++ (w1)) rfl rfl ?_
                obtain ⟨c20, gv0, gs0, gd0, tc0, tr0, ft0, tv0, tu0, fc0, M0, fa0, fb0, N0, rfl⟩ := hX
                refine g_callVX (wr := ((wZ h2 q3 (1 + b32) 0 0 0 .null .null 0 0) ++ (wG q3 cG (cnt + 1) (rN (va_up ra cnt a3) (cnt + 1)))) ++ (wQ (va_up ra cnt a3) cI (zU fv cnt (1 + b96)) (zU fs cnt b124) (zU fd cnt 0) (cnt + 1))) (st := []) _ _ C cL_29 (met_X3_addStamp l hl9 D cI cG cJ hm ad a2 bd pd cnt fv fs fd (1 + b32) 0 0 0 hI c20 gv0 gs0 gd0 tc0 tr0 ft0 tv0 tu0 fc0 M0 fa0 fb0 N0 (1 + b96) b124 (zr_i (by omega) (by omega)) (zr_i (by omega) (by omega))) gSp_r (ci := 3) (q0 := ((((wZ h2 q3 (1 + b32) 0 0 0 .null .null 0 0) ++ (wG q3 cG (cnt + 1) (rN (va_up ra cnt a3) (cnt + 1)))) ++ (wQ (va_up ra cnt a3) cI (zU fv cnt (1 + b96)) (zU fs cnt b124) (zU fd cnt 0) (cnt + 1))) : va_W).length) (at_r rfl) rfl (by decide) ⟨by dsimp only [rmX3_addStamp, rmL_build]; omega, by dsimp only [rmX3_addStamp, rmL_build]; omega⟩ rfl rfl (Nat.le_of_ble_eq_true rfl) dL_build_174 (fun nm9 w9 h9 => ?_) ?_
                · exfalso
                  rcases h9 with ⟨_, h8, _⟩ | ⟨_, _, h8, _⟩
                  · exact h8 ⟨by omega, by omega, by omega, by omega⟩
                  · rcases h8 with h8 | h8
                    · omega
                    · obtain ⟨j, j1, j2⟩ := (hasB_iff cnt).mp h8
                      rcases hz8 with ⟨g1, _⟩ | ⟨_, g2⟩
                      · omega
                      · exact g2 j j1 j2
                rintro v9 w9 ⟨z9, rfl, hz9, hX⟩
                have hz7 : z9 = (cnt : Int) := hz9.2.2.2
                refine g_ws (w' := (((wZ h2 q3 (1 + b32) 0 0 0 .null .null 0 0) ++ (wG q3 cG (cnt + 1) (rN (va_up ra cnt a3) (cnt + 1)))) ++ (wQ (va_up ra cnt a3) cI (zU fv cnt (1 + b96)) (zU fs cnt b124) (zU fd cnt 0) (cnt + 1))) ++ (w9)) (st' := [.int (zI z9)]) (by simp only [List.append_assoc]) rfl ?_
                refine g_mods [wZ h2 q3 (1 + b32) 0 0 0 .null .null 0 0, wG q3 cG (cnt + 1) (rN (va_up ra cnt a3) (cnt + 1)), wQ (va_up ra cnt a3) cI (zU fv cnt (1 + b96)) (zU fs cnt b124) (zU fd cnt 0) (cnt + 1), w9] [wZ h2 q3 (1 + b32) 0 0 0 .null .null 0 0, wG q3 cG (cnt + 1) (rN (va_up ra cnt a3) (cnt + 1)), w9, wQ (va_up ra cnt a3) cI (zU fv cnt (1 + b96)) (zU fs cnt b124) (zU fd cnt 0) (cnt + 1)] [0, 1, 3, 2] (by decide) rfl ?_
                refine g_ws (w' := (((wZ h2 q3 (1 + b32) 0 0 0 .null .null 0 0) ++ (wG q3 cG (cnt + 1) (rN (va_up ra cnt a3) (cnt + 1)))) ++ (w9)) ++ (wQ (va_up ra cnt a3) cI (zU fv cnt (1 + b96)) (zU fs cnt b124) (zU fd cnt 0) (cnt + 1))) rfl rfl ?_
                refine g_aload_n C dL_build_177 5 rfl ?_
                refine g_getf C fL_9 0 rfl rfl dL_build_178 ?_
                refine g_alenG C 1 rfl dL_build_181 ?_
                refine g_iconst C dL_build_182 ?_
                refine g_isub C dL_build_183 ?_
                refine g_icmp_eq 189 C dL_build_184 (by decide) (zr_i (by omega) (by omega)) (zr_i (by omega) (by omega)) (fun c_184 => ?_) (fun c_184 => ?_)
                · refine g_iinc (L' := [(4, .int (zI ((k : Int) + 1))), (7, .int (zI b124)), (6, .int (zI (1 + b96))), (5, .int (zI z2x)), (3, .int (zI (1 + b16))), (2, .ref h2), (0, .ref hm), (1, .ref b)]) C dL_build_189 3 rfl (by decide) rfl ?_
                  refine g_goto 57 C dL_build_192 (by decide) ?_
                  refine g_loc (L' := [(4, .int (zI ((k : Int) + 1))), (3, .int (zI (1 + b16))), (2, .ref h2), (0, .ref hm), (1, .ref b)]) [0, 4, 5, 6, 7] rfl ?_
                  refine g_widen (k' := 9 + 12 * (k + 1)) (n' := 50 + 40 * (k + 1)) (by first | omega | (dsimp only [rmL_below, rmL_cell, rmX4_isThere, rmX4_with, rmX3_addStamp]; omega)) (by first | omega | (dsimp only [rmL_below, rmL_cell, rmX4_isThere, rmX4_with, rmX3_addStamp]; omega)) ?_
                  exact ih_57 (k + 1) (cnt + 1) (zU fv cnt (1 + b96)) (zU fs cnt b124) (zU fd cnt 0) q3 (va_up ra cnt a3) w9 (by omega) (by omega) hX (xi_add hI (by omega) ⟨by omega, by omega, by omega, by omega⟩ hz9.2.2.1) hY.add (by omega)
                · exfalso; omega
              · refine g_goto 189 C dL_build_138 (by decide) ?_
                refine g_iinc (L' := [(4, .int (zI ((k : Int) + 1))), (7, .int (zI b124)), (6, .int (zI (1 + b96))), (5, .int (zI z2x)), (3, .int (zI (1 + b16))), (2, .ref h2), (0, .ref hm), (1, .ref b)]) C dL_build_189 3 rfl (by decide) rfl ?_
                refine g_goto 57 C dL_build_192 (by decide) ?_
                refine g_loc (L' := [(4, .int (zI ((k : Int) + 1))), (3, .int (zI (1 + b16))), (2, .ref h2), (0, .ref hm), (1, .ref b)]) [0, 4, 5, 6, 7] rfl ?_
                refine g_widen (k' := 9 + 12 * (k + 1)) (n' := 50 + 40 * (k + 1)) (by first | omega | (dsimp only [rmL_below, rmL_cell, rmX4_isThere, rmX4_with, rmX3_addStamp]; omega)) (by first | omega | (dsimp only [rmL_below, rmL_cell, rmX4_isThere, rmX4_with, rmX3_addStamp]; omega)) ?_
                exact ih_57 (k + 1) cnt fv fs fd sa ra w1 (by omega) (by omega) hX hI hY (by omega)
            · refine g_bipush C dL_build_118 (by decide) ?_
              refine g_goto 124 C dL_build_120 (by decide) ?_
              refine g_callS (wr := (((wZ h2 sa (1 + b32) 0 0 0 .null .null 0 0) ++ (wG sa cG cnt (rN ra cnt))) ++ (w1)) ++ (wQ ra cI fv fs fd cnt)) (st := []) _ _ C cL_15 (met_L_below l D cI cG cJ z6x 100 (by omega) (zr_i (by omega) (by omega))) gSp_e (by decide) ⟨by dsimp only [rmL_below, rmL_build]; omega, by dsimp only [rmL_below, rmL_build]; omega⟩ rfl rfl (Nat.le_of_ble_eq_true rfl) dL_build_124 ?_
              rintro v9 w9 ⟨b124, rfl, b124h, rfl⟩
              refine g_ws (w' := (((wZ h2 sa (1 + b32) 0 0 0 .null .null 0 0) ++ (wG sa cG cnt (rN ra cnt))) ++ (w1)) ++ (wQ ra cI fv fs fd cnt)) (st' := [.int (zI b124)]) (List.append_nil _) rfl ?_
              refine g_istore (L' := [(7, .int (zI b124)), (6, .int (zI (1 + b96))), (5, .int (zI z2x)), (4, .int (zI (k : Int))), (3, .int (zI (1 + b16))), (2, .ref h2), (0, .ref hm), (1, .ref b)]) C dL_build_127 (by decide) rfl ?_
              refine g_aload_n C dL_build_129 5 rfl ?_
              refine g_iload C dL_build_130 1 rfl ?_
              refine g_mods [wZ h2 sa (1 + b32) 0 0 0 .null .null 0 0, wG sa cG cnt (rN ra cnt), w1, wQ ra cI fv fs fd cnt] [w1, wZ h2 sa (1 + b32) 0 0 0 .null .null 0 0, wG sa cG cnt (rN ra cnt), wQ ra cI fv fs fd cnt] [2, 0, 1, 3] (by decide) rfl ?_
              refine g_ws (w' := (((w1) ++ (wZ h2 sa (1 + b32) 0 0 0 .null .null 0 0)) ++ (wG sa cG cnt (rN ra cnt))) ++ (wQ ra cI fv fs fd cnt)) rfl rfl ?_
              refine g_eqw (w' := (w1) ++ (((wZ h2 sa (1 + b32) 0 0 0 .null .null 0 0) ++ (wG sa cG cnt (rN ra cnt))) ++ (wQ ra cI fv fs fd cnt))) (by simp only [List.append_assoc]) ?_
              refine g_callV (wr := w1) (st := []) _ _ C cL_21 (met_X4_isThere l D cI cG cJ h2 sa ra cnt (by omega) fv fs fd hI.2.1 (1 + b32) 0 0 0 .null .null 0 0 (1 + b96) (zr_i (by omega) (by omega))) gSp_r (ci := 4) (q0 := ((w1) : va_W).length) (at_r rfl) rfl (by decide) ⟨by dsimp only [rmX4_isThere, rmL_build]; omega, by dsimp only [rmX4_isThere, rmL_build]; omega⟩ rfl rfl (Nat.le_of_ble_eq_true rfl) dL_build_132 ?_
              rintro v9 w9 ⟨z9, rfl, hz8, rfl⟩
              refine g_ws (w' := (((w1) ++ (wZ h2 sa (1 + b32) 0 0 0 .null .null 0 0)) ++ (wG sa cG cnt (rN ra cnt))) ++ (wQ ra cI fv fs fd cnt)) (st' := [.int (zI z9)]) (by simp only [List.append_assoc]) rfl ?_
              refine g_mods [w1, wZ h2 sa (1 + b32) 0 0 0 .null .null 0 0, wG sa cG cnt (rN ra cnt), wQ ra cI fv fs fd cnt] [wZ h2 sa (1 + b32) 0 0 0 .null .null 0 0, wG sa cG cnt (rN ra cnt), w1, wQ ra cI fv fs fd cnt] [1, 2, 0, 3] (by decide) rfl ?_
              refine g_ws (w' := (((wZ h2 sa (1 + b32) 0 0 0 .null .null 0 0) ++ (wG sa cG cnt (rN ra cnt))) ++ (w1)) ++ (wQ ra cI fv fs fd cnt)) rfl rfl ?_
              refine g_if_eq 141 C dL_build_135 (by decide) (zr_i (by omega) (by omega)) (fun c_135 => ?_) (fun c_135 => ?_)
              · refine g_aload_n C dL_build_141 5 rfl ?_
                refine g_aload_n C dL_build_142 5 rfl ?_
                refine g_getf C fL_9 0 rfl rfl dL_build_143 ?_
                refine g_iconst C dL_build_146 ?_
                refine g_newi (N := 3) C arrI (by decide) ⟨by dsimp only [rmL_build]; omega, by dsimp only [rmL_build]; omega⟩ dL_build_147 (fun a3 => ?_)
                refine g_ws (w' := ((((wZ h2 sa (1 + b32) 0 0 0 .null .null 0 0) ++ (wG sa cG cnt (rN ra cnt))) ++ (w1)) ++ (wQ ra cI fv fs fd cnt)) ++ ([(a3, .inl (cI, 3, .inl (zA (fun _ => 0))))])) rfl rfl ?_
                refine g_mods [wZ h2 sa (1 + b32) 0 0 0 .null .null 0 0, wG sa cG cnt (rN ra cnt), w1, wQ ra cI fv fs fd cnt, [(a3, .inl (cI, 3, .inl (zA (fun _ => 0))))]] [wZ h2 sa (1 + b32) 0 0 0 .null .null 0 0, wG sa cG cnt (rN ra cnt), [(a3, .inl (cI, 3, .inl (zA (fun _ => 0))))], w1, wQ ra cI fv fs fd cnt] [0, 1, 4, 2, 3] (by decide) rfl ?_
                refine g_ws (w' := ((((wZ h2 sa (1 + b32) 0 0 0 .null .null 0 0) ++ (wG sa cG cnt (rN ra cnt))) ++ ([(a3, .inl (cI, 3, .inl (zA (fun _ => 0))))])) ++ (w1)) ++ (wQ ra cI fv fs fd cnt)) rfl rfl ?_
                refine g_dup C dL_build_149 rfl ?_
                refine g_iconst C dL_build_150 ?_
                refine g_iload C dL_build_151 1 rfl ?_
                refine g_iast (w' := ((((wZ h2 sa (1 + b32) 0 0 0 .null .null 0 0) ++ (wG sa cG cnt (rN ra cnt))) ++ ([(a3, .inl (cI, 3, .inl (zA (zU (fun _ => 0) 0 (1 + b96)))))])) ++ (w1)) ++ (wQ ra cI fv fs fd cnt)) C 2 rfl (by decide) (by omega) (by omega) rfl dL_build_153 ?_
                refine g_dup C dL_build_154 rfl ?_
                refine g_iconst C dL_build_155 ?_
                refine g_iload C dL_build_156 0 rfl ?_
                refine g_iast (w' := ((((wZ h2 sa (1 + b32) 0 0 0 .null .null 0 0) ++ (wG sa cG cnt (rN ra cnt))) ++ ([(a3, .inl (cI, 3, .inl (zA (zU (zU (fun _ => 0) 0 (1 + b96)) 1 b124))))])) ++ (w1)) ++ (wQ ra cI fv fs fd cnt)) C 2 rfl (by decide) (by omega) (by omega) rfl dL_build_158 ?_
                refine g_dup C dL_build_159 rfl ?_
                refine g_iconst C dL_build_160 ?_
                refine g_iconst C dL_build_161 ?_
                refine g_iast (w' := ((((wZ h2 sa (1 + b32) 0 0 0 .null .null 0 0) ++ (wG sa cG cnt (rN ra cnt))) ++ ([(a3, .inl (cI, 3, .inl (zA (zU (zU (zU (fun _ => 0) 0 (1 + b96)) 1 b124) 2 0))))])) ++ (w1)) ++ (wQ ra cI fv fs fd cnt)) C 2 rfl (by decide) (by omega) (by omega) rfl dL_build_162 ?_
                refine g_mods [wZ h2 sa (1 + b32) 0 0 0 .null .null 0 0, wG sa cG cnt (rN ra cnt), [(a3, .inl (cI, 3, .inl (zA (zU (zU (zU (fun _ => 0) 0 (1 + b96)) 1 b124) 2 0))))], w1, wQ ra cI fv fs fd cnt] [wZ h2 sa (1 + b32) 0 0 0 .null .null 0 0, w1, wG sa cG cnt (rN ra cnt), wQ ra cI fv fs fd cnt, [(a3, .inl (cI, 3, .inl (zA (zU (zU (zU (fun _ => 0) 0 (1 + b96)) 1 b124) 2 0))))]] [0, 3, 1, 4, 2] (by decide) rfl ?_
                refine g_ws (w' := ((((wZ h2 sa (1 + b32) 0 0 0 .null .null 0 0) ++ (w1)) ++ (wG sa cG cnt (rN ra cnt))) ++ (wQ ra cI fv fs fd cnt)) ++ ([(a3, .inl (cI, 3, .inl (zA (zU (zU (zU (fun _ => 0) 0 (1 + b96)) 1 b124) 2 0))))])) rfl rfl ?_
                refine g_eqw (w' := (((wZ h2 sa (1 + b32) 0 0 0 .null .null 0 0) ++ (w1)) ++ (wG sa cG cnt (rN (va_up ra cnt a3) cnt))) ++ (wQ (va_up ra cnt a3) cI (zU fv cnt (1 + b96)) (zU fs cnt b124) (zU fd cnt 0) (cnt + 1))) (by rw [rw3_mk, wQ_ap2, rN_nx (ra := ra) (m := cnt) (a := a3)]) ?_
                refine g_eqw (w' := ((wZ h2 sa (1 + b32) 0 0 0 .null .null 0 0) ++ (w1)) ++ ((wG sa cG cnt (rN (va_up ra cnt a3) cnt)) ++ (wQ (va_up ra cnt a3) cI (zU fv cnt (1 + b96)) (zU fs cnt b124) (zU fd cnt 0) (cnt + 1)))) (by simp only [List.append_assoc]) ?_
                refine g_callS (wr := (wZ h2 sa (1 + b32) 0 0 0 .null .null 0 0) ++ (w1)) (st := [.ref h2]) _ _ C cL_25 (met_X4_with l D cI cG cJ sa a3 cnt (by omega) (va_up ra cnt a3) (wQ (va_up ra cnt a3) cI (zU fv cnt (1 + b96)) (zU fs cnt b124) (zU fd cnt 0) (cnt + 1)) (fun j hj => wQ_any j (by omega)) wQ_last) gSp_r (by decide) ⟨by dsimp only [rmX4_with, rmL_build]; omega, by dsimp only [rmX4_with, rmL_build]; omega⟩ rfl rfl (Nat.le_of_ble_eq_true rfl) dL_build_163 ?_
                rintro v9 w9 ⟨z8, rfl, q3, rfl, rfl⟩
                refine g_ws (w' := ((((wZ h2 sa (1 + b32) 0 0 0 .null .null 0 0) ++ (w1)) ++ (wG q3 cG (cnt + 1) (rN (va_up (va_up ra cnt a3) cnt a3) (cnt + 1)))) ++ (wG sa cG cnt (rN (va_up ra cnt a3) cnt))) ++ (wQ (va_up ra cnt a3) cI (zU fv cnt (1 + b96)) (zU fs cnt b124) (zU fd cnt 0) (cnt + 1))) (st' := [.ref q3, .ref h2]) (by simp only [List.append_assoc]) rfl ?_
                refine g_mods [wZ h2 sa (1 + b32) 0 0 0 .null .null 0 0, w1, wG q3 cG (cnt + 1) (rN (va_up (va_up ra cnt a3) cnt a3) (cnt + 1)), wG sa cG cnt (rN (va_up ra cnt a3) cnt), wQ (va_up ra cnt a3) cI (zU fv cnt (1 + b96)) (zU fs cnt b124) (zU fd cnt 0) (cnt + 1)] [wZ h2 sa (1 + b32) 0 0 0 .null .null 0 0, wG q3 cG (cnt + 1) (rN (va_up (va_up ra cnt a3) cnt a3) (cnt + 1)), w1, wQ (va_up ra cnt a3) cI (zU fv cnt (1 + b96)) (zU fs cnt b124) (zU fd cnt 0) (cnt + 1)] [0, 2, 1, 4] (by decide) rfl ?_
                refine g_ws (w' := (((wZ h2 sa (1 + b32) 0 0 0 .null .null 0 0) ++ (wG q3 cG (cnt + 1) (rN (va_up (va_up ra cnt a3) cnt a3) (cnt + 1)))) ++ (w1)) ++ (wQ (va_up ra cnt a3) cI (zU fv cnt (1 + b96)) (zU fs cnt b124) (zU fd cnt 0) (cnt + 1))) rfl rfl ?_
                refine g_eqw (w' := (((wZ h2 sa (1 + b32) 0 0 0 .null .null 0 0) ++ (wG q3 cG (cnt + 1) (rN (va_up ra cnt a3) (cnt + 1)))) ++ (w1)) ++ (wQ (va_up ra cnt a3) cI (zU fv cnt (1 + b96)) (zU fs cnt b124) (zU fd cnt 0) (cnt + 1))) (by rw [rN_ny]) ?_
                refine g_putl (w' := (((wZ h2 q3 (1 + b32) 0 0 0 .null .null 0 0) ++ (wG q3 cG (cnt + 1) (rN (va_up ra cnt a3) (cnt + 1)))) ++ (w1)) ++ (wQ (va_up ra cnt a3) cI (zU fv cnt (1 + b96)) (zU fs cnt b124) (zU fd cnt 0) (cnt + 1))) C pL_9 0 rfl rfl rfl (Nat.le_of_ble_eq_true rfl) rfl dL_build_166 ?_
                refine g_aload_n C dL_build_169 6 rfl ?_
                refine g_iload C dL_build_170 1 rfl ?_
                refine g_iload C dL_build_172 0 rfl ?_
                refine g_mods [wZ h2 q3 (1 + b32) 0 0 0 .null .null 0 0, wG q3 cG (cnt + 1) (rN (va_up ra cnt a3) (cnt + 1)), w1, wQ (va_up ra cnt a3) cI (zU fv cnt (1 + b96)) (zU fs cnt b124) (zU fd cnt 0) (cnt + 1)] [wZ h2 q3 (1 + b32) 0 0 0 .null .null 0 0, wG q3 cG (cnt + 1) (rN (va_up ra cnt a3) (cnt + 1)), wQ (va_up ra cnt a3) cI (zU fv cnt (1 + b96)) (zU fs cnt b124) (zU fd cnt 0) (cnt + 1), w1] [0, 1, 3, 2] (by decide) rfl ?_
                refine g_ws (w' := (((wZ h2 q3 (1 + b32) 0 0 0 .null .null 0 0) ++ (wG q3 cG (cnt + 1) (rN (va_up ra cnt a3) (cnt + 1)))) ++ (wQ (va_up ra cnt a3) cI (zU fv cnt (1 + b96)) (zU fs cnt b124) (zU fd cnt 0) (cnt + 1))) ++ (w1)) rfl rfl ?_
                obtain ⟨c20, gv0, gs0, gd0, tc0, tr0, ft0, tv0, tu0, fc0, M0, fa0, fb0, N0, rfl⟩ := hX
                refine g_callVX (wr := ((wZ h2 q3 (1 + b32) 0 0 0 .null .null 0 0) ++ (wG q3 cG (cnt + 1) (rN (va_up ra cnt a3) (cnt + 1)))) ++ (wQ (va_up ra cnt a3) cI (zU fv cnt (1 + b96)) (zU fs cnt b124) (zU fd cnt 0) (cnt + 1))) (st := []) _ _ C cL_29 (met_X3_addStamp l hl9 D cI cG cJ hm ad a2 bd pd cnt fv fs fd (1 + b32) 0 0 0 hI c20 gv0 gs0 gd0 tc0 tr0 ft0 tv0 tu0 fc0 M0 fa0 fb0 N0 (1 + b96) b124 (zr_i (by omega) (by omega)) (zr_i (by omega) (by omega))) gSp_r (ci := 3) (q0 := ((((wZ h2 q3 (1 + b32) 0 0 0 .null .null 0 0) ++ (wG q3 cG (cnt + 1) (rN (va_up ra cnt a3) (cnt + 1)))) ++ (wQ (va_up ra cnt a3) cI (zU fv cnt (1 + b96)) (zU fs cnt b124) (zU fd cnt 0) (cnt + 1))) : va_W).length) (at_r rfl) rfl (by decide) ⟨by dsimp only [rmX3_addStamp, rmL_build]; omega, by dsimp only [rmX3_addStamp, rmL_build]; omega⟩ rfl rfl (Nat.le_of_ble_eq_true rfl) dL_build_174 (fun nm9 w9 h9 => ?_) ?_
                · exfalso
                  rcases h9 with ⟨_, h8, _⟩ | ⟨_, _, h8, _⟩
                  · exact h8 ⟨by omega, by omega, by omega, by omega⟩
                  · rcases h8 with h8 | h8
                    · omega
                    · obtain ⟨j, j1, j2⟩ := (hasB_iff cnt).mp h8
                      rcases hz8 with ⟨g1, _⟩ | ⟨_, g2⟩
                      · omega
                      · exact g2 j j1 j2
                rintro v9 w9 ⟨z9, rfl, hz9, hX⟩
                have hz7 : z9 = (cnt : Int) := hz9.2.2.2
                refine g_ws (w' := (((wZ h2 q3 (1 + b32) 0 0 0 .null .null 0 0) ++ (wG q3 cG (cnt + 1) (rN (va_up ra cnt a3) (cnt + 1)))) ++ (wQ (va_up ra cnt a3) cI (zU fv cnt (1 + b96)) (zU fs cnt b124) (zU fd cnt 0) (cnt + 1))) ++ (w9)) (st' := [.int (zI z9)]) (by simp only [List.append_assoc]) rfl ?_
                refine g_mods [wZ h2 q3 (1 + b32) 0 0 0 .null .null 0 0, wG q3 cG (cnt + 1) (rN (va_up ra cnt a3) (cnt + 1)), wQ (va_up ra cnt a3) cI (zU fv cnt (1 + b96)) (zU fs cnt b124) (zU fd cnt 0) (cnt + 1), w9] [wZ h2 q3 (1 + b32) 0 0 0 .null .null 0 0, wG q3 cG (cnt + 1) (rN (va_up ra cnt a3) (cnt + 1)), w9, wQ (va_up ra cnt a3) cI (zU fv cnt (1 + b96)) (zU fs cnt b124) (zU fd cnt 0) (cnt + 1)] [0, 1, 3, 2] (by decide) rfl ?_
                refine g_ws (w' := (((wZ h2 q3 (1 + b32) 0 0 0 .null .null 0 0) ++ (wG q3 cG (cnt + 1) (rN (va_up ra cnt a3) (cnt + 1)))) ++ (w9)) ++ (wQ (va_up ra cnt a3) cI (zU fv cnt (1 + b96)) (zU fs cnt b124) (zU fd cnt 0) (cnt + 1))) rfl rfl ?_
                refine g_aload_n C dL_build_177 5 rfl ?_
                refine g_getf C fL_9 0 rfl rfl dL_build_178 ?_
                refine g_alenG C 1 rfl dL_build_181 ?_
                refine g_iconst C dL_build_182 ?_
                refine g_isub C dL_build_183 ?_
                refine g_icmp_eq 189 C dL_build_184 (by decide) (zr_i (by omega) (by omega)) (zr_i (by omega) (by omega)) (fun c_184 => ?_) (fun c_184 => ?_)
                · refine g_iinc (L' := [(4, .int (zI ((k : Int) + 1))), (7, .int (zI b124)), (6, .int (zI (1 + b96))), (5, .int (zI z2x)), (3, .int (zI (1 + b16))), (2, .ref h2), (0, .ref hm), (1, .ref b)]) C dL_build_189 3 rfl (by decide) rfl ?_
                  refine g_goto 57 C dL_build_192 (by decide) ?_
                  refine g_loc (L' := [(4, .int (zI ((k : Int) + 1))), (3, .int (zI (1 + b16))), (2, .ref h2), (0, .ref hm), (1, .ref b)]) [0, 4, 5, 6, 7] rfl ?_
                  refine g_widen (k' := 9 + 12 * (k + 1)) (n' := 50 + 40 * (k + 1)) (by first | omega | (dsimp only [rmL_below, rmL_cell, rmX4_isThere, rmX4_with, rmX3_addStamp]; omega)) (by first | omega | (dsimp only [rmL_below, rmL_cell, rmX4_isThere, rmX4_with, rmX3_addStamp]; omega)) ?_
                  exact ih_57 (k + 1) (cnt + 1) (zU fv cnt (1 + b96)) (zU fs cnt b124) (zU fd cnt 0) q3 (va_up ra cnt a3) w9 (by omega) (by omega) hX (xi_add hI (by omega) ⟨by omega, by omega, by omega, by omega⟩ hz9.2.2.1) hY.add (by omega)
                · exfalso; omega
              · refine g_goto 189 C dL_build_138 (by decide) ?_
                refine g_iinc (L' := [(4, .int (zI ((k : Int) + 1))), (7, .int (zI b124)), (6, .int (zI (1 + b96))), (5, .int (zI z2x)), (3, .int (zI (1 + b16))), (2, .ref h2), (0, .ref hm), (1, .ref b)]) C dL_build_189 3 rfl (by decide) rfl ?_
                refine g_goto 57 C dL_build_192 (by decide) ?_
                refine g_loc (L' := [(4, .int (zI ((k : Int) + 1))), (3, .int (zI (1 + b16))), (2, .ref h2), (0, .ref hm), (1, .ref b)]) [0, 4, 5, 6, 7] rfl ?_
                refine g_widen (k' := 9 + 12 * (k + 1)) (n' := 50 + 40 * (k + 1)) (by first | omega | (dsimp only [rmL_below, rmL_cell, rmX4_isThere, rmX4_with, rmX3_addStamp]; omega)) (by first | omega | (dsimp only [rmL_below, rmL_cell, rmX4_isThere, rmX4_with, rmX3_addStamp]; omega)) ?_
                exact ih_57 (k + 1) cnt fv fs fd sa ra w1 (by omega) (by omega) hX hI hY (by omega)
    refine g_loc (L' := [(4, .int (zI 0)), (3, .int (zI (1 + b16))), (2, .ref h2), (0, .ref hm), (1, .ref b)]) [0, 1, 2, 3, 4] rfl ?_
    refine g_widen (k' := 9) (n' := 50) (by first | omega | (dsimp only [rmL_below, rmL_cell, rmX4_init, rmX3_setRoom]; omega)) (by first | omega | (dsimp only [rmL_below, rmL_cell, rmX4_init, rmX3_setRoom]; omega)) ?_
    exact loop_57 _ 0 0 (fun _ => 0) (fun _ => 0) (fun _ => 0) q0 (fun _ => 0) w9 (by omega) (Nat.le_refl _) hX (xi_room xi_0 (by omega)) (⟨by decide, by decide, by decide, by decide, by decide, fun j hj => absurd hj (Nat.not_lt_zero _)⟩) (Nat.lt_succ_self _)
  · exfalso; omega
