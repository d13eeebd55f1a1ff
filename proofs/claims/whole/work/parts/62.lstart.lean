/-! the law from its entry -/
set_option maxHeartbeats 4000000 in
set_option maxRecDepth 100000 in
/-- from the entry to the loop -/
theorem l_start (l : Launch) (hl9 : l.stackTraces = false) {E : gEnv} {D : va_G} {cI cG cJ : ClassId} {b N : Nat} {xs : Nat → Int32} (C : gC E l room_1 D 9 RL cL_law cI cG cJ) (hS : gScr E b N xs) (hN : N ≤ 1536) (hret : gRL E) : gW E 0 0 [] 0 [(0, .ref b)] [] := by
  refine g_new (ci := 3) [.null, .null, .null, .null, .int (zI 0), .int (zI 0), .int (zI 0), .int (zI 0)] C nwL_8 rfl inlX3 tyX3 tyX3_ok dfX3 ⟨Nat.le_of_ble_eq_true rfl, Nat.le_of_ble_eq_true rfl⟩ dL_law_0 (fun h => ?_)
  refine g_dup C dL_law_3 rfl ?_
  refine g_callC (wr := []) (st := [.ref h]) [0] [] C cL_72 (met_X3_init l D cI cG cJ h) ⟨rfl, rfl, by decide, by decide, by decide⟩ (by decide) ⟨Nat.le_of_ble_eq_true rfl, Nat.le_of_ble_eq_true rfl⟩ rfl rfl (Nat.le_of_ble_eq_true rfl) dL_law_4 ?_
  rintro v9 w9 ⟨rfl, ad, a2, bd, pd, hw⟩
  have hX : XW h ad a2 bd pd cI cG 0 (fun _ => 0) (fun _ => 0) (fun _ => 0) 6 0 0 0 w9 := ⟨_, _, _, _, _, _, _, _, _, _, _, _, _, _, hw⟩
  refine g_ws (w' := w9) (st' := [.ref h]) rfl rfl ?_
  refine g_astore_n (L' := [(1, .ref h), (0, .ref b)]) C dL_law_7 (by decide) rfl ?_
  refine g_new (ci := 4) [.int (zI 0), .int (zI 0), .int (zI 0), .int (zI 0), .int (zI 0), .int (zI 0), .null, .null, .null, .null, .null, .null, .null, .null] C nwL_73 rfl inlX4 tyX4 tyX4_ok dfX4 ⟨Nat.le_of_ble_eq_true rfl, Nat.le_of_ble_eq_true rfl⟩ dL_law_8 (fun q => ?_)
  refine g_dup C dL_law_11 rfl ?_
  refine g_callC (wr := w9) (st := [.ref q]) _ _ C cL_75 (met_X4_init l D cI cG cJ q) gSp_r (by decide) ⟨Nat.le_of_ble_eq_true rfl, Nat.le_of_ble_eq_true rfl⟩ rfl rfl (Nat.le_of_ble_eq_true rfl) dL_law_12 ?_
  rintro v8 w8 ⟨rfl, am, ham, hw8⟩
  subst ham
  have hM : MW am cI cG 0 0 6 0 0 0 (fun _ => 0) (fun _ => 0) (fun _ => 0) w8 := ⟨_, _, _, _, _, hw8⟩
  refine g_ws (w' := w9 ++ w8) (st' := [.ref (am 0)]) rfl rfl ?_
  refine g_astore_n (L' := [(2, .ref (am 0)), (1, .ref h), (0, .ref b)]) C dL_law_15 (by decide) rfl ?_
  refine g_iconst C dL_law_16 ?_
  refine g_top ((1 : Nat) : Int) rfl ?_
  refine g_newl (N := 1) C arrJ (by decide) ⟨Nat.le_of_ble_eq_true rfl, Nat.le_of_ble_eq_true rfl⟩ dL_law_17 (fun o => ?_)
  refine g_astore_n (L' := [(3, .ref o), (2, .ref (am 0)), (1, .ref h), (0, .ref b)]) C dL_law_19 (by decide) rfl ?_
  refine g_iconst C dL_law_20 ?_
  refine g_istore (L' := [(4, .int (zI 0)), (3, .ref o), (2, .ref (am 0)), (1, .ref h), (0, .ref b)]) C dL_law_21 (by decide) rfl ?_
  refine g_widen (k' := 100) (n' := 20000) (Nat.le_of_ble_eq_true rfl) (Nat.le_of_ble_eq_true rfl) ?_
  refine g_loc (L' := lL h (am 0) o b 0) [4, 3, 2, 1, 0] rfl ?_
  subst hw
  subst hw8
  refine g_perm (w' := ((((((wV h (ad 0) (a2 0) (bd 0) (pd 0) 6 0 0 0) ++ (wS ad cI 0 (fun _ => 0) (fun _ => 0) (fun _ => 0))) ++ (wS a2 cI 0 (fun _ => 0) (fun _ => 0) (fun _ => 0))) ++ (wT bd cI cG 0 0 (fun _ => 0) (fun _ => 0) (fun _ => 0) (fun _ => 0) (fun _ _ => 0))) ++ (wP pd cI cG (fun _ => 0) (fun _ => 0) (fun _ _ => 0))) ++ oJ o cJ (fun _ => 0)) ++ wM am cI cG 0 0 6 0 0 0 (fun _ => 0) (fun _ => 0) (fun _ => 0) (fun _ => 0) (fun _ _ => 0) (fun _ => 0) (fun _ => 0) (fun _ _ => 0)) [0, 1, 2, 3, 4, 5, 6, 7, 8, 9, 10, 11, 12, 13, 14, 15, 16, 17, 18, 19, 20, 21, 22, 23, 24, 25, 26, 27, 28, 29, 30, 31, 32, 33, 34, 35, 36, 37, 38, 39, 40, 72, 41, 42, 43, 44, 45, 46, 47, 48, 49, 50, 51, 52, 53, 54, 55, 56, 57, 58, 59, 60, 61, 62, 63, 64, 65, 66, 67, 68, 69, 70, 71] (by decide) rfl ?_
  exact l_loop l hl9 C hS (by omega) hret 512 0 100 20000 (by decide) (by decide) (by omega) (by decide) (by decide) _ _ _ _ _ _ _ _ _ _ _ _ xi_0 hX hM
