abbrev rmL_canPay : Room := { frames := 9, cells := 1, slots := 6, locals := 181 }
set_option maxHeartbeats 4000000 in
set_option maxRecDepth 100000 in
theorem met_L_canPay (l : Launch) (hl9 : l.stackTraces = false) (D : va_G) (cI cG cJ : ClassId) (h : Nat) (ad a2 bd pd : Nat → Nat) (cnt : Nat) (fv fs fd : Nat → Int) (rm lt tk ov : Int) (hI : XI cnt fv fs rm) (c2 : Int) (gv gs gd : Nat → Int) (tc tr : Int) (ft tv tu fc : Nat → Int) (M : Nat → Nat → Int) (fa fb : Nat → Int) (N : Nat → Nat → Int) (o : Nat) (f0 : Nat → Int64) (p : Int) (hp : zr p)  : gMH l yL_canPay cL_canPay 4 (some .int) [(0, 16, 19, 13)] rmL_canPay D cI cG cJ [.ref h, .int (zI p), .ref o] ((((((wV h (ad 0) (a2 0) (bd 0) (pd 0) rm lt tk ov) ++ (wS ad cI (cnt : Int) fv fs fd)) ++ (wS a2 cI c2 gv gs gd)) ++ (wT bd cI cG tc tr ft tv tu fc M)) ++ (wP pd cI cG fa fb N)) ++ ([(o, .inl (cJ, 1, .inr (.inl f0)))])) (gI (fun z w9 => ∃ (w1 : va_W) (f1 : Nat → Int64), LQ w9 o cJ f1 w1 ∧ ((z = 0 ∧ ((1 ≤ p ∧ p ≤ 300) ∧ f1 0 = (zI (if TB cnt fv fs rm p.toNat ≤ rm then (1 : Int) else 0)).toInt64) ∧ XW h ad a2 bd pd cI cG cnt fv fs fd rm lt tk ov w1) ∨ (z = 1 ∧ ¬ (1 ≤ p ∧ p ≤ 300) ∧ XW h ad a2 bd pd cI cG cnt fv fs fd rm lt tk ov w1)))) := by
  refine gMH_I (by decide) rfl (Nat.le_of_ble_eq_true rfl) (fun E C hT ret => ?_)
  refine g_aload_n C dL_canPay_0 2 rfl ?_
  refine g_iconst C dL_canPay_1 ?_
  refine g_aload_n C dL_canPay_2 0 rfl ?_
  refine g_iload_n C dL_canPay_3 1 rfl ?_
  refine g_callVX (wr := [(o, .inl (cJ, 1, .inr (.inl f0)))]) (st := [.int (zI 0), .ref o]) [0, 1, 2, 3, 4, 5, 6, 7, 8, 9, 10, 11, 12, 13, 14, 15, 16, 17, 18, 19, 20, 21, 22, 23, 24, 25, 26, 27, 28, 29, 30, 31, 32, 33, 34, 35, 36, 37, 38, 39, 40] [41] C cL_41 (met_X3_canPay l hl9 D cI cG cJ h ad a2 bd pd cnt fv fs fd rm lt tk ov hI c2 gv gs gd tc tr ft tv tu fc M fa fb N p hp) ⟨rfl, rfl, by decide, by decide, by decide⟩ (q0 := 0) rfl rfl (by decide) (by decide) rfl rfl (Nat.le_of_ble_eq_true rfl) dL_canPay_4 (fun nm9 w9 h9 => ?_) ?_
  · skip
    obtain ⟨rfl, hn, c21, gv1, gs1, gd1, tc1, tr1, ft1, tv1, tu1, fc1, M1, fa1, fb1, N1, rfl⟩ := h9
    refine gx_perm (w' := (((((wV h (ad 0) (a2 0) (bd 0) (pd 0) rm lt tk ov) ++ (wS ad cI (cnt : Int) fv fs fd)) ++ (wS a2 cI c21 gv1 gs1 gd1)) ++ (wT bd cI cG tc1 tr1 ft1 tv1 tu1 fc1 M1)) ++ (wP pd cI cG fa1 fb1 N1)) ++ ([(o, .inl (cJ, 1, .inr (.inl f0)))])) [1, 2, 3, 4, 5, 6, 7, 8, 9, 10, 11, 12, 13, 14, 15, 16, 17, 18, 19, 20, 21, 22, 23, 24, 25, 26, 27, 28, 29, 30, 31, 32, 33, 34, 35, 36, 37, 38, 39, 40, 41, 0] (by decide) rfl ?_
    refine g_catch (hh := [(0, 16, 19, 13)]) [] ⟨0, 16, 19, 13⟩ [] C hT rfl (fun z h => absurd h List.not_mem_nil) (by decide) (by decide) lkIAE (List.mem_of_getElem? (i := 0) rfl) (fun q9 => ?_)
    refine g_astore_n (L' := [(3, .ref q9), (0, .ref h), (1, .int (zI p)), (2, .ref o)]) C dL_canPay_19 (by decide) rfl ?_
    refine g_iconst C dL_canPay_20 ?_
    exact ret _ _ _ _ _ _ (by decide) (by decide) dL_canPay_21 (⟨_, _, rfl, Or.inr ⟨rfl, hn, ⟨_, _, _, _, _, _, _, _, _, _, _, _, _, _, rfl⟩⟩⟩)
  rintro v9 w9 ⟨z9, rfl, hz, c21, gv1, gs1, gd1, tc1, tr1, ft1, tv1, tu1, fc1, M1, fa1, fb1, N1, rfl⟩
  refine g_ws (w' := ((((([(o, .inl (cJ, 1, .inr (.inl f0)))]) ++ (wV h (ad 0) (a2 0) (bd 0) (pd 0) rm lt tk ov)) ++ (wS ad cI (cnt : Int) fv fs fd)) ++ (wS a2 cI c21 gv1 gs1 gd1)) ++ (wT bd cI cG tc1 tr1 ft1 tv1 tu1 fc1 M1)) ++ (wP pd cI cG fa1 fb1 N1)) (st' := [.int (zI z9), .int (zI 0), .ref o]) rfl rfl ?_
  refine g_perm (w' := (((((wV h (ad 0) (a2 0) (bd 0) (pd 0) rm lt tk ov) ++ (wS ad cI (cnt : Int) fv fs fd)) ++ (wS a2 cI c21 gv1 gs1 gd1)) ++ (wT bd cI cG tc1 tr1 ft1 tv1 tu1 fc1 M1)) ++ (wP pd cI cG fa1 fb1 N1)) ++ ([(o, .inl (cJ, 1, .inr (.inl f0)))])) [1, 2, 3, 4, 5, 6, 7, 8, 9, 10, 11, 12, 13, 14, 15, 16, 17, 18, 19, 20, 21, 22, 23, 24, 25, 26, 27, 28, 29, 30, 31, 32, 33, 34, 35, 36, 37, 38, 39, 40, 41, 0] (by decide) rfl ?_
  refine g_if_eq 14 C dL_canPay_7 (by decide) (by rw [hz.2]; exact zr01) (fun c_7 => ?_) (fun c_7 => ?_)
  · refine g_lconst C dL_canPay_14 rfl ?_
    refine g_last (w' := (((((wV h (ad 0) (a2 0) (bd 0) (pd 0) rm lt tk ov) ++ (wS ad cI (cnt : Int) fv fs fd)) ++ (wS a2 cI c21 gv1 gs1 gd1)) ++ (wT bd cI cG tc1 tr1 ft1 tv1 tu1 fc1 M1)) ++ (wP pd cI cG fa1 fb1 N1)) ++ ([(o, .inl (cJ, 1, .inr (.inl (vp_updL f0 0 (Int64.ofNat 0)))))])) C 41 rfl (by decide) (by omega) (by omega) rfl dL_canPay_15 ?_
    refine g_goto 22 C dL_canPay_16 (by decide) ?_
    refine g_iconst C dL_canPay_22 ?_
    exact ret _ _ _ _ _ _ (by decide) (by decide) dL_canPay_23 (⟨((((wV h (ad 0) (a2 0) (bd 0) (pd 0) rm lt tk ov) ++ (wS ad cI (cnt : Int) fv fs fd)) ++ (wS a2 cI c21 gv1 gs1 gd1)) ++ (wT bd cI cG tc1 tr1 ft1 tv1 tu1 fc1 M1)) ++ (wP pd cI cG fa1 fb1 N1), vp_updL f0 0 (Int64.ofNat 0), rfl, Or.inl ⟨rfl, ⟨hz.1, by rw [← hz.2, c_7]; rfl⟩, ⟨_, _, _, _, _, _, _, _, _, _, _, _, _, _, rfl⟩⟩⟩)
  · have e1 : z9 = 1 := by
      have h1 := if01 (P := TB cnt fv fs rm p.toNat ≤ rm)
      rw [← hz.2] at h1
      exact h1.resolve_left c_7
    refine g_lconst C dL_canPay_10 rfl ?_
    refine g_goto 15 C dL_canPay_11 (by decide) ?_
    refine g_last (w' := (((((wV h (ad 0) (a2 0) (bd 0) (pd 0) rm lt tk ov) ++ (wS ad cI (cnt : Int) fv fs fd)) ++ (wS a2 cI c21 gv1 gs1 gd1)) ++ (wT bd cI cG tc1 tr1 ft1 tv1 tu1 fc1 M1)) ++ (wP pd cI cG fa1 fb1 N1)) ++ ([(o, .inl (cJ, 1, .inr (.inl (vp_updL f0 0 (Int64.ofNat 1)))))])) C 41 rfl (by decide) (by omega) (by omega) rfl dL_canPay_15 ?_
    refine g_goto 22 C dL_canPay_16 (by decide) ?_
    refine g_iconst C dL_canPay_22 ?_
    exact ret _ _ _ _ _ _ (by decide) (by decide) dL_canPay_23 (⟨((((wV h (ad 0) (a2 0) (bd 0) (pd 0) rm lt tk ov) ++ (wS ad cI (cnt : Int) fv fs fd)) ++ (wS a2 cI c21 gv1 gs1 gd1)) ++ (wT bd cI cG tc1 tr1 ft1 tv1 tu1 fc1 M1)) ++ (wP pd cI cG fa1 fb1 N1), vp_updL f0 0 (Int64.ofNat 1), rfl, Or.inl ⟨rfl, ⟨hz.1, by rw [← hz.2, e1]; rfl⟩, ⟨_, _, _, _, _, _, _, _, _, _, _, _, _, _, rfl⟩⟩⟩)
