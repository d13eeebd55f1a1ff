theorem lkIAE : Cond.classLink RL 13 "java/lang/IllegalArgumentException" ∈ LW := (mr_4 _ (List.mem_of_getElem? (i := 2) rfl))
theorem lkISE : Cond.classLink RL 15 "java/lang/IllegalStateException" ∈ LW := (mr_4 _ (List.mem_of_getElem? (i := 3) rfl))
theorem lkIOE : Cond.classLink RL 21 "java/lang/IndexOutOfBoundsException" ∈ LW := (mr_5 _ (List.mem_of_getElem? (i := 21) rfl))
/-- the answer of a call that is caught -/
def LQ (w9 : va_W) (o : Nat) (cJ : ClassId) (f1 : Nat → Int64) (w1 : va_W) : Prop := w9 = w1 ++ [(o, .inl (cJ, 1, .inr (.inl f1)))]
abbrev rmL_valueOf : Room := { frames := 8, cells := 1, slots := 6, locals := 151 }
set_option maxHeartbeats 4000000 in
set_option maxRecDepth 100000 in
theorem met_L_valueOf (l : Launch) (hl9 : l.stackTraces = false) (D : va_G) (cI cG cJ : ClassId) (h : Nat) (ad a2 bd pd : Nat → Nat) (cnt : Nat) (fv fs fd : Nat → Int) (rm lt tk ov : Int) (hI : XI cnt fv fs rm) (c2 : Int) (gv gs gd : Nat → Int) (tc tr : Int) (ft tv tu fc : Nat → Int) (M : Nat → Nat → Int) (fa fb : Nat → Int) (N : Nat → Nat → Int) (o : Nat) (f0 : Nat → Int64) (s : Int) (hs : zr s)  : gMH l yL_valueOf cL_valueOf 4 (some .int) [(0, 9, 12, 21)] rmL_valueOf D cI cG cJ [.ref h, .int (zI s), .ref o] ((((((wV h (ad 0) (a2 0) (bd 0) (pd 0) rm lt tk ov) ++ (wS ad cI (cnt : Int) fv fs fd)) ++ (wS a2 cI c2 gv gs gd)) ++ (wT bd cI cG tc tr ft tv tu fc M)) ++ (wP pd cI cG fa fb N)) ++ ([(o, .inl (cJ, 1, .inr (.inl f0)))])) (gI (fun z w9 => ∃ (w1 : va_W) (f1 : Nat → Int64), LQ w9 o cJ f1 w1 ∧ ((z = 0 ∧ ((0 ≤ s ∧ s < (cnt : Int)) ∧ f1 0 = (zI (fv s.toNat)).toInt64) ∧ XW h ad a2 bd pd cI cG cnt fv fs fd rm lt tk ov w1) ∨ (z = 1 ∧ ¬ (0 ≤ s ∧ s < (cnt : Int)) ∧ XW h ad a2 bd pd cI cG cnt fv fs fd rm lt tk ov w1)))) := by
  refine gMH_I (by decide) rfl (Nat.le_of_ble_eq_true rfl) (fun E C hT ret => ?_)
  refine g_aload_n C dL_valueOf_0 2 rfl ?_
  refine g_iconst C dL_valueOf_1 ?_
  refine g_aload_n C dL_valueOf_2 0 rfl ?_
  refine g_iload_n C dL_valueOf_3 1 rfl ?_
  refine g_callVX (wr := [(o, .inl (cJ, 1, .inr (.inl f0)))]) (st := [.int (zI 0), .ref o]) [0, 1, 2, 3, 4, 5, 6, 7, 8, 9, 10, 11, 12, 13, 14, 15, 16, 17, 18, 19, 20, 21, 22, 23, 24, 25, 26, 27, 28, 29, 30, 31, 32, 33, 34, 35, 36, 37, 38, 39, 40] [41] C cL_32 (met_X3_valueOf l hl9 D cI cG cJ h ad a2 bd pd cnt fv fs fd rm lt tk ov hI c2 gv gs gd tc tr ft tv tu fc M fa fb N s hs) ⟨rfl, rfl, by decide, by decide, by decide⟩ (q0 := 0) rfl rfl (by decide) (by decide) rfl rfl (Nat.le_of_ble_eq_true rfl) dL_valueOf_4 (fun nm9 w9 h9 => ?_) ?_
  · skip
    obtain ⟨rfl, hn, c21, gv1, gs1, gd1, tc1, tr1, ft1, tv1, tu1, fc1, M1, fa1, fb1, N1, rfl⟩ := h9
    refine gx_perm (w' := (((((wV h (ad 0) (a2 0) (bd 0) (pd 0) rm lt tk ov) ++ (wS ad cI (cnt : Int) fv fs fd)) ++ (wS a2 cI c21 gv1 gs1 gd1)) ++ (wT bd cI cG tc1 tr1 ft1 tv1 tu1 fc1 M1)) ++ (wP pd cI cG fa1 fb1 N1)) ++ ([(o, .inl (cJ, 1, .inr (.inl f0)))])) [1, 2, 3, 4, 5, 6, 7, 8, 9, 10, 11, 12, 13, 14, 15, 16, 17, 18, 19, 20, 21, 22, 23, 24, 25, 26, 27, 28, 29, 30, 31, 32, 33, 34, 35, 36, 37, 38, 39, 40, 41, 0] (by decide) rfl ?_
    refine g_catch (hh := [(0, 9, 12, 21)]) [] ⟨0, 9, 12, 21⟩ [] C hT rfl (fun z h => absurd h List.not_mem_nil) (by decide) (by decide) lkIOE (List.mem_of_getElem? (i := 2) rfl) (fun q9 => ?_)
    refine g_astore_n (L' := [(3, .ref q9), (0, .ref h), (1, .int (zI s)), (2, .ref o)]) C dL_valueOf_12 (by decide) rfl ?_
    refine g_iconst C dL_valueOf_13 ?_
    exact ret _ _ _ _ _ _ (by decide) (by decide) dL_valueOf_14 (⟨_, _, rfl, Or.inr ⟨rfl, hn, ⟨_, _, _, _, _, _, _, _, _, _, _, _, _, _, rfl⟩⟩⟩)
  rintro v9 w9 ⟨z9, rfl, hz, c21, gv1, gs1, gd1, tc1, tr1, ft1, tv1, tu1, fc1, M1, fa1, fb1, N1, rfl⟩
  refine g_ws (w' := ((((([(o, .inl (cJ, 1, .inr (.inl f0)))]) ++ (wV h (ad 0) (a2 0) (bd 0) (pd 0) rm lt tk ov)) ++ (wS ad cI (cnt : Int) fv fs fd)) ++ (wS a2 cI c21 gv1 gs1 gd1)) ++ (wT bd cI cG tc1 tr1 ft1 tv1 tu1 fc1 M1)) ++ (wP pd cI cG fa1 fb1 N1)) (st' := [.int (zI z9), .int (zI 0), .ref o]) rfl rfl ?_
  refine g_perm (w' := (((((wV h (ad 0) (a2 0) (bd 0) (pd 0) rm lt tk ov) ++ (wS ad cI (cnt : Int) fv fs fd)) ++ (wS a2 cI c21 gv1 gs1 gd1)) ++ (wT bd cI cG tc1 tr1 ft1 tv1 tu1 fc1 M1)) ++ (wP pd cI cG fa1 fb1 N1)) ++ ([(o, .inl (cJ, 1, .inr (.inl f0)))])) [1, 2, 3, 4, 5, 6, 7, 8, 9, 10, 11, 12, 13, 14, 15, 16, 17, 18, 19, 20, 21, 22, 23, 24, 25, 26, 27, 28, 29, 30, 31, 32, 33, 34, 35, 36, 37, 38, 39, 40, 41, 0] (by decide) rfl ?_
  refine g_i2l C dL_valueOf_7 ?_
  refine g_last (w' := (((((wV h (ad 0) (a2 0) (bd 0) (pd 0) rm lt tk ov) ++ (wS ad cI (cnt : Int) fv fs fd)) ++ (wS a2 cI c21 gv1 gs1 gd1)) ++ (wT bd cI cG tc1 tr1 ft1 tv1 tu1 fc1 M1)) ++ (wP pd cI cG fa1 fb1 N1)) ++ ([(o, .inl (cJ, 1, .inr (.inl (vp_updL f0 0 ((zI z9).toInt64)))))])) C 41 rfl (by decide) (by omega) (by omega) rfl dL_valueOf_8 ?_
  refine g_goto 15 C dL_valueOf_9 (by decide) ?_
  refine g_iconst C dL_valueOf_15 ?_
  exact ret _ _ _ _ _ _ (by decide) (by decide) dL_valueOf_16 (⟨((((wV h (ad 0) (a2 0) (bd 0) (pd 0) rm lt tk ov) ++ (wS ad cI (cnt : Int) fv fs fd)) ++ (wS a2 cI c21 gv1 gs1 gd1)) ++ (wT bd cI cG tc1 tr1 ft1 tv1 tu1 fc1 M1)) ++ (wP pd cI cG fa1 fb1 N1), vp_updL f0 0 (zI z9).toInt64, rfl, Or.inl ⟨rfl, ⟨hz.1, congrArg (fun z : Int => (zI z).toInt64) hz.2⟩, ⟨_, _, _, _, _, _, _, _, _, _, _, _, _, _, rfl⟩⟩⟩)
abbrev rmL_stockOf : Room := { frames := 8, cells := 1, slots := 6, locals := 151 }
set_option maxHeartbeats 4000000 in
set_option maxRecDepth 100000 in
theorem met_L_stockOf (l : Launch) (hl9 : l.stackTraces = false) (D : va_G) (cI cG cJ : ClassId) (h : Nat) (ad a2 bd pd : Nat → Nat) (cnt : Nat) (fv fs fd : Nat → Int) (rm lt tk ov : Int) (hI : XI cnt fv fs rm) (c2 : Int) (gv gs gd : Nat → Int) (tc tr : Int) (ft tv tu fc : Nat → Int) (M : Nat → Nat → Int) (fa fb : Nat → Int) (N : Nat → Nat → Int) (o : Nat) (f0 : Nat → Int64) (s : Int) (hs : zr s)  : gMH l yL_stockOf cL_stockOf 4 (some .int) [(0, 9, 12, 21)] rmL_stockOf D cI cG cJ [.ref h, .int (zI s), .ref o] ((((((wV h (ad 0) (a2 0) (bd 0) (pd 0) rm lt tk ov) ++ (wS ad cI (cnt : Int) fv fs fd)) ++ (wS a2 cI c2 gv gs gd)) ++ (wT bd cI cG tc tr ft tv tu fc M)) ++ (wP pd cI cG fa fb N)) ++ ([(o, .inl (cJ, 1, .inr (.inl f0)))])) (gI (fun z w9 => ∃ (w1 : va_W) (f1 : Nat → Int64), LQ w9 o cJ f1 w1 ∧ ((z = 0 ∧ ((0 ≤ s ∧ s < (cnt : Int)) ∧ f1 0 = (zI (fs s.toNat)).toInt64) ∧ XW h ad a2 bd pd cI cG cnt fv fs fd rm lt tk ov w1) ∨ (z = 1 ∧ ¬ (0 ≤ s ∧ s < (cnt : Int)) ∧ XW h ad a2 bd pd cI cG cnt fv fs fd rm lt tk ov w1)))) := by
  refine gMH_I (by decide) rfl (Nat.le_of_ble_eq_true rfl) (fun E C hT ret => ?_)
  refine g_aload_n C dL_stockOf_0 2 rfl ?_
  refine g_iconst C dL_stockOf_1 ?_
  refine g_aload_n C dL_stockOf_2 0 rfl ?_
  refine g_iload_n C dL_stockOf_3 1 rfl ?_
  refine g_callVX (wr := [(o, .inl (cJ, 1, .inr (.inl f0)))]) (st := [.int (zI 0), .ref o]) [0, 1, 2, 3, 4, 5, 6, 7, 8, 9, 10, 11, 12, 13, 14, 15, 16, 17, 18, 19, 20, 21, 22, 23, 24, 25, 26, 27, 28, 29, 30, 31, 32, 33, 34, 35, 36, 37, 38, 39, 40] [41] C cL_35 (met_X3_stockOf l hl9 D cI cG cJ h ad a2 bd pd cnt fv fs fd rm lt tk ov hI c2 gv gs gd tc tr ft tv tu fc M fa fb N s hs) ⟨rfl, rfl, by decide, by decide, by decide⟩ (q0 := 0) rfl rfl (by decide) (by decide) rfl rfl (Nat.le_of_ble_eq_true rfl) dL_stockOf_4 (fun nm9 w9 h9 => ?_) ?_
  · skip
    obtain ⟨rfl, hn, c21, gv1, gs1, gd1, tc1, tr1, ft1, tv1, tu1, fc1, M1, fa1, fb1, N1, rfl⟩ := h9
    refine gx_perm (w' := (((((wV h (ad 0) (a2 0) (bd 0) (pd 0) rm lt tk ov) ++ (wS ad cI (cnt : Int) fv fs fd)) ++ (wS a2 cI c21 gv1 gs1 gd1)) ++ (wT bd cI cG tc1 tr1 ft1 tv1 tu1 fc1 M1)) ++ (wP pd cI cG fa1 fb1 N1)) ++ ([(o, .inl (cJ, 1, .inr (.inl f0)))])) [1, 2, 3, 4, 5, 6, 7, 8, 9, 10, 11, 12, 13, 14, 15, 16, 17, 18, 19, 20, 21, 22, 23, 24, 25, 26, 27, 28, 29, 30, 31, 32, 33, 34, 35, 36, 37, 38, 39, 40, 41, 0] (by decide) rfl ?_
    refine g_catch (hh := [(0, 9, 12, 21)]) [] ⟨0, 9, 12, 21⟩ [] C hT rfl (fun z h => absurd h List.not_mem_nil) (by decide) (by decide) lkIOE (List.mem_of_getElem? (i := 2) rfl) (fun q9 => ?_)
    refine g_astore_n (L' := [(3, .ref q9), (0, .ref h), (1, .int (zI s)), (2, .ref o)]) C dL_stockOf_12 (by decide) rfl ?_
    refine g_iconst C dL_stockOf_13 ?_
    exact ret _ _ _ _ _ _ (by decide) (by decide) dL_stockOf_14 (⟨_, _, rfl, Or.inr ⟨rfl, hn, ⟨_, _, _, _, _, _, _, _, _, _, _, _, _, _, rfl⟩⟩⟩)
  rintro v9 w9 ⟨z9, rfl, hz, c21, gv1, gs1, gd1, tc1, tr1, ft1, tv1, tu1, fc1, M1, fa1, fb1, N1, rfl⟩
  refine g_ws (w' := ((((([(o, .inl (cJ, 1, .inr (.inl f0)))]) ++ (wV h (ad 0) (a2 0) (bd 0) (pd 0) rm lt tk ov)) ++ (wS ad cI (cnt : Int) fv fs fd)) ++ (wS a2 cI c21 gv1 gs1 gd1)) ++ (wT bd cI cG tc1 tr1 ft1 tv1 tu1 fc1 M1)) ++ (wP pd cI cG fa1 fb1 N1)) (st' := [.int (zI z9), .int (zI 0), .ref o]) rfl rfl ?_
  refine g_perm (w' := (((((wV h (ad 0) (a2 0) (bd 0) (pd 0) rm lt tk ov) ++ (wS ad cI (cnt : Int) fv fs fd)) ++ (wS a2 cI c21 gv1 gs1 gd1)) ++ (wT bd cI cG tc1 tr1 ft1 tv1 tu1 fc1 M1)) ++ (wP pd cI cG fa1 fb1 N1)) ++ ([(o, .inl (cJ, 1, .inr (.inl f0)))])) [1, 2, 3, 4, 5, 6, 7, 8, 9, 10, 11, 12, 13, 14, 15, 16, 17, 18, 19, 20, 21, 22, 23, 24, 25, 26, 27, 28, 29, 30, 31, 32, 33, 34, 35, 36, 37, 38, 39, 40, 41, 0] (by decide) rfl ?_
  refine g_i2l C dL_stockOf_7 ?_
  refine g_last (w' := (((((wV h (ad 0) (a2 0) (bd 0) (pd 0) rm lt tk ov) ++ (wS ad cI (cnt : Int) fv fs fd)) ++ (wS a2 cI c21 gv1 gs1 gd1)) ++ (wT bd cI cG tc1 tr1 ft1 tv1 tu1 fc1 M1)) ++ (wP pd cI cG fa1 fb1 N1)) ++ ([(o, .inl (cJ, 1, .inr (.inl (vp_updL f0 0 ((zI z9).toInt64)))))])) C 41 rfl (by decide) (by omega) (by omega) rfl dL_stockOf_8 ?_
  refine g_goto 15 C dL_stockOf_9 (by decide) ?_
  refine g_iconst C dL_stockOf_15 ?_
  exact ret _ _ _ _ _ _ (by decide) (by decide) dL_stockOf_16 (⟨((((wV h (ad 0) (a2 0) (bd 0) (pd 0) rm lt tk ov) ++ (wS ad cI (cnt : Int) fv fs fd)) ++ (wS a2 cI c21 gv1 gs1 gd1)) ++ (wT bd cI cG tc1 tr1 ft1 tv1 tu1 fc1 M1)) ++ (wP pd cI cG fa1 fb1 N1), vp_updL f0 0 (zI z9).toInt64, rfl, Or.inl ⟨rfl, ⟨hz.1, congrArg (fun z : Int => (zI z).toInt64) hz.2⟩, ⟨_, _, _, _, _, _, _, _, _, _, _, _, _, _, rfl⟩⟩⟩)
abbrev rmL_vendedOf : Room := { frames := 8, cells := 1, slots := 6, locals := 151 }
set_option maxHeartbeats 4000000 in
set_option maxRecDepth 100000 in
theorem met_L_vendedOf (l : Launch) (hl9 : l.stackTraces = false) (D : va_G) (cI cG cJ : ClassId) (h : Nat) (ad a2 bd pd : Nat → Nat) (cnt : Nat) (fv fs fd : Nat → Int) (rm lt tk ov : Int) (hI : XI cnt fv fs rm) (c2 : Int) (gv gs gd : Nat → Int) (tc tr : Int) (ft tv tu fc : Nat → Int) (M : Nat → Nat → Int) (fa fb : Nat → Int) (N : Nat → Nat → Int) (o : Nat) (f0 : Nat → Int64) (s : Int) (hs : zr s)  : gMH l yL_vendedOf cL_vendedOf 4 (some .int) [(0, 9, 12, 21)] rmL_vendedOf D cI cG cJ [.ref h, .int (zI s), .ref o] ((((((wV h (ad 0) (a2 0) (bd 0) (pd 0) rm lt tk ov) ++ (wS ad cI (cnt : Int) fv fs fd)) ++ (wS a2 cI c2 gv gs gd)) ++ (wT bd cI cG tc tr ft tv tu fc M)) ++ (wP pd cI cG fa fb N)) ++ ([(o, .inl (cJ, 1, .inr (.inl f0)))])) (gI (fun z w9 => ∃ (w1 : va_W) (f1 : Nat → Int64), LQ w9 o cJ f1 w1 ∧ ((z = 0 ∧ ((0 ≤ s ∧ s < (cnt : Int)) ∧ f1 0 = (zI (fd s.toNat)).toInt64) ∧ XW h ad a2 bd pd cI cG cnt fv fs fd rm lt tk ov w1) ∨ (z = 1 ∧ ¬ (0 ≤ s ∧ s < (cnt : Int)) ∧ XW h ad a2 bd pd cI cG cnt fv fs fd rm lt tk ov w1)))) := by
  refine gMH_I (by decide) rfl (Nat.le_of_ble_eq_true rfl) (fun E C hT ret => ?_)
  refine g_aload_n C dL_vendedOf_0 2 rfl ?_
  refine g_iconst C dL_vendedOf_1 ?_
  refine g_aload_n C dL_vendedOf_2 0 rfl ?_
  refine g_iload_n C dL_vendedOf_3 1 rfl ?_
  refine g_callVX (wr := [(o, .inl (cJ, 1, .inr (.inl f0)))]) (st := [.int (zI 0), .ref o]) [0, 1, 2, 3, 4, 5, 6, 7, 8, 9, 10, 11, 12, 13, 14, 15, 16, 17, 18, 19, 20, 21, 22, 23, 24, 25, 26, 27, 28, 29, 30, 31, 32, 33, 34, 35, 36, 37, 38, 39, 40] [41] C cL_38 (met_X3_vendedOf l hl9 D cI cG cJ h ad a2 bd pd cnt fv fs fd rm lt tk ov hI c2 gv gs gd tc tr ft tv tu fc M fa fb N s hs) ⟨rfl, rfl, by decide, by decide, by decide⟩ (q0 := 0) rfl rfl (by decide) (by decide) rfl rfl (Nat.le_of_ble_eq_true rfl) dL_vendedOf_4 (fun nm9 w9 h9 => ?_) ?_
  · skip
    obtain ⟨rfl, hn, c21, gv1, gs1, gd1, tc1, tr1, ft1, tv1, tu1, fc1, M1, fa1, fb1, N1, rfl⟩ := h9
    refine gx_perm (w' := (((((wV h (ad 0) (a2 0) (bd 0) (pd 0) rm lt tk ov) ++ (wS ad cI (cnt : Int) fv fs fd)) ++ (wS a2 cI c21 gv1 gs1 gd1)) ++ (wT bd cI cG tc1 tr1 ft1 tv1 tu1 fc1 M1)) ++ (wP pd cI cG fa1 fb1 N1)) ++ ([(o, .inl (cJ, 1, .inr (.inl f0)))])) [1, 2, 3, 4, 5, 6, 7, 8, 9, 10, 11, 12, 13, 14, 15, 16, 17, 18, 19, 20, 21, 22, 23, 24, 25, 26, 27, 28, 29, 30, 31, 32, 33, 34, 35, 36, 37, 38, 39, 40, 41, 0] (by decide) rfl ?_
    refine g_catch (hh := [(0, 9, 12, 21)]) [] ⟨0, 9, 12, 21⟩ [] C hT rfl (fun z h => absurd h List.not_mem_nil) (by decide) (by decide) lkIOE (List.mem_of_getElem? (i := 2) rfl) (fun q9 => ?_)
    refine g_astore_n (L' := [(3, .ref q9), (0, .ref h), (1, .int (zI s)), (2, .ref o)]) C dL_vendedOf_12 (by decide) rfl ?_
    refine g_iconst C dL_vendedOf_13 ?_
    exact ret _ _ _ _ _ _ (by decide) (by decide) dL_vendedOf_14 (⟨_, _, rfl, Or.inr ⟨rfl, hn, ⟨_, _, _, _, _, _, _, _, _, _, _, _, _, _, rfl⟩⟩⟩)
  rintro v9 w9 ⟨z9, rfl, hz, c21, gv1, gs1, gd1, tc1, tr1, ft1, tv1, tu1, fc1, M1, fa1, fb1, N1, rfl⟩
  refine g_ws (w' := ((((([(o, .inl (cJ, 1, .inr (.inl f0)))]) ++ (wV h (ad 0) (a2 0) (bd 0) (pd 0) rm lt tk ov)) ++ (wS ad cI (cnt : Int) fv fs fd)) ++ (wS a2 cI c21 gv1 gs1 gd1)) ++ (wT bd cI cG tc1 tr1 ft1 tv1 tu1 fc1 M1)) ++ (wP pd cI cG fa1 fb1 N1)) (st' := [.int (zI z9), .int (zI 0), .ref o]) rfl rfl ?_
  refine g_perm (w' := (((((wV h (ad 0) (a2 0) (bd 0) (pd 0) rm lt tk ov) ++ (wS ad cI (cnt : Int) fv fs fd)) ++ (wS a2 cI c21 gv1 gs1 gd1)) ++ (wT bd cI cG tc1 tr1 ft1 tv1 tu1 fc1 M1)) ++ (wP pd cI cG fa1 fb1 N1)) ++ ([(o, .inl (cJ, 1, .inr (.inl f0)))])) [1, 2, 3, 4, 5, 6, 7, 8, 9, 10, 11, 12, 13, 14, 15, 16, 17, 18, 19, 20, 21, 22, 23, 24, 25, 26, 27, 28, 29, 30, 31, 32, 33, 34, 35, 36, 37, 38, 39, 40, 41, 0] (by decide) rfl ?_
  refine g_i2l C dL_vendedOf_7 ?_
  refine g_last (w' := (((((wV h (ad 0) (a2 0) (bd 0) (pd 0) rm lt tk ov) ++ (wS ad cI (cnt : Int) fv fs fd)) ++ (wS a2 cI c21 gv1 gs1 gd1)) ++ (wT bd cI cG tc1 tr1 ft1 tv1 tu1 fc1 M1)) ++ (wP pd cI cG fa1 fb1 N1)) ++ ([(o, .inl (cJ, 1, .inr (.inl (vp_updL f0 0 ((zI z9).toInt64)))))])) C 41 rfl (by decide) (by omega) (by omega) rfl dL_vendedOf_8 ?_
  refine g_goto 15 C dL_vendedOf_9 (by decide) ?_
  refine g_iconst C dL_vendedOf_15 ?_
  exact ret _ _ _ _ _ _ (by decide) (by decide) dL_vendedOf_16 (⟨((((wV h (ad 0) (a2 0) (bd 0) (pd 0) rm lt tk ov) ++ (wS ad cI (cnt : Int) fv fs fd)) ++ (wS a2 cI c21 gv1 gs1 gd1)) ++ (wT bd cI cG tc1 tr1 ft1 tv1 tu1 fc1 M1)) ++ (wP pd cI cG fa1 fb1 N1), vp_updL f0 0 (zI z9).toInt64, rfl, Or.inl ⟨rfl, ⟨hz.1, congrArg (fun z : Int => (zI z).toInt64) hz.2⟩, ⟨_, _, _, _, _, _, _, _, _, _, _, _, _, _, rfl⟩⟩⟩)
abbrev rmL_withdraw : Room := { frames := 8, cells := 1, slots := 6, locals := 152 }
set_option maxHeartbeats 4000000 in
set_option maxRecDepth 100000 in
theorem met_L_withdraw (l : Launch) (hl9 : l.stackTraces = false) (D : va_G) (cI cG cJ : ClassId) (h : Nat) (ad a2 bd pd : Nat → Nat) (cnt : Nat) (fv fs fd : Nat → Int) (rm lt tk ov : Int) (hI : XI cnt fv fs rm) (c2 : Int) (gv gs gd : Nat → Int) (tc tr : Int) (ft tv tu fc : Nat → Int) (M : Nat → Nat → Int) (fa fb : Nat → Int) (N : Nat → Nat → Int) (o : Nat) (f0 : Nat → Int64) (s : Int) (hs : zr s)  : gMH l yL_withdraw cL_withdraw 4 (some .int) [(0, 9, 12, 21)] rmL_withdraw D cI cG cJ [.ref h, .int (zI s), .ref o] ((((((wV h (ad 0) (a2 0) (bd 0) (pd 0) rm lt tk ov) ++ (wS ad cI (cnt : Int) fv fs fd)) ++ (wS a2 cI c2 gv gs gd)) ++ (wT bd cI cG tc tr ft tv tu fc M)) ++ (wP pd cI cG fa fb N)) ++ ([(o, .inl (cJ, 1, .inr (.inl f0)))])) (gI (fun z w9 => ∃ (w1 : va_W) (f1 : Nat → Int64), LQ w9 o cJ f1 w1 ∧ ((z = 0 ∧ ((0 ≤ s ∧ s < (cnt : Int)) ∧ f1 0 = (zI (fs s.toNat)).toInt64) ∧ XW h ad a2 bd pd cI cG (cnt - 1) (rmv fv s.toNat (cnt - 1)) (rmv fs s.toNat (cnt - 1)) (rmv fd s.toNat (cnt - 1)) rm lt tk ov w1) ∨ (z = 1 ∧ ¬ (0 ≤ s ∧ s < (cnt : Int)) ∧ XW h ad a2 bd pd cI cG cnt fv fs fd rm lt tk ov w1)))) := by
  refine gMH_I (by decide) rfl (Nat.le_of_ble_eq_true rfl) (fun E C hT ret => ?_)
  refine g_aload_n C dL_withdraw_0 2 rfl ?_
  refine g_iconst C dL_withdraw_1 ?_
  refine g_aload_n C dL_withdraw_2 0 rfl ?_
  refine g_iload_n C dL_withdraw_3 1 rfl ?_
  refine g_callVX (wr := [(o, .inl (cJ, 1, .inr (.inl f0)))]) (st := [.int (zI 0), .ref o]) [0, 1, 2, 3, 4, 5, 6, 7, 8, 9, 10, 11, 12, 13, 14, 15, 16, 17, 18, 19, 20, 21, 22, 23, 24, 25, 26, 27, 28, 29, 30, 31, 32, 33, 34, 35, 36, 37, 38, 39, 40] [41] C cL_17 (met_X3_withdraw l hl9 D cI cG cJ h ad a2 bd pd cnt fv fs fd rm lt tk ov hI c2 gv gs gd tc tr ft tv tu fc M fa fb N s hs) ⟨rfl, rfl, by decide, by decide, by decide⟩ (q0 := 0) rfl rfl (by decide) (by decide) rfl rfl (Nat.le_of_ble_eq_true rfl) dL_withdraw_4 (fun nm9 w9 h9 => ?_) ?_
  · skip
    obtain ⟨rfl, hn, c21, gv1, gs1, gd1, tc1, tr1, ft1, tv1, tu1, fc1, M1, fa1, fb1, N1, rfl⟩ := h9
    refine gx_perm (w' := (((((wV h (ad 0) (a2 0) (bd 0) (pd 0) rm lt tk ov) ++ (wS ad cI (cnt : Int) fv fs fd)) ++ (wS a2 cI c21 gv1 gs1 gd1)) ++ (wT bd cI cG tc1 tr1 ft1 tv1 tu1 fc1 M1)) ++ (wP pd cI cG fa1 fb1 N1)) ++ ([(o, .inl (cJ, 1, .inr (.inl f0)))])) [1, 2, 3, 4, 5, 6, 7, 8, 9, 10, 11, 12, 13, 14, 15, 16, 17, 18, 19, 20, 21, 22, 23, 24, 25, 26, 27, 28, 29, 30, 31, 32, 33, 34, 35, 36, 37, 38, 39, 40, 41, 0] (by decide) rfl ?_
    refine g_catch (hh := [(0, 9, 12, 21)]) [] ⟨0, 9, 12, 21⟩ [] C hT rfl (fun z h => absurd h List.not_mem_nil) (by decide) (by decide) lkIOE (List.mem_of_getElem? (i := 2) rfl) (fun q9 => ?_)
    refine g_astore_n (L' := [(3, .ref q9), (0, .ref h), (1, .int (zI s)), (2, .ref o)]) C dL_withdraw_12 (by decide) rfl ?_
    refine g_iconst C dL_withdraw_13 ?_
    exact ret _ _ _ _ _ _ (by decide) (by decide) dL_withdraw_14 (⟨_, _, rfl, Or.inr ⟨rfl, hn, ⟨_, _, _, _, _, _, _, _, _, _, _, _, _, _, rfl⟩⟩⟩)
  rintro v9 w9 ⟨z9, rfl, hz, c21, gv1, gs1, gd1, tc1, tr1, ft1, tv1, tu1, fc1, M1, fa1, fb1, N1, rfl⟩
  refine g_ws (w' := ((((([(o, .inl (cJ, 1, .inr (.inl f0)))]) ++ (wV h (ad 0) (a2 0) (bd 0) (pd 0) rm lt tk ov)) ++ (wS ad cI ((cnt - 1 : Nat) : Int) (rmv fv s.toNat (cnt - 1)) (rmv fs s.toNat (cnt - 1)) (rmv fd s.toNat (cnt - 1)))) ++ (wS a2 cI c21 gv1 gs1 gd1)) ++ (wT bd cI cG tc1 tr1 ft1 tv1 tu1 fc1 M1)) ++ (wP pd cI cG fa1 fb1 N1)) (st' := [.int (zI z9), .int (zI 0), .ref o]) rfl rfl ?_
  refine g_perm (w' := (((((wV h (ad 0) (a2 0) (bd 0) (pd 0) rm lt tk ov) ++ (wS ad cI ((cnt - 1 : Nat) : Int) (rmv fv s.toNat (cnt - 1)) (rmv fs s.toNat (cnt - 1)) (rmv fd s.toNat (cnt - 1)))) ++ (wS a2 cI c21 gv1 gs1 gd1)) ++ (wT bd cI cG tc1 tr1 ft1 tv1 tu1 fc1 M1)) ++ (wP pd cI cG fa1 fb1 N1)) ++ ([(o, .inl (cJ, 1, .inr (.inl f0)))])) [1, 2, 3, 4, 5, 6, 7, 8, 9, 10, 11, 12, 13, 14, 15, 16, 17, 18, 19, 20, 21, 22, 23, 24, 25, 26, 27, 28, 29, 30, 31, 32, 33, 34, 35, 36, 37, 38, 39, 40, 41, 0] (by decide) rfl ?_
  refine g_i2l C dL_withdraw_7 ?_
  refine g_last (w' := (((((wV h (ad 0) (a2 0) (bd 0) (pd 0) rm lt tk ov) ++ (wS ad cI ((cnt - 1 : Nat) : Int) (rmv fv s.toNat (cnt - 1)) (rmv fs s.toNat (cnt - 1)) (rmv fd s.toNat (cnt - 1)))) ++ (wS a2 cI c21 gv1 gs1 gd1)) ++ (wT bd cI cG tc1 tr1 ft1 tv1 tu1 fc1 M1)) ++ (wP pd cI cG fa1 fb1 N1)) ++ ([(o, .inl (cJ, 1, .inr (.inl (vp_updL f0 0 ((zI z9).toInt64)))))])) C 41 rfl (by decide) (by omega) (by omega) rfl dL_withdraw_8 ?_
  refine g_goto 15 C dL_withdraw_9 (by decide) ?_
  refine g_iconst C dL_withdraw_15 ?_
  exact ret _ _ _ _ _ _ (by decide) (by decide) dL_withdraw_16 (⟨((((wV h (ad 0) (a2 0) (bd 0) (pd 0) rm lt tk ov) ++ (wS ad cI ((cnt - 1 : Nat) : Int) (rmv fv s.toNat (cnt - 1)) (rmv fs s.toNat (cnt - 1)) (rmv fd s.toNat (cnt - 1)))) ++ (wS a2 cI c21 gv1 gs1 gd1)) ++ (wT bd cI cG tc1 tr1 ft1 tv1 tu1 fc1 M1)) ++ (wP pd cI cG fa1 fb1 N1), vp_updL f0 0 (zI z9).toInt64, rfl, Or.inl ⟨rfl, ⟨hz.1, congrArg (fun z : Int => (zI z).toInt64) hz.2⟩, ⟨_, _, _, _, _, _, _, _, _, _, _, _, _, _, rfl⟩⟩⟩)
abbrev rmL_setRoom : Room := { frames := 8, cells := 1, slots := 6, locals := 152 }
set_option maxHeartbeats 4000000 in
set_option maxRecDepth 100000 in
theorem met_L_setRoom (l : Launch) (hl9 : l.stackTraces = false) (D : va_G) (cI cG cJ : ClassId) (h : Nat) (ad a2 bd pd : Nat → Nat) (cnt : Nat) (fv fs fd : Nat → Int) (rm lt tk ov : Int) (hI : XI cnt fv fs rm) (c2 : Int) (gv gs gd : Nat → Int) (tc tr : Int) (ft tv tu fc : Nat → Int) (M : Nat → Nat → Int) (fa fb : Nat → Int) (N : Nat → Nat → Int) (o : Nat) (f0 : Nat → Int64) (p : Int) (hp : zr p)  : gMH l yL_setRoom cL_setRoom 4 (some .int) [(0, 9, 12, 13)] rmL_setRoom D cI cG cJ [.ref h, .int (zI p), .ref o] ((((((wV h (ad 0) (a2 0) (bd 0) (pd 0) rm lt tk ov) ++ (wS ad cI (cnt : Int) fv fs fd)) ++ (wS a2 cI c2 gv gs gd)) ++ (wT bd cI cG tc tr ft tv tu fc M)) ++ (wP pd cI cG fa fb N)) ++ ([(o, .inl (cJ, 1, .inr (.inl f0)))])) (gI (fun z w9 => ∃ (w1 : va_W) (f1 : Nat → Int64), LQ w9 o cJ f1 w1 ∧ ((z = 0 ∧ ((1 ≤ p ∧ p ≤ 12) ∧ f1 0 = (zI (rm)).toInt64) ∧ XW h ad a2 bd pd cI cG cnt fv fs fd p lt tk ov w1) ∨ (z = 1 ∧ ¬ (1 ≤ p ∧ p ≤ 12) ∧ XW h ad a2 bd pd cI cG cnt fv fs fd rm lt tk ov w1)))) := by
  refine gMH_I (by decide) rfl (Nat.le_of_ble_eq_true rfl) (fun E C hT ret => ?_)
  refine g_aload_n C dL_setRoom_0 2 rfl ?_
  refine g_iconst C dL_setRoom_1 ?_
  refine g_aload_n C dL_setRoom_2 0 rfl ?_
  refine g_iload_n C dL_setRoom_3 1 rfl ?_
  refine g_callVX (wr := [(o, .inl (cJ, 1, .inr (.inl f0)))]) (st := [.int (zI 0), .ref o]) [0, 1, 2, 3, 4, 5, 6, 7, 8, 9, 10, 11, 12, 13, 14, 15, 16, 17, 18, 19, 20, 21, 22, 23, 24, 25, 26, 27, 28, 29, 30, 31, 32, 33, 34, 35, 36, 37, 38, 39, 40] [41] C cL_26 (met_X3_setRoom l hl9 D cI cG cJ h ad a2 bd pd cnt fv fs fd rm lt tk ov hI c2 gv gs gd tc tr ft tv tu fc M fa fb N p hp) ⟨rfl, rfl, by decide, by decide, by decide⟩ (q0 := 0) rfl rfl (by decide) (by decide) rfl rfl (Nat.le_of_ble_eq_true rfl) dL_setRoom_4 (fun nm9 w9 h9 => ?_) ?_
  · skip
    obtain ⟨rfl, hn, c21, gv1, gs1, gd1, tc1, tr1, ft1, tv1, tu1, fc1, M1, fa1, fb1, N1, rfl⟩ := h9
    refine gx_perm (w' := (((((wV h (ad 0) (a2 0) (bd 0) (pd 0) rm lt tk ov) ++ (wS ad cI (cnt : Int) fv fs fd)) ++ (wS a2 cI c21 gv1 gs1 gd1)) ++ (wT bd cI cG tc1 tr1 ft1 tv1 tu1 fc1 M1)) ++ (wP pd cI cG fa1 fb1 N1)) ++ ([(o, .inl (cJ, 1, .inr (.inl f0)))])) [1, 2, 3, 4, 5, 6, 7, 8, 9, 10, 11, 12, 13, 14, 15, 16, 17, 18, 19, 20, 21, 22, 23, 24, 25, 26, 27, 28, 29, 30, 31, 32, 33, 34, 35, 36, 37, 38, 39, 40, 41, 0] (by decide) rfl ?_
    refine g_catch (hh := [(0, 9, 12, 13)]) [] ⟨0, 9, 12, 13⟩ [] C hT rfl (fun z h => absurd h List.not_mem_nil) (by decide) (by decide) lkIAE (List.mem_of_getElem? (i := 0) rfl) (fun q9 => ?_)
    refine g_astore_n (L' := [(3, .ref q9), (0, .ref h), (1, .int (zI p)), (2, .ref o)]) C dL_setRoom_12 (by decide) rfl ?_
    refine g_iconst C dL_setRoom_13 ?_
    exact ret _ _ _ _ _ _ (by decide) (by decide) dL_setRoom_14 (⟨_, _, rfl, Or.inr ⟨rfl, hn, ⟨_, _, _, _, _, _, _, _, _, _, _, _, _, _, rfl⟩⟩⟩)
  rintro v9 w9 ⟨z9, rfl, hz, c21, gv1, gs1, gd1, tc1, tr1, ft1, tv1, tu1, fc1, M1, fa1, fb1, N1, rfl⟩
  refine g_ws (w' := ((((([(o, .inl (cJ, 1, .inr (.inl f0)))]) ++ (wV h (ad 0) (a2 0) (bd 0) (pd 0) p lt tk ov)) ++ (wS ad cI (cnt : Int) fv fs fd)) ++ (wS a2 cI c21 gv1 gs1 gd1)) ++ (wT bd cI cG tc1 tr1 ft1 tv1 tu1 fc1 M1)) ++ (wP pd cI cG fa1 fb1 N1)) (st' := [.int (zI z9), .int (zI 0), .ref o]) rfl rfl ?_
  refine g_perm (w' := (((((wV h (ad 0) (a2 0) (bd 0) (pd 0) p lt tk ov) ++ (wS ad cI (cnt : Int) fv fs fd)) ++ (wS a2 cI c21 gv1 gs1 gd1)) ++ (wT bd cI cG tc1 tr1 ft1 tv1 tu1 fc1 M1)) ++ (wP pd cI cG fa1 fb1 N1)) ++ ([(o, .inl (cJ, 1, .inr (.inl f0)))])) [1, 2, 3, 4, 5, 6, 7, 8, 9, 10, 11, 12, 13, 14, 15, 16, 17, 18, 19, 20, 21, 22, 23, 24, 25, 26, 27, 28, 29, 30, 31, 32, 33, 34, 35, 36, 37, 38, 39, 40, 41, 0] (by decide) rfl ?_
  refine g_i2l C dL_setRoom_7 ?_
  refine g_last (w' := (((((wV h (ad 0) (a2 0) (bd 0) (pd 0) p lt tk ov) ++ (wS ad cI (cnt : Int) fv fs fd)) ++ (wS a2 cI c21 gv1 gs1 gd1)) ++ (wT bd cI cG tc1 tr1 ft1 tv1 tu1 fc1 M1)) ++ (wP pd cI cG fa1 fb1 N1)) ++ ([(o, .inl (cJ, 1, .inr (.inl (vp_updL f0 0 ((zI z9).toInt64)))))])) C 41 rfl (by decide) (by omega) (by omega) rfl dL_setRoom_8 ?_
  refine g_goto 15 C dL_setRoom_9 (by decide) ?_
  refine g_iconst C dL_setRoom_15 ?_
  exact ret _ _ _ _ _ _ (by decide) (by decide) dL_setRoom_16 (⟨((((wV h (ad 0) (a2 0) (bd 0) (pd 0) p lt tk ov) ++ (wS ad cI (cnt : Int) fv fs fd)) ++ (wS a2 cI c21 gv1 gs1 gd1)) ++ (wT bd cI cG tc1 tr1 ft1 tv1 tu1 fc1 M1)) ++ (wP pd cI cG fa1 fb1 N1), vp_updL f0 0 (zI z9).toInt64, rfl, Or.inl ⟨rfl, ⟨hz.1, congrArg (fun z : Int => (zI z).toInt64) hz.2⟩, ⟨_, _, _, _, _, _, _, _, _, _, _, _, _, _, rfl⟩⟩⟩)
abbrev rmL_overpay : Room := { frames := 9, cells := 1, slots := 6, locals := 181 }
set_option maxHeartbeats 4000000 in
set_option maxRecDepth 100000 in
theorem met_L_overpay (l : Launch) (hl9 : l.stackTraces = false) (D : va_G) (cI cG cJ : ClassId) (h : Nat) (ad a2 bd pd : Nat → Nat) (cnt : Nat) (fv fs fd : Nat → Int) (rm lt tk ov : Int) (hI : XI cnt fv fs rm) (c2 : Int) (gv gs gd : Nat → Int) (tc tr : Int) (ft tv tu fc : Nat → Int) (M : Nat → Nat → Int) (fa fb : Nat → Int) (N : Nat → Nat → Int) (o : Nat) (f0 : Nat → Int64) (p : Int) (hp : zr p)  : gMH l yL_overpay cL_overpay 4 (some .int) [(0, 9, 12, 13)] rmL_overpay D cI cG cJ [.ref h, .int (zI p), .ref o] ((((((wV h (ad 0) (a2 0) (bd 0) (pd 0) rm lt tk ov) ++ (wS ad cI (cnt : Int) fv fs fd)) ++ (wS a2 cI c2 gv gs gd)) ++ (wT bd cI cG tc tr ft tv tu fc M)) ++ (wP pd cI cG fa fb N)) ++ ([(o, .inl (cJ, 1, .inr (.inl f0)))])) (gI (fun z w9 => ∃ (w1 : va_W) (f1 : Nat → Int64), LQ w9 o cJ f1 w1 ∧ ((z = 0 ∧ ((1 ≤ p ∧ p ≤ 300) ∧ f1 0 = (zI (if LSm cnt fv fs rm p.toNat = -1 then (-1 : Int) else LSm cnt fv fs rm p.toNat - p)).toInt64) ∧ XW h ad a2 bd pd cI cG cnt fv fs fd rm lt tk ov w1) ∨ (z = 1 ∧ ¬ (1 ≤ p ∧ p ≤ 300) ∧ XW h ad a2 bd pd cI cG cnt fv fs fd rm lt tk ov w1)))) := by
  refine gMH_I (by decide) rfl (Nat.le_of_ble_eq_true rfl) (fun E C hT ret => ?_)
  refine g_aload_n C dL_overpay_0 2 rfl ?_
  refine g_iconst C dL_overpay_1 ?_
  refine g_aload_n C dL_overpay_2 0 rfl ?_
  refine g_iload_n C dL_overpay_3 1 rfl ?_
  refine g_callVX (wr := [(o, .inl (cJ, 1, .inr (.inl f0)))]) (st := [.int (zI 0), .ref o]) [0, 1, 2, 3, 4, 5, 6, 7, 8, 9, 10, 11, 12, 13, 14, 15, 16, 17, 18, 19, 20, 21, 22, 23, 24, 25, 26, 27, 28, 29, 30, 31, 32, 33, 34, 35, 36, 37, 38, 39, 40] [41] C cL_45 (met_X3_overpay l hl9 D cI cG cJ h ad a2 bd pd cnt fv fs fd rm lt tk ov hI c2 gv gs gd tc tr ft tv tu fc M fa fb N p hp) ⟨rfl, rfl, by decide, by decide, by decide⟩ (q0 := 0) rfl rfl (by decide) (by decide) rfl rfl (Nat.le_of_ble_eq_true rfl) dL_overpay_4 (fun nm9 w9 h9 => ?_) ?_
  · skip
    obtain ⟨rfl, hn, c21, gv1, gs1, gd1, tc1, tr1, ft1, tv1, tu1, fc1, M1, fa1, fb1, N1, rfl⟩ := h9
    refine gx_perm (w' := (((((wV h (ad 0) (a2 0) (bd 0) (pd 0) rm lt tk ov) ++ (wS ad cI (cnt : Int) fv fs fd)) ++ (wS a2 cI c21 gv1 gs1 gd1)) ++ (wT bd cI cG tc1 tr1 ft1 tv1 tu1 fc1 M1)) ++ (wP pd cI cG fa1 fb1 N1)) ++ ([(o, .inl (cJ, 1, .inr (.inl f0)))])) [1, 2, 3, 4, 5, 6, 7, 8, 9, 10, 11, 12, 13, 14, 15, 16, 17, 18, 19, 20, 21, 22, 23, 24, 25, 26, 27, 28, 29, 30, 31, 32, 33, 34, 35, 36, 37, 38, 39, 40, 41, 0] (by decide) rfl ?_
    refine g_catch (hh := [(0, 9, 12, 13)]) [] ⟨0, 9, 12, 13⟩ [] C hT rfl (fun z h => absurd h List.not_mem_nil) (by decide) (by decide) lkIAE (List.mem_of_getElem? (i := 0) rfl) (fun q9 => ?_)
    refine g_astore_n (L' := [(3, .ref q9), (0, .ref h), (1, .int (zI p)), (2, .ref o)]) C dL_overpay_12 (by decide) rfl ?_
    refine g_iconst C dL_overpay_13 ?_
    exact ret _ _ _ _ _ _ (by decide) (by decide) dL_overpay_14 (⟨_, _, rfl, Or.inr ⟨rfl, hn, ⟨_, _, _, _, _, _, _, _, _, _, _, _, _, _, rfl⟩⟩⟩)
  rintro v9 w9 ⟨z9, rfl, hz, c21, gv1, gs1, gd1, tc1, tr1, ft1, tv1, tu1, fc1, M1, fa1, fb1, N1, rfl⟩
  refine g_ws (w' := ((((([(o, .inl (cJ, 1, .inr (.inl f0)))]) ++ (wV h (ad 0) (a2 0) (bd 0) (pd 0) rm lt tk ov)) ++ (wS ad cI (cnt : Int) fv fs fd)) ++ (wS a2 cI c21 gv1 gs1 gd1)) ++ (wT bd cI cG tc1 tr1 ft1 tv1 tu1 fc1 M1)) ++ (wP pd cI cG fa1 fb1 N1)) (st' := [.int (zI z9), .int (zI 0), .ref o]) rfl rfl ?_
  refine g_perm (w' := (((((wV h (ad 0) (a2 0) (bd 0) (pd 0) rm lt tk ov) ++ (wS ad cI (cnt : Int) fv fs fd)) ++ (wS a2 cI c21 gv1 gs1 gd1)) ++ (wT bd cI cG tc1 tr1 ft1 tv1 tu1 fc1 M1)) ++ (wP pd cI cG fa1 fb1 N1)) ++ ([(o, .inl (cJ, 1, .inr (.inl f0)))])) [1, 2, 3, 4, 5, 6, 7, 8, 9, 10, 11, 12, 13, 14, 15, 16, 17, 18, 19, 20, 21, 22, 23, 24, 25, 26, 27, 28, 29, 30, 31, 32, 33, 34, 35, 36, 37, 38, 39, 40, 41, 0] (by decide) rfl ?_
  refine g_i2l C dL_overpay_7 ?_
  refine g_last (w' := (((((wV h (ad 0) (a2 0) (bd 0) (pd 0) rm lt tk ov) ++ (wS ad cI (cnt : Int) fv fs fd)) ++ (wS a2 cI c21 gv1 gs1 gd1)) ++ (wT bd cI cG tc1 tr1 ft1 tv1 tu1 fc1 M1)) ++ (wP pd cI cG fa1 fb1 N1)) ++ ([(o, .inl (cJ, 1, .inr (.inl (vp_updL f0 0 ((zI z9).toInt64)))))])) C 41 rfl (by decide) (by omega) (by omega) rfl dL_overpay_8 ?_
  refine g_goto 15 C dL_overpay_9 (by decide) ?_
  refine g_iconst C dL_overpay_15 ?_
  exact ret _ _ _ _ _ _ (by decide) (by decide) dL_overpay_16 (⟨((((wV h (ad 0) (a2 0) (bd 0) (pd 0) rm lt tk ov) ++ (wS ad cI (cnt : Int) fv fs fd)) ++ (wS a2 cI c21 gv1 gs1 gd1)) ++ (wT bd cI cG tc1 tr1 ft1 tv1 tu1 fc1 M1)) ++ (wP pd cI cG fa1 fb1 N1), vp_updL f0 0 (zI z9).toInt64, rfl, Or.inl ⟨rfl, ⟨hz.1, congrArg (fun z : Int => (zI z).toInt64) hz.2⟩, ⟨_, _, _, _, _, _, _, _, _, _, _, _, _, _, rfl⟩⟩⟩)
abbrev rmL_stampsFor : Room := { frames := 9, cells := 1, slots := 6, locals := 181 }
set_option maxHeartbeats 4000000 in
set_option maxRecDepth 100000 in
theorem met_L_stampsFor (l : Launch) (hl9 : l.stackTraces = false) (D : va_G) (cI cG cJ : ClassId) (h : Nat) (ad a2 bd pd : Nat → Nat) (cnt : Nat) (fv fs fd : Nat → Int) (rm lt tk ov : Int) (hI : XI cnt fv fs rm) (c2 : Int) (gv gs gd : Nat → Int) (tc tr : Int) (ft tv tu fc : Nat → Int) (M : Nat → Nat → Int) (fa fb : Nat → Int) (N : Nat → Nat → Int) (o : Nat) (f0 : Nat → Int64) (p : Int) (hp : zr p)  : gMH l yL_stampsFor cL_stampsFor 4 (some .int) [(0, 9, 12, 13)] rmL_stampsFor D cI cG cJ [.ref h, .int (zI p), .ref o] ((((((wV h (ad 0) (a2 0) (bd 0) (pd 0) rm lt tk ov) ++ (wS ad cI (cnt : Int) fv fs fd)) ++ (wS a2 cI c2 gv gs gd)) ++ (wT bd cI cG tc tr ft tv tu fc M)) ++ (wP pd cI cG fa fb N)) ++ ([(o, .inl (cJ, 1, .inr (.inl f0)))])) (gI (fun z w9 => ∃ (w1 : va_W) (f1 : Nat → Int64), LQ w9 o cJ f1 w1 ∧ ((z = 0 ∧ ((1 ≤ p ∧ p ≤ 300) ∧ f1 0 = (zI (if LSm cnt fv fs rm p.toNat = -1 then (0 : Int) else TB cnt fv fs rm (LSm cnt fv fs rm p.toNat).toNat)).toInt64) ∧ XW h ad a2 bd pd cI cG cnt fv fs fd rm lt tk ov w1) ∨ (z = 1 ∧ ¬ (1 ≤ p ∧ p ≤ 300) ∧ XW h ad a2 bd pd cI cG cnt fv fs fd rm lt tk ov w1)))) := by
  refine gMH_I (by decide) rfl (Nat.le_of_ble_eq_true rfl) (fun E C hT ret => ?_)
  refine g_aload_n C dL_stampsFor_0 2 rfl ?_
  refine g_iconst C dL_stampsFor_1 ?_
  refine g_aload_n C dL_stampsFor_2 0 rfl ?_
  refine g_iload_n C dL_stampsFor_3 1 rfl ?_
  refine g_callVX (wr := [(o, .inl (cJ, 1, .inr (.inl f0)))]) (st := [.int (zI 0), .ref o]) [0, 1, 2, 3, 4, 5, 6, 7, 8, 9, 10, 11, 12, 13, 14, 15, 16, 17, 18, 19, 20, 21, 22, 23, 24, 25, 26, 27, 28, 29, 30, 31, 32, 33, 34, 35, 36, 37, 38, 39, 40] [41] C cL_48 (met_X3_stampsFor l hl9 D cI cG cJ h ad a2 bd pd cnt fv fs fd rm lt tk ov hI c2 gv gs gd tc tr ft tv tu fc M fa fb N p hp) ⟨rfl, rfl, by decide, by decide, by decide⟩ (q0 := 0) rfl rfl (by decide) (by decide) rfl rfl (Nat.le_of_ble_eq_true rfl) dL_stampsFor_4 (fun nm9 w9 h9 => ?_) ?_
  · skip
    obtain ⟨rfl, hn, c21, gv1, gs1, gd1, tc1, tr1, ft1, tv1, tu1, fc1, M1, fa1, fb1, N1, rfl⟩ := h9
    refine gx_perm (w' := (((((wV h (ad 0) (a2 0) (bd 0) (pd 0) rm lt tk ov) ++ (wS ad cI (cnt : Int) fv fs fd)) ++ (wS a2 cI c21 gv1 gs1 gd1)) ++ (wT bd cI cG tc1 tr1 ft1 tv1 tu1 fc1 M1)) ++ (wP pd cI cG fa1 fb1 N1)) ++ ([(o, .inl (cJ, 1, .inr (.inl f0)))])) [1, 2, 3, 4, 5, 6, 7, 8, 9, 10, 11, 12, 13, 14, 15, 16, 17, 18, 19, 20, 21, 22, 23, 24, 25, 26, 27, 28, 29, 30, 31, 32, 33, 34, 35, 36, 37, 38, 39, 40, 41, 0] (by decide) rfl ?_
    refine g_catch (hh := [(0, 9, 12, 13)]) [] ⟨0, 9, 12, 13⟩ [] C hT rfl (fun z h => absurd h List.not_mem_nil) (by decide) (by decide) lkIAE (List.mem_of_getElem? (i := 0) rfl) (fun q9 => ?_)
    refine g_astore_n (L' := [(3, .ref q9), (0, .ref h), (1, .int (zI p)), (2, .ref o)]) C dL_stampsFor_12 (by decide) rfl ?_
    refine g_iconst C dL_stampsFor_13 ?_
    exact ret _ _ _ _ _ _ (by decide) (by decide) dL_stampsFor_14 (⟨_, _, rfl, Or.inr ⟨rfl, hn, ⟨_, _, _, _, _, _, _, _, _, _, _, _, _, _, rfl⟩⟩⟩)
  rintro v9 w9 ⟨z9, rfl, hz, c21, gv1, gs1, gd1, tc1, tr1, ft1, tv1, tu1, fc1, M1, fa1, fb1, N1, rfl⟩
  refine g_ws (w' := ((((([(o, .inl (cJ, 1, .inr (.inl f0)))]) ++ (wV h (ad 0) (a2 0) (bd 0) (pd 0) rm lt tk ov)) ++ (wS ad cI (cnt : Int) fv fs fd)) ++ (wS a2 cI c21 gv1 gs1 gd1)) ++ (wT bd cI cG tc1 tr1 ft1 tv1 tu1 fc1 M1)) ++ (wP pd cI cG fa1 fb1 N1)) (st' := [.int (zI z9), .int (zI 0), .ref o]) rfl rfl ?_
  refine g_perm (w' := (((((wV h (ad 0) (a2 0) (bd 0) (pd 0) rm lt tk ov) ++ (wS ad cI (cnt : Int) fv fs fd)) ++ (wS a2 cI c21 gv1 gs1 gd1)) ++ (wT bd cI cG tc1 tr1 ft1 tv1 tu1 fc1 M1)) ++ (wP pd cI cG fa1 fb1 N1)) ++ ([(o, .inl (cJ, 1, .inr (.inl f0)))])) [1, 2, 3, 4, 5, 6, 7, 8, 9, 10, 11, 12, 13, 14, 15, 16, 17, 18, 19, 20, 21, 22, 23, 24, 25, 26, 27, 28, 29, 30, 31, 32, 33, 34, 35, 36, 37, 38, 39, 40, 41, 0] (by decide) rfl ?_
  refine g_i2l C dL_stampsFor_7 ?_
  refine g_last (w' := (((((wV h (ad 0) (a2 0) (bd 0) (pd 0) rm lt tk ov) ++ (wS ad cI (cnt : Int) fv fs fd)) ++ (wS a2 cI c21 gv1 gs1 gd1)) ++ (wT bd cI cG tc1 tr1 ft1 tv1 tu1 fc1 M1)) ++ (wP pd cI cG fa1 fb1 N1)) ++ ([(o, .inl (cJ, 1, .inr (.inl (vp_updL f0 0 ((zI z9).toInt64)))))])) C 41 rfl (by decide) (by omega) (by omega) rfl dL_stampsFor_8 ?_
  refine g_goto 15 C dL_stampsFor_9 (by decide) ?_
  refine g_iconst C dL_stampsFor_15 ?_
  exact ret _ _ _ _ _ _ (by decide) (by decide) dL_stampsFor_16 (⟨((((wV h (ad 0) (a2 0) (bd 0) (pd 0) rm lt tk ov) ++ (wS ad cI (cnt : Int) fv fs fd)) ++ (wS a2 cI c21 gv1 gs1 gd1)) ++ (wT bd cI cG tc1 tr1 ft1 tv1 tu1 fc1 M1)) ++ (wP pd cI cG fa1 fb1 N1), vp_updL f0 0 (zI z9).toInt64, rfl, Or.inl ⟨rfl, ⟨hz.1, congrArg (fun z : Int => (zI z).toInt64) hz.2⟩, ⟨_, _, _, _, _, _, _, _, _, _, _, _, _, _, rfl⟩⟩⟩)
abbrev rmL_fewest : Room := { frames := 9, cells := 1, slots := 6, locals := 181 }
set_option maxHeartbeats 4000000 in
set_option maxRecDepth 100000 in
theorem met_L_fewest (l : Launch) (hl9 : l.stackTraces = false) (D : va_G) (cI cG cJ : ClassId) (h : Nat) (ad a2 bd pd : Nat → Nat) (cnt : Nat) (fv fs fd : Nat → Int) (rm lt tk ov : Int) (hI : XI cnt fv fs rm) (c2 : Int) (gv gs gd : Nat → Int) (tc tr : Int) (ft tv tu fc : Nat → Int) (M : Nat → Nat → Int) (fa fb : Nat → Int) (N : Nat → Nat → Int) (o : Nat) (f0 : Nat → Int64) (p : Int) (hp : zr p)  : gMH l yL_fewest cL_fewest 4 (some .int) [(0, 9, 12, 13)] rmL_fewest D cI cG cJ [.ref h, .int (zI p), .ref o] ((((((wV h (ad 0) (a2 0) (bd 0) (pd 0) rm lt tk ov) ++ (wS ad cI (cnt : Int) fv fs fd)) ++ (wS a2 cI c2 gv gs gd)) ++ (wT bd cI cG tc tr ft tv tu fc M)) ++ (wP pd cI cG fa fb N)) ++ ([(o, .inl (cJ, 1, .inr (.inl f0)))])) (gI (fun z w9 => ∃ (w1 : va_W) (f1 : Nat → Int64), LQ w9 o cJ f1 w1 ∧ ((z = 0 ∧ ((1 ≤ p ∧ p ≤ 300) ∧ f1 0 = (zI (if PF fv cnt 0 p.toNat ≤ rm then PF fv cnt 0 p.toNat else (-1))).toInt64) ∧ XW h ad a2 bd pd cI cG cnt fv fs fd rm lt tk ov w1) ∨ (z = 1 ∧ ¬ (1 ≤ p ∧ p ≤ 300) ∧ XW h ad a2 bd pd cI cG cnt fv fs fd rm lt tk ov w1)))) := by
  refine gMH_I (by decide) rfl (Nat.le_of_ble_eq_true rfl) (fun E C hT ret => ?_)
  refine g_aload_n C dL_fewest_0 2 rfl ?_
  refine g_iconst C dL_fewest_1 ?_
  refine g_aload_n C dL_fewest_2 0 rfl ?_
  refine g_iload_n C dL_fewest_3 1 rfl ?_
  refine g_callVX (wr := [(o, .inl (cJ, 1, .inr (.inl f0)))]) (st := [.int (zI 0), .ref o]) [0, 1, 2, 3, 4, 5, 6, 7, 8, 9, 10, 11, 12, 13, 14, 15, 16, 17, 18, 19, 20, 21, 22, 23, 24, 25, 26, 27, 28, 29, 30, 31, 32, 33, 34, 35, 36, 37, 38, 39, 40] [41] C cL_54 (met_X3_fewest l hl9 D cI cG cJ h ad a2 bd pd cnt fv fs fd rm lt tk ov hI c2 gv gs gd tc tr ft tv tu fc M fa fb N p hp) ⟨rfl, rfl, by decide, by decide, by decide⟩ (q0 := 0) rfl rfl (by decide) (by decide) rfl rfl (Nat.le_of_ble_eq_true rfl) dL_fewest_4 (fun nm9 w9 h9 => ?_) ?_
  · skip
    obtain ⟨rfl, hn, c21, gv1, gs1, gd1, tc1, tr1, ft1, tv1, tu1, fc1, M1, fa1, fb1, N1, rfl⟩ := h9
    refine gx_perm (w' := (((((wV h (ad 0) (a2 0) (bd 0) (pd 0) rm lt tk ov) ++ (wS ad cI (cnt : Int) fv fs fd)) ++ (wS a2 cI c21 gv1 gs1 gd1)) ++ (wT bd cI cG tc1 tr1 ft1 tv1 tu1 fc1 M1)) ++ (wP pd cI cG fa1 fb1 N1)) ++ ([(o, .inl (cJ, 1, .inr (.inl f0)))])) [1, 2, 3, 4, 5, 6, 7, 8, 9, 10, 11, 12, 13, 14, 15, 16, 17, 18, 19, 20, 21, 22, 23, 24, 25, 26, 27, 28, 29, 30, 31, 32, 33, 34, 35, 36, 37, 38, 39, 40, 41, 0] (by decide) rfl ?_
    refine g_catch (hh := [(0, 9, 12, 13)]) [] ⟨0, 9, 12, 13⟩ [] C hT rfl (fun z h => absurd h List.not_mem_nil) (by decide) (by decide) lkIAE (List.mem_of_getElem? (i := 0) rfl) (fun q9 => ?_)
    refine g_astore_n (L' := [(3, .ref q9), (0, .ref h), (1, .int (zI p)), (2, .ref o)]) C dL_fewest_12 (by decide) rfl ?_
    refine g_iconst C dL_fewest_13 ?_
    exact ret _ _ _ _ _ _ (by decide) (by decide) dL_fewest_14 (⟨_, _, rfl, Or.inr ⟨rfl, hn, ⟨_, _, _, _, _, _, _, _, _, _, _, _, _, _, rfl⟩⟩⟩)
  rintro v9 w9 ⟨z9, rfl, hz, c21, gv1, gs1, gd1, tc1, tr1, ft1, tv1, tu1, fc1, M1, fa1, fb1, N1, rfl⟩
  refine g_ws (w' := ((((([(o, .inl (cJ, 1, .inr (.inl f0)))]) ++ (wV h (ad 0) (a2 0) (bd 0) (pd 0) rm lt tk ov)) ++ (wS ad cI (cnt : Int) fv fs fd)) ++ (wS a2 cI c21 gv1 gs1 gd1)) ++ (wT bd cI cG tc1 tr1 ft1 tv1 tu1 fc1 M1)) ++ (wP pd cI cG fa1 fb1 N1)) (st' := [.int (zI z9), .int (zI 0), .ref o]) rfl rfl ?_
  refine g_perm (w' := (((((wV h (ad 0) (a2 0) (bd 0) (pd 0) rm lt tk ov) ++ (wS ad cI (cnt : Int) fv fs fd)) ++ (wS a2 cI c21 gv1 gs1 gd1)) ++ (wT bd cI cG tc1 tr1 ft1 tv1 tu1 fc1 M1)) ++ (wP pd cI cG fa1 fb1 N1)) ++ ([(o, .inl (cJ, 1, .inr (.inl f0)))])) [1, 2, 3, 4, 5, 6, 7, 8, 9, 10, 11, 12, 13, 14, 15, 16, 17, 18, 19, 20, 21, 22, 23, 24, 25, 26, 27, 28, 29, 30, 31, 32, 33, 34, 35, 36, 37, 38, 39, 40, 41, 0] (by decide) rfl ?_
  refine g_i2l C dL_fewest_7 ?_
  refine g_last (w' := (((((wV h (ad 0) (a2 0) (bd 0) (pd 0) rm lt tk ov) ++ (wS ad cI (cnt : Int) fv fs fd)) ++ (wS a2 cI c21 gv1 gs1 gd1)) ++ (wT bd cI cG tc1 tr1 ft1 tv1 tu1 fc1 M1)) ++ (wP pd cI cG fa1 fb1 N1)) ++ ([(o, .inl (cJ, 1, .inr (.inl (vp_updL f0 0 ((zI z9).toInt64)))))])) C 41 rfl (by decide) (by omega) (by omega) rfl dL_fewest_8 ?_
  refine g_goto 15 C dL_fewest_9 (by decide) ?_
  refine g_iconst C dL_fewest_15 ?_
  exact ret _ _ _ _ _ _ (by decide) (by decide) dL_fewest_16 (⟨((((wV h (ad 0) (a2 0) (bd 0) (pd 0) rm lt tk ov) ++ (wS ad cI (cnt : Int) fv fs fd)) ++ (wS a2 cI c21 gv1 gs1 gd1)) ++ (wT bd cI cG tc1 tr1 ft1 tv1 tu1 fc1 M1)) ++ (wP pd cI cG fa1 fb1 N1), vp_updL f0 0 (zI z9).toInt64, rfl, Or.inl ⟨rfl, ⟨hz.1, congrArg (fun z : Int => (zI z).toInt64) hz.2⟩, ⟨_, _, _, _, _, _, _, _, _, _, _, _, _, _, rfl⟩⟩⟩)
abbrev rmL_ways : Room := { frames := 9, cells := 1, slots := 6, locals := 181 }
set_option maxHeartbeats 4000000 in
set_option maxRecDepth 100000 in
theorem met_L_ways (l : Launch) (hl9 : l.stackTraces = false) (D : va_G) (cI cG cJ : ClassId) (h : Nat) (ad a2 bd pd : Nat → Nat) (cnt : Nat) (fv fs fd : Nat → Int) (rm lt tk ov : Int) (hI : XI cnt fv fs rm) (c2 : Int) (gv gs gd : Nat → Int) (tc tr : Int) (ft tv tu fc : Nat → Int) (M : Nat → Nat → Int) (fa fb : Nat → Int) (N : Nat → Nat → Int) (o : Nat) (f0 : Nat → Int64) (p : Int) (hp : zr p)  : gMH l yL_ways cL_ways 4 (some .int) [(0, 9, 12, 13)] rmL_ways D cI cG cJ [.ref h, .int (zI p), .ref o] ((((((wV h (ad 0) (a2 0) (bd 0) (pd 0) rm lt tk ov) ++ (wS ad cI (cnt : Int) fv fs fd)) ++ (wS a2 cI c2 gv gs gd)) ++ (wT bd cI cG tc tr ft tv tu fc M)) ++ (wP pd cI cG fa fb N)) ++ ([(o, .inl (cJ, 1, .inr (.inl f0)))])) (gI (fun z w9 => ∃ (w1 : va_W) (f1 : Nat → Int64), LQ w9 o cJ f1 w1 ∧ ((z = 0 ∧ ((1 ≤ p ∧ p ≤ 300) ∧ f1 0 = (zI (wsum (wy fv cnt) p.toNat (rm.toNat + 1))).toInt64) ∧ XW h ad a2 bd pd cI cG cnt fv fs fd rm lt tk ov w1) ∨ (z = 1 ∧ ¬ (1 ≤ p ∧ p ≤ 300) ∧ XW h ad a2 bd pd cI cG cnt fv fs fd rm lt tk ov w1)))) := by
  refine gMH_I (by decide) rfl (Nat.le_of_ble_eq_true rfl) (fun E C hT ret => ?_)
  refine g_aload_n C dL_ways_0 2 rfl ?_
  refine g_iconst C dL_ways_1 ?_
  refine g_aload_n C dL_ways_2 0 rfl ?_
  refine g_iload_n C dL_ways_3 1 rfl ?_
  refine g_callVX (wr := [(o, .inl (cJ, 1, .inr (.inl f0)))]) (st := [.int (zI 0), .ref o]) [0, 1, 2, 3, 4, 5, 6, 7, 8, 9, 10, 11, 12, 13, 14, 15, 16, 17, 18, 19, 20, 21, 22, 23, 24, 25, 26, 27, 28, 29, 30, 31, 32, 33, 34, 35, 36, 37, 38, 39, 40] [41] C cL_57 (met_X3_ways l hl9 D cI cG cJ h ad a2 bd pd cnt fv fs fd rm lt tk ov hI c2 gv gs gd tc tr ft tv tu fc M fa fb N p hp) ⟨rfl, rfl, by decide, by decide, by decide⟩ (q0 := 0) rfl rfl (by decide) (by decide) rfl rfl (Nat.le_of_ble_eq_true rfl) dL_ways_4 (fun nm9 w9 h9 => ?_) ?_
  · skip
    obtain ⟨rfl, hn, c21, gv1, gs1, gd1, tc1, tr1, ft1, tv1, tu1, fc1, M1, fa1, fb1, N1, rfl⟩ := h9
    refine gx_perm (w' := (((((wV h (ad 0) (a2 0) (bd 0) (pd 0) rm lt tk ov) ++ (wS ad cI (cnt : Int) fv fs fd)) ++ (wS a2 cI c21 gv1 gs1 gd1)) ++ (wT bd cI cG tc1 tr1 ft1 tv1 tu1 fc1 M1)) ++ (wP pd cI cG fa1 fb1 N1)) ++ ([(o, .inl (cJ, 1, .inr (.inl f0)))])) [1, 2, 3, 4, 5, 6, 7, 8, 9, 10, 11, 12, 13, 14, 15, 16, 17, 18, 19, 20, 21, 22, 23, 24, 25, 26, 27, 28, 29, 30, 31, 32, 33, 34, 35, 36, 37, 38, 39, 40, 41, 0] (by decide) rfl ?_
    refine g_catch (hh := [(0, 9, 12, 13)]) [] ⟨0, 9, 12, 13⟩ [] C hT rfl (fun z h => absurd h List.not_mem_nil) (by decide) (by decide) lkIAE (List.mem_of_getElem? (i := 0) rfl) (fun q9 => ?_)
    refine g_astore_n (L' := [(3, .ref q9), (0, .ref h), (1, .int (zI p)), (2, .ref o)]) C dL_ways_12 (by decide) rfl ?_
    refine g_iconst C dL_ways_13 ?_
    exact ret _ _ _ _ _ _ (by decide) (by decide) dL_ways_14 (⟨_, _, rfl, Or.inr ⟨rfl, hn, ⟨_, _, _, _, _, _, _, _, _, _, _, _, _, _, rfl⟩⟩⟩)
  rintro v9 w9 ⟨z9, rfl, hz, c21, gv1, gs1, gd1, tc1, tr1, ft1, tv1, tu1, fc1, M1, fa1, fb1, N1, rfl⟩
  refine g_ws (w' := ((((([(o, .inl (cJ, 1, .inr (.inl f0)))]) ++ (wV h (ad 0) (a2 0) (bd 0) (pd 0) rm lt tk ov)) ++ (wS ad cI (cnt : Int) fv fs fd)) ++ (wS a2 cI c21 gv1 gs1 gd1)) ++ (wT bd cI cG tc1 tr1 ft1 tv1 tu1 fc1 M1)) ++ (wP pd cI cG fa1 fb1 N1)) (st' := [.int (zI z9), .int (zI 0), .ref o]) rfl rfl ?_
  refine g_perm (w' := (((((wV h (ad 0) (a2 0) (bd 0) (pd 0) rm lt tk ov) ++ (wS ad cI (cnt : Int) fv fs fd)) ++ (wS a2 cI c21 gv1 gs1 gd1)) ++ (wT bd cI cG tc1 tr1 ft1 tv1 tu1 fc1 M1)) ++ (wP pd cI cG fa1 fb1 N1)) ++ ([(o, .inl (cJ, 1, .inr (.inl f0)))])) [1, 2, 3, 4, 5, 6, 7, 8, 9, 10, 11, 12, 13, 14, 15, 16, 17, 18, 19, 20, 21, 22, 23, 24, 25, 26, 27, 28, 29, 30, 31, 32, 33, 34, 35, 36, 37, 38, 39, 40, 41, 0] (by decide) rfl ?_
  refine g_i2l C dL_ways_7 ?_
  refine g_last (w' := (((((wV h (ad 0) (a2 0) (bd 0) (pd 0) rm lt tk ov) ++ (wS ad cI (cnt : Int) fv fs fd)) ++ (wS a2 cI c21 gv1 gs1 gd1)) ++ (wT bd cI cG tc1 tr1 ft1 tv1 tu1 fc1 M1)) ++ (wP pd cI cG fa1 fb1 N1)) ++ ([(o, .inl (cJ, 1, .inr (.inl (vp_updL f0 0 ((zI z9).toInt64)))))])) C 41 rfl (by decide) (by omega) (by omega) rfl dL_ways_8 ?_
  refine g_goto 15 C dL_ways_9 (by decide) ?_
  refine g_iconst C dL_ways_15 ?_
  exact ret _ _ _ _ _ _ (by decide) (by decide) dL_ways_16 (⟨((((wV h (ad 0) (a2 0) (bd 0) (pd 0) rm lt tk ov) ++ (wS ad cI (cnt : Int) fv fs fd)) ++ (wS a2 cI c21 gv1 gs1 gd1)) ++ (wT bd cI cG tc1 tr1 ft1 tv1 tu1 fc1 M1)) ++ (wP pd cI cG fa1 fb1 N1), vp_updL f0 0 (zI z9).toInt64, rfl, Or.inl ⟨rfl, ⟨hz.1, congrArg (fun z : Int => (zI z).toInt64) hz.2⟩, ⟨_, _, _, _, _, _, _, _, _, _, _, _, _, _, rfl⟩⟩⟩)
abbrev rmL_gapFrom : Room := { frames := 9, cells := 1, slots := 6, locals := 181 }
set_option maxHeartbeats 4000000 in
set_option maxRecDepth 100000 in
theorem met_L_gapFrom (l : Launch) (hl9 : l.stackTraces = false) (D : va_G) (cI cG cJ : ClassId) (h : Nat) (ad a2 bd pd : Nat → Nat) (cnt : Nat) (fv fs fd : Nat → Int) (rm lt tk ov : Int) (hI : XI cnt fv fs rm) (c2 : Int) (gv gs gd : Nat → Int) (tc tr : Int) (ft tv tu fc : Nat → Int) (M : Nat → Nat → Int) (fa fb : Nat → Int) (N : Nat → Nat → Int) (o : Nat) (f0 : Nat → Int64) (p : Int) (hp : zr p)  : gMH l yL_gapFrom cL_gapFrom 4 (some .int) [(0, 9, 12, 13)] rmL_gapFrom D cI cG cJ [.ref h, .int (zI p), .ref o] ((((((wV h (ad 0) (a2 0) (bd 0) (pd 0) rm lt tk ov) ++ (wS ad cI (cnt : Int) fv fs fd)) ++ (wS a2 cI c2 gv gs gd)) ++ (wT bd cI cG tc tr ft tv tu fc M)) ++ (wP pd cI cG fa fb N)) ++ ([(o, .inl (cJ, 1, .inr (.inl f0)))])) (gI (fun z w9 => ∃ (w1 : va_W) (f1 : Nat → Int64), LQ w9 o cJ f1 w1 ∧ ((z = 0 ∧ ((1 ≤ p ∧ p ≤ 300) ∧ f1 0 = (zI (fgp (PF fv cnt 0) rm (301 - p.toNat) p.toNat)).toInt64) ∧ XW h ad a2 bd pd cI cG cnt fv fs fd rm lt tk ov w1) ∨ (z = 1 ∧ ¬ (1 ≤ p ∧ p ≤ 300) ∧ XW h ad a2 bd pd cI cG cnt fv fs fd rm lt tk ov w1)))) := by
  refine gMH_I (by decide) rfl (Nat.le_of_ble_eq_true rfl) (fun E C hT ret => ?_)
  refine g_aload_n C dL_gapFrom_0 2 rfl ?_
  refine g_iconst C dL_gapFrom_1 ?_
  refine g_aload_n C dL_gapFrom_2 0 rfl ?_
  refine g_iload_n C dL_gapFrom_3 1 rfl ?_
  refine g_callVX (wr := [(o, .inl (cJ, 1, .inr (.inl f0)))]) (st := [.int (zI 0), .ref o]) [0, 1, 2, 3, 4, 5, 6, 7, 8, 9, 10, 11, 12, 13, 14, 15, 16, 17, 18, 19, 20, 21, 22, 23, 24, 25, 26, 27, 28, 29, 30, 31, 32, 33, 34, 35, 36, 37, 38, 39, 40] [41] C cL_60 (met_X3_gapFrom l hl9 D cI cG cJ h ad a2 bd pd cnt fv fs fd rm lt tk ov hI c2 gv gs gd tc tr ft tv tu fc M fa fb N p hp) ⟨rfl, rfl, by decide, by decide, by decide⟩ (q0 := 0) rfl rfl (by decide) (by decide) rfl rfl (Nat.le_of_ble_eq_true rfl) dL_gapFrom_4 (fun nm9 w9 h9 => ?_) ?_
  · skip
    obtain ⟨rfl, hn, c21, gv1, gs1, gd1, tc1, tr1, ft1, tv1, tu1, fc1, M1, fa1, fb1, N1, rfl⟩ := h9
    refine gx_perm (w' := (((((wV h (ad 0) (a2 0) (bd 0) (pd 0) rm lt tk ov) ++ (wS ad cI (cnt : Int) fv fs fd)) ++ (wS a2 cI c21 gv1 gs1 gd1)) ++ (wT bd cI cG tc1 tr1 ft1 tv1 tu1 fc1 M1)) ++ (wP pd cI cG fa1 fb1 N1)) ++ ([(o, .inl (cJ, 1, .inr (.inl f0)))])) [1, 2, 3, 4, 5, 6, 7, 8, 9, 10, 11, 12, 13, 14, 15, 16, 17, 18, 19, 20, 21, 22, 23, 24, 25, 26, 27, 28, 29, 30, 31, 32, 33, 34, 35, 36, 37, 38, 39, 40, 41, 0] (by decide) rfl ?_
    refine g_catch (hh := [(0, 9, 12, 13)]) [] ⟨0, 9, 12, 13⟩ [] C hT rfl (fun z h => absurd h List.not_mem_nil) (by decide) (by decide) lkIAE (List.mem_of_getElem? (i := 0) rfl) (fun q9 => ?_)
    refine g_astore_n (L' := [(3, .ref q9), (0, .ref h), (1, .int (zI p)), (2, .ref o)]) C dL_gapFrom_12 (by decide) rfl ?_
    refine g_iconst C dL_gapFrom_13 ?_
    exact ret _ _ _ _ _ _ (by decide) (by decide) dL_gapFrom_14 (⟨_, _, rfl, Or.inr ⟨rfl, hn, ⟨_, _, _, _, _, _, _, _, _, _, _, _, _, _, rfl⟩⟩⟩)
  rintro v9 w9 ⟨z9, rfl, hz, c21, gv1, gs1, gd1, tc1, tr1, ft1, tv1, tu1, fc1, M1, fa1, fb1, N1, rfl⟩
  refine g_ws (w' := ((((([(o, .inl (cJ, 1, .inr (.inl f0)))]) ++ (wV h (ad 0) (a2 0) (bd 0) (pd 0) rm lt tk ov)) ++ (wS ad cI (cnt : Int) fv fs fd)) ++ (wS a2 cI c21 gv1 gs1 gd1)) ++ (wT bd cI cG tc1 tr1 ft1 tv1 tu1 fc1 M1)) ++ (wP pd cI cG fa1 fb1 N1)) (st' := [.int (zI z9), .int (zI 0), .ref o]) rfl rfl ?_
  refine g_perm (w' := (((((wV h (ad 0) (a2 0) (bd 0) (pd 0) rm lt tk ov) ++ (wS ad cI (cnt : Int) fv fs fd)) ++ (wS a2 cI c21 gv1 gs1 gd1)) ++ (wT bd cI cG tc1 tr1 ft1 tv1 tu1 fc1 M1)) ++ (wP pd cI cG fa1 fb1 N1)) ++ ([(o, .inl (cJ, 1, .inr (.inl f0)))])) [1, 2, 3, 4, 5, 6, 7, 8, 9, 10, 11, 12, 13, 14, 15, 16, 17, 18, 19, 20, 21, 22, 23, 24, 25, 26, 27, 28, 29, 30, 31, 32, 33, 34, 35, 36, 37, 38, 39, 40, 41, 0] (by decide) rfl ?_
  refine g_i2l C dL_gapFrom_7 ?_
  refine g_last (w' := (((((wV h (ad 0) (a2 0) (bd 0) (pd 0) rm lt tk ov) ++ (wS ad cI (cnt : Int) fv fs fd)) ++ (wS a2 cI c21 gv1 gs1 gd1)) ++ (wT bd cI cG tc1 tr1 ft1 tv1 tu1 fc1 M1)) ++ (wP pd cI cG fa1 fb1 N1)) ++ ([(o, .inl (cJ, 1, .inr (.inl (vp_updL f0 0 ((zI z9).toInt64)))))])) C 41 rfl (by decide) (by omega) (by omega) rfl dL_gapFrom_8 ?_
  refine g_goto 15 C dL_gapFrom_9 (by decide) ?_
  refine g_iconst C dL_gapFrom_15 ?_
  exact ret _ _ _ _ _ _ (by decide) (by decide) dL_gapFrom_16 (⟨((((wV h (ad 0) (a2 0) (bd 0) (pd 0) rm lt tk ov) ++ (wS ad cI (cnt : Int) fv fs fd)) ++ (wS a2 cI c21 gv1 gs1 gd1)) ++ (wT bd cI cG tc1 tr1 ft1 tv1 tu1 fc1 M1)) ++ (wP pd cI cG fa1 fb1 N1), vp_updL f0 0 (zI z9).toInt64, rfl, Or.inl ⟨rfl, ⟨hz.1, congrArg (fun z : Int => (zI z).toInt64) hz.2⟩, ⟨_, _, _, _, _, _, _, _, _, _, _, _, _, _, rfl⟩⟩⟩)
abbrev rmL_gapsTo : Room := { frames := 9, cells := 1, slots := 6, locals := 181 }
set_option maxHeartbeats 4000000 in
set_option maxRecDepth 100000 in
theorem met_L_gapsTo (l : Launch) (hl9 : l.stackTraces = false) (D : va_G) (cI cG cJ : ClassId) (h : Nat) (ad a2 bd pd : Nat → Nat) (cnt : Nat) (fv fs fd : Nat → Int) (rm lt tk ov : Int) (hI : XI cnt fv fs rm) (c2 : Int) (gv gs gd : Nat → Int) (tc tr : Int) (ft tv tu fc : Nat → Int) (M : Nat → Nat → Int) (fa fb : Nat → Int) (N : Nat → Nat → Int) (o : Nat) (f0 : Nat → Int64) (p : Int) (hp : zr p)  : gMH l yL_gapsTo cL_gapsTo 4 (some .int) [(0, 9, 12, 13)] rmL_gapsTo D cI cG cJ [.ref h, .int (zI p), .ref o] ((((((wV h (ad 0) (a2 0) (bd 0) (pd 0) rm lt tk ov) ++ (wS ad cI (cnt : Int) fv fs fd)) ++ (wS a2 cI c2 gv gs gd)) ++ (wT bd cI cG tc tr ft tv tu fc M)) ++ (wP pd cI cG fa fb N)) ++ ([(o, .inl (cJ, 1, .inr (.inl f0)))])) (gI (fun z w9 => ∃ (w1 : va_W) (f1 : Nat → Int64), LQ w9 o cJ f1 w1 ∧ ((z = 0 ∧ ((1 ≤ p ∧ p ≤ 300) ∧ f1 0 = (zI (((cgp (PF fv cnt 0) rm p.toNat : Nat) : Int))).toInt64) ∧ XW h ad a2 bd pd cI cG cnt fv fs fd rm lt tk ov w1) ∨ (z = 1 ∧ ¬ (1 ≤ p ∧ p ≤ 300) ∧ XW h ad a2 bd pd cI cG cnt fv fs fd rm lt tk ov w1)))) := by
  refine gMH_I (by decide) rfl (Nat.le_of_ble_eq_true rfl) (fun E C hT ret => ?_)
  refine g_aload_n C dL_gapsTo_0 2 rfl ?_
  refine g_iconst C dL_gapsTo_1 ?_
  refine g_aload_n C dL_gapsTo_2 0 rfl ?_
  refine g_iload_n C dL_gapsTo_3 1 rfl ?_
  refine g_callVX (wr := [(o, .inl (cJ, 1, .inr (.inl f0)))]) (st := [.int (zI 0), .ref o]) [0, 1, 2, 3, 4, 5, 6, 7, 8, 9, 10, 11, 12, 13, 14, 15, 16, 17, 18, 19, 20, 21, 22, 23, 24, 25, 26, 27, 28, 29, 30, 31, 32, 33, 34, 35, 36, 37, 38, 39, 40] [41] C cL_63 (met_X3_gapsTo l hl9 D cI cG cJ h ad a2 bd pd cnt fv fs fd rm lt tk ov hI c2 gv gs gd tc tr ft tv tu fc M fa fb N p hp) ⟨rfl, rfl, by decide, by decide, by decide⟩ (q0 := 0) rfl rfl (by decide) (by decide) rfl rfl (Nat.le_of_ble_eq_true rfl) dL_gapsTo_4 (fun nm9 w9 h9 => ?_) ?_
  · skip
    obtain ⟨rfl, hn, c21, gv1, gs1, gd1, tc1, tr1, ft1, tv1, tu1, fc1, M1, fa1, fb1, N1, rfl⟩ := h9
    refine gx_perm (w' := (((((wV h (ad 0) (a2 0) (bd 0) (pd 0) rm lt tk ov) ++ (wS ad cI (cnt : Int) fv fs fd)) ++ (wS a2 cI c21 gv1 gs1 gd1)) ++ (wT bd cI cG tc1 tr1 ft1 tv1 tu1 fc1 M1)) ++ (wP pd cI cG fa1 fb1 N1)) ++ ([(o, .inl (cJ, 1, .inr (.inl f0)))])) [1, 2, 3, 4, 5, 6, 7, 8, 9, 10, 11, 12, 13, 14, 15, 16, 17, 18, 19, 20, 21, 22, 23, 24, 25, 26, 27, 28, 29, 30, 31, 32, 33, 34, 35, 36, 37, 38, 39, 40, 41, 0] (by decide) rfl ?_
    refine g_catch (hh := [(0, 9, 12, 13)]) [] ⟨0, 9, 12, 13⟩ [] C hT rfl (fun z h => absurd h List.not_mem_nil) (by decide) (by decide) lkIAE (List.mem_of_getElem? (i := 0) rfl) (fun q9 => ?_)
    refine g_astore_n (L' := [(3, .ref q9), (0, .ref h), (1, .int (zI p)), (2, .ref o)]) C dL_gapsTo_12 (by decide) rfl ?_
    refine g_iconst C dL_gapsTo_13 ?_
    exact ret _ _ _ _ _ _ (by decide) (by decide) dL_gapsTo_14 (⟨_, _, rfl, Or.inr ⟨rfl, hn, ⟨_, _, _, _, _, _, _, _, _, _, _, _, _, _, rfl⟩⟩⟩)
  rintro v9 w9 ⟨z9, rfl, hz, c21, gv1, gs1, gd1, tc1, tr1, ft1, tv1, tu1, fc1, M1, fa1, fb1, N1, rfl⟩
  refine g_ws (w' := ((((([(o, .inl (cJ, 1, .inr (.inl f0)))]) ++ (wV h (ad 0) (a2 0) (bd 0) (pd 0) rm lt tk ov)) ++ (wS ad cI (cnt : Int) fv fs fd)) ++ (wS a2 cI c21 gv1 gs1 gd1)) ++ (wT bd cI cG tc1 tr1 ft1 tv1 tu1 fc1 M1)) ++ (wP pd cI cG fa1 fb1 N1)) (st' := [.int (zI z9), .int (zI 0), .ref o]) rfl rfl ?_
  refine g_perm (w' := (((((wV h (ad 0) (a2 0) (bd 0) (pd 0) rm lt tk ov) ++ (wS ad cI (cnt : Int) fv fs fd)) ++ (wS a2 cI c21 gv1 gs1 gd1)) ++ (wT bd cI cG tc1 tr1 ft1 tv1 tu1 fc1 M1)) ++ (wP pd cI cG fa1 fb1 N1)) ++ ([(o, .inl (cJ, 1, .inr (.inl f0)))])) [1, 2, 3, 4, 5, 6, 7, 8, 9, 10, 11, 12, 13, 14, 15, 16, 17, 18, 19, 20, 21, 22, 23, 24, 25, 26, 27, 28, 29, 30, 31, 32, 33, 34, 35, 36, 37, 38, 39, 40, 41, 0] (by decide) rfl ?_
  refine g_i2l C dL_gapsTo_7 ?_
  refine g_last (w' := (((((wV h (ad 0) (a2 0) (bd 0) (pd 0) rm lt tk ov) ++ (wS ad cI (cnt : Int) fv fs fd)) ++ (wS a2 cI c21 gv1 gs1 gd1)) ++ (wT bd cI cG tc1 tr1 ft1 tv1 tu1 fc1 M1)) ++ (wP pd cI cG fa1 fb1 N1)) ++ ([(o, .inl (cJ, 1, .inr (.inl (vp_updL f0 0 ((zI z9).toInt64)))))])) C 41 rfl (by decide) (by omega) (by omega) rfl dL_gapsTo_8 ?_
  refine g_goto 15 C dL_gapsTo_9 (by decide) ?_
  refine g_iconst C dL_gapsTo_15 ?_
  exact ret _ _ _ _ _ _ (by decide) (by decide) dL_gapsTo_16 (⟨((((wV h (ad 0) (a2 0) (bd 0) (pd 0) rm lt tk ov) ++ (wS ad cI (cnt : Int) fv fs fd)) ++ (wS a2 cI c21 gv1 gs1 gd1)) ++ (wT bd cI cG tc1 tr1 ft1 tv1 tu1 fc1 M1)) ++ (wP pd cI cG fa1 fb1 N1), vp_updL f0 0 (zI z9).toInt64, rfl, Or.inl ⟨rfl, ⟨hz.1, congrArg (fun z : Int => (zI z).toInt64) hz.2⟩, ⟨_, _, _, _, _, _, _, _, _, _, _, _, _, _, rfl⟩⟩⟩)
abbrev rmL_lettersOf : Room := { frames := 9, cells := 1, slots := 6, locals := 184 }
set_option maxHeartbeats 4000000 in
set_option maxRecDepth 100000 in
theorem met_L_lettersOf (l : Launch) (hl9 : l.stackTraces = false) (D : va_G) (cI cG cJ : ClassId) (h : Nat) (ad a2 bd pd : Nat → Nat) (cnt : Nat) (fv fs fd : Nat → Int) (rm lt tk ov : Int) (hI : XI cnt fv fs rm) (c2 : Int) (gv gs gd : Nat → Int) (tc tr : Int) (ft tv tu fc : Nat → Int) (M : Nat → Nat → Int) (fa fb : Nat → Int) (N : Nat → Nat → Int) (o : Nat) (f0 : Nat → Int64) (p : Int) (hp : zr p)  : gMH l yL_lettersOf cL_lettersOf 4 (some .int) [(0, 9, 12, 13)] rmL_lettersOf D cI cG cJ [.ref h, .int (zI p), .ref o] ((((((wV h (ad 0) (a2 0) (bd 0) (pd 0) rm lt tk ov) ++ (wS ad cI (cnt : Int) fv fs fd)) ++ (wS a2 cI c2 gv gs gd)) ++ (wT bd cI cG tc tr ft tv tu fc M)) ++ (wP pd cI cG fa fb N)) ++ ([(o, .inl (cJ, 1, .inr (.inl f0)))])) (gI (fun z w9 => ∃ (w1 : va_W) (f1 : Nat → Int64), LQ w9 o cJ f1 w1 ∧ ((z = 0 ∧ ((1 ≤ p ∧ p ≤ 300) ∧ f1 0 = (zI (((ltr cnt fv rm p.toNat 50 fs : Nat) : Int))).toInt64) ∧ XW h ad a2 bd pd cI cG cnt fv fs fd rm lt tk ov w1) ∨ (z = 1 ∧ ¬ (1 ≤ p ∧ p ≤ 300) ∧ XW h ad a2 bd pd cI cG cnt fv fs fd rm lt tk ov w1)))) := by
  refine gMH_I (by decide) rfl (Nat.le_of_ble_eq_true rfl) (fun E C hT ret => ?_)
  refine g_aload_n C dL_lettersOf_0 2 rfl ?_
  refine g_iconst C dL_lettersOf_1 ?_
  refine g_aload_n C dL_lettersOf_2 0 rfl ?_
  refine g_iload_n C dL_lettersOf_3 1 rfl ?_
  refine g_callVX (wr := [(o, .inl (cJ, 1, .inr (.inl f0)))]) (st := [.int (zI 0), .ref o]) [0, 1, 2, 3, 4, 5, 6, 7, 8, 9, 10, 11, 12, 13, 14, 15, 16, 17, 18, 19, 20, 21, 22, 23, 24, 25, 26, 27, 28, 29, 30, 31, 32, 33, 34, 35, 36, 37, 38, 39, 40] [41] C cL_66 (met_X3_lettersOf l hl9 D cI cG cJ h ad a2 bd pd cnt fv fs fd rm lt tk ov hI c2 gv gs gd tc tr ft tv tu fc M fa fb N p hp) ⟨rfl, rfl, by decide, by decide, by decide⟩ (q0 := 0) rfl rfl (by decide) (by decide) rfl rfl (Nat.le_of_ble_eq_true rfl) dL_lettersOf_4 (fun nm9 w9 h9 => ?_) ?_
  · skip
    obtain ⟨rfl, hn, c21, gv1, gs1, gd1, tc1, tr1, ft1, tv1, tu1, fc1, M1, fa1, fb1, N1, rfl⟩ := h9
    refine gx_perm (w' := (((((wV h (ad 0) (a2 0) (bd 0) (pd 0) rm lt tk ov) ++ (wS ad cI (cnt : Int) fv fs fd)) ++ (wS a2 cI c21 gv1 gs1 gd1)) ++ (wT bd cI cG tc1 tr1 ft1 tv1 tu1 fc1 M1)) ++ (wP pd cI cG fa1 fb1 N1)) ++ ([(o, .inl (cJ, 1, .inr (.inl f0)))])) [1, 2, 3, 4, 5, 6, 7, 8, 9, 10, 11, 12, 13, 14, 15, 16, 17, 18, 19, 20, 21, 22, 23, 24, 25, 26, 27, 28, 29, 30, 31, 32, 33, 34, 35, 36, 37, 38, 39, 40, 41, 0] (by decide) rfl ?_
    refine g_catch (hh := [(0, 9, 12, 13)]) [] ⟨0, 9, 12, 13⟩ [] C hT rfl (fun z h => absurd h List.not_mem_nil) (by decide) (by decide) lkIAE (List.mem_of_getElem? (i := 0) rfl) (fun q9 => ?_)
    refine g_astore_n (L' := [(3, .ref q9), (0, .ref h), (1, .int (zI p)), (2, .ref o)]) C dL_lettersOf_12 (by decide) rfl ?_
    refine g_iconst C dL_lettersOf_13 ?_
    exact ret _ _ _ _ _ _ (by decide) (by decide) dL_lettersOf_14 (⟨_, _, rfl, Or.inr ⟨rfl, hn, ⟨_, _, _, _, _, _, _, _, _, _, _, _, _, _, rfl⟩⟩⟩)
  rintro v9 w9 ⟨z9, rfl, hz, c21, gv1, gs1, gd1, tc1, tr1, ft1, tv1, tu1, fc1, M1, fa1, fb1, N1, rfl⟩
  refine g_ws (w' := ((((([(o, .inl (cJ, 1, .inr (.inl f0)))]) ++ (wV h (ad 0) (a2 0) (bd 0) (pd 0) rm lt tk ov)) ++ (wS ad cI (cnt : Int) fv fs fd)) ++ (wS a2 cI c21 gv1 gs1 gd1)) ++ (wT bd cI cG tc1 tr1 ft1 tv1 tu1 fc1 M1)) ++ (wP pd cI cG fa1 fb1 N1)) (st' := [.int (zI z9), .int (zI 0), .ref o]) rfl rfl ?_
  refine g_perm (w' := (((((wV h (ad 0) (a2 0) (bd 0) (pd 0) rm lt tk ov) ++ (wS ad cI (cnt : Int) fv fs fd)) ++ (wS a2 cI c21 gv1 gs1 gd1)) ++ (wT bd cI cG tc1 tr1 ft1 tv1 tu1 fc1 M1)) ++ (wP pd cI cG fa1 fb1 N1)) ++ ([(o, .inl (cJ, 1, .inr (.inl f0)))])) [1, 2, 3, 4, 5, 6, 7, 8, 9, 10, 11, 12, 13, 14, 15, 16, 17, 18, 19, 20, 21, 22, 23, 24, 25, 26, 27, 28, 29, 30, 31, 32, 33, 34, 35, 36, 37, 38, 39, 40, 41, 0] (by decide) rfl ?_
  refine g_i2l C dL_lettersOf_7 ?_
  refine g_last (w' := (((((wV h (ad 0) (a2 0) (bd 0) (pd 0) rm lt tk ov) ++ (wS ad cI (cnt : Int) fv fs fd)) ++ (wS a2 cI c21 gv1 gs1 gd1)) ++ (wT bd cI cG tc1 tr1 ft1 tv1 tu1 fc1 M1)) ++ (wP pd cI cG fa1 fb1 N1)) ++ ([(o, .inl (cJ, 1, .inr (.inl (vp_updL f0 0 ((zI z9).toInt64)))))])) C 41 rfl (by decide) (by omega) (by omega) rfl dL_lettersOf_8 ?_
  refine g_goto 15 C dL_lettersOf_9 (by decide) ?_
  refine g_iconst C dL_lettersOf_15 ?_
  exact ret _ _ _ _ _ _ (by decide) (by decide) dL_lettersOf_16 (⟨((((wV h (ad 0) (a2 0) (bd 0) (pd 0) rm lt tk ov) ++ (wS ad cI (cnt : Int) fv fs fd)) ++ (wS a2 cI c21 gv1 gs1 gd1)) ++ (wT bd cI cG tc1 tr1 ft1 tv1 tu1 fc1 M1)) ++ (wP pd cI cG fa1 fb1 N1), vp_updL f0 0 (zI z9).toInt64, rfl, Or.inl ⟨rfl, ⟨hz.1, congrArg (fun z : Int => (zI z).toInt64) hz.2⟩, ⟨_, _, _, _, _, _, _, _, _, _, _, _, _, _, rfl⟩⟩⟩)
abbrev rmL_reachWithRoom : Room := { frames := 9, cells := 1, slots := 6, locals := 181 }
set_option maxHeartbeats 4000000 in
set_option maxRecDepth 100000 in
theorem met_L_reachWithRoom (l : Launch) (hl9 : l.stackTraces = false) (D : va_G) (cI cG cJ : ClassId) (h : Nat) (ad a2 bd pd : Nat → Nat) (cnt : Nat) (fv fs fd : Nat → Int) (rm lt tk ov : Int) (hI : XI cnt fv fs rm) (c2 : Int) (gv gs gd : Nat → Int) (tc tr : Int) (ft tv tu fc : Nat → Int) (M : Nat → Nat → Int) (fa fb : Nat → Int) (N : Nat → Nat → Int) (o : Nat) (f0 : Nat → Int64) (p : Int) (hp : zr p)  : gMH l yL_reachWithRoom cL_reachWithRoom 4 (some .int) [(0, 9, 12, 13)] rmL_reachWithRoom D cI cG cJ [.ref h, .int (zI p), .ref o] ((((((wV h (ad 0) (a2 0) (bd 0) (pd 0) rm lt tk ov) ++ (wS ad cI (cnt : Int) fv fs fd)) ++ (wS a2 cI c2 gv gs gd)) ++ (wT bd cI cG tc tr ft tv tu fc M)) ++ (wP pd cI cG fa fb N)) ++ ([(o, .inl (cJ, 1, .inr (.inl f0)))])) (gI (fun z w9 => ∃ (w1 : va_W) (f1 : Nat → Int64), LQ w9 o cJ f1 w1 ∧ ((z = 0 ∧ ((1 ≤ p ∧ p ≤ 12) ∧ f1 0 = (zI ((RP fv cnt 0 p : Int))).toInt64) ∧ XW h ad a2 bd pd cI cG cnt fv fs fd rm lt tk ov w1) ∨ (z = 1 ∧ ¬ (1 ≤ p ∧ p ≤ 12) ∧ XW h ad a2 bd pd cI cG cnt fv fs fd rm lt tk ov w1)))) := by
  refine gMH_I (by decide) rfl (Nat.le_of_ble_eq_true rfl) (fun E C hT ret => ?_)
  refine g_aload_n C dL_reachWithRoom_0 2 rfl ?_
  refine g_iconst C dL_reachWithRoom_1 ?_
  refine g_aload_n C dL_reachWithRoom_2 0 rfl ?_
  refine g_iload_n C dL_reachWithRoom_3 1 rfl ?_
  refine g_callVX (wr := [(o, .inl (cJ, 1, .inr (.inl f0)))]) (st := [.int (zI 0), .ref o]) [0, 1, 2, 3, 4, 5, 6, 7, 8, 9, 10, 11, 12, 13, 14, 15, 16, 17, 18, 19, 20, 21, 22, 23, 24, 25, 26, 27, 28, 29, 30, 31, 32, 33, 34, 35, 36, 37, 38, 39, 40] [41] C cL_69 (met_X3_reachWithRoom l hl9 D cI cG cJ h ad a2 bd pd cnt fv fs fd rm lt tk ov hI c2 gv gs gd tc tr ft tv tu fc M fa fb N p hp) ⟨rfl, rfl, by decide, by decide, by decide⟩ (q0 := 0) rfl rfl (by decide) (by decide) rfl rfl (Nat.le_of_ble_eq_true rfl) dL_reachWithRoom_4 (fun nm9 w9 h9 => ?_) ?_
  · skip
    obtain ⟨rfl, hn, c21, gv1, gs1, gd1, tc1, tr1, ft1, tv1, tu1, fc1, M1, fa1, fb1, N1, rfl⟩ := h9
    refine gx_perm (w' := (((((wV h (ad 0) (a2 0) (bd 0) (pd 0) rm lt tk ov) ++ (wS ad cI (cnt : Int) fv fs fd)) ++ (wS a2 cI c21 gv1 gs1 gd1)) ++ (wT bd cI cG tc1 tr1 ft1 tv1 tu1 fc1 M1)) ++ (wP pd cI cG fa1 fb1 N1)) ++ ([(o, .inl (cJ, 1, .inr (.inl f0)))])) [1, 2, 3, 4, 5, 6, 7, 8, 9, 10, 11, 12, 13, 14, 15, 16, 17, 18, 19, 20, 21, 22, 23, 24, 25, 26, 27, 28, 29, 30, 31, 32, 33, 34, 35, 36, 37, 38, 39, 40, 41, 0] (by decide) rfl ?_
    refine g_catch (hh := [(0, 9, 12, 13)]) [] ⟨0, 9, 12, 13⟩ [] C hT rfl (fun z h => absurd h List.not_mem_nil) (by decide) (by decide) lkIAE (List.mem_of_getElem? (i := 0) rfl) (fun q9 => ?_)
    refine g_astore_n (L' := [(3, .ref q9), (0, .ref h), (1, .int (zI p)), (2, .ref o)]) C dL_reachWithRoom_12 (by decide) rfl ?_
    refine g_iconst C dL_reachWithRoom_13 ?_
    exact ret _ _ _ _ _ _ (by decide) (by decide) dL_reachWithRoom_14 (⟨_, _, rfl, Or.inr ⟨rfl, hn, ⟨_, _, _, _, _, _, _, _, _, _, _, _, _, _, rfl⟩⟩⟩)
  rintro v9 w9 ⟨z9, rfl, hz, c21, gv1, gs1, gd1, tc1, tr1, ft1, tv1, tu1, fc1, M1, fa1, fb1, N1, rfl⟩
  refine g_ws (w' := ((((([(o, .inl (cJ, 1, .inr (.inl f0)))]) ++ (wV h (ad 0) (a2 0) (bd 0) (pd 0) rm lt tk ov)) ++ (wS ad cI (cnt : Int) fv fs fd)) ++ (wS a2 cI c21 gv1 gs1 gd1)) ++ (wT bd cI cG tc1 tr1 ft1 tv1 tu1 fc1 M1)) ++ (wP pd cI cG fa1 fb1 N1)) (st' := [.int (zI z9), .int (zI 0), .ref o]) rfl rfl ?_
  refine g_perm (w' := (((((wV h (ad 0) (a2 0) (bd 0) (pd 0) rm lt tk ov) ++ (wS ad cI (cnt : Int) fv fs fd)) ++ (wS a2 cI c21 gv1 gs1 gd1)) ++ (wT bd cI cG tc1 tr1 ft1 tv1 tu1 fc1 M1)) ++ (wP pd cI cG fa1 fb1 N1)) ++ ([(o, .inl (cJ, 1, .inr (.inl f0)))])) [1, 2, 3, 4, 5, 6, 7, 8, 9, 10, 11, 12, 13, 14, 15, 16, 17, 18, 19, 20, 21, 22, 23, 24, 25, 26, 27, 28, 29, 30, 31, 32, 33, 34, 35, 36, 37, 38, 39, 40, 41, 0] (by decide) rfl ?_
  refine g_i2l C dL_reachWithRoom_7 ?_
  refine g_last (w' := (((((wV h (ad 0) (a2 0) (bd 0) (pd 0) rm lt tk ov) ++ (wS ad cI (cnt : Int) fv fs fd)) ++ (wS a2 cI c21 gv1 gs1 gd1)) ++ (wT bd cI cG tc1 tr1 ft1 tv1 tu1 fc1 M1)) ++ (wP pd cI cG fa1 fb1 N1)) ++ ([(o, .inl (cJ, 1, .inr (.inl (vp_updL f0 0 ((zI z9).toInt64)))))])) C 41 rfl (by decide) (by omega) (by omega) rfl dL_reachWithRoom_8 ?_
  refine g_goto 15 C dL_reachWithRoom_9 (by decide) ?_
  refine g_iconst C dL_reachWithRoom_15 ?_
  exact ret _ _ _ _ _ _ (by decide) (by decide) dL_reachWithRoom_16 (⟨((((wV h (ad 0) (a2 0) (bd 0) (pd 0) rm lt tk ov) ++ (wS ad cI (cnt : Int) fv fs fd)) ++ (wS a2 cI c21 gv1 gs1 gd1)) ++ (wT bd cI cG tc1 tr1 ft1 tv1 tu1 fc1 M1)) ++ (wP pd cI cG fa1 fb1 N1), vp_updL f0 0 (zI z9).toInt64, rfl, Or.inl ⟨rfl, ⟨hz.1, congrArg (fun z : Int => (zI z).toInt64) hz.2⟩, ⟨_, _, _, _, _, _, _, _, _, _, _, _, _, _, rfl⟩⟩⟩)
