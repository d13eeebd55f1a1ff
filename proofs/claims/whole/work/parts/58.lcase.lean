/-! the law's cases -/
set_option maxHeartbeats 4000000 in
/-- canPay's compare -/
theorem l_tailB {E : gEnv} {l : Launch} {D : va_G} {cI cG cJ : ClassId} {h o b k n : Nat} {ad a2 bd pd am : Nat → Nat} {i : Int} {cnt : Nat} {fv fs fd : Nat → Int} {rm lt tk ov : Int} {w1 w2 : va_W} {f1 : Nat → Int64} {z z2 : Int} (C : gC E l room_1 D 9 RL cL_law cI cG cJ) (hz : z = 0 ∨ z = 1 ∨ z = 2) (h01 : z2 = 0 ∨ z2 = 1) (hv : z = 0 → f1 0 = (zI z2).toInt64) (hk : k ≤ 601024) (hn : n ≤ 7293034) (hI : XI cnt fv fs rm) (hX : XW h ad a2 bd pd cI cG cnt fv fs fd rm lt tk ov w1) (hM : MW am cI cG z cnt rm lt tk ov fv fs fd w2) (K : LK E cI cG cJ h ad a2 bd pd am o b i k n 1425) : gW E k n ((w1 ++ oJ o cJ f1) ++ w2) 751 ((6, .int (zI z2)) :: (5, .int (zI z)) :: lL h (am 0) o b i) [] := by
  refine l_thrown C dL_law_751 dL_law_752 dL_law_755 dL_law_757 hI.1 hk hn hM (fun w3 hM => ?_)
  have hend : gW E k n ((w1 ++ oJ o cJ f1) ++ w3) 786 ((6, .int (zI z2)) :: (5, .int (zI z)) :: lL h (am 0) o b i) [] := by
    refine g_goto 1425 C dL_law_786 (by decide) ?_
    refine g_loc (L' := lL h (am 0) o b i) [2, 3, 4, 5, 6] rfl ?_
    exact K _ _ _ _ _ _ _ _ _ _ _ _ hI hX hM
  refine g_iload C dL_law_762 1 rfl ?_
  refine g_if_ne 786 C dL_law_764 (by decide) (by rcases hz with rfl | rfl | rfl <;> exact ⟨by decide, by decide⟩) (fun _ => hend) (fun hz0 => ?_)
  refine g_aload_n C dL_law_767 5 rfl ?_
  refine g_iconst C dL_law_768 ?_
  refine g_lald C w1.length at_m (by decide) (by decide) (by decide) dL_law_769 ?_
  refine g_iload C dL_law_770 0 rfl ?_
  rw [show f1 ((0 : Int).toNat) = (zI z2).toInt64 from hv hz0]
  rcases h01 with rfl | rfl
  · refine g_if_eqS 779 C dL_law_772 (by decide) ?_
    refine g_lconst (v := (zI 0).toInt64) C dL_law_779 rfl ?_
    refine g_lcmpS C dL_law_780 ?_
    exact g_if_eqS 786 C dL_law_781 (by decide) hend
  · refine g_if_eq 779 C dL_law_772 (by decide) ⟨by decide, by decide⟩ (fun h9 => absurd h9 (by decide)) (fun _ => ?_)
    refine g_lconst (v := (zI 1).toInt64) C dL_law_775 rfl ?_
    refine g_goto 780 C dL_law_776 (by decide) ?_
    refine g_lcmpS C dL_law_780 ?_
    exact g_if_eqS 786 C dL_law_781 (by decide) hend
set_option maxHeartbeats 4000000 in
set_option maxRecDepth 100000 in
theorem lc_addStamp (l : Launch) (hl9 : l.stackTraces = false) {E : gEnv} {D : va_G} {cI cG cJ : ClassId} {h o b N k n : Nat} {ad a2 bd pd am : Nat → Nat} {xs : Nat → Int32} {i : Int} (C : gC E l room_1 D 9 RL cL_law cI cG cJ) (hS : gScr E b N xs) (hN : N ≤ 2000) (hi : 0 ≤ i) (hi2 : i + 2 < N) (hk : k + 4 ≤ 601024) (hn : n + 40 ≤ 7293034) (K : LK E cI cG cJ h ad a2 bd pd am o b i (k + 4) (n + 40) 1425) : LK E cI cG cJ h ad a2 bd pd am o b i k n 176 := by
  intro cnt fv fs fd rm lt tk ov w1 w2 th f1 hI hX hM
  obtain ⟨c2, gv, gs, gd, tc, tr, ft, tv, tu, fc, M, fa, fb, N', rfl⟩ := hX
  obtain ⟨fo, F, fg, fp, Y, rfl⟩ := hM
  refine l_call2 176 76 81 C hS hN hi hi2 ⟨dL_law_176, dL_law_177, dL_law_178, dL_law_180, dL_law_181, dL_law_182, dL_law_183, dL_law_184, dL_law_186, dL_law_187, dL_law_188, dL_law_189, dL_law_190, dL_law_193, dL_law_195, dL_law_196, dL_law_197, dL_law_199, dL_law_200, dL_law_201, dL_law_202, dL_law_203, dL_law_205, dL_law_206, dL_law_207, dL_law_208, dL_law_211⟩ hL_76 cL_81 (met_L_addStamp l hl9 D cI cG cJ h ad a2 bd pd cnt fv fs fd rm lt tk ov hI c2 gv gs gd tc tr ft tv tu fc M fa fb N' o f1 _ _ (zr_of _) (zr_of _)) (met_X4_addStamp l D cI cG cJ am th cnt hI.1 rm lt tk ov fv fs fd fo F fg fp Y hI _ _ (zr_of _) (zr_of _)) rfl (by decide) (by decide) (by decide) hk hn (fun z w9 z2 w3 hz hz2 => ?_)
  obtain ⟨w1, f1, e1, hz⟩ := hz
  have e1 : w9 = w1 ++ oJ o cJ f1 := e1
  subst e1
  rcases hz with ⟨rfl, ⟨z1, hv, ⟨ha1, ha, ha2, rfl⟩⟩, hX1⟩ | ⟨rfl, ha, hX1⟩ | ⟨rfl, ⟨ha, ha2⟩, hX1⟩
  · rcases hz2 with ⟨hb1, hb, hb2, rfl, hM1⟩ | ⟨hb, rfl, hM1⟩ | ⟨hb, hb2, rfl, hM1⟩
    · exact l_tail 213 (1184) C ⟨dL_law_213, dL_law_214, dL_law_217, dL_law_219, dL_law_224, dL_law_226, dL_law_229, dL_law_230, dL_law_231, dL_law_232, dL_law_234, dL_law_235, dL_law_236, dL_law_241, by decide⟩ (Or.inl rfl) (fun _ => hv) hk hn (xi_add hI ha ha1 ha2) hX1 hM1 K
    · exact absurd ha1 hb
    · rcases hb2 with h8 | h8; omega; rw [ha2] at h8; cases h8
  · rcases hz2 with ⟨hb1, hb, hb2, rfl, hM1⟩ | ⟨hb, rfl, hM1⟩ | ⟨hb, hb2, rfl, hM1⟩
    · exact absurd hb1 ha
    · exact l_tail 213 (1184) C ⟨dL_law_213, dL_law_214, dL_law_217, dL_law_219, dL_law_224, dL_law_226, dL_law_229, dL_law_230, dL_law_231, dL_law_232, dL_law_234, dL_law_235, dL_law_236, dL_law_241, by decide⟩ (Or.inr (Or.inl rfl)) (fun h9 => absurd h9 (by decide)) hk hn (hI) hX1 hM1 K
    · exact absurd hb ha
  · rcases hz2 with ⟨hb1, hb, hb2, rfl, hM1⟩ | ⟨hb, rfl, hM1⟩ | ⟨hb, hb2, rfl, hM1⟩
    · rcases ha2 with h8 | h8; omega; rw [hb2] at h8; cases h8
    · exact absurd ha hb
    · exact l_tail 213 (1184) C ⟨dL_law_213, dL_law_214, dL_law_217, dL_law_219, dL_law_224, dL_law_226, dL_law_229, dL_law_230, dL_law_231, dL_law_232, dL_law_234, dL_law_235, dL_law_236, dL_law_241, by decide⟩ (Or.inr (Or.inr rfl)) (fun h9 => absurd h9 (by decide)) hk hn (hI) hX1 hM1 K
set_option maxHeartbeats 4000000 in
set_option maxRecDepth 100000 in
theorem lc_withdraw (l : Launch) (hl9 : l.stackTraces = false) {E : gEnv} {D : va_G} {cI cG cJ : ClassId} {h o b N k n : Nat} {ad a2 bd pd am : Nat → Nat} {xs : Nat → Int32} {i : Int} (C : gC E l room_1 D 9 RL cL_law cI cG cJ) (hS : gScr E b N xs) (hN : N ≤ 2000) (hi : 0 ≤ i) (hi2 : i + 2 < N) (hk : k + 4 ≤ 601024) (hn : n + 40 ≤ 7293034) (K : LK E cI cG cJ h ad a2 bd pd am o b i (k + 4) (n + 40) 1425) : LK E cI cG cJ h ad a2 bd pd am o b i k n 244 := by
  intro cnt fv fs fd rm lt tk ov w1 w2 th f1 hI hX hM
  obtain ⟨c2, gv, gs, gd, tc, tr, ft, tv, tu, fc, M, fa, fb, N', rfl⟩ := hX
  obtain ⟨fo, F, fg, fp, Y, rfl⟩ := hM
  refine l_call1 244 86 89 C hS hN hi hi2 ⟨dL_law_244, dL_law_245, dL_law_246, dL_law_248, dL_law_249, dL_law_250, dL_law_251, dL_law_252, dL_law_255, dL_law_257, dL_law_258, dL_law_259, dL_law_261, dL_law_262, dL_law_263, dL_law_264, dL_law_267⟩ hL_86 cL_89 (met_L_withdraw l hl9 D cI cG cJ h ad a2 bd pd cnt fv fs fd rm lt tk ov hI c2 gv gs gd tc tr ft tv tu fc M fa fb N' o f1 _ (zr_of _)) (met_X4_withdraw l D cI cG cJ am th cnt hI.1 rm lt tk ov fv fs fd fo F fg fp Y hI _ (zr_of _)) rfl (by decide) (by decide) (by decide) hk hn (fun z w9 z2 w3 hz hz2 => ?_)
  obtain ⟨w1, f1, e1, hz⟩ := hz
  have e1 : w9 = w1 ++ oJ o cJ f1 := e1
  subst e1
  rcases hz with ⟨rfl, ⟨ha, hv⟩, hX1⟩ | ⟨rfl, ha, hX1⟩
  · rcases hz2 with ⟨hb, rfl, hM1⟩ | ⟨hb, rfl, hM1⟩
    · exact l_tail 269 (1128) C ⟨dL_law_269, dL_law_270, dL_law_273, dL_law_275, dL_law_280, dL_law_282, dL_law_285, dL_law_286, dL_law_287, dL_law_288, dL_law_290, dL_law_291, dL_law_292, dL_law_297, by decide⟩ (Or.inl rfl) (fun _ => hv) hk hn (xi_wd hI (by omega)) hX1 hM1 K
    · exact absurd ha hb
  · rcases hz2 with ⟨hb, rfl, hM1⟩ | ⟨hb, rfl, hM1⟩
    · exact absurd hb ha
    · exact l_tail 269 (1128) C ⟨dL_law_269, dL_law_270, dL_law_273, dL_law_275, dL_law_280, dL_law_282, dL_law_285, dL_law_286, dL_law_287, dL_law_288, dL_law_290, dL_law_291, dL_law_292, dL_law_297, by decide⟩ (Or.inr (Or.inl rfl)) (fun h9 => absurd h9 (by decide)) hk hn (hI) hX1 hM1 K
set_option maxHeartbeats 4000000 in
set_option maxRecDepth 100000 in
theorem lc_print (l : Launch) (hl9 : l.stackTraces = false) {E : gEnv} {D : va_G} {cI cG cJ : ClassId} {h o b N k n : Nat} {ad a2 bd pd am : Nat → Nat} {xs : Nat → Int32} {i : Int} (C : gC E l room_1 D 9 RL cL_law cI cG cJ) (hS : gScr E b N xs) (hN : N ≤ 2000) (hi : 0 ≤ i) (hi2 : i + 2 < N) (hk : k + 4 ≤ 601024) (hn : n + 40 ≤ 7293034) (K : LK E cI cG cJ h ad a2 bd pd am o b i (k + 4) (n + 40) 1425) : LK E cI cG cJ h ad a2 bd pd am o b i k n 300 := by
  intro cnt fv fs fd rm lt tk ov w1 w2 th f1 hI hX hM
  obtain ⟨c2, gv, gs, gd, tc, tr, ft, tv, tu, fc, M, fa, fb, N', rfl⟩ := hX
  obtain ⟨fo, F, fg, fp, Y, rfl⟩ := hM
  refine l_call2 300 90 92 C hS hN hi hi2 ⟨dL_law_300, dL_law_301, dL_law_302, dL_law_304, dL_law_305, dL_law_306, dL_law_307, dL_law_308, dL_law_310, dL_law_311, dL_law_312, dL_law_313, dL_law_314, dL_law_317, dL_law_319, dL_law_320, dL_law_321, dL_law_323, dL_law_324, dL_law_325, dL_law_326, dL_law_327, dL_law_329, dL_law_330, dL_law_331, dL_law_332, dL_law_335⟩ hL_90 cL_92 (met_L_print l hl9 D cI cG cJ h ad a2 bd pd cnt fv fs fd rm lt tk ov hI c2 gv gs gd tc tr ft tv tu fc M fa fb N' o f1 _ _ (zr_of _) (zr_of _)) (met_X4_print l D cI cG cJ am th cnt hI.1 rm lt tk ov fv fs fd fo F fg fp Y hI _ _ (zr_of _) (zr_of _)) rfl (by decide) (by decide) (by decide) hk hn (fun z w9 z2 w3 hz hz2 => ?_)
  obtain ⟨w1, f1, e1, hz⟩ := hz
  have e1 : w9 = w1 ++ oJ o cJ f1 := e1
  subst e1
  rcases hz with ⟨rfl, ⟨z1, hv, ⟨ha0, ha1, rfl⟩⟩, hX1⟩ | ⟨rfl, ha, hX1⟩ | ⟨rfl, ⟨ha, ha2⟩, hX1⟩
  · rcases hz2 with ⟨hb0, hb1, rfl, hM1⟩ | ⟨hb, rfl, hM1⟩ | ⟨hb, hb2, rfl, hM1⟩
    · exact l_tail 337 (1060) C ⟨dL_law_337, dL_law_338, dL_law_341, dL_law_343, dL_law_348, dL_law_350, dL_law_353, dL_law_354, dL_law_355, dL_law_356, dL_law_358, dL_law_359, dL_law_360, dL_law_365, by decide⟩ (Or.inl rfl) (fun _ => hv) hk hn (xi_print hI (by omega) ha1) hX1 hM1 K
    · exact absurd ha0 hb
    · exact absurd ha1 hb2
  · rcases hz2 with ⟨hb0, hb1, rfl, hM1⟩ | ⟨hb, rfl, hM1⟩ | ⟨hb, hb2, rfl, hM1⟩
    · exact absurd hb0 ha
    · exact l_tail 337 (1060) C ⟨dL_law_337, dL_law_338, dL_law_341, dL_law_343, dL_law_348, dL_law_350, dL_law_353, dL_law_354, dL_law_355, dL_law_356, dL_law_358, dL_law_359, dL_law_360, dL_law_365, by decide⟩ (Or.inr (Or.inl rfl)) (fun h9 => absurd h9 (by decide)) hk hn (hI) hX1 hM1 K
    · exact absurd hb ha
  · rcases hz2 with ⟨hb0, hb1, rfl, hM1⟩ | ⟨hb, rfl, hM1⟩ | ⟨hb, hb2, rfl, hM1⟩
    · exact absurd hb1 ha2
    · exact absurd ha hb
    · exact l_tail 337 (1060) C ⟨dL_law_337, dL_law_338, dL_law_341, dL_law_343, dL_law_348, dL_law_350, dL_law_353, dL_law_354, dL_law_355, dL_law_356, dL_law_358, dL_law_359, dL_law_360, dL_law_365, by decide⟩ (Or.inr (Or.inr rfl)) (fun h9 => absurd h9 (by decide)) hk hn (hI) hX1 hM1 K
set_option maxHeartbeats 4000000 in
set_option maxRecDepth 100000 in
theorem lc_setRoom (l : Launch) (hl9 : l.stackTraces = false) {E : gEnv} {D : va_G} {cI cG cJ : ClassId} {h o b N k n : Nat} {ad a2 bd pd am : Nat → Nat} {xs : Nat → Int32} {i : Int} (C : gC E l room_1 D 9 RL cL_law cI cG cJ) (hS : gScr E b N xs) (hN : N ≤ 2000) (hi : 0 ≤ i) (hi2 : i + 2 < N) (hk : k + 4 ≤ 601024) (hn : n + 40 ≤ 7293034) (K : LK E cI cG cJ h ad a2 bd pd am o b i (k + 4) (n + 40) 1425) : LK E cI cG cJ h ad a2 bd pd am o b i k n 368 := by
  intro cnt fv fs fd rm lt tk ov w1 w2 th f1 hI hX hM
  obtain ⟨c2, gv, gs, gd, tc, tr, ft, tv, tu, fc, M, fa, fb, N', rfl⟩ := hX
  obtain ⟨fo, F, fg, fp, Y, rfl⟩ := hM
  refine l_call1 368 93 95 C hS hN hi hi2 ⟨dL_law_368, dL_law_369, dL_law_370, dL_law_372, dL_law_373, dL_law_374, dL_law_375, dL_law_376, dL_law_379, dL_law_381, dL_law_382, dL_law_383, dL_law_385, dL_law_386, dL_law_387, dL_law_388, dL_law_391⟩ hL_93 cL_95 (met_L_setRoom l hl9 D cI cG cJ h ad a2 bd pd cnt fv fs fd rm lt tk ov hI c2 gv gs gd tc tr ft tv tu fc M fa fb N' o f1 _ (zr_of _)) (met_X4_setRoom l D cI cG cJ am th cnt hI.1 rm lt tk ov fv fs fd fo F fg fp Y hI _ (zr_of _)) rfl (by decide) (by decide) (by decide) hk hn (fun z w9 z2 w3 hz hz2 => ?_)
  obtain ⟨w1, f1, e1, hz⟩ := hz
  have e1 : w9 = w1 ++ oJ o cJ f1 := e1
  subst e1
  rcases hz with ⟨rfl, ⟨ha, hv⟩, hX1⟩ | ⟨rfl, ha, hX1⟩
  · rcases hz2 with ⟨hb, rfl, hM1⟩ | ⟨hb, rfl, hM1⟩
    · exact l_tail 393 (1004) C ⟨dL_law_393, dL_law_394, dL_law_397, dL_law_399, dL_law_404, dL_law_406, dL_law_409, dL_law_410, dL_law_411, dL_law_412, dL_law_414, dL_law_415, dL_law_416, dL_law_421, by decide⟩ (Or.inl rfl) (fun _ => hv) hk hn (xi_room hI ha) hX1 hM1 K
    · exact absurd ha hb
  · rcases hz2 with ⟨hb, rfl, hM1⟩ | ⟨hb, rfl, hM1⟩
    · exact absurd hb ha
    · exact l_tail 393 (1004) C ⟨dL_law_393, dL_law_394, dL_law_397, dL_law_399, dL_law_404, dL_law_406, dL_law_409, dL_law_410, dL_law_411, dL_law_412, dL_law_414, dL_law_415, dL_law_416, dL_law_421, by decide⟩ (Or.inr (Or.inl rfl)) (fun h9 => absurd h9 (by decide)) hk hn (hI) hX1 hM1 K
set_option maxHeartbeats 4000000 in
set_option maxRecDepth 100000 in
theorem lc_vend (l : Launch) (hl9 : l.stackTraces = false) {E : gEnv} {D : va_G} {cI cG cJ : ClassId} {h o b N k n : Nat} {ad a2 bd pd am : Nat → Nat} {xs : Nat → Int32} {i : Int} (C : gC E l room_1 D 9 RL cL_law cI cG cJ) (hS : gScr E b N xs) (hN : N ≤ 2000) (hi : 0 ≤ i) (hi2 : i + 2 < N) (hk : k + 4 ≤ 601024) (hn : n + 40 ≤ 7293034) (K : LK E cI cG cJ h ad a2 bd pd am o b i (k + 4) (n + 40) 1425) : LK E cI cG cJ h ad a2 bd pd am o b i k n 424 := by
  intro cnt fv fs fd rm lt tk ov w1 w2 th f1 hI hX hM
  obtain ⟨c2, gv, gs, gd, tc, tr, ft, tv, tu, fc, M, fa, fb, N', rfl⟩ := hX
  obtain ⟨fo, F, fg, fp, Y, rfl⟩ := hM
  refine l_call1 424 96 98 C hS hN hi hi2 ⟨dL_law_424, dL_law_425, dL_law_426, dL_law_428, dL_law_429, dL_law_430, dL_law_431, dL_law_432, dL_law_435, dL_law_437, dL_law_438, dL_law_439, dL_law_441, dL_law_442, dL_law_443, dL_law_444, dL_law_447⟩ hL_96 cL_98 (met_L_vend l hl9 D cI cG cJ h ad a2 bd pd cnt fv fs fd rm lt tk ov hI c2 gv gs gd tc tr ft tv tu fc M fa fb N' o f1 _ (zr_of _)) (met_X4_vend l D cI cG cJ am th cnt hI.1 rm lt tk ov fv fs fd fo F fg fp Y hI _ (zr_of _)) rfl (by decide) (by decide) (by decide) hk hn (fun z w9 z2 w3 hz hz2 => ?_)
  obtain ⟨w1, f1, e1, hz⟩ := hz
  have e1 : w9 = w1 ++ oJ o cJ f1 := e1
  subst e1
  rcases hz with ⟨rfl, ⟨z1, hv, ⟨ha0, ha1, rfl⟩⟩, hX1⟩ | ⟨rfl, ha, hX1⟩ | ⟨rfl, ⟨ha, ha2⟩, hX1⟩
  · rcases hz2 with ⟨hb0, hb1, rfl, hM1⟩ | ⟨hb, rfl, hM1⟩ | ⟨hb, hb2, rfl, hM1⟩
    · exact l_tail 449 (948) C ⟨dL_law_449, dL_law_450, dL_law_453, dL_law_455, dL_law_460, dL_law_462, dL_law_465, dL_law_466, dL_law_467, dL_law_468, dL_law_470, dL_law_471, dL_law_472, dL_law_477, by decide⟩ (Or.inl rfl) (fun _ => hv) hk hn (xi_vend hI) hX1 hM1 K
    · exact absurd ha0 hb
    · exact absurd hb2 ha1
  · rcases hz2 with ⟨hb0, hb1, rfl, hM1⟩ | ⟨hb, rfl, hM1⟩ | ⟨hb, hb2, rfl, hM1⟩
    · exact absurd hb0 ha
    · exact l_tail 449 (948) C ⟨dL_law_449, dL_law_450, dL_law_453, dL_law_455, dL_law_460, dL_law_462, dL_law_465, dL_law_466, dL_law_467, dL_law_468, dL_law_470, dL_law_471, dL_law_472, dL_law_477, by decide⟩ (Or.inr (Or.inl rfl)) (fun h9 => absurd h9 (by decide)) hk hn (hI) hX1 hM1 K
    · exact absurd hb ha
  · rcases hz2 with ⟨hb0, hb1, rfl, hM1⟩ | ⟨hb, rfl, hM1⟩ | ⟨hb, hb2, rfl, hM1⟩
    · exact absurd ha2 hb1
    · exact absurd ha hb
    · exact l_tail 449 (948) C ⟨dL_law_449, dL_law_450, dL_law_453, dL_law_455, dL_law_460, dL_law_462, dL_law_465, dL_law_466, dL_law_467, dL_law_468, dL_law_470, dL_law_471, dL_law_472, dL_law_477, by decide⟩ (Or.inr (Or.inr rfl)) (fun h9 => absurd h9 (by decide)) hk hn (hI) hX1 hM1 K
set_option maxHeartbeats 4000000 in
set_option maxRecDepth 100000 in
theorem lc_stamps (l : Launch) (hl9 : l.stackTraces = false) {E : gEnv} {D : va_G} {cI cG cJ : ClassId} {h o b N k n : Nat} {ad a2 bd pd am : Nat → Nat} {xs : Nat → Int32} {i : Int} (C : gC E l room_1 D 9 RL cL_law cI cG cJ) (hS : gScr E b N xs) (hN : N ≤ 2000) (hi : 0 ≤ i) (hi2 : i + 2 < N) (hk : k + 4 ≤ 601024) (hn : n + 40 ≤ 7293034) (K : LK E cI cG cJ h ad a2 bd pd am o b i (k + 4) (n + 40) 1425) : LK E cI cG cJ h ad a2 bd pd am o b i k n 480 := by
  intro cnt fv fs fd rm lt tk ov w1 w2 th f1 hI hX hM
  obtain ⟨c2, gv, gs, gd, tc, tr, ft, tv, tu, fc, M, fa, fb, N', rfl⟩ := hX
  obtain ⟨fo, F, fg, fp, Y, rfl⟩ := hM
  refine l_call0 480 99 102 C ⟨dL_law_480, dL_law_481, dL_law_484, dL_law_485⟩ cL_99 cL_102 (met_X3_stamps l D cI cG cJ h ad a2 bd pd cnt fv fs fd rm lt tk ov hI c2 gv gs gd tc tr ft tv tu fc M fa fb N') (met_X4_stamps l D cI cG cJ am th cnt hI.1 rm lt tk ov fv fs fd fo F fg fp Y hI) rfl rfl (by decide) (by decide) (by decide) hk hn (fun v w hv => ?_) (fun v w9 v2 w3 hv hv2 => ?_)
  · obtain ⟨z, rfl, -⟩ := hv
    exact Nat.le_of_ble_eq_true rfl
  obtain ⟨z, rfl, rfl, hX1⟩ := hv
  obtain ⟨z2, rfl, rfl, hM1⟩ := hv2
  refine g_icmp_eqS 1425 C dL_law_488 (by decide) ?_
  exact K _ _ _ _ _ _ _ _ _ _ _ _ hI hX1 hM1
set_option maxHeartbeats 4000000 in
set_option maxRecDepth 100000 in
theorem lc_room (l : Launch) (hl9 : l.stackTraces = false) {E : gEnv} {D : va_G} {cI cG cJ : ClassId} {h o b N k n : Nat} {ad a2 bd pd am : Nat → Nat} {xs : Nat → Int32} {i : Int} (C : gC E l room_1 D 9 RL cL_law cI cG cJ) (hS : gScr E b N xs) (hN : N ≤ 2000) (hi : 0 ≤ i) (hi2 : i + 2 < N) (hk : k + 4 ≤ 601024) (hn : n + 40 ≤ 7293034) (K : LK E cI cG cJ h ad a2 bd pd am o b i (k + 4) (n + 40) 1425) : LK E cI cG cJ h ad a2 bd pd am o b i k n 493 := by
  intro cnt fv fs fd rm lt tk ov w1 w2 th f1 hI hX hM
  obtain ⟨c2, gv, gs, gd, tc, tr, ft, tv, tu, fc, M, fa, fb, N', rfl⟩ := hX
  obtain ⟨fo, F, fg, fp, Y, rfl⟩ := hM
  refine l_call0 493 103 106 C ⟨dL_law_493, dL_law_494, dL_law_497, dL_law_498⟩ cL_103 cL_106 (met_X3_room l D cI cG cJ h ad a2 bd pd cnt fv fs fd rm lt tk ov hI c2 gv gs gd tc tr ft tv tu fc M fa fb N') (met_X4_room l D cI cG cJ am th cnt hI.1 rm lt tk ov fv fs fd fo F fg fp Y hI) rfl rfl (by decide) (by decide) (by decide) hk hn (fun v w hv => ?_) (fun v w9 v2 w3 hv hv2 => ?_)
  · obtain ⟨z, rfl, -⟩ := hv
    exact Nat.le_of_ble_eq_true rfl
  obtain ⟨z, rfl, rfl, hX1⟩ := hv
  obtain ⟨z2, rfl, rfl, hM1⟩ := hv2
  refine g_icmp_eqS 1425 C dL_law_501 (by decide) ?_
  exact K _ _ _ _ _ _ _ _ _ _ _ _ hI hX1 hM1
set_option maxHeartbeats 4000000 in
set_option maxRecDepth 100000 in
theorem lc_valueOf (l : Launch) (hl9 : l.stackTraces = false) {E : gEnv} {D : va_G} {cI cG cJ : ClassId} {h o b N k n : Nat} {ad a2 bd pd am : Nat → Nat} {xs : Nat → Int32} {i : Int} (C : gC E l room_1 D 9 RL cL_law cI cG cJ) (hS : gScr E b N xs) (hN : N ≤ 2000) (hi : 0 ≤ i) (hi2 : i + 2 < N) (hk : k + 4 ≤ 601024) (hn : n + 40 ≤ 7293034) (K : LK E cI cG cJ h ad a2 bd pd am o b i (k + 4) (n + 40) 1425) : LK E cI cG cJ h ad a2 bd pd am o b i k n 506 := by
  intro cnt fv fs fd rm lt tk ov w1 w2 th f1 hI hX hM
  obtain ⟨c2, gv, gs, gd, tc, tr, ft, tv, tu, fc, M, fa, fb, N', rfl⟩ := hX
  obtain ⟨fo, F, fg, fp, Y, rfl⟩ := hM
  refine l_call1 506 107 109 C hS hN hi hi2 ⟨dL_law_506, dL_law_507, dL_law_508, dL_law_510, dL_law_511, dL_law_512, dL_law_513, dL_law_514, dL_law_517, dL_law_519, dL_law_520, dL_law_521, dL_law_523, dL_law_524, dL_law_525, dL_law_526, dL_law_529⟩ hL_107 cL_109 (met_L_valueOf l hl9 D cI cG cJ h ad a2 bd pd cnt fv fs fd rm lt tk ov hI c2 gv gs gd tc tr ft tv tu fc M fa fb N' o f1 _ (zr_of _)) (met_X4_valueOf l D cI cG cJ am th cnt hI.1 rm lt tk ov fv fs fd fo F fg fp Y hI _ (zr_of _)) rfl (by decide) (by decide) (by decide) hk hn (fun z w9 z2 w3 hz hz2 => ?_)
  obtain ⟨w1, f1, e1, hz⟩ := hz
  have e1 : w9 = w1 ++ oJ o cJ f1 := e1
  subst e1
  rcases hz with ⟨rfl, ⟨ha, hv⟩, hX1⟩ | ⟨rfl, ha, hX1⟩
  · rcases hz2 with ⟨hb, rfl, hM1⟩ | ⟨hb, rfl, hM1⟩
    · exact l_tail 531 (866) C ⟨dL_law_531, dL_law_532, dL_law_535, dL_law_537, dL_law_542, dL_law_544, dL_law_547, dL_law_548, dL_law_549, dL_law_550, dL_law_552, dL_law_553, dL_law_554, dL_law_559, by decide⟩ (Or.inl rfl) (fun _ => hv) hk hn (hI) hX1 hM1 K
    · exact absurd ha hb
  · rcases hz2 with ⟨hb, rfl, hM1⟩ | ⟨hb, rfl, hM1⟩
    · exact absurd hb ha
    · exact l_tail 531 (866) C ⟨dL_law_531, dL_law_532, dL_law_535, dL_law_537, dL_law_542, dL_law_544, dL_law_547, dL_law_548, dL_law_549, dL_law_550, dL_law_552, dL_law_553, dL_law_554, dL_law_559, by decide⟩ (Or.inr (Or.inl rfl)) (fun h9 => absurd h9 (by decide)) hk hn (hI) hX1 hM1 K
set_option maxHeartbeats 4000000 in
set_option maxRecDepth 100000 in
theorem lc_stockOf (l : Launch) (hl9 : l.stackTraces = false) {E : gEnv} {D : va_G} {cI cG cJ : ClassId} {h o b N k n : Nat} {ad a2 bd pd am : Nat → Nat} {xs : Nat → Int32} {i : Int} (C : gC E l room_1 D 9 RL cL_law cI cG cJ) (hS : gScr E b N xs) (hN : N ≤ 2000) (hi : 0 ≤ i) (hi2 : i + 2 < N) (hk : k + 4 ≤ 601024) (hn : n + 40 ≤ 7293034) (K : LK E cI cG cJ h ad a2 bd pd am o b i (k + 4) (n + 40) 1425) : LK E cI cG cJ h ad a2 bd pd am o b i k n 562 := by
  intro cnt fv fs fd rm lt tk ov w1 w2 th f1 hI hX hM
  obtain ⟨c2, gv, gs, gd, tc, tr, ft, tv, tu, fc, M, fa, fb, N', rfl⟩ := hX
  obtain ⟨fo, F, fg, fp, Y, rfl⟩ := hM
  refine l_call1 562 110 112 C hS hN hi hi2 ⟨dL_law_562, dL_law_563, dL_law_564, dL_law_566, dL_law_567, dL_law_568, dL_law_569, dL_law_570, dL_law_573, dL_law_575, dL_law_576, dL_law_577, dL_law_579, dL_law_580, dL_law_581, dL_law_582, dL_law_585⟩ hL_110 cL_112 (met_L_stockOf l hl9 D cI cG cJ h ad a2 bd pd cnt fv fs fd rm lt tk ov hI c2 gv gs gd tc tr ft tv tu fc M fa fb N' o f1 _ (zr_of _)) (met_X4_stockOf l D cI cG cJ am th cnt hI.1 rm lt tk ov fv fs fd fo F fg fp Y hI _ (zr_of _)) rfl (by decide) (by decide) (by decide) hk hn (fun z w9 z2 w3 hz hz2 => ?_)
  obtain ⟨w1, f1, e1, hz⟩ := hz
  have e1 : w9 = w1 ++ oJ o cJ f1 := e1
  subst e1
  rcases hz with ⟨rfl, ⟨ha, hv⟩, hX1⟩ | ⟨rfl, ha, hX1⟩
  · rcases hz2 with ⟨hb, rfl, hM1⟩ | ⟨hb, rfl, hM1⟩
    · exact l_tail 587 (810) C ⟨dL_law_587, dL_law_588, dL_law_591, dL_law_593, dL_law_598, dL_law_600, dL_law_603, dL_law_604, dL_law_605, dL_law_606, dL_law_608, dL_law_609, dL_law_610, dL_law_615, by decide⟩ (Or.inl rfl) (fun _ => hv) hk hn (hI) hX1 hM1 K
    · exact absurd ha hb
  · rcases hz2 with ⟨hb, rfl, hM1⟩ | ⟨hb, rfl, hM1⟩
    · exact absurd hb ha
    · exact l_tail 587 (810) C ⟨dL_law_587, dL_law_588, dL_law_591, dL_law_593, dL_law_598, dL_law_600, dL_law_603, dL_law_604, dL_law_605, dL_law_606, dL_law_608, dL_law_609, dL_law_610, dL_law_615, by decide⟩ (Or.inr (Or.inl rfl)) (fun h9 => absurd h9 (by decide)) hk hn (hI) hX1 hM1 K
set_option maxHeartbeats 4000000 in
set_option maxRecDepth 100000 in
theorem lc_vendedOf (l : Launch) (hl9 : l.stackTraces = false) {E : gEnv} {D : va_G} {cI cG cJ : ClassId} {h o b N k n : Nat} {ad a2 bd pd am : Nat → Nat} {xs : Nat → Int32} {i : Int} (C : gC E l room_1 D 9 RL cL_law cI cG cJ) (hS : gScr E b N xs) (hN : N ≤ 2000) (hi : 0 ≤ i) (hi2 : i + 2 < N) (hk : k + 4 ≤ 601024) (hn : n + 40 ≤ 7293034) (K : LK E cI cG cJ h ad a2 bd pd am o b i (k + 4) (n + 40) 1425) : LK E cI cG cJ h ad a2 bd pd am o b i k n 618 := by
  intro cnt fv fs fd rm lt tk ov w1 w2 th f1 hI hX hM
  obtain ⟨c2, gv, gs, gd, tc, tr, ft, tv, tu, fc, M, fa, fb, N', rfl⟩ := hX
  obtain ⟨fo, F, fg, fp, Y, rfl⟩ := hM
  refine l_call1 618 113 115 C hS hN hi hi2 ⟨dL_law_618, dL_law_619, dL_law_620, dL_law_622, dL_law_623, dL_law_624, dL_law_625, dL_law_626, dL_law_629, dL_law_631, dL_law_632, dL_law_633, dL_law_635, dL_law_636, dL_law_637, dL_law_638, dL_law_641⟩ hL_113 cL_115 (met_L_vendedOf l hl9 D cI cG cJ h ad a2 bd pd cnt fv fs fd rm lt tk ov hI c2 gv gs gd tc tr ft tv tu fc M fa fb N' o f1 _ (zr_of _)) (met_X4_vendedOf l D cI cG cJ am th cnt hI.1 rm lt tk ov fv fs fd fo F fg fp Y hI _ (zr_of _)) rfl (by decide) (by decide) (by decide) hk hn (fun z w9 z2 w3 hz hz2 => ?_)
  obtain ⟨w1, f1, e1, hz⟩ := hz
  have e1 : w9 = w1 ++ oJ o cJ f1 := e1
  subst e1
  rcases hz with ⟨rfl, ⟨ha, hv⟩, hX1⟩ | ⟨rfl, ha, hX1⟩
  · rcases hz2 with ⟨hb, rfl, hM1⟩ | ⟨hb, rfl, hM1⟩
    · exact l_tail 643 (754) C ⟨dL_law_643, dL_law_644, dL_law_647, dL_law_649, dL_law_654, dL_law_656, dL_law_659, dL_law_660, dL_law_661, dL_law_662, dL_law_664, dL_law_665, dL_law_666, dL_law_671, by decide⟩ (Or.inl rfl) (fun _ => hv) hk hn (hI) hX1 hM1 K
    · exact absurd ha hb
  · rcases hz2 with ⟨hb, rfl, hM1⟩ | ⟨hb, rfl, hM1⟩
    · exact absurd hb ha
    · exact l_tail 643 (754) C ⟨dL_law_643, dL_law_644, dL_law_647, dL_law_649, dL_law_654, dL_law_656, dL_law_659, dL_law_660, dL_law_661, dL_law_662, dL_law_664, dL_law_665, dL_law_666, dL_law_671, by decide⟩ (Or.inr (Or.inl rfl)) (fun h9 => absurd h9 (by decide)) hk hn (hI) hX1 hM1 K
set_option maxHeartbeats 4000000 in
set_option maxRecDepth 100000 in
theorem lc_letters (l : Launch) (hl9 : l.stackTraces = false) {E : gEnv} {D : va_G} {cI cG cJ : ClassId} {h o b N k n : Nat} {ad a2 bd pd am : Nat → Nat} {xs : Nat → Int32} {i : Int} (C : gC E l room_1 D 9 RL cL_law cI cG cJ) (hS : gScr E b N xs) (hN : N ≤ 2000) (hi : 0 ≤ i) (hi2 : i + 2 < N) (hk : k + 4 ≤ 601024) (hn : n + 40 ≤ 7293034) (K : LK E cI cG cJ h ad a2 bd pd am o b i (k + 4) (n + 40) 1425) : LK E cI cG cJ h ad a2 bd pd am o b i k n 674 := by
  intro cnt fv fs fd rm lt tk ov w1 w2 th f1 hI hX hM
  obtain ⟨c2, gv, gs, gd, tc, tr, ft, tv, tu, fc, M, fa, fb, N', rfl⟩ := hX
  obtain ⟨fo, F, fg, fp, Y, rfl⟩ := hM
  refine l_call0 674 116 119 C ⟨dL_law_674, dL_law_675, dL_law_678, dL_law_679⟩ cL_116 cL_119 (met_X3_letters l D cI cG cJ h ad a2 bd pd cnt fv fs fd rm lt tk ov hI c2 gv gs gd tc tr ft tv tu fc M fa fb N') (met_X4_letters l D cI cG cJ am th cnt hI.1 rm lt tk ov fv fs fd fo F fg fp Y hI) rfl rfl (by decide) (by decide) (by decide) hk hn (fun v w hv => ?_) (fun v w9 v2 w3 hv hv2 => ?_)
  · obtain ⟨z, rfl, -⟩ := hv
    exact Nat.le_of_ble_eq_true rfl
  obtain ⟨z, rfl, rfl, hX1⟩ := hv
  obtain ⟨z2, rfl, rfl, hM1⟩ := hv2
  refine g_icmp_eqS 1425 C dL_law_682 (by decide) ?_
  exact K _ _ _ _ _ _ _ _ _ _ _ _ hI hX1 hM1
set_option maxHeartbeats 4000000 in
set_option maxRecDepth 100000 in
theorem lc_taken (l : Launch) (hl9 : l.stackTraces = false) {E : gEnv} {D : va_G} {cI cG cJ : ClassId} {h o b N k n : Nat} {ad a2 bd pd am : Nat → Nat} {xs : Nat → Int32} {i : Int} (C : gC E l room_1 D 9 RL cL_law cI cG cJ) (hS : gScr E b N xs) (hN : N ≤ 2000) (hi : 0 ≤ i) (hi2 : i + 2 < N) (hk : k + 4 ≤ 601024) (hn : n + 40 ≤ 7293034) (K : LK E cI cG cJ h ad a2 bd pd am o b i (k + 4) (n + 40) 1425) : LK E cI cG cJ h ad a2 bd pd am o b i k n 687 := by
  intro cnt fv fs fd rm lt tk ov w1 w2 th f1 hI hX hM
  obtain ⟨c2, gv, gs, gd, tc, tr, ft, tv, tu, fc, M, fa, fb, N', rfl⟩ := hX
  obtain ⟨fo, F, fg, fp, Y, rfl⟩ := hM
  refine l_call0 687 120 123 C ⟨dL_law_687, dL_law_688, dL_law_691, dL_law_692⟩ cL_120 cL_123 (met_X3_taken l D cI cG cJ h ad a2 bd pd cnt fv fs fd rm lt tk ov hI c2 gv gs gd tc tr ft tv tu fc M fa fb N') (met_X4_taken l D cI cG cJ am th cnt hI.1 rm lt tk ov fv fs fd fo F fg fp Y hI) rfl rfl (by decide) (by decide) (by decide) hk hn (fun v w hv => ?_) (fun v w9 v2 w3 hv hv2 => ?_)
  · obtain ⟨z, rfl, -⟩ := hv
    exact Nat.le_of_ble_eq_true rfl
  obtain ⟨z, rfl, rfl, hX1⟩ := hv
  obtain ⟨z2, rfl, rfl, hM1⟩ := hv2
  refine g_icmp_eqS 1425 C dL_law_695 (by decide) ?_
  exact K _ _ _ _ _ _ _ _ _ _ _ _ hI hX1 hM1
set_option maxHeartbeats 4000000 in
set_option maxRecDepth 100000 in
theorem lc_overpaid (l : Launch) (hl9 : l.stackTraces = false) {E : gEnv} {D : va_G} {cI cG cJ : ClassId} {h o b N k n : Nat} {ad a2 bd pd am : Nat → Nat} {xs : Nat → Int32} {i : Int} (C : gC E l room_1 D 9 RL cL_law cI cG cJ) (hS : gScr E b N xs) (hN : N ≤ 2000) (hi : 0 ≤ i) (hi2 : i + 2 < N) (hk : k + 4 ≤ 601024) (hn : n + 40 ≤ 7293034) (K : LK E cI cG cJ h ad a2 bd pd am o b i (k + 4) (n + 40) 1425) : LK E cI cG cJ h ad a2 bd pd am o b i k n 700 := by
  intro cnt fv fs fd rm lt tk ov w1 w2 th f1 hI hX hM
  obtain ⟨c2, gv, gs, gd, tc, tr, ft, tv, tu, fc, M, fa, fb, N', rfl⟩ := hX
  obtain ⟨fo, F, fg, fp, Y, rfl⟩ := hM
  refine l_call0 700 124 127 C ⟨dL_law_700, dL_law_701, dL_law_704, dL_law_705⟩ cL_124 cL_127 (met_X3_overpaid l D cI cG cJ h ad a2 bd pd cnt fv fs fd rm lt tk ov hI c2 gv gs gd tc tr ft tv tu fc M fa fb N') (met_X4_overpaid l D cI cG cJ am th cnt hI.1 rm lt tk ov fv fs fd fo F fg fp Y hI) rfl rfl (by decide) (by decide) (by decide) hk hn (fun v w hv => ?_) (fun v w9 v2 w3 hv hv2 => ?_)
  · obtain ⟨z, rfl, -⟩ := hv
    exact Nat.le_of_ble_eq_true rfl
  obtain ⟨z, rfl, rfl, hX1⟩ := hv
  obtain ⟨z2, rfl, rfl, hM1⟩ := hv2
  refine g_icmp_eqS 1425 C dL_law_708 (by decide) ?_
  exact K _ _ _ _ _ _ _ _ _ _ _ _ hI hX1 hM1
set_option maxHeartbeats 4000000 in
set_option maxRecDepth 100000 in
theorem lc_scarcest (l : Launch) (hl9 : l.stackTraces = false) {E : gEnv} {D : va_G} {cI cG cJ : ClassId} {h o b N k n : Nat} {ad a2 bd pd am : Nat → Nat} {xs : Nat → Int32} {i : Int} (C : gC E l room_1 D 9 RL cL_law cI cG cJ) (hS : gScr E b N xs) (hN : N ≤ 2000) (hi : 0 ≤ i) (hi2 : i + 2 < N) (hk : k + 4 ≤ 601024) (hn : n + 40 ≤ 7293034) (K : LK E cI cG cJ h ad a2 bd pd am o b i (k + 4) (n + 40) 1425) : LK E cI cG cJ h ad a2 bd pd am o b i k n 713 := by
  intro cnt fv fs fd rm lt tk ov w1 w2 th f1 hI hX hM
  obtain ⟨c2, gv, gs, gd, tc, tr, ft, tv, tu, fc, M, fa, fb, N', rfl⟩ := hX
  obtain ⟨fo, F, fg, fp, Y, rfl⟩ := hM
  refine l_call0 713 128 131 C ⟨dL_law_713, dL_law_714, dL_law_717, dL_law_718⟩ cL_128 cL_131 (met_X3_scarcest l D cI cG cJ h ad a2 bd pd cnt fv fs fd rm lt tk ov hI c2 gv gs gd tc tr ft tv tu fc M fa fb N') (met_X4_scarcest l D cI cG cJ am th cnt hI.1 rm lt tk ov fv fs fd fo F fg fp Y hI) rfl rfl (by decide) (by decide) (by decide) hk hn (fun v w hv => ?_) (fun v w9 v2 w3 hv hv2 => ?_)
  · obtain ⟨z, rfl, -⟩ := hv
    exact Nat.le_of_ble_eq_true rfl
  obtain ⟨z, rfl, rfl, hX1⟩ := hv
  obtain ⟨z2, rfl, rfl, hM1⟩ := hv2
  refine g_icmp_eqS 1425 C dL_law_721 (by decide) ?_
  exact K _ _ _ _ _ _ _ _ _ _ _ _ hI hX1 hM1
set_option maxHeartbeats 4000000 in
set_option maxRecDepth 100000 in
theorem lc_canPay (l : Launch) (hl9 : l.stackTraces = false) {E : gEnv} {D : va_G} {cI cG cJ : ClassId} {h o b N k n : Nat} {ad a2 bd pd am : Nat → Nat} {xs : Nat → Int32} {i : Int} (C : gC E l room_1 D 9 RL cL_law cI cG cJ) (hS : gScr E b N xs) (hN : N ≤ 2000) (hi : 0 ≤ i) (hi2 : i + 2 < N) (hk : k + 4 ≤ 601024) (hn : n + 40 ≤ 7293034) (K : LK E cI cG cJ h ad a2 bd pd am o b i (k + 4) (n + 40) 1425) : LK E cI cG cJ h ad a2 bd pd am o b i k n 726 := by
  intro cnt fv fs fd rm lt tk ov w1 w2 th f1 hI hX hM
  obtain ⟨c2, gv, gs, gd, tc, tr, ft, tv, tu, fc, M, fa, fb, N', rfl⟩ := hX
  obtain ⟨fo, F, fg, fp, Y, rfl⟩ := hM
  refine l_call1 726 132 134 C hS hN hi hi2 ⟨dL_law_726, dL_law_727, dL_law_728, dL_law_730, dL_law_731, dL_law_732, dL_law_733, dL_law_734, dL_law_737, dL_law_739, dL_law_740, dL_law_741, dL_law_743, dL_law_744, dL_law_745, dL_law_746, dL_law_749⟩ hL_132 cL_134 (met_L_canPay l hl9 D cI cG cJ h ad a2 bd pd cnt fv fs fd rm lt tk ov hI c2 gv gs gd tc tr ft tv tu fc M fa fb N' o f1 _ (zr_of _)) (met_X4_canPay l D cI cG cJ am th cnt hI.1 rm lt tk ov fv fs fd fo F fg fp Y hI _ (zr_of _)) rfl (by decide) (by decide) (by decide) hk hn (fun z w9 z2 w3 hz hz2 => ?_)
  obtain ⟨w1, f1, e1, hz⟩ := hz
  have e1 : w9 = w1 ++ oJ o cJ f1 := e1
  subst e1
  rcases hz with ⟨rfl, ⟨ha, hv⟩, hX1⟩ | ⟨rfl, ha, hX1⟩
  · rcases hz2 with ⟨hb, rfl, hM1⟩ | ⟨hb, rfl, hM1⟩
    · exact l_tailB C (Or.inl rfl) (if01) (fun _ => hv) hk hn (hI) hX1 hM1 K
    · exact absurd ha hb
  · rcases hz2 with ⟨hb, rfl, hM1⟩ | ⟨hb, rfl, hM1⟩
    · exact absurd hb ha
    · exact l_tailB C (Or.inr (Or.inl rfl)) (Or.inl rfl) (fun h9 => absurd h9 (by decide)) hk hn (hI) hX1 hM1 K
set_option maxHeartbeats 4000000 in
set_option maxRecDepth 100000 in
theorem lc_overpay (l : Launch) (hl9 : l.stackTraces = false) {E : gEnv} {D : va_G} {cI cG cJ : ClassId} {h o b N k n : Nat} {ad a2 bd pd am : Nat → Nat} {xs : Nat → Int32} {i : Int} (C : gC E l room_1 D 9 RL cL_law cI cG cJ) (hS : gScr E b N xs) (hN : N ≤ 2000) (hi : 0 ≤ i) (hi2 : i + 2 < N) (hk : k + 4 ≤ 601024) (hn : n + 40 ≤ 7293034) (K : LK E cI cG cJ h ad a2 bd pd am o b i (k + 4) (n + 40) 1425) : LK E cI cG cJ h ad a2 bd pd am o b i k n 789 := by
  intro cnt fv fs fd rm lt tk ov w1 w2 th f1 hI hX hM
  obtain ⟨c2, gv, gs, gd, tc, tr, ft, tv, tu, fc, M, fa, fb, N', rfl⟩ := hX
  obtain ⟨fo, F, fg, fp, Y, rfl⟩ := hM
  refine l_call1 789 135 137 C hS hN hi hi2 ⟨dL_law_789, dL_law_790, dL_law_791, dL_law_793, dL_law_794, dL_law_795, dL_law_796, dL_law_797, dL_law_800, dL_law_802, dL_law_803, dL_law_804, dL_law_806, dL_law_807, dL_law_808, dL_law_809, dL_law_812⟩ hL_135 cL_137 (met_L_overpay l hl9 D cI cG cJ h ad a2 bd pd cnt fv fs fd rm lt tk ov hI c2 gv gs gd tc tr ft tv tu fc M fa fb N' o f1 _ (zr_of _)) (met_X4_overpay l D cI cG cJ am th cnt hI.1 rm lt tk ov fv fs fd fo F fg fp Y hI _ (zr_of _)) rfl (by decide) (by decide) (by decide) hk hn (fun z w9 z2 w3 hz hz2 => ?_)
  obtain ⟨w1, f1, e1, hz⟩ := hz
  have e1 : w9 = w1 ++ oJ o cJ f1 := e1
  subst e1
  rcases hz with ⟨rfl, ⟨ha, hv⟩, hX1⟩ | ⟨rfl, ha, hX1⟩
  · rcases hz2 with ⟨hb, rfl, hM1⟩ | ⟨hb, rfl, hM1⟩
    · exact l_tail 814 (583) C ⟨dL_law_814, dL_law_815, dL_law_818, dL_law_820, dL_law_825, dL_law_827, dL_law_830, dL_law_831, dL_law_832, dL_law_833, dL_law_835, dL_law_836, dL_law_837, dL_law_842, by decide⟩ (Or.inl rfl) (fun _ => hv) hk hn (hI) hX1 hM1 K
    · exact absurd ha hb
  · rcases hz2 with ⟨hb, rfl, hM1⟩ | ⟨hb, rfl, hM1⟩
    · exact absurd hb ha
    · exact l_tail 814 (583) C ⟨dL_law_814, dL_law_815, dL_law_818, dL_law_820, dL_law_825, dL_law_827, dL_law_830, dL_law_831, dL_law_832, dL_law_833, dL_law_835, dL_law_836, dL_law_837, dL_law_842, by decide⟩ (Or.inr (Or.inl rfl)) (fun h9 => absurd h9 (by decide)) hk hn (hI) hX1 hM1 K
set_option maxHeartbeats 4000000 in
set_option maxRecDepth 100000 in
theorem lc_stampsFor (l : Launch) (hl9 : l.stackTraces = false) {E : gEnv} {D : va_G} {cI cG cJ : ClassId} {h o b N k n : Nat} {ad a2 bd pd am : Nat → Nat} {xs : Nat → Int32} {i : Int} (C : gC E l room_1 D 9 RL cL_law cI cG cJ) (hS : gScr E b N xs) (hN : N ≤ 2000) (hi : 0 ≤ i) (hi2 : i + 2 < N) (hk : k + 4 ≤ 601024) (hn : n + 40 ≤ 7293034) (K : LK E cI cG cJ h ad a2 bd pd am o b i (k + 4) (n + 40) 1425) : LK E cI cG cJ h ad a2 bd pd am o b i k n 845 := by
  intro cnt fv fs fd rm lt tk ov w1 w2 th f1 hI hX hM
  obtain ⟨c2, gv, gs, gd, tc, tr, ft, tv, tu, fc, M, fa, fb, N', rfl⟩ := hX
  obtain ⟨fo, F, fg, fp, Y, rfl⟩ := hM
  refine l_call1 845 138 140 C hS hN hi hi2 ⟨dL_law_845, dL_law_846, dL_law_847, dL_law_849, dL_law_850, dL_law_851, dL_law_852, dL_law_853, dL_law_856, dL_law_858, dL_law_859, dL_law_860, dL_law_862, dL_law_863, dL_law_864, dL_law_865, dL_law_868⟩ hL_138 cL_140 (met_L_stampsFor l hl9 D cI cG cJ h ad a2 bd pd cnt fv fs fd rm lt tk ov hI c2 gv gs gd tc tr ft tv tu fc M fa fb N' o f1 _ (zr_of _)) (met_X4_stampsFor l D cI cG cJ am th cnt hI.1 rm lt tk ov fv fs fd fo F fg fp Y hI _ (zr_of _)) rfl (by decide) (by decide) (by decide) hk hn (fun z w9 z2 w3 hz hz2 => ?_)
  obtain ⟨w1, f1, e1, hz⟩ := hz
  have e1 : w9 = w1 ++ oJ o cJ f1 := e1
  subst e1
  rcases hz with ⟨rfl, ⟨ha, hv⟩, hX1⟩ | ⟨rfl, ha, hX1⟩
  · rcases hz2 with ⟨hb, rfl, hM1⟩ | ⟨hb, rfl, hM1⟩
    · exact l_tail 870 (527) C ⟨dL_law_870, dL_law_871, dL_law_874, dL_law_876, dL_law_881, dL_law_883, dL_law_886, dL_law_887, dL_law_888, dL_law_889, dL_law_891, dL_law_892, dL_law_893, dL_law_898, by decide⟩ (Or.inl rfl) (fun _ => hv) hk hn (hI) hX1 hM1 K
    · exact absurd ha hb
  · rcases hz2 with ⟨hb, rfl, hM1⟩ | ⟨hb, rfl, hM1⟩
    · exact absurd hb ha
    · exact l_tail 870 (527) C ⟨dL_law_870, dL_law_871, dL_law_874, dL_law_876, dL_law_881, dL_law_883, dL_law_886, dL_law_887, dL_law_888, dL_law_889, dL_law_891, dL_law_892, dL_law_893, dL_law_898, by decide⟩ (Or.inr (Or.inl rfl)) (fun h9 => absurd h9 (by decide)) hk hn (hI) hX1 hM1 K
set_option maxHeartbeats 4000000 in
set_option maxRecDepth 100000 in
theorem lc_ofStampFor (l : Launch) (hl9 : l.stackTraces = false) {E : gEnv} {D : va_G} {cI cG cJ : ClassId} {h o b N k n : Nat} {ad a2 bd pd am : Nat → Nat} {xs : Nat → Int32} {i : Int} (C : gC E l room_1 D 9 RL cL_law cI cG cJ) (hS : gScr E b N xs) (hN : N ≤ 2000) (hi : 0 ≤ i) (hi2 : i + 2 < N) (hk : k + 4 ≤ 601024) (hn : n + 40 ≤ 7293034) (K : LK E cI cG cJ h ad a2 bd pd am o b i (k + 4) (n + 40) 1425) : LK E cI cG cJ h ad a2 bd pd am o b i k n 901 := by
  intro cnt fv fs fd rm lt tk ov w1 w2 th f1 hI hX hM
  obtain ⟨c2, gv, gs, gd, tc, tr, ft, tv, tu, fc, M, fa, fb, N', rfl⟩ := hX
  obtain ⟨fo, F, fg, fp, Y, rfl⟩ := hM
  refine l_call2 901 141 143 C hS hN hi hi2 ⟨dL_law_901, dL_law_902, dL_law_903, dL_law_905, dL_law_906, dL_law_907, dL_law_908, dL_law_909, dL_law_911, dL_law_912, dL_law_913, dL_law_914, dL_law_915, dL_law_918, dL_law_920, dL_law_921, dL_law_922, dL_law_924, dL_law_925, dL_law_926, dL_law_927, dL_law_928, dL_law_930, dL_law_931, dL_law_932, dL_law_933, dL_law_936⟩ hL_141 cL_143 (met_L_ofStampFor l hl9 D cI cG cJ h ad a2 bd pd cnt fv fs fd rm lt tk ov hI c2 gv gs gd tc tr ft tv tu fc M fa fb N' o f1 _ _ (zr_of _) (zr_of _)) (met_X4_ofStampFor l D cI cG cJ am th cnt hI.1 rm lt tk ov fv fs fd fo F fg fp Y hI _ _ (zr_of _) (zr_of _)) rfl (by decide) (by decide) (by decide) hk hn (fun z w9 z2 w3 hz hz2 => ?_)
  obtain ⟨w1, f1, e1, hz⟩ := hz
  have e1 : w9 = w1 ++ oJ o cJ f1 := e1
  subst e1
  rcases hz with ⟨rfl, ⟨z1, hv, ⟨ha0, ha1, rfl⟩⟩, hX1⟩ | ⟨rfl, ha, hX1⟩ | ⟨rfl, ⟨ha, ha2⟩, hX1⟩
  · rcases hz2 with ⟨hb0, hb1, rfl, hM1⟩ | ⟨hb, rfl, hM1⟩ | ⟨hb, hb2, rfl, hM1⟩
    · exact l_tail 938 (459) C ⟨dL_law_938, dL_law_939, dL_law_942, dL_law_944, dL_law_949, dL_law_951, dL_law_954, dL_law_955, dL_law_956, dL_law_957, dL_law_959, dL_law_960, dL_law_961, dL_law_966, by decide⟩ (Or.inl rfl) (fun _ => hv) hk hn (hI) hX1 hM1 K
    · exact absurd ha0 hb
    · exact absurd ha1 hb2
  · rcases hz2 with ⟨hb0, hb1, rfl, hM1⟩ | ⟨hb, rfl, hM1⟩ | ⟨hb, hb2, rfl, hM1⟩
    · exact absurd hb0 ha
    · exact l_tail 938 (459) C ⟨dL_law_938, dL_law_939, dL_law_942, dL_law_944, dL_law_949, dL_law_951, dL_law_954, dL_law_955, dL_law_956, dL_law_957, dL_law_959, dL_law_960, dL_law_961, dL_law_966, by decide⟩ (Or.inr (Or.inl rfl)) (fun h9 => absurd h9 (by decide)) hk hn (hI) hX1 hM1 K
    · exact absurd hb ha
  · rcases hz2 with ⟨hb0, hb1, rfl, hM1⟩ | ⟨hb, rfl, hM1⟩ | ⟨hb, hb2, rfl, hM1⟩
    · exact absurd hb1 ha2
    · exact absurd ha hb
    · exact l_tail 938 (459) C ⟨dL_law_938, dL_law_939, dL_law_942, dL_law_944, dL_law_949, dL_law_951, dL_law_954, dL_law_955, dL_law_956, dL_law_957, dL_law_959, dL_law_960, dL_law_961, dL_law_966, by decide⟩ (Or.inr (Or.inr rfl)) (fun h9 => absurd h9 (by decide)) hk hn (hI) hX1 hM1 K
set_option maxHeartbeats 4000000 in
set_option maxRecDepth 100000 in
theorem lc_reachNow (l : Launch) (hl9 : l.stackTraces = false) {E : gEnv} {D : va_G} {cI cG cJ : ClassId} {h o b N k n : Nat} {ad a2 bd pd am : Nat → Nat} {xs : Nat → Int32} {i : Int} (C : gC E l room_1 D 9 RL cL_law cI cG cJ) (hS : gScr E b N xs) (hN : N ≤ 2000) (hi : 0 ≤ i) (hi2 : i + 2 < N) (hk : k + 4 ≤ 601024) (hn : n + 40 ≤ 7293034) (K : LK E cI cG cJ h ad a2 bd pd am o b i (k + 4) (n + 40) 1425) : LK E cI cG cJ h ad a2 bd pd am o b i k n 969 := by
  intro cnt fv fs fd rm lt tk ov w1 w2 th f1 hI hX hM
  obtain ⟨c2, gv, gs, gd, tc, tr, ft, tv, tu, fc, M, fa, fb, N', rfl⟩ := hX
  obtain ⟨fo, F, fg, fp, Y, rfl⟩ := hM
  refine l_call0 969 144 147 C ⟨dL_law_969, dL_law_970, dL_law_973, dL_law_974⟩ cL_144 cL_147 (met_X3_reachNow l D cI cG cJ h ad a2 bd pd cnt fv fs fd rm lt tk ov hI c2 gv gs gd tc tr ft tv tu fc M fa fb N') (met_X4_reachNow l D cI cG cJ am th cnt hI.1 rm lt tk ov fv fs fd fo F fg fp Y hI) rfl rfl (by decide) (by decide) (by decide) hk hn (fun v w hv => ?_) (fun v w9 v2 w3 hv hv2 => ?_)
  · obtain ⟨z, rfl, -⟩ := hv
    exact Nat.le_of_ble_eq_true rfl
  obtain ⟨z, rfl, rfl, hX1⟩ := hv
  obtain ⟨z2, rfl, rfl, hM1⟩ := hv2
  refine g_icmp_eqS 1425 C dL_law_977 (by decide) ?_
  exact K _ _ _ _ _ _ _ _ _ _ _ _ hI hX1 hM1
set_option maxHeartbeats 4000000 in
set_option maxRecDepth 100000 in
theorem lc_most (l : Launch) (hl9 : l.stackTraces = false) {E : gEnv} {D : va_G} {cI cG cJ : ClassId} {h o b N k n : Nat} {ad a2 bd pd am : Nat → Nat} {xs : Nat → Int32} {i : Int} (C : gC E l room_1 D 9 RL cL_law cI cG cJ) (hS : gScr E b N xs) (hN : N ≤ 2000) (hi : 0 ≤ i) (hi2 : i + 2 < N) (hk : k + 4 ≤ 601024) (hn : n + 40 ≤ 7293034) (K : LK E cI cG cJ h ad a2 bd pd am o b i (k + 4) (n + 40) 1425) : LK E cI cG cJ h ad a2 bd pd am o b i k n 982 := by
  intro cnt fv fs fd rm lt tk ov w1 w2 th f1 hI hX hM
  obtain ⟨c2, gv, gs, gd, tc, tr, ft, tv, tu, fc, M, fa, fb, N', rfl⟩ := hX
  obtain ⟨fo, F, fg, fp, Y, rfl⟩ := hM
  refine l_call0 982 148 151 C ⟨dL_law_982, dL_law_983, dL_law_986, dL_law_987⟩ cL_148 cL_151 (met_X3_most l D cI cG cJ h ad a2 bd pd cnt fv fs fd rm lt tk ov hI c2 gv gs gd tc tr ft tv tu fc M fa fb N') (met_X4_most l D cI cG cJ am th cnt hI.1 rm lt tk ov fv fs fd fo F fg fp Y hI) rfl rfl (by decide) (by decide) (by decide) hk hn (fun v w hv => ?_) (fun v w9 v2 w3 hv hv2 => ?_)
  · obtain ⟨z, rfl, -⟩ := hv
    exact Nat.le_of_ble_eq_true rfl
  obtain ⟨z, rfl, rfl, hX1⟩ := hv
  obtain ⟨z2, rfl, rfl, hM1⟩ := hv2
  refine g_icmp_eqS 1425 C dL_law_990 (by decide) ?_
  exact K _ _ _ _ _ _ _ _ _ _ _ _ hI hX1 hM1
set_option maxHeartbeats 4000000 in
set_option maxRecDepth 100000 in
theorem lc_fewest (l : Launch) (hl9 : l.stackTraces = false) {E : gEnv} {D : va_G} {cI cG cJ : ClassId} {h o b N k n : Nat} {ad a2 bd pd am : Nat → Nat} {xs : Nat → Int32} {i : Int} (C : gC E l room_1 D 9 RL cL_law cI cG cJ) (hS : gScr E b N xs) (hN : N ≤ 2000) (hi : 0 ≤ i) (hi2 : i + 2 < N) (hk : k + 4 ≤ 601024) (hn : n + 40 ≤ 7293034) (K : LK E cI cG cJ h ad a2 bd pd am o b i (k + 4) (n + 40) 1425) : LK E cI cG cJ h ad a2 bd pd am o b i k n 995 := by
  intro cnt fv fs fd rm lt tk ov w1 w2 th f1 hI hX hM
  obtain ⟨c2, gv, gs, gd, tc, tr, ft, tv, tu, fc, M, fa, fb, N', rfl⟩ := hX
  obtain ⟨fo, F, fg, fp, Y, rfl⟩ := hM
  refine l_call1 995 152 154 C hS hN hi hi2 ⟨dL_law_995, dL_law_996, dL_law_997, dL_law_999, dL_law_1000, dL_law_1001, dL_law_1002, dL_law_1003, dL_law_1006, dL_law_1008, dL_law_1009, dL_law_1010, dL_law_1012, dL_law_1013, dL_law_1014, dL_law_1015, dL_law_1018⟩ hL_152 cL_154 (met_L_fewest l hl9 D cI cG cJ h ad a2 bd pd cnt fv fs fd rm lt tk ov hI c2 gv gs gd tc tr ft tv tu fc M fa fb N' o f1 _ (zr_of _)) (met_X4_fewest l D cI cG cJ am th cnt hI.1 rm lt tk ov fv fs fd fo F fg fp Y hI _ (zr_of _)) rfl (by decide) (by decide) (by decide) hk hn (fun z w9 z2 w3 hz hz2 => ?_)
  obtain ⟨w1, f1, e1, hz⟩ := hz
  have e1 : w9 = w1 ++ oJ o cJ f1 := e1
  subst e1
  rcases hz with ⟨rfl, ⟨ha, hv⟩, hX1⟩ | ⟨rfl, ha, hX1⟩
  · rcases hz2 with ⟨hb, rfl, hM1⟩ | ⟨hb, rfl, hM1⟩
    · exact l_tail 1020 (377) C ⟨dL_law_1020, dL_law_1021, dL_law_1024, dL_law_1026, dL_law_1031, dL_law_1033, dL_law_1036, dL_law_1037, dL_law_1038, dL_law_1039, dL_law_1041, dL_law_1042, dL_law_1043, dL_law_1048, by decide⟩ (Or.inl rfl) (fun _ => hv) hk hn (hI) hX1 hM1 K
    · exact absurd ha hb
  · rcases hz2 with ⟨hb, rfl, hM1⟩ | ⟨hb, rfl, hM1⟩
    · exact absurd hb ha
    · exact l_tail 1020 (377) C ⟨dL_law_1020, dL_law_1021, dL_law_1024, dL_law_1026, dL_law_1031, dL_law_1033, dL_law_1036, dL_law_1037, dL_law_1038, dL_law_1039, dL_law_1041, dL_law_1042, dL_law_1043, dL_law_1048, by decide⟩ (Or.inr (Or.inl rfl)) (fun h9 => absurd h9 (by decide)) hk hn (hI) hX1 hM1 K
set_option maxHeartbeats 4000000 in
set_option maxRecDepth 100000 in
theorem lc_ways (l : Launch) (hl9 : l.stackTraces = false) {E : gEnv} {D : va_G} {cI cG cJ : ClassId} {h o b N k n : Nat} {ad a2 bd pd am : Nat → Nat} {xs : Nat → Int32} {i : Int} (C : gC E l room_1 D 9 RL cL_law cI cG cJ) (hS : gScr E b N xs) (hN : N ≤ 2000) (hi : 0 ≤ i) (hi2 : i + 2 < N) (hk : k + 4 ≤ 601024) (hn : n + 40 ≤ 7293034) (K : LK E cI cG cJ h ad a2 bd pd am o b i (k + 4) (n + 40) 1425) : LK E cI cG cJ h ad a2 bd pd am o b i k n 1051 := by
  intro cnt fv fs fd rm lt tk ov w1 w2 th f1 hI hX hM
  obtain ⟨c2, gv, gs, gd, tc, tr, ft, tv, tu, fc, M, fa, fb, N', rfl⟩ := hX
  obtain ⟨fo, F, fg, fp, Y, rfl⟩ := hM
  refine l_call1 1051 155 157 C hS hN hi hi2 ⟨dL_law_1051, dL_law_1052, dL_law_1053, dL_law_1055, dL_law_1056, dL_law_1057, dL_law_1058, dL_law_1059, dL_law_1062, dL_law_1064, dL_law_1065, dL_law_1066, dL_law_1068, dL_law_1069, dL_law_1070, dL_law_1071, dL_law_1074⟩ hL_155 cL_157 (met_L_ways l hl9 D cI cG cJ h ad a2 bd pd cnt fv fs fd rm lt tk ov hI c2 gv gs gd tc tr ft tv tu fc M fa fb N' o f1 _ (zr_of _)) (met_X4_ways l D cI cG cJ am th cnt hI.1 rm lt tk ov fv fs fd fo F fg fp Y hI _ (zr_of _)) rfl (by decide) (by decide) (by decide) hk hn (fun z w9 z2 w3 hz hz2 => ?_)
  obtain ⟨w1, f1, e1, hz⟩ := hz
  have e1 : w9 = w1 ++ oJ o cJ f1 := e1
  subst e1
  rcases hz with ⟨rfl, ⟨ha, hv⟩, hX1⟩ | ⟨rfl, ha, hX1⟩
  · rcases hz2 with ⟨hb, rfl, hM1⟩ | ⟨hb, rfl, hM1⟩
    · exact l_tail 1076 (321) C ⟨dL_law_1076, dL_law_1077, dL_law_1080, dL_law_1082, dL_law_1087, dL_law_1089, dL_law_1092, dL_law_1093, dL_law_1094, dL_law_1095, dL_law_1097, dL_law_1098, dL_law_1099, dL_law_1104, by decide⟩ (Or.inl rfl) (fun _ => hv) hk hn (hI) hX1 hM1 K
    · exact absurd ha hb
  · rcases hz2 with ⟨hb, rfl, hM1⟩ | ⟨hb, rfl, hM1⟩
    · exact absurd hb ha
    · exact l_tail 1076 (321) C ⟨dL_law_1076, dL_law_1077, dL_law_1080, dL_law_1082, dL_law_1087, dL_law_1089, dL_law_1092, dL_law_1093, dL_law_1094, dL_law_1095, dL_law_1097, dL_law_1098, dL_law_1099, dL_law_1104, by decide⟩ (Or.inr (Or.inl rfl)) (fun h9 => absurd h9 (by decide)) hk hn (hI) hX1 hM1 K
set_option maxHeartbeats 4000000 in
set_option maxRecDepth 100000 in
theorem lc_reach (l : Launch) (hl9 : l.stackTraces = false) {E : gEnv} {D : va_G} {cI cG cJ : ClassId} {h o b N k n : Nat} {ad a2 bd pd am : Nat → Nat} {xs : Nat → Int32} {i : Int} (C : gC E l room_1 D 9 RL cL_law cI cG cJ) (hS : gScr E b N xs) (hN : N ≤ 2000) (hi : 0 ≤ i) (hi2 : i + 2 < N) (hk : k + 4 ≤ 601024) (hn : n + 40 ≤ 7293034) (K : LK E cI cG cJ h ad a2 bd pd am o b i (k + 4) (n + 40) 1425) : LK E cI cG cJ h ad a2 bd pd am o b i k n 1107 := by
  intro cnt fv fs fd rm lt tk ov w1 w2 th f1 hI hX hM
  obtain ⟨c2, gv, gs, gd, tc, tr, ft, tv, tu, fc, M, fa, fb, N', rfl⟩ := hX
  obtain ⟨fo, F, fg, fp, Y, rfl⟩ := hM
  refine l_call0 1107 158 161 C ⟨dL_law_1107, dL_law_1108, dL_law_1111, dL_law_1112⟩ cL_158 cL_161 (met_X3_reach l D cI cG cJ h ad a2 bd pd cnt fv fs fd rm lt tk ov hI c2 gv gs gd tc tr ft tv tu fc M fa fb N') (met_X4_reach l D cI cG cJ am th cnt hI.1 rm lt tk ov fv fs fd fo F fg fp Y hI) rfl rfl (by decide) (by decide) (by decide) hk hn (fun v w hv => ?_) (fun v w9 v2 w3 hv hv2 => ?_)
  · obtain ⟨z, rfl, -⟩ := hv
    exact Nat.le_of_ble_eq_true rfl
  obtain ⟨z, rfl, rfl, hX1⟩ := hv
  obtain ⟨z2, rfl, rfl, hM1⟩ := hv2
  refine g_icmp_eqS 1425 C dL_law_1115 (by decide) ?_
  exact K _ _ _ _ _ _ _ _ _ _ _ _ hI hX1 hM1
set_option maxHeartbeats 4000000 in
set_option maxRecDepth 100000 in
theorem lc_gapFrom (l : Launch) (hl9 : l.stackTraces = false) {E : gEnv} {D : va_G} {cI cG cJ : ClassId} {h o b N k n : Nat} {ad a2 bd pd am : Nat → Nat} {xs : Nat → Int32} {i : Int} (C : gC E l room_1 D 9 RL cL_law cI cG cJ) (hS : gScr E b N xs) (hN : N ≤ 2000) (hi : 0 ≤ i) (hi2 : i + 2 < N) (hk : k + 4 ≤ 601024) (hn : n + 40 ≤ 7293034) (K : LK E cI cG cJ h ad a2 bd pd am o b i (k + 4) (n + 40) 1425) : LK E cI cG cJ h ad a2 bd pd am o b i k n 1120 := by
  intro cnt fv fs fd rm lt tk ov w1 w2 th f1 hI hX hM
  obtain ⟨c2, gv, gs, gd, tc, tr, ft, tv, tu, fc, M, fa, fb, N', rfl⟩ := hX
  obtain ⟨fo, F, fg, fp, Y, rfl⟩ := hM
  refine l_call1 1120 162 164 C hS hN hi hi2 ⟨dL_law_1120, dL_law_1121, dL_law_1122, dL_law_1124, dL_law_1125, dL_law_1126, dL_law_1127, dL_law_1128, dL_law_1131, dL_law_1133, dL_law_1134, dL_law_1135, dL_law_1137, dL_law_1138, dL_law_1139, dL_law_1140, dL_law_1143⟩ hL_162 cL_164 (met_L_gapFrom l hl9 D cI cG cJ h ad a2 bd pd cnt fv fs fd rm lt tk ov hI c2 gv gs gd tc tr ft tv tu fc M fa fb N' o f1 _ (zr_of _)) (met_X4_gapFrom l D cI cG cJ am th cnt hI.1 rm lt tk ov fv fs fd fo F fg fp Y hI _ (zr_of _)) rfl (by decide) (by decide) (by decide) hk hn (fun z w9 z2 w3 hz hz2 => ?_)
  obtain ⟨w1, f1, e1, hz⟩ := hz
  have e1 : w9 = w1 ++ oJ o cJ f1 := e1
  subst e1
  rcases hz with ⟨rfl, ⟨ha, hv⟩, hX1⟩ | ⟨rfl, ha, hX1⟩
  · rcases hz2 with ⟨hb, rfl, hM1⟩ | ⟨hb, rfl, hM1⟩
    · exact l_tail 1145 (252) C ⟨dL_law_1145, dL_law_1146, dL_law_1149, dL_law_1151, dL_law_1156, dL_law_1158, dL_law_1161, dL_law_1162, dL_law_1163, dL_law_1164, dL_law_1166, dL_law_1167, dL_law_1168, dL_law_1173, by decide⟩ (Or.inl rfl) (fun _ => hv) hk hn (hI) hX1 hM1 K
    · exact absurd ha hb
  · rcases hz2 with ⟨hb, rfl, hM1⟩ | ⟨hb, rfl, hM1⟩
    · exact absurd hb ha
    · exact l_tail 1145 (252) C ⟨dL_law_1145, dL_law_1146, dL_law_1149, dL_law_1151, dL_law_1156, dL_law_1158, dL_law_1161, dL_law_1162, dL_law_1163, dL_law_1164, dL_law_1166, dL_law_1167, dL_law_1168, dL_law_1173, by decide⟩ (Or.inr (Or.inl rfl)) (fun h9 => absurd h9 (by decide)) hk hn (hI) hX1 hM1 K
set_option maxHeartbeats 4000000 in
set_option maxRecDepth 100000 in
theorem lc_gapsTo (l : Launch) (hl9 : l.stackTraces = false) {E : gEnv} {D : va_G} {cI cG cJ : ClassId} {h o b N k n : Nat} {ad a2 bd pd am : Nat → Nat} {xs : Nat → Int32} {i : Int} (C : gC E l room_1 D 9 RL cL_law cI cG cJ) (hS : gScr E b N xs) (hN : N ≤ 2000) (hi : 0 ≤ i) (hi2 : i + 2 < N) (hk : k + 4 ≤ 601024) (hn : n + 40 ≤ 7293034) (K : LK E cI cG cJ h ad a2 bd pd am o b i (k + 4) (n + 40) 1425) : LK E cI cG cJ h ad a2 bd pd am o b i k n 1176 := by
  intro cnt fv fs fd rm lt tk ov w1 w2 th f1 hI hX hM
  obtain ⟨c2, gv, gs, gd, tc, tr, ft, tv, tu, fc, M, fa, fb, N', rfl⟩ := hX
  obtain ⟨fo, F, fg, fp, Y, rfl⟩ := hM
  refine l_call1 1176 165 167 C hS hN hi hi2 ⟨dL_law_1176, dL_law_1177, dL_law_1178, dL_law_1180, dL_law_1181, dL_law_1182, dL_law_1183, dL_law_1184, dL_law_1187, dL_law_1189, dL_law_1190, dL_law_1191, dL_law_1193, dL_law_1194, dL_law_1195, dL_law_1196, dL_law_1199⟩ hL_165 cL_167 (met_L_gapsTo l hl9 D cI cG cJ h ad a2 bd pd cnt fv fs fd rm lt tk ov hI c2 gv gs gd tc tr ft tv tu fc M fa fb N' o f1 _ (zr_of _)) (met_X4_gapsTo l D cI cG cJ am th cnt hI.1 rm lt tk ov fv fs fd fo F fg fp Y hI _ (zr_of _)) rfl (by decide) (by decide) (by decide) hk hn (fun z w9 z2 w3 hz hz2 => ?_)
  obtain ⟨w1, f1, e1, hz⟩ := hz
  have e1 : w9 = w1 ++ oJ o cJ f1 := e1
  subst e1
  rcases hz with ⟨rfl, ⟨ha, hv⟩, hX1⟩ | ⟨rfl, ha, hX1⟩
  · rcases hz2 with ⟨hb, rfl, hM1⟩ | ⟨hb, rfl, hM1⟩
    · exact l_tail 1201 (196) C ⟨dL_law_1201, dL_law_1202, dL_law_1205, dL_law_1207, dL_law_1212, dL_law_1214, dL_law_1217, dL_law_1218, dL_law_1219, dL_law_1220, dL_law_1222, dL_law_1223, dL_law_1224, dL_law_1229, by decide⟩ (Or.inl rfl) (fun _ => hv) hk hn (hI) hX1 hM1 K
    · exact absurd ha hb
  · rcases hz2 with ⟨hb, rfl, hM1⟩ | ⟨hb, rfl, hM1⟩
    · exact absurd hb ha
    · exact l_tail 1201 (196) C ⟨dL_law_1201, dL_law_1202, dL_law_1205, dL_law_1207, dL_law_1212, dL_law_1214, dL_law_1217, dL_law_1218, dL_law_1219, dL_law_1220, dL_law_1222, dL_law_1223, dL_law_1224, dL_law_1229, by decide⟩ (Or.inr (Or.inl rfl)) (fun h9 => absurd h9 (by decide)) hk hn (hI) hX1 hM1 K
set_option maxHeartbeats 4000000 in
set_option maxRecDepth 100000 in
theorem lc_lettersOf (l : Launch) (hl9 : l.stackTraces = false) {E : gEnv} {D : va_G} {cI cG cJ : ClassId} {h o b N k n : Nat} {ad a2 bd pd am : Nat → Nat} {xs : Nat → Int32} {i : Int} (C : gC E l room_1 D 9 RL cL_law cI cG cJ) (hS : gScr E b N xs) (hN : N ≤ 2000) (hi : 0 ≤ i) (hi2 : i + 2 < N) (hk : k + 4 ≤ 601024) (hn : n + 40 ≤ 7293034) (K : LK E cI cG cJ h ad a2 bd pd am o b i (k + 4) (n + 40) 1425) : LK E cI cG cJ h ad a2 bd pd am o b i k n 1232 := by
  intro cnt fv fs fd rm lt tk ov w1 w2 th f1 hI hX hM
  obtain ⟨c2, gv, gs, gd, tc, tr, ft, tv, tu, fc, M, fa, fb, N', rfl⟩ := hX
  obtain ⟨fo, F, fg, fp, Y, rfl⟩ := hM
  refine l_call1 1232 168 170 C hS hN hi hi2 ⟨dL_law_1232, dL_law_1233, dL_law_1234, dL_law_1236, dL_law_1237, dL_law_1238, dL_law_1239, dL_law_1240, dL_law_1243, dL_law_1245, dL_law_1246, dL_law_1247, dL_law_1249, dL_law_1250, dL_law_1251, dL_law_1252, dL_law_1255⟩ hL_168 cL_170 (met_L_lettersOf l hl9 D cI cG cJ h ad a2 bd pd cnt fv fs fd rm lt tk ov hI c2 gv gs gd tc tr ft tv tu fc M fa fb N' o f1 _ (zr_of _)) (met_X4_lettersOf l D cI cG cJ am th cnt hI.1 rm lt tk ov fv fs fd fo F fg fp Y hI _ (zr_of _)) rfl (by decide) (by decide) (by decide) hk hn (fun z w9 z2 w3 hz hz2 => ?_)
  obtain ⟨w1, f1, e1, hz⟩ := hz
  have e1 : w9 = w1 ++ oJ o cJ f1 := e1
  subst e1
  rcases hz with ⟨rfl, ⟨ha, hv⟩, hX1⟩ | ⟨rfl, ha, hX1⟩
  · rcases hz2 with ⟨hb, rfl, hM1⟩ | ⟨hb, rfl, hM1⟩
    · exact l_tail 1257 (140) C ⟨dL_law_1257, dL_law_1258, dL_law_1261, dL_law_1263, dL_law_1268, dL_law_1270, dL_law_1273, dL_law_1274, dL_law_1275, dL_law_1276, dL_law_1278, dL_law_1279, dL_law_1280, dL_law_1285, by decide⟩ (Or.inl rfl) (fun _ => hv) hk hn (hI) hX1 hM1 K
    · exact absurd ha hb
  · rcases hz2 with ⟨hb, rfl, hM1⟩ | ⟨hb, rfl, hM1⟩
    · exact absurd hb ha
    · exact l_tail 1257 (140) C ⟨dL_law_1257, dL_law_1258, dL_law_1261, dL_law_1263, dL_law_1268, dL_law_1270, dL_law_1273, dL_law_1274, dL_law_1275, dL_law_1276, dL_law_1278, dL_law_1279, dL_law_1280, dL_law_1285, by decide⟩ (Or.inr (Or.inl rfl)) (fun h9 => absurd h9 (by decide)) hk hn (hI) hX1 hM1 K
set_option maxHeartbeats 4000000 in
set_option maxRecDepth 100000 in
theorem lc_bestValue (l : Launch) (hl9 : l.stackTraces = false) {E : gEnv} {D : va_G} {cI cG cJ : ClassId} {h o b N k n : Nat} {ad a2 bd pd am : Nat → Nat} {xs : Nat → Int32} {i : Int} (C : gC E l room_1 D 9 RL cL_law cI cG cJ) (hS : gScr E b N xs) (hN : N ≤ 2000) (hi : 0 ≤ i) (hi2 : i + 2 < N) (hk : k + 4 ≤ 601024) (hn : n + 40 ≤ 7293034) (K : LK E cI cG cJ h ad a2 bd pd am o b i (k + 4) (n + 40) 1425) : LK E cI cG cJ h ad a2 bd pd am o b i k n 1288 := by
  intro cnt fv fs fd rm lt tk ov w1 w2 th f1 hI hX hM
  obtain ⟨c2, gv, gs, gd, tc, tr, ft, tv, tu, fc, M, fa, fb, N', rfl⟩ := hX
  obtain ⟨fo, F, fg, fp, Y, rfl⟩ := hM
  refine l_call0 1288 171 174 C ⟨dL_law_1288, dL_law_1289, dL_law_1292, dL_law_1293⟩ cL_171 cL_174 (met_X3_bestValue l D cI cG cJ h ad a2 bd pd cnt fv fs fd rm lt tk ov hI c2 gv gs gd tc tr ft tv tu fc M fa fb N') (met_X4_bestValue l D cI cG cJ am th cnt hI.1 rm lt tk ov fv fs fd fo F fg fp Y hI) rfl rfl (by decide) (by decide) (by decide) hk hn (fun v w hv => ?_) (fun v w9 v2 w3 hv hv2 => ?_)
  · obtain ⟨z, rfl, -⟩ := hv
    exact Nat.le_of_ble_eq_true rfl
  obtain ⟨z, rfl, rfl, hX1⟩ := hv
  obtain ⟨z2, rfl, rfl, hM1⟩ := hv2
  refine g_icmp_eqS 1425 C dL_law_1296 (by decide) ?_
  exact K _ _ _ _ _ _ _ _ _ _ _ _ hI hX1 hM1
set_option maxHeartbeats 4000000 in
set_option maxRecDepth 100000 in
theorem lc_bestToPrint (l : Launch) (hl9 : l.stackTraces = false) {E : gEnv} {D : va_G} {cI cG cJ : ClassId} {h o b N k n : Nat} {ad a2 bd pd am : Nat → Nat} {xs : Nat → Int32} {i : Int} (C : gC E l room_1 D 9 RL cL_law cI cG cJ) (hS : gScr E b N xs) (hN : N ≤ 2000) (hi : 0 ≤ i) (hi2 : i + 2 < N) (hk : k + 4 ≤ 601024) (hn : n + 40 ≤ 7293034) (K : LK E cI cG cJ h ad a2 bd pd am o b i (k + 4) (n + 40) 1425) : LK E cI cG cJ h ad a2 bd pd am o b i k n 1301 := by
  intro cnt fv fs fd rm lt tk ov w1 w2 th f1 hI hX hM
  obtain ⟨c2, gv, gs, gd, tc, tr, ft, tv, tu, fc, M, fa, fb, N', rfl⟩ := hX
  obtain ⟨fo, F, fg, fp, Y, rfl⟩ := hM
  refine l_call0 1301 175 178 C ⟨dL_law_1301, dL_law_1302, dL_law_1305, dL_law_1306⟩ cL_175 cL_178 (met_X3_bestToPrint l D cI cG cJ h ad a2 bd pd cnt fv fs fd rm lt tk ov hI c2 gv gs gd tc tr ft tv tu fc M fa fb N') (met_X4_bestToPrint l D cI cG cJ am th cnt hI.1 rm lt tk ov fv fs fd fo F fg fp Y hI) rfl rfl (by decide) (by decide) (by decide) hk hn (fun v w hv => ?_) (fun v w9 v2 w3 hv hv2 => ?_)
  · obtain ⟨z, rfl, -⟩ := hv
    exact Nat.le_of_ble_eq_true rfl
  obtain ⟨z, rfl, rfl, hX1⟩ := hv
  obtain ⟨z2, rfl, rfl, hM1⟩ := hv2
  refine g_icmp_eqS 1425 C dL_law_1309 (by decide) ?_
  exact K _ _ _ _ _ _ _ _ _ _ _ _ hI hX1 hM1
set_option maxHeartbeats 4000000 in
set_option maxRecDepth 100000 in
theorem lc_reachWithRoom (l : Launch) (hl9 : l.stackTraces = false) {E : gEnv} {D : va_G} {cI cG cJ : ClassId} {h o b N k n : Nat} {ad a2 bd pd am : Nat → Nat} {xs : Nat → Int32} {i : Int} (C : gC E l room_1 D 9 RL cL_law cI cG cJ) (hS : gScr E b N xs) (hN : N ≤ 2000) (hi : 0 ≤ i) (hi2 : i + 2 < N) (hk : k + 4 ≤ 601024) (hn : n + 40 ≤ 7293034) (K : LK E cI cG cJ h ad a2 bd pd am o b i (k + 4) (n + 40) 1425) : LK E cI cG cJ h ad a2 bd pd am o b i k n 1314 := by
  intro cnt fv fs fd rm lt tk ov w1 w2 th f1 hI hX hM
  obtain ⟨c2, gv, gs, gd, tc, tr, ft, tv, tu, fc, M, fa, fb, N', rfl⟩ := hX
  obtain ⟨fo, F, fg, fp, Y, rfl⟩ := hM
  refine l_call1 1314 179 181 C hS hN hi hi2 ⟨dL_law_1314, dL_law_1315, dL_law_1316, dL_law_1318, dL_law_1319, dL_law_1320, dL_law_1321, dL_law_1322, dL_law_1325, dL_law_1327, dL_law_1328, dL_law_1329, dL_law_1331, dL_law_1332, dL_law_1333, dL_law_1334, dL_law_1337⟩ hL_179 cL_181 (met_L_reachWithRoom l hl9 D cI cG cJ h ad a2 bd pd cnt fv fs fd rm lt tk ov hI c2 gv gs gd tc tr ft tv tu fc M fa fb N' o f1 _ (zr_of _)) (met_X4_reachWithRoom l D cI cG cJ am th cnt hI.1 rm lt tk ov fv fs fd fo F fg fp Y hI _ (zr_of _)) rfl (by decide) (by decide) (by decide) hk hn (fun z w9 z2 w3 hz hz2 => ?_)
  obtain ⟨w1, f1, e1, hz⟩ := hz
  have e1 : w9 = w1 ++ oJ o cJ f1 := e1
  subst e1
  rcases hz with ⟨rfl, ⟨ha, hv⟩, hX1⟩ | ⟨rfl, ha, hX1⟩
  · rcases hz2 with ⟨hb, rfl, hM1⟩ | ⟨hb, rfl, hM1⟩
    · exact l_tail 1339 (58) C ⟨dL_law_1339, dL_law_1340, dL_law_1343, dL_law_1345, dL_law_1350, dL_law_1352, dL_law_1355, dL_law_1356, dL_law_1357, dL_law_1358, dL_law_1360, dL_law_1361, dL_law_1362, dL_law_1367, by decide⟩ (Or.inl rfl) (fun _ => hv) hk hn (hI) hX1 hM1 K
    · exact absurd ha hb
  · rcases hz2 with ⟨hb, rfl, hM1⟩ | ⟨hb, rfl, hM1⟩
    · exact absurd hb ha
    · exact l_tail 1339 (58) C ⟨dL_law_1339, dL_law_1340, dL_law_1343, dL_law_1345, dL_law_1350, dL_law_1352, dL_law_1355, dL_law_1356, dL_law_1357, dL_law_1358, dL_law_1360, dL_law_1361, dL_law_1362, dL_law_1367, by decide⟩ (Or.inr (Or.inl rfl)) (fun h9 => absurd h9 (by decide)) hk hn (hI) hX1 hM1 K
set_option maxHeartbeats 4000000 in
set_option maxRecDepth 100000 in
theorem lc_digest (l : Launch) (hl9 : l.stackTraces = false) {E : gEnv} {D : va_G} {cI cG cJ : ClassId} {h o b N k n : Nat} {ad a2 bd pd am : Nat → Nat} {xs : Nat → Int32} {i : Int} (C : gC E l room_1 D 9 RL cL_law cI cG cJ) (hS : gScr E b N xs) (hN : N ≤ 2000) (hi : 0 ≤ i) (hi2 : i + 2 < N) (hk : k + 4 ≤ 601024) (hn : n + 40 ≤ 7293034) (K : LK E cI cG cJ h ad a2 bd pd am o b i (k + 4) (n + 40) 1425) : LK E cI cG cJ h ad a2 bd pd am o b i k n 1411 := by
  intro cnt fv fs fd rm lt tk ov w1 w2 th f1 hI hX hM
  obtain ⟨c2, gv, gs, gd, tc, tr, ft, tv, tu, fc, M, fa, fb, N', rfl⟩ := hX
  obtain ⟨fo, F, fg, fp, Y, rfl⟩ := hM
  refine l_call0 1411 187 191 C ⟨dL_law_1411, dL_law_1412, dL_law_1415, dL_law_1416⟩ cL_187 cL_191 (met_X3_digest l D cI cG cJ h ad a2 bd pd cnt fv fs fd rm lt tk ov hI c2 gv gs gd tc tr ft tv tu fc M fa fb N') (met_X4_digest l D cI cG cJ am th cnt hI.1 rm lt tk ov fv fs fd fo F fg fp Y hI) rfl rfl (by decide) (by decide) (by decide) hk hn (fun v w hv => ?_) (fun v w9 v2 w3 hv hv2 => ?_)
  · obtain ⟨z, rfl, -⟩ := hv
    exact Nat.le_of_ble_eq_true rfl
  obtain ⟨z, rfl, rfl, hX1⟩ := hv
  obtain ⟨z2, rfl, rfl, hM1⟩ := hv2
  refine g_lcmpS C dL_law_1419 ?_
  refine g_if_eqS 1425 C dL_law_1420 (by decide) ?_
  exact K _ _ _ _ _ _ _ _ _ _ _ _ hI hX1 hM1
set_option maxHeartbeats 4000000 in
set_option maxRecDepth 100000 in
theorem lc_meanValue (l : Launch) (hl9 : l.stackTraces = false) {E : gEnv} {D : va_G} {cI cG cJ : ClassId} {h o b N k n : Nat} {ad a2 bd pd am : Nat → Nat} {xs : Nat → Int32} {i : Int} (C : gC E l room_1 D 9 RL cL_law cI cG cJ) (hS : gScr E b N xs) (hN : N ≤ 2000) (hi : 0 ≤ i) (hi2 : i + 2 < N) (hk : k + 4 ≤ 601024) (hn : n + 40 ≤ 7293034) (K : LK E cI cG cJ h ad a2 bd pd am o b i (k + 4) (n + 40) 1425) : LK E cI cG cJ h ad a2 bd pd am o b i k n 1370 := by
  intro cnt fv fs fd rm lt tk ov w1 w2 th f1 hI hX hM
  obtain ⟨c2, gv, gs, gd, tc, tr, ft, tv, tu, fc, M, fa, fb, N', rfl⟩ := hX
  obtain ⟨fo, F, fg, fp, Y, rfl⟩ := hM
  refine g_eqw (List.append_assoc _ _ _) ?_
  refine g_aload_n C dL_law_1370 1 rfl ?_
  refine g_callV (wr := oJ o cJ f1 ++ wM am cI cG th (cnt : Int) rm lt tk ov fv fs fd fo F fg fp Y) (st := []) _ _ C cL_182 (met_X3_meanValue l D cI cG cJ h ad a2 bd pd cnt fv fs fd rm lt tk ov hI c2 gv gs gd tc tr ft tv tu fc M fa fb N') gSp_l (q0 := 0) rfl rfl (by decide) ⟨show k + 0 ≤ 601024 by omega, show n + 0 ≤ 7293034 by omega⟩ rfl rfl (Nat.zero_le _) dL_law_1371 ?_
  rintro v9 w9 ⟨z, rfl, hz, hX1⟩
  refine g_swap ?_
  refine g_eqw (List.append_assoc _ _ _).symm ?_
  refine g_dstore (L' := (5, .double z) :: lL h (am 0) o b i) C dL_law_1374 (by decide) rfl ?_
  refine g_aload_n C dL_law_1376 3 rfl ?_
  refine g_callV (wr := w9 ++ oJ o cJ f1) (st := []) _ _ C cL_186 (met_X4_meanValue l D cI cG cJ am th cnt hI.1 rm lt tk ov fv fs fd fo F fg fp Y hI) gSp_r (q0 := (w9 ++ oJ o cJ f1).length) (at_r rfl) rfl (by decide) ⟨show k + 0 + 0 ≤ 601024 by omega, show n + 0 + 0 ≤ 7293034 by omega⟩ rfl rfl (Nat.zero_le _) dL_law_1377 ?_
  rintro v8 w3 ⟨z2, rfl, hz2, hM1⟩
  have e9 : z2 = z := hz2.trans hz.symm
  subst e9
  have hend : gW E (k + 4) (n + 40) ((w9 ++ oJ o cJ f1) ++ w3) 1408 ((7, .double z2) :: (5, .double z2) :: lL h (am 0) o b i) [] := by
    refine g_goto 1425 C dL_law_1408 (by decide) ?_
    refine g_loc (L' := lL h (am 0) o b i) [2, 3, 4, 5, 6] rfl ?_
    exact K _ _ _ _ _ _ _ _ _ _ _ _ hI hX1 hM1
  refine g_widen (k' := k + 4) (n' := n + 40) (show k + 0 + 0 ≤ k + 4 by omega) (show n + 0 + 0 ≤ n + 40 by omega) ?_
  refine g_dstore (L' := (7, .double z2) :: (5, .double z2) :: lL h (am 0) o b i) C dL_law_1380 (by decide) rfl ?_
  obtain ⟨a, ha, hv⟩ := zI_ex (Op.cmpValue (FP.dcmp z2 z2) .l)
  refine g_dload C dL_law_1382 1 rfl ?_
  refine g_dload C dL_law_1384 0 rfl ?_
  refine g_dcmp C dL_law_1386 ?_
  rw [hv]
  refine g_if_eq 1408 C dL_law_1387 (by decide) ha (fun _ => hend) (fun h0 => ?_)
  refine g_dload C dL_law_1390 1 rfl ?_
  refine g_dload C dL_law_1392 1 rfl ?_
  refine g_dcmp C dL_law_1394 ?_
  rw [hv]
  refine g_if_eq 1406 C dL_law_1395 (by decide) ha (fun h => absurd h h0) (fun _ => ?_)
  refine g_dload C dL_law_1398 0 rfl ?_
  refine g_dload C dL_law_1400 0 rfl ?_
  refine g_dcmp C dL_law_1402 ?_
  rw [hv]
  exact g_if_ne 1408 C dL_law_1403 (by decide) ha (fun _ => hend) (fun h => absurd h h0)
