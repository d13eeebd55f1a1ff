/-! the law's walk: its calls and compares, once for all -/
abbrev oJ (o : Nat) (cJ : ClassId) (f1 : Nat → Int64) : va_W := [(o, .inl (cJ, 1, .inr (.inl f1)))]
abbrev lL (h am o b : Nat) (i : Int) : List (Nat × Value) := [(0, .ref b), (1, .ref h), (2, .ref am), (3, .ref o), (4, .int (zI i))]
/-- where both sides are equal -/
def LK (E : gEnv) (cI cG cJ : ClassId) (h : Nat) (ad a2 bd pd am : Nat → Nat) (o b : Nat) (i : Int) (k n pc : Nat) : Prop := ∀ (cnt : Nat) (fv fs fd : Nat → Int) (rm lt tk ov : Int) (w1 w2 : va_W) (th : Int) (f1 : Nat → Int64), XI cnt fv fs rm → XW h ad a2 bd pd cI cG cnt fv fs fd rm lt tk ov w1 → MW am cI cG th cnt rm lt tk ov fv fs fd w2 → gW E k n ((w1 ++ oJ o cJ f1) ++ w2) pc (lL h (am 0) o b i) []
/-- the instructions of a compare -/
def gTl (p : Nat) (off : Int) : Prop := decode cL_law p = .ok (.aload_n 2, 1) ∧ decode cL_law (p + 1) = .ok (.invokevirtual 82, 3) ∧ decode cL_law (p + 4) = .ok (.iload 5, 2) ∧ decode cL_law (p + 6) = .ok (.if_icmp .eq 5, 3) ∧ decode cL_law (p + 11) = .ok (.iload 5, 2) ∧ decode cL_law (p + 13) = .ok (.ifCond .ne 15, 3) ∧ decode cL_law (p + 16) = .ok (.aload_n 3, 1) ∧ decode cL_law (p + 17) = .ok (.iconst 0, 1) ∧ decode cL_law (p + 18) = .ok (.laload, 1) ∧ decode cL_law (p + 19) = .ok (.iload 6, 2) ∧ decode cL_law (p + 21) = .ok (.i2l, 1) ∧ decode cL_law (p + 22) = .ok (.lcmp, 1) ∧ decode cL_law (p + 23) = .ok (.ifCond .eq 5, 3) ∧ decode cL_law (p + 28) = .ok (.goto off, 3) ∧ (p : Int) + 28 + off = 1425
/-- the instructions of a call with one number, with two -/
def gC1 (p ix iy : Nat) : Prop := decode cL_law p = .ok (.aload_n 1, 1) ∧ decode cL_law (p + 1) = .ok (.aload_n 0, 1) ∧ decode cL_law (p + 2) = .ok (.iload 4, 2) ∧ decode cL_law (p + 4) = .ok (.iconst 1, 1) ∧ decode cL_law (p + 5) = .ok (.iadd, 1) ∧ decode cL_law (p + 6) = .ok (.iaload, 1) ∧ decode cL_law (p + 7) = .ok (.aload_n 3, 1) ∧ decode cL_law (p + 8) = .ok (.invokestatic ix, 3) ∧ decode cL_law (p + 11) = .ok (.istore 5, 2) ∧ decode cL_law (p + 13) = .ok (.aload_n 2, 1) ∧ decode cL_law (p + 14) = .ok (.aload_n 0, 1) ∧ decode cL_law (p + 15) = .ok (.iload 4, 2) ∧ decode cL_law (p + 17) = .ok (.iconst 1, 1) ∧ decode cL_law (p + 18) = .ok (.iadd, 1) ∧ decode cL_law (p + 19) = .ok (.iaload, 1) ∧ decode cL_law (p + 20) = .ok (.invokevirtual iy, 3) ∧ decode cL_law (p + 23) = .ok (.istore 6, 2)
def gC2 (p ix iy : Nat) : Prop := decode cL_law p = .ok (.aload_n 1, 1) ∧ decode cL_law (p + 1) = .ok (.aload_n 0, 1) ∧ decode cL_law (p + 2) = .ok (.iload 4, 2) ∧ decode cL_law (p + 4) = .ok (.iconst 1, 1) ∧ decode cL_law (p + 5) = .ok (.iadd, 1) ∧ decode cL_law (p + 6) = .ok (.iaload, 1) ∧ decode cL_law (p + 7) = .ok (.aload_n 0, 1) ∧ decode cL_law (p + 8) = .ok (.iload 4, 2) ∧ decode cL_law (p + 10) = .ok (.iconst 2, 1) ∧ decode cL_law (p + 11) = .ok (.iadd, 1) ∧ decode cL_law (p + 12) = .ok (.iaload, 1) ∧ decode cL_law (p + 13) = .ok (.aload_n 3, 1) ∧ decode cL_law (p + 14) = .ok (.invokestatic ix, 3) ∧ decode cL_law (p + 17) = .ok (.istore 5, 2) ∧ decode cL_law (p + 19) = .ok (.aload_n 2, 1) ∧ decode cL_law (p + 20) = .ok (.aload_n 0, 1) ∧ decode cL_law (p + 21) = .ok (.iload 4, 2) ∧ decode cL_law (p + 23) = .ok (.iconst 1, 1) ∧ decode cL_law (p + 24) = .ok (.iadd, 1) ∧ decode cL_law (p + 25) = .ok (.iaload, 1) ∧ decode cL_law (p + 26) = .ok (.aload_n 0, 1) ∧ decode cL_law (p + 27) = .ok (.iload 4, 2) ∧ decode cL_law (p + 29) = .ok (.iconst 2, 1) ∧ decode cL_law (p + 30) = .ok (.iadd, 1) ∧ decode cL_law (p + 31) = .ok (.iaload, 1) ∧ decode cL_law (p + 32) = .ok (.invokevirtual iy, 3) ∧ decode cL_law (p + 35) = .ok (.istore 6, 2)
def gC0 (p ix iy : Nat) : Prop := decode cL_law p = .ok (.aload_n 1, 1) ∧ decode cL_law (p + 1) = .ok (.invokevirtual ix, 3) ∧ decode cL_law (p + 4) = .ok (.aload_n 2, 1) ∧ decode cL_law (p + 5) = .ok (.invokevirtual iy, 3)
section LC
variable {E : gEnv} {l : Launch} {D : va_G} {cI cG cJ : ClassId} {h o b N k n : Nat} {ad a2 bd pd am : Nat → Nat} {xs : Nat → Int32} {i : Int}
variable {cnt : Nat} {fv fs fd : Nat → Int} {rm lt tk ov : Int} {w1 w2 : va_W} {f1 : Nat → Int64}
set_option maxHeartbeats 4000000 in
/-- the model's exception, asked; then both answers, where there is none -/
theorem l_thrown {p : Nat} {z z2 : Int} (C : gC E l room_1 D 9 RL cL_law cI cG cJ) (d0 : decode cL_law p = .ok (.aload_n 2, 1)) (d1 : decode cL_law (p + 1) = .ok (.invokevirtual 82, 3)) (d4 : decode cL_law (p + 4) = .ok (.iload 5, 2)) (d6 : decode cL_law (p + 6) = .ok (.if_icmp .eq 5, 3)) (hc : cnt ≤ 8) (hk : k ≤ 601024) (hn : n ≤ 7293034) (hM : MW am cI cG z cnt rm lt tk ov fv fs fd w2) (K : ∀ w3, MW am cI cG z cnt rm lt tk ov fv fs fd w3 → gW E k n ((w1 ++ oJ o cJ f1) ++ w3) (p + 11) ((6, .int (zI z2)) :: (5, .int (zI z)) :: lL h (am 0) o b i) []) : gW E k n ((w1 ++ oJ o cJ f1) ++ w2) p ((6, .int (zI z2)) :: (5, .int (zI z)) :: lL h (am 0) o b i) [] := by
  obtain ⟨fo, F, fg, fp, Y, rfl⟩ := hM
  refine g_aload_n C d0 4 rfl ?_
  refine g_callV (wr := w1 ++ oJ o cJ f1) (st := []) _ _ C cL_82 (met_X4_thrown l D cI cG cJ am z cnt hc rm lt tk ov fv fs fd fo F fg fp Y) gSp_r (q0 := (w1 ++ oJ o cJ f1).length) (at_r rfl) rfl (by decide) ⟨hk, hn⟩ rfl rfl (Nat.zero_le _) d1 ?_
  rintro v9 w9 ⟨z9, rfl, rfl, rfl⟩
  refine g_ws (w' := (w1 ++ oJ o cJ f1) ++ wM am cI cG z9 (cnt : Int) rm lt tk ov fv fs fd fo F fg fp Y) (st' := [.int (zI z9)]) rfl rfl ?_
  refine g_iload C d4 1 rfl ?_
  refine g_icmp_eqS (p + 11) C d6 (by omega) ?_
  exact K _ ⟨fo, F, fg, fp, Y, rfl⟩
set_option maxHeartbeats 4000000 in
theorem l_tail (p : Nat) (off : Int) {z z2 : Int} (C : gC E l room_1 D 9 RL cL_law cI cG cJ) (hd : gTl p off) (hz : z = 0 ∨ z = 1 ∨ z = 2) (hv : z = 0 → f1 0 = (zI z2).toInt64) (hk : k ≤ 601024) (hn : n ≤ 7293034) (hI : XI cnt fv fs rm) (hX : XW h ad a2 bd pd cI cG cnt fv fs fd rm lt tk ov w1) (hM : MW am cI cG z cnt rm lt tk ov fv fs fd w2) (K : LK E cI cG cJ h ad a2 bd pd am o b i k n 1425) : gW E k n ((w1 ++ oJ o cJ f1) ++ w2) p ((6, .int (zI z2)) :: (5, .int (zI z)) :: lL h (am 0) o b i) [] := by
  obtain ⟨d0, d1, d4, d6, d11, d13, d16, d17, d18, d19, d21, d22, d23, d28, hoff⟩ := hd
  refine l_thrown C d0 d1 d4 d6 hI.1 hk hn hM (fun w3 hM => ?_)
  have hend : gW E k n ((w1 ++ oJ o cJ f1) ++ w3) (p + 28) ((6, .int (zI z2)) :: (5, .int (zI z)) :: lL h (am 0) o b i) [] := by
    refine g_goto 1425 C d28 (by omega) ?_
    refine g_loc (L' := lL h (am 0) o b i) [2, 3, 4, 5, 6] rfl ?_
    exact K _ _ _ _ _ _ _ _ _ _ _ _ hI hX hM
  refine g_iload C d11 1 rfl ?_
  refine g_if_ne (p + 28) C d13 (by omega) (by rcases hz with rfl | rfl | rfl <;> exact ⟨by decide, by decide⟩) (fun _ => hend) (fun hz0 => ?_)
  refine g_aload_n C d16 5 rfl ?_
  refine g_iconst C d17 ?_
  refine g_lald C w1.length at_m (by decide) (by decide) (by decide) d18 ?_
  refine g_iload C d19 0 rfl ?_
  refine g_i2l C d21 ?_
  rw [show f1 ((0 : Int).toNat) = (zI z2).toInt64 from hv hz0]
  refine g_lcmpS C d22 ?_
  exact g_if_eqS (p + 28) C d23 (by omega) hend
set_option maxHeartbeats 4000000 in
theorem l_call1 (p ix iy : Nat) {y y2 : MethodName} {bb b2 : ByteArray} {nL' nL2 : Nat} {ret2 : Option FieldType} {hh : List (Nat × Nat × Nat × Nat)} {rm1 rm2 : Room} {PL PM : Int → va_W → Prop} {fl : List Value} (C : gC E l room_1 D 9 RL cL_law cI cG cJ) (hS : gScr E b N xs) (hN : N ≤ 2000) (hi : 0 ≤ i) (hi2 : i + 2 < N) (hd : gC1 p ix iy) (fL : gSH RL ix y bb nL' (some .int) hh 3) (fM : gV RL iy y2 b2 nL2 ret2 1 RX4) (hL : gMH l y bb nL' (some .int) hh rm1 D cI cG cJ [.ref h, .int (zI (xs (i + 1).toNat).toInt), .ref o] (w1 ++ oJ o cJ f1) (gI PL)) (hM : gMet l y2 b2 nL2 ret2 rm2 D cI cG cJ [.ref (am 0), .int (zI (xs (i + 1).toNat).toInt)] w2 (gI PM)) (hw2 : w2[0]? = some (am 0, .inr (4, fl))) (r1 : rm1.frames + 1 ≤ 11 ∧ 8 + (nL' + 11) + rm1.locals ≤ 378) (r2 : rm2.frames + 1 ≤ 11 ∧ 8 + (nL2 + 11) + rm2.locals ≤ 378) (r3 : rm1.cells + rm2.cells ≤ 4 ∧ rm1.slots + rm2.slots ≤ 40) (hk : k + 4 ≤ 601024) (hn : n + 40 ≤ 7293034) (K : ∀ z w9 z2 w3, PL z w9 → PM z2 w3 → gW E (k + 4) (n + 40) (w9 ++ w3) (p + 25) ((6, .int (zI z2)) :: (5, .int (zI z)) :: lL h (am 0) o b i) []) : gW E k n ((w1 ++ oJ o cJ f1) ++ w2) p (lL h (am 0) o b i) [] := by
  obtain ⟨d0, d1, d2, d4, d5, d6, d7, d8, d11, d13, d14, d15, d17, d18, d19, d20, d23⟩ := hd
  obtain ⟨r31, r32⟩ := r3
  refine g_aload_n C d0 1 rfl ?_
  refine g_aload_n C d1 0 rfl ?_
  refine g_iload C d2 4 rfl ?_
  refine g_iconst C d4 ?_
  refine g_iadd C d5 ?_
  refine g_sld C hS hN (by omega) (by omega) d6 ?_
  refine g_aload_n C d7 3 rfl ?_
  refine g_callH (wr := w2) (st := []) _ _ C fL hL gSp_l r1 ⟨show k + rm1.cells ≤ 601024 by omega, show n + rm1.slots ≤ 7293034 by omega⟩ rfl rfl (Nat.zero_le _) d8 ?_
  rintro v9 w9 ⟨z, rfl, hz⟩
  refine g_istore (L' := (5, .int (zI z)) :: lL h (am 0) o b i) C d11 (by decide) rfl ?_
  refine g_aload_n C d13 3 rfl ?_
  refine g_aload_n C d14 1 rfl ?_
  refine g_iload C d15 5 rfl ?_
  refine g_iconst C d17 ?_
  refine g_iadd C d18 ?_
  refine g_sld C hS hN (by omega) (by omega) d19 ?_
  refine g_callV (wr := w9) (st := []) _ _ C fM hM gSp_l (q0 := 0) (hat_l hw2) rfl r2 ⟨show k + rm1.cells + rm2.cells ≤ 601024 by omega, show n + rm1.slots + rm2.slots ≤ 7293034 by omega⟩ rfl rfl (Nat.zero_le _) d20 ?_
  rintro v8 w3 ⟨z2, rfl, hz2⟩
  refine g_istore (L' := (6, .int (zI z2)) :: (5, .int (zI z)) :: lL h (am 0) o b i) C d23 (by decide) rfl ?_
  exact g_widen (by omega) (by omega) (K z w9 z2 w3 hz hz2)
set_option maxHeartbeats 4000000 in
theorem l_call2 (p ix iy : Nat) {y y2 : MethodName} {bb b2 : ByteArray} {nL' nL2 : Nat} {ret2 : Option FieldType} {hh : List (Nat × Nat × Nat × Nat)} {rm1 rm2 : Room} {PL PM : Int → va_W → Prop} {fl : List Value} (C : gC E l room_1 D 9 RL cL_law cI cG cJ) (hS : gScr E b N xs) (hN : N ≤ 2000) (hi : 0 ≤ i) (hi2 : i + 2 < N) (hd : gC2 p ix iy) (fL : gSH RL ix y bb nL' (some .int) hh 4) (fM : gV RL iy y2 b2 nL2 ret2 2 RX4) (hL : gMH l y bb nL' (some .int) hh rm1 D cI cG cJ [.ref h, .int (zI (xs (i + 1).toNat).toInt), .int (zI (xs (i + 2).toNat).toInt), .ref o] (w1 ++ oJ o cJ f1) (gI PL)) (hM : gMet l y2 b2 nL2 ret2 rm2 D cI cG cJ [.ref (am 0), .int (zI (xs (i + 1).toNat).toInt), .int (zI (xs (i + 2).toNat).toInt)] w2 (gI PM)) (hw2 : w2[0]? = some (am 0, .inr (4, fl))) (r1 : rm1.frames + 1 ≤ 11 ∧ 8 + (nL' + 11) + rm1.locals ≤ 378) (r2 : rm2.frames + 1 ≤ 11 ∧ 8 + (nL2 + 11) + rm2.locals ≤ 378) (r3 : rm1.cells + rm2.cells ≤ 4 ∧ rm1.slots + rm2.slots ≤ 40) (hk : k + 4 ≤ 601024) (hn : n + 40 ≤ 7293034) (K : ∀ z w9 z2 w3, PL z w9 → PM z2 w3 → gW E (k + 4) (n + 40) (w9 ++ w3) (p + 37) ((6, .int (zI z2)) :: (5, .int (zI z)) :: lL h (am 0) o b i) []) : gW E k n ((w1 ++ oJ o cJ f1) ++ w2) p (lL h (am 0) o b i) [] := by
  obtain ⟨d0, d1, d2, d4, d5, d6, d7, d8, d10, d11, d12, d13, d14, d17, d19, d20, d21, d23, d24, d25, d26, d27, d29, d30, d31, d32, d35⟩ := hd
  obtain ⟨r31, r32⟩ := r3
  refine g_aload_n C d0 1 rfl ?_
  refine g_aload_n C d1 0 rfl ?_
  refine g_iload C d2 4 rfl ?_
  refine g_iconst C d4 ?_
  refine g_iadd C d5 ?_
  refine g_sld C hS hN (by omega) (by omega) d6 ?_
  refine g_aload_n C d7 0 rfl ?_
  refine g_iload C d8 4 rfl ?_
  refine g_iconst C d10 ?_
  refine g_iadd C d11 ?_
  refine g_sld C hS hN (by omega) (by omega) d12 ?_
  refine g_aload_n C d13 3 rfl ?_
  refine g_callH (wr := w2) (st := []) _ _ C fL hL gSp_l r1 ⟨show k + rm1.cells ≤ 601024 by omega, show n + rm1.slots ≤ 7293034 by omega⟩ rfl rfl (Nat.zero_le _) d14 ?_
  rintro v9 w9 ⟨z, rfl, hz⟩
  refine g_istore (L' := (5, .int (zI z)) :: lL h (am 0) o b i) C d17 (by decide) rfl ?_
  refine g_aload_n C d19 3 rfl ?_
  refine g_aload_n C d20 1 rfl ?_
  refine g_iload C d21 5 rfl ?_
  refine g_iconst C d23 ?_
  refine g_iadd C d24 ?_
  refine g_sld C hS hN (by omega) (by omega) d25 ?_
  refine g_aload_n C d26 1 rfl ?_
  refine g_iload C d27 5 rfl ?_
  refine g_iconst C d29 ?_
  refine g_iadd C d30 ?_
  refine g_sld C hS hN (by omega) (by omega) d31 ?_
  refine g_callV (wr := w9) (st := []) _ _ C fM hM gSp_l (q0 := 0) (hat_l hw2) rfl r2 ⟨show k + rm1.cells + rm2.cells ≤ 601024 by omega, show n + rm1.slots + rm2.slots ≤ 7293034 by omega⟩ rfl rfl (Nat.zero_le _) d32 ?_
  rintro v8 w3 ⟨z2, rfl, hz2⟩
  refine g_istore (L' := (6, .int (zI z2)) :: (5, .int (zI z)) :: lL h (am 0) o b i) C d35 (by decide) rfl ?_
  exact g_widen (by omega) (by omega) (K z w9 z2 w3 hz hz2)
set_option maxHeartbeats 4000000 in
/-- calls that ask alone: both answers are on the stack -/
theorem l_call0 (p ix iy : Nat) {y y2 : MethodName} {bb b2 : ByteArray} {nL' nL2 : Nat} {ret : Option FieldType} {rm1 rm2 : Room} {PL PM : Option Value → va_W → Prop} {fl fl3 : List Value} (C : gC E l room_1 D 9 RL cL_law cI cG cJ) (hd : gC0 p ix iy) (fL : gV RL ix y bb nL' ret 0 RX3) (fM : gV RL iy y2 b2 nL2 ret 0 RX4) (hL : gMet l y bb nL' ret rm1 D cI cG cJ [.ref h] w1 PL) (hM : gMet l y2 b2 nL2 ret rm2 D cI cG cJ [.ref (am 0)] w2 PM) (hw1 : w1[0]? = some (h, .inr (3, fl3))) (hw2 : w2[0]? = some (am 0, .inr (4, fl))) (r1 : rm1.frames + 1 ≤ 11 ∧ 8 + (nL' + 11) + rm1.locals ≤ 378) (r2 : rm2.frames + 1 ≤ 11 ∧ 8 + (nL2 + 11) + rm2.locals ≤ 378) (r3 : rm1.cells + rm2.cells ≤ 4 ∧ rm1.slots + rm2.slots ≤ 40) (hk : k + 4 ≤ 601024) (hn : n + 40 ≤ 7293034) (hcat : ∀ v w, PL v w → ((v.toList).map fun v => v.category).sum ≤ 8) (K : ∀ v w9 v2 w3, PL v w9 → PM v2 w3 → gW E (k + 4) (n + 40) ((w9 ++ oJ o cJ f1) ++ w3) (p + 8) (lL h (am 0) o b i) (v2.toList ++ v.toList)) : gW E k n ((w1 ++ oJ o cJ f1) ++ w2) p (lL h (am 0) o b i) [] := by
  obtain ⟨d0, d1, d4, d5⟩ := hd
  obtain ⟨r31, r32⟩ := r3
  refine g_eqw (List.append_assoc _ _ _) ?_
  refine g_aload_n C d0 1 rfl ?_
  refine g_callV (wr := oJ o cJ f1 ++ w2) (st := []) _ _ C fL hL gSp_l (q0 := 0) (hat_l hw1) rfl r1 ⟨show k + rm1.cells ≤ 601024 by omega, show n + rm1.slots ≤ 7293034 by omega⟩ rfl rfl (Nat.zero_le _) d1 ?_
  intro v w9 hv
  refine g_swap ?_
  refine g_eqw (List.append_assoc _ _ _).symm ?_
  refine g_aload_n C d4 2 rfl ?_
  refine g_callV (wr := w9 ++ oJ o cJ f1) (st := v.toList) _ _ C fM hM gSp_r (q0 := (w9 ++ oJ o cJ f1).length) (at_r hw2) rfl r2 ⟨show k + rm1.cells + rm2.cells ≤ 601024 by omega, show n + rm1.slots + rm2.slots ≤ 7293034 by omega⟩ rfl (by rw [List.append_nil]; rfl) (hcat v w9 hv) d5 ?_
  intro v2 w3 hv2
  exact g_widen (by omega) (by omega) (K v w9 v2 w3 hv hv2)
end LC
