/-! the law's loop -/
def gRL (E : gEnv) : Prop := ∀ (k n : Nat) (w : va_W) (pc : Nat) (L : List (Nat × Value)), k ≤ 601024 → n ≤ 7293034 → decode cL_law pc = .ok (.ireturn, 1) → gW E k n w pc L [.int (zI 1)]
set_option maxHeartbeats 4000000 in
theorem l_head (l : Launch) (hl9 : l.stackTraces = false) {E : gEnv} {D : va_G} {cI cG cJ : ClassId} {h o b N : Nat} {ad a2 bd pd am : Nat → Nat} {xs : Nat → Int32} (C : gC E l room_1 D 9 RL cL_law cI cG cJ) (hS : gScr E b N xs) (hN : N ≤ 2000) (hret : gRL E) {i : Int} {k n : Nat} (hi : 0 ≤ i) (hi9 : i ≤ 3000) (hk : k ≤ 601024) (hn : n ≤ 7293034) (K : i + 2 < (N : Int) → LK E cI cG cJ h ad a2 bd pd am o b i k n 32) : LK E cI cG cJ h ad a2 bd pd am o b i k n 23 := by
  intro cnt fv fs fd rm lt tk ov w1 w2 th f1 hI hX hM
  refine g_iload C dL_law_23 4 rfl ?_
  refine g_aload_n C dL_law_25 0 rfl ?_
  refine g_slen C hS dL_law_26 ?_
  refine g_iconst C dL_law_27 ?_
  refine g_isub C dL_law_28 ?_
  refine g_icmp_gt 1431 C dL_law_29 (by decide) ⟨by omega, by omega⟩ ⟨by omega, by omega⟩ (fun c9 => ?_) (fun c9 => ?_)
  · refine g_iconst C dL_law_1431 ?_
    exact hret _ _ _ _ _ hk hn dL_law_1432
  · exact K (by omega) _ _ _ _ _ _ _ _ _ _ _ _ hI hX hM
set_option maxHeartbeats 4000000 in
theorem l_next (l : Launch) (hl9 : l.stackTraces = false) {E : gEnv} {D : va_G} {cI cG cJ : ClassId} {h o b N : Nat} {ad a2 bd pd am : Nat → Nat} {xs : Nat → Int32} (C : gC E l room_1 D 9 RL cL_law cI cG cJ) (hS : gScr E b N xs) {i : Int} {k n : Nat} (K : LK E cI cG cJ h ad a2 bd pd am o b (i + 3) k n 23) : LK E cI cG cJ h ad a2 bd pd am o b i k n 1425 := by
  intro cnt fv fs fd rm lt tk ov w1 w2 th f1 hI hX hM
  refine g_iinc (L' := [(4, .int (zI (i + 3))), (0, .ref b), (1, .ref h), (2, .ref (am 0)), (3, .ref o)]) C dL_law_1425 4 rfl (by decide) rfl ?_
  refine g_goto 23 C dL_law_1428 (by decide) ?_
  refine g_loc (L' := lL h (am 0) o b (i + 3)) [1, 2, 3, 4, 0] rfl ?_
  exact K _ _ _ _ _ _ _ _ _ _ _ _ hI hX hM
set_option maxHeartbeats 8000000 in
set_option maxRecDepth 100000 in
theorem l_body (l : Launch) (hl9 : l.stackTraces = false) {E : gEnv} {D : va_G} {cI cG cJ : ClassId} {h o b N : Nat} {ad a2 bd pd am : Nat → Nat} {xs : Nat → Int32} (C : gC E l room_1 D 9 RL cL_law cI cG cJ) (hS : gScr E b N xs) (hN : N ≤ 2000) {i : Int} {k n : Nat} (hi : 0 ≤ i) (hi2 : i + 2 < (N : Int)) (hk : k + 4 ≤ 601024) (hn : n + 40 ≤ 7293034) (K : LK E cI cG cJ h ad a2 bd pd am o b (i + 3) (k + 4) (n + 40) 23) : LK E cI cG cJ h ad a2 bd pd am o b i k n 32 := by
  have K := l_next l hl9 C hS K
  intro cnt fv fs fd rm lt tk ov w1 w2 th f1 hI hX hM
  refine g_aload_n C dL_law_32 0 rfl ?_
  refine g_iload C dL_law_33 4 rfl ?_
  refine g_sld C hS hN hi (by omega) dL_law_35 ?_
  refine g_bipush C dL_law_36 (by decide) ?_
  refine g_iand C dL_law_38 ?_
  obtain ⟨v, hv, e⟩ := and31 (zI (xs i.toNat).toInt)
  rw [e]
  rcases (by omega : v = 0 ∨ v = 1 ∨ v = 2 ∨ v = 3 ∨ v = 4 ∨ v = 5 ∨ v = 6 ∨ v = 7 ∨ v = 8 ∨ v = 9 ∨ v = 10 ∨ v = 11 ∨ v = 12 ∨ v = 13 ∨ v = 14 ∨ v = 15 ∨ v = 16 ∨ v = 17 ∨ v = 18 ∨ v = 19 ∨ v = 20 ∨ v = 21 ∨ v = 22 ∨ v = 23 ∨ v = 24 ∨ v = 25 ∨ v = 26 ∨ v = 27 ∨ v = 28 ∨ v = 29 ∨ v = 30 ∨ v = 31) with rfl | rfl | rfl | rfl | rfl | rfl | rfl | rfl | rfl | rfl | rfl | rfl | rfl | rfl | rfl | rfl | rfl | rfl | rfl | rfl | rfl | rfl | rfl | rfl | rfl | rfl | rfl | rfl | rfl | rfl | rfl | rfl
  · exact g_tsIn 176 C dL_law_39 ⟨by decide, by decide⟩ (by decide) (by decide) rfl (by decide) (lc_addStamp l hl9 C hS hN hi hi2 hk hn K _ _ _ _ _ _ _ _ _ _ _ _ hI hX hM)
  · exact g_tsIn 244 C dL_law_39 ⟨by decide, by decide⟩ (by decide) (by decide) rfl (by decide) (lc_withdraw l hl9 C hS hN hi hi2 hk hn K _ _ _ _ _ _ _ _ _ _ _ _ hI hX hM)
  · exact g_tsIn 300 C dL_law_39 ⟨by decide, by decide⟩ (by decide) (by decide) rfl (by decide) (lc_print l hl9 C hS hN hi hi2 hk hn K _ _ _ _ _ _ _ _ _ _ _ _ hI hX hM)
  · exact g_tsIn 368 C dL_law_39 ⟨by decide, by decide⟩ (by decide) (by decide) rfl (by decide) (lc_setRoom l hl9 C hS hN hi hi2 hk hn K _ _ _ _ _ _ _ _ _ _ _ _ hI hX hM)
  · exact g_tsIn 424 C dL_law_39 ⟨by decide, by decide⟩ (by decide) (by decide) rfl (by decide) (lc_vend l hl9 C hS hN hi hi2 hk hn K _ _ _ _ _ _ _ _ _ _ _ _ hI hX hM)
  · exact g_tsIn 480 C dL_law_39 ⟨by decide, by decide⟩ (by decide) (by decide) rfl (by decide) (lc_stamps l hl9 C hS hN hi hi2 hk hn K _ _ _ _ _ _ _ _ _ _ _ _ hI hX hM)
  · exact g_tsIn 493 C dL_law_39 ⟨by decide, by decide⟩ (by decide) (by decide) rfl (by decide) (lc_room l hl9 C hS hN hi hi2 hk hn K _ _ _ _ _ _ _ _ _ _ _ _ hI hX hM)
  · exact g_tsIn 506 C dL_law_39 ⟨by decide, by decide⟩ (by decide) (by decide) rfl (by decide) (lc_valueOf l hl9 C hS hN hi hi2 hk hn K _ _ _ _ _ _ _ _ _ _ _ _ hI hX hM)
  · exact g_tsIn 562 C dL_law_39 ⟨by decide, by decide⟩ (by decide) (by decide) rfl (by decide) (lc_stockOf l hl9 C hS hN hi hi2 hk hn K _ _ _ _ _ _ _ _ _ _ _ _ hI hX hM)
  · exact g_tsIn 618 C dL_law_39 ⟨by decide, by decide⟩ (by decide) (by decide) rfl (by decide) (lc_vendedOf l hl9 C hS hN hi hi2 hk hn K _ _ _ _ _ _ _ _ _ _ _ _ hI hX hM)
  · exact g_tsIn 674 C dL_law_39 ⟨by decide, by decide⟩ (by decide) (by decide) rfl (by decide) (lc_letters l hl9 C hS hN hi hi2 hk hn K _ _ _ _ _ _ _ _ _ _ _ _ hI hX hM)
  · exact g_tsIn 687 C dL_law_39 ⟨by decide, by decide⟩ (by decide) (by decide) rfl (by decide) (lc_taken l hl9 C hS hN hi hi2 hk hn K _ _ _ _ _ _ _ _ _ _ _ _ hI hX hM)
  · exact g_tsIn 700 C dL_law_39 ⟨by decide, by decide⟩ (by decide) (by decide) rfl (by decide) (lc_overpaid l hl9 C hS hN hi hi2 hk hn K _ _ _ _ _ _ _ _ _ _ _ _ hI hX hM)
  · exact g_tsIn 713 C dL_law_39 ⟨by decide, by decide⟩ (by decide) (by decide) rfl (by decide) (lc_scarcest l hl9 C hS hN hi hi2 hk hn K _ _ _ _ _ _ _ _ _ _ _ _ hI hX hM)
  · exact g_tsIn 726 C dL_law_39 ⟨by decide, by decide⟩ (by decide) (by decide) rfl (by decide) (lc_canPay l hl9 C hS hN hi hi2 hk hn K _ _ _ _ _ _ _ _ _ _ _ _ hI hX hM)
  · exact g_tsIn 789 C dL_law_39 ⟨by decide, by decide⟩ (by decide) (by decide) rfl (by decide) (lc_overpay l hl9 C hS hN hi hi2 hk hn K _ _ _ _ _ _ _ _ _ _ _ _ hI hX hM)
  · exact g_tsIn 845 C dL_law_39 ⟨by decide, by decide⟩ (by decide) (by decide) rfl (by decide) (lc_stampsFor l hl9 C hS hN hi hi2 hk hn K _ _ _ _ _ _ _ _ _ _ _ _ hI hX hM)
  · exact g_tsIn 901 C dL_law_39 ⟨by decide, by decide⟩ (by decide) (by decide) rfl (by decide) (lc_ofStampFor l hl9 C hS hN hi hi2 hk hn K _ _ _ _ _ _ _ _ _ _ _ _ hI hX hM)
  · exact g_tsIn 969 C dL_law_39 ⟨by decide, by decide⟩ (by decide) (by decide) rfl (by decide) (lc_reachNow l hl9 C hS hN hi hi2 hk hn K _ _ _ _ _ _ _ _ _ _ _ _ hI hX hM)
  · exact g_tsIn 982 C dL_law_39 ⟨by decide, by decide⟩ (by decide) (by decide) rfl (by decide) (lc_most l hl9 C hS hN hi hi2 hk hn K _ _ _ _ _ _ _ _ _ _ _ _ hI hX hM)
  · exact g_tsIn 995 C dL_law_39 ⟨by decide, by decide⟩ (by decide) (by decide) rfl (by decide) (lc_fewest l hl9 C hS hN hi hi2 hk hn K _ _ _ _ _ _ _ _ _ _ _ _ hI hX hM)
  · exact g_tsIn 1051 C dL_law_39 ⟨by decide, by decide⟩ (by decide) (by decide) rfl (by decide) (lc_ways l hl9 C hS hN hi hi2 hk hn K _ _ _ _ _ _ _ _ _ _ _ _ hI hX hM)
  · exact g_tsIn 1107 C dL_law_39 ⟨by decide, by decide⟩ (by decide) (by decide) rfl (by decide) (lc_reach l hl9 C hS hN hi hi2 hk hn K _ _ _ _ _ _ _ _ _ _ _ _ hI hX hM)
  · exact g_tsIn 1120 C dL_law_39 ⟨by decide, by decide⟩ (by decide) (by decide) rfl (by decide) (lc_gapFrom l hl9 C hS hN hi hi2 hk hn K _ _ _ _ _ _ _ _ _ _ _ _ hI hX hM)
  · exact g_tsIn 1176 C dL_law_39 ⟨by decide, by decide⟩ (by decide) (by decide) rfl (by decide) (lc_gapsTo l hl9 C hS hN hi hi2 hk hn K _ _ _ _ _ _ _ _ _ _ _ _ hI hX hM)
  · exact g_tsIn 1232 C dL_law_39 ⟨by decide, by decide⟩ (by decide) (by decide) rfl (by decide) (lc_lettersOf l hl9 C hS hN hi hi2 hk hn K _ _ _ _ _ _ _ _ _ _ _ _ hI hX hM)
  · exact g_tsIn 1288 C dL_law_39 ⟨by decide, by decide⟩ (by decide) (by decide) rfl (by decide) (lc_bestValue l hl9 C hS hN hi hi2 hk hn K _ _ _ _ _ _ _ _ _ _ _ _ hI hX hM)
  · exact g_tsIn 1301 C dL_law_39 ⟨by decide, by decide⟩ (by decide) (by decide) rfl (by decide) (lc_bestToPrint l hl9 C hS hN hi hi2 hk hn K _ _ _ _ _ _ _ _ _ _ _ _ hI hX hM)
  · exact g_tsIn 1314 C dL_law_39 ⟨by decide, by decide⟩ (by decide) (by decide) rfl (by decide) (lc_reachWithRoom l hl9 C hS hN hi hi2 hk hn K _ _ _ _ _ _ _ _ _ _ _ _ hI hX hM)
  · exact g_tsIn 1370 C dL_law_39 ⟨by decide, by decide⟩ (by decide) (by decide) rfl (by decide) (lc_meanValue l hl9 C hS hN hi hi2 hk hn K _ _ _ _ _ _ _ _ _ _ _ _ hI hX hM)
  · exact g_tsIn 1411 C dL_law_39 ⟨by decide, by decide⟩ (by decide) (by decide) rfl (by decide) (lc_digest l hl9 C hS hN hi hi2 hk hn K _ _ _ _ _ _ _ _ _ _ _ _ hI hX hM)
  · exact g_tsOut 1425 C dL_law_39 ⟨by decide, by decide⟩ (Or.inr (by decide)) (by decide) (g_widen (Nat.le_add_right k 4) (Nat.le_add_right n 40) (K _ _ _ _ _ _ _ _ _ _ _ _ hI hX hM))
theorem l_loop (l : Launch) (hl9 : l.stackTraces = false) {E : gEnv} {D : va_G} {cI cG cJ : ClassId} {h o b N : Nat} {ad a2 bd pd am : Nat → Nat} {xs : Nat → Int32} (C : gC E l room_1 D 9 RL cL_law cI cG cJ) (hS : gScr E b N xs) (hN : N ≤ 2000) (hret : gRL E) : ∀ (fu : Nat) (i : Int) (k n : Nat), 0 ≤ i → i ≤ 3000 → (N : Int) - i < 3 * (fu : Int) + 3 → k + 4 * fu ≤ 601024 → n + 40 * fu ≤ 7293034 → LK E cI cG cJ h ad a2 bd pd am o b i k n 23 := by
  intro fu
  induction fu with
  | zero => exact fun i k n h0 h1 h2 h3 h4 => l_head l hl9 C hS hN hret h0 h1 (by omega) (by omega) (fun h5 => absurd h5 (by omega))
  | succ fu ih => exact fun i k n h0 h1 h2 h3 h4 => l_head l hl9 C hS hN hret h0 h1 (by omega) (by omega) (fun h5 => l_body l hl9 C hS hN h0 h5 (by omega) (by omega) (ih (i + 3) (k + 4) (n + 40) (by omega) (by omega) (by omega) (by omega) (by omega)))
