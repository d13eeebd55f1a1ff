/-! the search finds the least sum, the fewest, the first in order -/
theorem LF_acc {vs ss : Nat → Int} {p : Int} {n k : Nat} {left sum many : Int} {now : Nat → Int} {b : BB} (h : p ≤ sum) : LF vs ss p n k left sum many now b = bet b sum many (cpy (fun _ => 0) now (n - k)) := by
  cases k with
  | zero => exact if_pos h
  | succ k => exact if_pos h
theorem vec_0 {now g : Nat → Int} {c : Nat} (hg : ∀ i, g i = 0) : vec c now g = cpy (fun _ => 0) now c := by
  funext i
  show (if i < c then now i else g i) = if i < c then now i else 0
  rw [hg]
/-- what stands at the loop's end -/
theorem IvP_end {vs us : Nat → Int} {k n : Nat} {left sum many : Int} {R J : Nat} {now : Nat → Int} {c : BB} (hkn : k + 1 ≤ n) (hv : ∀ j, j < k + 1 → 1 ≤ vs j ∧ vs j ≤ 60) (hu : 0 ≤ us k ∧ us k ≤ 12) (hR : 1 ≤ R) (hl : 0 ≤ left) (hJ : ∀ j : Nat, j ≤ J ↔ ((j : Int) ≤ left ∧ (j : Int) ≤ us k)) (h : IvP (tb vs us k) (vs k) left R sum many J (fun j s => vec (n - k) (zU now (n - (k + 1)) (j : Int)) (Gd vs us n k s)) 0 c) :
    (c = none ∧ ∀ s, R ≤ s → left < tb vs us (k + 1) s) ∨ ∃ s, Lst (tb vs us (k + 1)) left R s ∧ c = some (sum + (s : Int), many + tb vs us (k + 1) s, vec (n - (k + 1)) now (Gd vs us n (k + 1) s)) := by
  have hvk := hv k (Nat.lt_succ_self k)
  have hnn : ∀ s, 0 ≤ tb vs us k s := fun s => (tb_bd k (fun j hj => by have := hv j (Nat.lt_succ_of_lt hj); omega) s).1
  have h0 : tb vs us k 0 = 0 := tb_0 k (fun j hj => (hv j (Nat.lt_succ_of_lt hj)).1)
  -- a passed-over choice has a smaller one before it
  have hskip : ∀ j : Nat, j ≤ J → ¬ nsk (vs k) R j → ∃ i : Nat, i < j ∧ i ≤ J ∧ nsk (vs k) R i ∧ fea (tb vs us k) (vs k) left R i 0 ∧ (i : Int) * vs k < (j : Int) * vs k := by
    intro j
    induction j with
    | zero => intro _ h9; exact absurd (Or.inl rfl) h9
    | succ j ih =>
      intro hj h9
      have h10 : (R : Int) ≤ (j : Int) * vs k := by
        have h11 : ¬ (((j + 1 : Nat) : Int) - 1) * vs k < (R : Int) := fun q => h9 (Or.inr q)
        rw [show ((j + 1 : Nat) : Int) - 1 = (j : Int) by omega] at h11
        omega
      have hjv : (j : Int) * vs k < ((j + 1 : Nat) : Int) * vs k := by
        rw [show ((j + 1 : Nat) : Int) = (j : Int) + 1 by omega, Int.add_mul, Int.one_mul]
        omega
      by_cases hn : nsk (vs k) R j
      · refine ⟨j, Nat.lt_succ_self j, by omega, hn, ⟨by simp only [Int.natCast_zero]; omega, ?_⟩, hjv⟩
        have := (hJ (j + 1)).mp hj
        rw [h0]
        omega
      · obtain ⟨i, g1, g2, g3, g4, g5⟩ := ih (by omega) hn
        exact ⟨i, by omega, g2, g3, g4, by omega⟩
  have hdec : ∀ s, R ≤ s → tb vs us (k + 1) s ≤ left → ∃ j s' : Nat, j ≤ J ∧ (s : Int) = (j : Int) * vs k + (s' : Int) ∧ tb vs us (k + 1) s = tb vs us k s' + (j : Int) ∧ fea (tb vs us k) (vs k) left R j s' := by
    intro s hs h1
    obtain ⟨j, s', e1, e2, e3⟩ := tb_dec (vs := vs) (us := us) (k := k) (s := s) hu.1
    have := hnn s'
    exact ⟨j, s', (hJ j).mpr ⟨by omega, e1⟩, e2, e3, ⟨by omega, by omega⟩⟩
  rcases h with ⟨h1, h2⟩ | ⟨j0, s0, h1, h2, h3, h4, h5, h6⟩
  · refine Or.inl ⟨h1, fun s hs => Int.not_le.mp (fun h9 => ?_)⟩
    obtain ⟨j, s', g1, g2, g3, g4⟩ := hdec s hs h9
    by_cases hn : nsk (vs k) R j
    · exact h2 j s' (Nat.zero_le _) g1 hn g4
    · obtain ⟨i, i1, i2, i3, i4, i5⟩ := hskip j g1 hn
      exact h2 i 0 (Nat.zero_le _) i2 i3 i4
  · right
    have hj0 := (hJ j0).mp h2
    have hjv0 : 0 ≤ (j0 : Int) * vs k := Int.mul_nonneg (by omega) (by omega)
    obtain ⟨s, hs⟩ : ∃ s : Nat, (s : Int) = (j0 : Int) * vs k + (s0 : Int) := ⟨((j0 : Int) * vs k + (s0 : Int)).toNat, by omega⟩
    have hle : tb vs us (k + 1) s ≤ tb vs us k s0 + (j0 : Int) := tb_inc hu.2 hj0.2 hs
    -- nothing paid is less
    have key : ∀ j s' : Nat, j ≤ J → fea (tb vs us k) (vs k) left R j s' → (s : Int) < (j : Int) * vs k + (s' : Int) ∨ ((s : Int) = (j : Int) * vs k + (s' : Int) ∧ nsk (vs k) R j ∧ ((j0 : Int) + tb vs us k s0 < (j : Int) + tb vs us k s' ∨ ((j0 : Int) + tb vs us k s0 = (j : Int) + tb vs us k s' ∧ j ≤ j0))) := by
      intro j s' g1 g2
      by_cases hn : nsk (vs k) R j
      · have g3 := h6 j s' (Nat.zero_le _) g1 hn g2
        rcases g3 with g3 | ⟨g3, g4⟩
        · exact Or.inl (by omega)
        · exact Or.inr ⟨by omega, hn, g4⟩
      · obtain ⟨i, i1, i2, i3, i4, i5⟩ := hskip j g1 hn
        have g3 := h6 i 0 (Nat.zero_le _) i2 i3 i4
        have g5 : (j0 : Int) * vs k + (s0 : Int) ≤ (i : Int) * vs k := by
          simp only [Int.natCast_zero] at g3
          omega
        exact Or.inl (by omega)
    have hfull : tb vs us (k + 1) s = tb vs us k s0 + (j0 : Int) := by
      obtain ⟨j, s', g1, g2, g3, g4⟩ := hdec s (by have := h4.1; omega) (by have := h4.2; omega)
      rcases key j s' g1 g4 with g5 | ⟨g5, -, g6⟩
      · omega
      · omega
    refine ⟨s, ⟨by have := h4.1; omega, by have := h4.2; omega, fun i g1 g2 => Int.not_le.mp (fun g3 => ?_)⟩, ?_⟩
    · obtain ⟨j, s', q1, q2, q3, q4⟩ := hdec i g1 g3
      rcases key j s' q1 q4 with g5 | ⟨g5, -, -⟩ <;> omega
    · have hm : mo (tb vs us k) (vs k) (tb vs us (k + 1) s) s (us k).toNat = j0 := by
        refine mo_is (fun _ => ⟨by omega, ?_⟩) _ (by omega) (fun j g1 g2 g3 => ?_)
        · rw [show ((s : Int) - (j0 : Int) * vs k).toNat = s0 by omega]
          exact hfull.symm
        · obtain ⟨g4, g5⟩ := g3
          have hn9 := hnn ((s : Int) - (j : Int) * vs k).toNat
          have g6 : j ≤ J := (hJ j).mpr ⟨by have := h4.2; omega, by omega⟩
          have g7 : fea (tb vs us k) (vs k) left R j ((s : Int) - (j : Int) * vs k).toNat := ⟨by have := h4.1; omega, by have := h4.2; omega⟩
          rcases key j _ g6 g7 with q | ⟨q, -, q2⟩ <;> omega
      rw [h5, hfull, show sum + (j0 : Int) * vs k + (s0 : Int) = sum + (s : Int) by omega, show many + (j0 : Int) + tb vs us k s0 = many + (tb vs us k s0 + (j0 : Int)) by omega]
      have hf : vec (n - k) (zU now (n - (k + 1)) (j0 : Int)) (Gd vs us n k s0) = vec (n - (k + 1)) now (Gd vs us n (k + 1) s) := by
        funext i
        simp only [vec, Gd, zU]
        rw [hm, show ((s : Int) - (j0 : Int) * vs k).toNat = s0 by omega]
        by_cases c1 : i < n - (k + 1)
        · rw [if_pos c1, if_pos (by omega), if_neg (by omega)]
        · rw [if_neg c1]
          by_cases c2 : i = n - (k + 1)
          · rw [if_pos c2, if_pos (by omega), if_pos c2]
          · rw [if_neg (show ¬ i < n - k by omega), if_neg c2]
      show some (_, _, vec (n - k) (zU now (n - (k + 1)) (j0 : Int)) (Gd vs us n k s0)) = _
      rw [hf]
/-- the loop over one stamp -/
theorem Lp_IvP {T : Nat → Int} {v left : Int} {R : Nat} {sum many : Int} {J : Nat} {VV : Nat → Nat → Nat → Int} {F : Int → BB → BB} {b0 : BB}
    (hF : ∀ (j : Nat) (b : BB), j ≤ J → ((¬ nsk v R j ∨ ∀ s, ¬ fea T v left R j s) ∧ F (j : Int) b = b) ∨ (nsk v R j ∧ ∃ s, fea T v left R j s ∧ (∀ i, fea T v left R j i → s ≤ i) ∧ F (j : Int) b = bet b (sum + (j : Int) * v + (s : Int)) (many + (j : Int) + T s) (VV j s))) :
    ∀ t, t ≤ J + 1 → ∀ c, IvP T v left R sum many J VV t c → ∃ c', IvP T v left R sum many J VV 0 c' ∧ Lp F t (betO b0 c) = betO b0 c'
  | 0, _, c, h => ⟨c, h, rfl⟩
  | t + 1, ht, c, h => by
    show ∃ c', _ ∧ Lp F t (F (t : Int) (betO b0 c)) = _
    rcases hF t (betO b0 c) (by omega) with ⟨h1, h2⟩ | ⟨h1, s, h2, h3, h4⟩
    · rw [h2]
      refine Lp_IvP hF t (by omega) c (h.skip (fun s g1 g2 => ?_))
      rcases h1 with h1 | h1
      · exact h1 g1
      · exact h1 s g2
    · rw [h4, bet_assoc]
      exact Lp_IvP hF t (by omega) _ (h.more (by omega) h1 h2 h3)
/-- the search is the best -/
theorem LF_bc {vs ss us : Nat → Int} {rm p : Int} {n : Nat} (hrm : rm ≤ 12) : ∀ k, k ≤ n → (∀ j, j < k → 1 ≤ vs j ∧ vs j ≤ 60) → (∀ i j, i < j → j < k → vs i ≤ vs j) → (∀ j, j < k → 0 ≤ ss j ∧ us j = min (ss j) rm) → ∀ (left sum many : Int) (now : Nat → Int) (b : BB), 0 ≤ left → left ≤ rm →
    (∃ s, Lst (tb vs us k) left (p - sum).toNat s ∧ LF vs ss p n k left sum many now b = bet b (sum + (s : Int)) (many + tb vs us k s) (vec (n - k) now (Gd vs us n k s))) ∨ ((∀ s, (p - sum).toNat ≤ s → left < tb vs us k s) ∧ LF vs ss p n k left sum many now b = b) := by
  intro k
  induction k with
  | zero =>
    intro hkn hv ha hs left sum many now b hl hr
    by_cases hp : p ≤ sum
    · refine Or.inl ⟨0, ⟨by omega, by rw [tb_0 0 (fun j hj => (hv j hj).1)]; omega, fun i g1 g2 => absurd g2 (Nat.not_lt_zero _)⟩, ?_⟩
      rw [LF_acc hp, vec_0 (Gd_0 0 (fun j hj => (hv j hj).1)), tb_0 0 (fun j hj => (hv j hj).1)]
      simp
    · refine Or.inr ⟨fun s hs9 => ?_, if_neg hp⟩
      have : tb vs us 0 s = 1000 := if_neg (by omega)
      omega
  | succ k ih =>
    intro hkn hv ha hs left sum many now b hl hr
    have hvk := hv k (Nat.lt_succ_self k)
    have hsk := hs k (Nat.lt_succ_self k)
    have hu : 0 ≤ us k ∧ us k ≤ 12 := by omega
    have hv1 : ∀ j, j < k + 1 → 1 ≤ vs j := fun j hj => (hv j hj).1
    by_cases hp : p ≤ sum
    · refine Or.inl ⟨0, ⟨by omega, by rw [tb_0 (k + 1) hv1]; omega, fun i g1 g2 => absurd g2 (Nat.not_lt_zero _)⟩, ?_⟩
      rw [LF_acc hp, vec_0 (Gd_0 (k + 1) hv1), tb_0 (k + 1) hv1]
      simp
    · have hR : 1 ≤ (p - sum).toNat := by omega
      simp only [LF]
      rw [if_neg hp]
      by_cases hq : sum + left * vs k < p
      · rw [if_pos hq]
        refine Or.inr ⟨fun s h1 => Int.not_le.mp (fun h2 => ?_), rfl⟩
        have h3 := tb_far (vs := vs) (us := us) (V := vs k) (k + 1) (fun j hj => by
          have h4 := hv j hj
          have h5 := hs j hj
          refine ⟨by omega, ?_, by omega⟩
          by_cases e : j = k
          · subst e; exact Int.le_refl _
          · exact ha j k (by omega) (Nat.lt_succ_self k)) s left h2 (by omega) (by omega)
        omega
      · rw [if_neg hq]
        by_cases hr9 : prn b many p = true
        · rw [if_pos hr9]
          rcases Lst_ex (T := tb vs us (k + 1)) (left := left) (R := (p - sum).toNat) with ⟨s, h1⟩ | h1
          · refine Or.inl ⟨s, h1, ?_⟩
            cases b with
            | none => cases hr9
            | some q =>
              have h2 : (decide (q.2.1 < many) && decide (q.1 = p)) = true := hr9
              rw [Bool.and_eq_true, decide_eq_true_eq, decide_eq_true_eq] at h2
              have h3 := (tb_bd (vs := vs) (us := us) (k + 1) (fun j hj => by have := hv j hj; omega) s).1
              have h4 := h1.1
              exact (bet_keep (by omega)).symm
          · exact Or.inr ⟨h1, rfl⟩
        · rw [if_neg hr9]
          obtain ⟨J, hJ⟩ : ∃ J : Nat, (J : Int) = min left (ss k) := ⟨(min left (ss k)).toNat, by omega⟩
          rw [show (min left (ss k) + 1).toNat = J + 1 by omega]
          have hJ9 : ∀ j : Nat, j ≤ J ↔ ((j : Int) ≤ left ∧ (j : Int) ≤ us k) := fun j => by omega
          have hmain := Lp_IvP (T := tb vs us k) (v := vs k) (left := left) (R := (p - sum).toNat) (sum := sum) (many := many) (J := J) (VV := fun j s => vec (n - k) (zU now (n - (k + 1)) (j : Int)) (Gd vs us n k s)) (F := fun j b => if 0 < j ∧ p ≤ sum + (j - 1) * vs k then b else LF vs ss p n k (left - j) (sum + j * vs k) (many + j) (zU now (n - (k + 1)) j) b) (b0 := b) (fun j b9 hj => by
            show (_ ∧ (if 0 < (j : Int) ∧ p ≤ sum + ((j : Int) - 1) * vs k then b9 else _) = b9) ∨ (_ ∧ ∃ s, _ ∧ _ ∧ (if 0 < (j : Int) ∧ p ≤ sum + ((j : Int) - 1) * vs k then b9 else _) = _)
            have hj2 := (hJ9 j).mp hj
            by_cases hsk9 : 0 < (j : Int) ∧ p ≤ sum + ((j : Int) - 1) * vs k
            · left
              refine ⟨Or.inl (fun q => ?_), if_pos hsk9⟩
              rcases q with q | q
              · omega
              · omega
            · rw [if_neg hsk9]
              have hn : nsk (vs k) (p - sum).toNat j := by
                by_cases e : j = 0
                · exact Or.inl e
                · exact Or.inr (by omega)
              rcases ih (by omega) (fun i hi => hv i (Nat.lt_succ_of_lt hi)) (fun i i2 h1 h2 => ha i i2 h1 (Nat.lt_succ_of_lt h2)) (fun i hi => hs i (Nat.lt_succ_of_lt hi)) (left - (j : Int)) (sum + (j : Int) * vs k) (many + (j : Int)) (zU now (n - (k + 1)) (j : Int)) b9 (by omega) (by omega) with ⟨s, h1, h2⟩ | ⟨h1, h2⟩
              · right
                refine ⟨hn, s, ⟨by have := h1.1; omega, h1.2.1⟩, fun i hi => ?_, h2⟩
                rcases Nat.lt_or_ge i s with g | g
                · have := h1.2.2 i (by have := hi.1; omega) g
                  have := hi.2
                  omega
                · exact g
              · left
                refine ⟨Or.inr (fun i hi => ?_), h2⟩
                have := h1 i (by have := hi.1; omega)
                have := hi.2
                omega)
          obtain ⟨c', g1, g2⟩ := hmain (J + 1) (Nat.le_refl _) none (Or.inl ⟨rfl, fun j s q1 q2 => by omega⟩)
          have g2 : Lp _ (J + 1) b = betO b c' := g2
          rw [g2]
          rcases IvP_end hkn hv hu hR hl hJ9 g1 with ⟨q1, q2⟩ | ⟨s, q1, q2⟩
          · subst q1
            exact Or.inr ⟨q2, rfl⟩
          · subst q2
            exact Or.inl ⟨s, q1, rfl⟩
