/-! more of the tables: minima are attained; smaller stocks; the print with one value more; the reach by its marks -/
theorem tIn_at {f : Nat → Int} {v u : Int} {s : Nat} : ∀ m, tIn f v u s m = f s ∨ ∃ j : Nat, 1 ≤ j ∧ j ≤ m ∧ (j : Int) ≤ u ∧ (j : Int) * v ≤ (s : Int) ∧ tIn f v u s m = f ((s : Int) - (j : Int) * v).toNat + (j : Int)
  | 0 => Or.inl rfl
  | m + 1 => by
    have ih := tIn_at (f := f) (v := v) (u := u) (s := s) m
    by_cases h : ((m + 1 : Nat) : Int) ≤ u ∧ ((m + 1 : Nat) : Int) * v ≤ (s : Int)
    · have e : tIn f v u s (m + 1) = min (tIn f v u s m) (f ((s : Int) - ((m + 1 : Nat) : Int) * v).toNat + ((m + 1 : Nat) : Int)) := if_pos h
      by_cases h2 : tIn f v u s m ≤ f ((s : Int) - ((m + 1 : Nat) : Int) * v).toNat + ((m + 1 : Nat) : Int)
      · rw [Int.min_eq_left h2] at e
        rw [e]
        rcases ih with h3 | ⟨j, h3, h4, h5, h6, h7⟩
        · exact Or.inl h3
        · exact Or.inr ⟨j, h3, Nat.le_succ_of_le h4, h5, h6, h7⟩
      · rw [Int.min_eq_right (by omega)] at e
        exact Or.inr ⟨m + 1, by omega, Nat.le_refl _, h.1, h.2, e⟩
    · have e : tIn f v u s (m + 1) = tIn f v u s m := if_neg h
      rw [e]
      rcases ih with h3 | ⟨j, h3, h4, h5, h6, h7⟩
      · exact Or.inl h3
      · exact Or.inr ⟨j, h3, Nat.le_succ_of_le h4, h5, h6, h7⟩
theorem tIn_le {f : Nat → Int} {v u : Int} {s : Nat} : ∀ m, tIn f v u s m ≤ f s ∧ ∀ j : Nat, 1 ≤ j → j ≤ m → (j : Int) ≤ u → (j : Int) * v ≤ (s : Int) → tIn f v u s m ≤ f ((s : Int) - (j : Int) * v).toNat + (j : Int)
  | 0 => ⟨Int.le_refl _, fun j h1 h2 => absurd h2 (by omega)⟩
  | m + 1 => by
    obtain ⟨h1, h2⟩ := tIn_le (f := f) (v := v) (u := u) (s := s) m
    by_cases h : ((m + 1 : Nat) : Int) ≤ u ∧ ((m + 1 : Nat) : Int) * v ≤ (s : Int)
    · have e : tIn f v u s (m + 1) = min (tIn f v u s m) (f ((s : Int) - ((m + 1 : Nat) : Int) * v).toNat + ((m + 1 : Nat) : Int)) := if_pos h
      rw [e]
      refine ⟨by omega, fun j h3 h4 h5 h6 => ?_⟩
      by_cases ej : j = m + 1
      · subst ej; omega
      · have := h2 j h3 (by omega) h5 h6
        omega
    · have e : tIn f v u s (m + 1) = tIn f v u s m := if_neg h
      rw [e]
      refine ⟨h1, fun j h3 h4 h5 h6 => ?_⟩
      by_cases ej : j = m + 1
      · subst ej; exact absurd ⟨h5, h6⟩ h
      · exact h2 j h3 (by omega) h5 h6
theorem tRow_le {f : Nat → Int} {v u : Int} {s j : Nat} (hu : u ≤ 12) (h1 : (j : Int) ≤ u) (h2 : (j : Int) * v ≤ (s : Int)) : tRow f v u s ≤ f ((s : Int) - (j : Int) * v).toNat + (j : Int) := by
  by_cases e : j = 0
  · subst e
    have h := (tIn_le (f := f) (v := v) (u := u) (s := s) 12).1
    simp only [Int.natCast_zero, Int.zero_mul, Int.sub_zero, Int.add_zero]
    exact h
  · exact (tIn_le (f := f) (v := v) (u := u) (s := s) 12).2 j (by omega) (by omega) h1 h2
theorem tIn_mono {f g : Nat → Int} {v u u' : Int} {s : Nat} (hu : u' ≤ u) (h : ∀ j, f j ≤ g j) : ∀ m, tIn f v u s m ≤ tIn g v u' s m
  | 0 => h s
  | m + 1 => by
    have ih := tIn_mono (v := v) (s := s) hu h m
    by_cases h1 : ((m + 1 : Nat) : Int) ≤ u' ∧ ((m + 1 : Nat) : Int) * v ≤ (s : Int)
    · have e1 : tIn g v u' s (m + 1) = min (tIn g v u' s m) (g ((s : Int) - ((m + 1 : Nat) : Int) * v).toNat + ((m + 1 : Nat) : Int)) := if_pos h1
      have e2 : tIn f v u s (m + 1) = min (tIn f v u s m) (f ((s : Int) - ((m + 1 : Nat) : Int) * v).toNat + ((m + 1 : Nat) : Int)) := if_pos ⟨by omega, h1.2⟩
      have h3 := h ((s : Int) - ((m + 1 : Nat) : Int) * v).toNat
      rw [e1, e2]
      omega
    · have e1 : tIn g v u' s (m + 1) = tIn g v u' s m := if_neg h1
      rw [e1]
      refine Int.le_trans ?_ ih
      simp only [tIn]
      split <;> omega
/-- the number taken: it makes the row's number -/
theorem mo_some {g : Nat → Int} {v nd : Int} {s : Nat} : ∀ m, (∃ j : Nat, 1 ≤ j ∧ j ≤ m ∧ (j : Int) * v ≤ (s : Int) ∧ g ((s : Int) - (j : Int) * v).toNat + (j : Int) = nd) → 1 ≤ mo g v nd s m ∧ g ((s : Int) - ((mo g v nd s m : Nat) : Int) * v).toNat + ((mo g v nd s m : Nat) : Int) = nd
  | 0, ⟨j, h1, h2, _⟩ => absurd h2 (by omega)
  | m + 1, ⟨j, h1, h2, h3, h4⟩ => by
    by_cases h : ((m + 1 : Nat) : Int) * v ≤ (s : Int) ∧ g ((s : Int) - ((m + 1 : Nat) : Int) * v).toNat + ((m + 1 : Nat) : Int) = nd
    · rw [mo_t h.1 h.2]
      exact ⟨by omega, h.2⟩
    · rw [mo_f h]
      refine mo_some m ⟨j, h1, ?_, h3, h4⟩
      by_cases e : j = m + 1
      · subst e; exact absurd ⟨h3, h4⟩ h
      · omega
theorem mo_or {g : Nat → Int} {v nd : Int} {s : Nat} : ∀ m, mo g v nd s m = 0 ∨ g ((s : Int) - ((mo g v nd s m : Nat) : Int) * v).toNat + ((mo g v nd s m : Nat) : Int) = nd
  | 0 => Or.inl rfl
  | m + 1 => by
    by_cases h : ((m + 1 : Nat) : Int) * v ≤ (s : Int) ∧ g ((s : Int) - ((m + 1 : Nat) : Int) * v).toNat + ((m + 1 : Nat) : Int) = nd
    · rw [mo_t h.1 h.2]; exact Or.inr h.2
    · rw [mo_f h]; exact mo_or m
/-- what is taken makes the row's number, none taken too -/
theorem mo_at {f : Nat → Int} {v u : Int} {s : Nat} (hu : 0 ≤ u ∧ u ≤ 12) : f ((s : Int) - ((mo f v (tRow f v u s) s u.toNat : Nat) : Int) * v).toNat + ((mo f v (tRow f v u s) s u.toNat : Nat) : Int) = tRow f v u s := by
  rcases mo_or (g := f) (v := v) (nd := tRow f v u s) (s := s) u.toNat with h | h
  · rcases tIn_at (f := f) (v := v) (u := u) (s := s) 12 with h1 | ⟨j, h1, h2, h3, h4, h5⟩
    · rw [h]
      simp only [Int.natCast_zero, Int.zero_mul, Int.sub_zero, Int.add_zero]
      exact h1.symm
    · have h6 := mo_some (g := f) (v := v) (nd := tRow f v u s) (s := s) u.toNat ⟨j, h1, by omega, h4, h5.symm⟩
      omega
  · exact h
theorem mo_is {g : Nat → Int} {v nd : Int} {s m0 : Nat} (h0 : 1 ≤ m0 → (m0 : Int) * v ≤ (s : Int) ∧ g ((s : Int) - (m0 : Int) * v).toNat + (m0 : Int) = nd) : ∀ m, m0 ≤ m → (∀ j : Nat, m0 < j → j ≤ m → ¬ ((j : Int) * v ≤ (s : Int) ∧ g ((s : Int) - (j : Int) * v).toNat + (j : Int) = nd)) → mo g v nd s m = m0
  | 0, h, _ => by
    have : m0 = 0 := by omega
    subst this; rfl
  | m + 1, h, hn => by
    by_cases e : m0 = m + 1
    · subst e
      exact mo_t (h0 (by omega)).1 (h0 (by omega)).2
    · rw [mo_f (hn (m + 1) (by omega) (Nat.le_refl _))]
      exact mo_is h0 m (by omega) (fun j h1 h2 => hn j h1 (Nat.le_succ_of_le h2))
theorem mo_max {g : Nat → Int} {v nd : Int} {s : Nat} : ∀ m (j : Nat), mo g v nd s m < j → j ≤ m → ¬ ((j : Int) * v ≤ (s : Int) ∧ g ((s : Int) - (j : Int) * v).toNat + (j : Int) = nd)
  | 0, j, h1, h2 => absurd h1 (by omega)
  | m + 1, j, h1, h2 => by
    by_cases h : ((m + 1 : Nat) : Int) * v ≤ (s : Int) ∧ g ((s : Int) - ((m + 1 : Nat) : Int) * v).toNat + ((m + 1 : Nat) : Int) = nd
    · rw [mo_t h.1 h.2] at h1
      omega
    · rw [mo_f h] at h1
      by_cases e : j = m + 1
      · subst e; exact h
      · exact mo_max m j h1 (by omega)
theorem fsm_lt {f : Nat → Int} {rm : Int} : ∀ (n s : Nat) (j : Nat), fsm f rm n s = (j : Int) → ∀ i, s ≤ i → i < j → rm < f i
  | 0, s, j, h, i, _, _ => by
    have : (-1 : Int) = (j : Int) := h
    omega
  | n + 1, s, j, h, i, h1, h2 => by
    by_cases hs : f s ≤ rm
    · rw [fsm_t hs] at h
      omega
    · rw [fsm_f hs] at h
      by_cases e : i = s
      · subst e; omega
      · exact fsm_lt n (s + 1) j h i (by omega) h2
theorem fsm_is {g : Nat → Int} {rm : Int} : ∀ (n s j : Nat), s ≤ j → j < s + n → g j ≤ rm → (∀ i, s ≤ i → i < j → rm < g i) → fsm g rm n s = (j : Int)
  | 0, s, j, h1, h2, _, _ => absurd h2 (by omega)
  | n + 1, s, j, h1, h2, h3, h4 => by
    by_cases e : s = j
    · subst e; exact fsm_t h3
    · have := h4 s (Nat.le_refl _) (by omega)
      rw [fsm_f (by omega)]
      exact fsm_is n (s + 1) j (by omega) (by omega) h3 (fun i h5 h6 => h4 i (by omega) h6)
theorem rch_is {f : Nat → Int} {rm : Int} : ∀ (n p r : Nat), p ≤ r → r ≤ p + n → (∀ q, p < q → q ≤ r → f q ≤ rm) → (r < p + n → rm < f (r + 1)) → rch f rm n p = r
  | 0, p, r, h1, h2, _, _ => by
    show p = r
    omega
  | n + 1, p, r, h1, h2, h3, h4 => by
    by_cases e : p = r
    · subst e
      exact rch_f (by have := h4 (by omega); omega)
    · rw [rch_t (h3 (p + 1) (by omega) (by omega))]
      exact rch_is n (p + 1) r (by omega) (by omega) (fun q h5 h6 => h3 q (by omega) h6) (fun h5 => h4 (by omega))
theorem pMin_le {f fv : Nat → Int} {p : Nat} {x : Int} : ∀ n, pMin f fv p x n ≤ x ∧ ∀ i, i < n → fv i ≤ (p : Int) → pMin f fv p x n ≤ f ((p : Int) - fv i).toNat + 1
  | 0 => ⟨Int.le_refl _, fun i h => absurd h (Nat.not_lt_zero _)⟩
  | n + 1 => by
    obtain ⟨h1, h2⟩ := pMin_le (f := f) (fv := fv) (p := p) (x := x) n
    by_cases h : fv n ≤ (p : Int)
    · have e : pMin f fv p x (n + 1) = min (pMin f fv p x n) (f ((p : Int) - fv n).toNat + 1) := if_pos h
      rw [e]
      refine ⟨by omega, fun i hi hi2 => ?_⟩
      by_cases ei : i = n
      · subst ei; omega
      · have := h2 i (by omega) hi2
        omega
    · have e : pMin f fv p x (n + 1) = pMin f fv p x n := if_neg h
      rw [e]
      refine ⟨h1, fun i hi hi2 => ?_⟩
      by_cases ei : i = n
      · subst ei; exact absurd hi2 h
      · exact h2 i (by omega) hi2
theorem pMin_at {f fv : Nat → Int} {p : Nat} {x : Int} : ∀ n, pMin f fv p x n = x ∨ ∃ i, i < n ∧ fv i ≤ (p : Int) ∧ pMin f fv p x n = f ((p : Int) - fv i).toNat + 1
  | 0 => Or.inl rfl
  | n + 1 => by
    have ih := pMin_at (f := f) (fv := fv) (p := p) (x := x) n
    have up : pMin f fv p x (n + 1) = pMin f fv p x n → (pMin f fv p x (n + 1) = x ∨ ∃ i, i < n + 1 ∧ fv i ≤ (p : Int) ∧ pMin f fv p x (n + 1) = f ((p : Int) - fv i).toNat + 1) := fun e => by
      rw [e]
      rcases ih with h | ⟨i, h1, h2, h3⟩
      · exact Or.inl h
      · exact Or.inr ⟨i, Nat.lt_succ_of_lt h1, h2, h3⟩
    by_cases h : fv n ≤ (p : Int)
    · have e : pMin f fv p x (n + 1) = min (pMin f fv p x n) (f ((p : Int) - fv n).toNat + 1) := if_pos h
      by_cases h2 : pMin f fv p x n ≤ f ((p : Int) - fv n).toNat + 1
      · exact up (by rw [e, Int.min_eq_left h2])
      · exact Or.inr ⟨n, Nat.lt_succ_self n, h, by rw [e, Int.min_eq_right (by omega)]⟩
    · exact up (if_neg h)
theorem gSt_le {fa g : Nat → Int} {v : Int} {p : Nat} : gSt fa v g p ≤ fa p ∧ (v ≤ (p : Int) → gSt fa v g p ≤ g ((p : Int) - v).toNat + 1) := by
  by_cases h : v ≤ (p : Int)
  · have e : gSt fa v g p = min (fa p) (g ((p : Int) - v).toNat + 1) := if_pos h
    rw [e]
    omega
  · have e : gSt fa v g p = fa p := if_neg h
    rw [e]
    exact ⟨Int.le_refl _, fun q => absurd q h⟩
theorem Pk0_le {fv fa : Nat → Int} {cnt n : Nat} (h : Pk fv cnt 0 fa n) : ∀ q, q < n → fa q ≤ 1000 := fun q hq => by
  by_cases e : q = 0
  · subst e; rw [h.1]; omega
  · have h1 := (pMin_le (f := fa) (fv := fv) (p := q) (x := stM fa 0 q) cnt).1
    rw [h.2 q (by omega) hq]
    rw [stM_0] at h1 ⊢
    exact h1
/-- one more stamp of a value that there is costs one at the most -/
theorem Gk_one {fv fa g : Nat → Int} {cnt n : Nat} {v : Int} (hv : ∀ j, j < cnt → 1 ≤ fv j) (hv1 : 1 ≤ v) (hA : Pk fv cnt 0 fa n) (hG : Gk fa v g n) {i : Nat} (hi : i < cnt) : ∀ q, 1 ≤ q → q < n → fv i ≤ (q : Int) → g q ≤ g ((q : Int) - fv i).toNat + 1 := by
  have hc := hv i hi
  intro q
  induction q using Nat.strongRecOn with
  | _ q ih =>
    intro h1 h2 h3
    have hfa : fa q ≤ fa ((q : Int) - fv i).toNat + 1 := by
      rw [hA.2 q h1 h2]
      exact (pMin_le cnt).2 i hi h3
    have hg := gSt_le (fa := fa) (g := g) (v := v) (p := q)
    rw [← hG.2 q h1 h2] at hg
    generalize hr : ((q : Int) - fv i).toNat = r at hfa ⊢
    have hrq : (r : Int) = (q : Int) - fv i := by omega
    by_cases e : r = 0
    · subst e
      rw [hA.1] at hfa
      rw [hG.1]
      omega
    · rw [hG.2 r (by omega) (by omega)]
      by_cases h4 : v ≤ (r : Int)
      · have e4 : gSt fa v g r = min (fa r) (g ((r : Int) - v).toNat + 1) := if_pos h4
        rw [e4]
        have h5 := ih ((q : Int) - v).toNat (by omega) (by omega) (by omega) (by omega)
        rw [show (((q : Int) - v).toNat : Int) - fv i = (r : Int) - v by omega] at h5
        have h6 := hg.2 (by omega)
        omega
      · have e4 : gSt fa v g r = fa r := if_neg h4
        rw [e4]
        omega
/-- a table with one value more, capped: the class's own against the print's -/
theorem Gk_cap {fv fa g f : Nat → Int} {cnt n : Nat} {v : Int} (hv : ∀ j, j < cnt → 1 ≤ fv j) (hv1 : 1 ≤ v) (hA : Pk fv cnt 0 fa n) (hG : Gk fa v g n) (hP : Pk fv cnt v f n) : ∀ q, q < n → g q = min (f q) 1000 := by
  have hB : ∀ q, q < n → min (f q) 1000 ≤ fa q := by
    intro q
    induction q using Nat.strongRecOn with
    | _ q ih =>
      intro h2
      by_cases e : q = 0
      · subst e; rw [hA.1, hP.1]; omega
      · rcases pMin_at (f := fa) (fv := fv) (p := q) (x := stM fa 0 q) cnt with h | ⟨i, h3, h4, h5⟩
        · rw [hA.2 q (by omega) h2, h, stM_0]; omega
        · have h6 := hv i h3
          rw [hA.2 q (by omega) h2, h5]
          have h7 := ih ((q : Int) - fv i).toNat (by omega) (by omega)
          have h8 : f q ≤ f ((q : Int) - fv i).toNat + 1 := by
            rw [hP.2 q (by omega) h2]
            exact (pMin_le cnt).2 i h3 h4
          omega
  intro q
  induction q using Nat.strongRecOn with
  | _ q ih =>
    intro h2
    by_cases e : q = 0
    · subst e; rw [hG.1, hP.1]; rfl
    · have hgl := gSt_le (fa := fa) (g := g) (v := v) (p := q)
      rw [← hG.2 q (by omega) h2] at hgl
      have hfa := Pk0_le hA q h2
      have hfs : v ≤ (q : Int) → f q ≤ f ((q : Int) - v).toNat + 1 := fun h => by
        rw [hP.2 q (by omega) h2]
        have := (pMin_le (f := f) (fv := fv) (p := q) (x := stM f v q) cnt).1
        rw [show stM f v q = f ((q : Int) - v).toNat + 1 from if_pos ⟨hv1, h⟩] at this
        rw [show stM f v q = f ((q : Int) - v).toNat + 1 from if_pos ⟨hv1, h⟩]
        exact this
      have hge : min (f q) 1000 ≤ g q := by
        rw [hG.2 q (by omega) h2]
        by_cases h : v ≤ (q : Int)
        · have e4 : gSt fa v g q = min (fa q) (g ((q : Int) - v).toNat + 1) := if_pos h
          have h7 := ih ((q : Int) - v).toNat (by omega) (by omega)
          have h8 := hB q h2
          have h9 := hfs h
          rw [e4, h7]
          omega
        · have e4 : gSt fa v g q = fa q := if_neg h
          rw [e4]
          exact hB q h2
      have hle : g q ≤ f q := by
        rcases pMin_at (f := f) (fv := fv) (p := q) (x := stM f v q) cnt with h | ⟨i, h3, h4, h5⟩
        · rw [hP.2 q (by omega) h2, h]
          by_cases h6 : v ≤ (q : Int)
          · rw [show stM f v q = f ((q : Int) - v).toNat + 1 from if_pos ⟨hv1, h6⟩]
            have h7 := ih ((q : Int) - v).toNat (by omega) (by omega)
            have h8 := hgl.2 h6
            omega
          · rw [show stM f v q = 1000 from if_neg (fun z => h6 z.2)]
            omega
        · rw [hP.2 q (by omega) h2, h5]
          have h6 := hv i h3
          have h7 := ih ((q : Int) - fv i).toNat (by omega) (by omega)
          have h8 := Gk_one hv hv1 hA hG h3 q (by omega) h2 h4
          omega
      omega
/-- the class's reach with one value more is the print's -/
theorem Gk_rp {fv fa g : Nat → Int} {cnt r : Nat} {v rm : Int} (hv : ∀ j, j < cnt → 1 ≤ fv j) (hv1 : 1 ≤ v) (hr : rm ≤ 12) (hA : Pk fv cnt 0 fa 301) (hr3 : r ≤ 300) (hG : Gk fa v g (r + 1)) (h1 : ∀ q, 1 ≤ q → q < r + 1 → g q ≤ rm) (h2 : r < 300 → rm < gSt fa v g (r + 1)) : RP fv cnt v rm = r := by
  have hP := PF_ok (fv := fv) (cnt := cnt) (more := v) hv
  have lo : ∀ {n : Nat}, n ≤ 301 → Pk fv cnt 0 fa n := fun h => ⟨hA.1, fun q h3 h4 => hA.2 q h3 (by omega)⟩
  have lo2 : ∀ {n : Nat}, n ≤ 301 → Pk fv cnt v (PF fv cnt v) n := fun h => ⟨hP.1, fun q h3 h4 => hP.2 q h3 (by omega)⟩
  refine rch_is 300 0 r (Nat.zero_le _) (by omega) (fun q h3 h4 => ?_) (fun h3 => ?_)
  · have h5 := Gk_cap hv hv1 (lo (by omega)) hG (lo2 (by omega)) q (by omega)
    have h6 := h1 q (by omega) (by omega)
    omega
  · have h4 := h2 (by omega)
    have hG2 := hG.step (x := gSt fa v g (r + 1)) (by omega) hv1 rfl
    have h5 := Gk_cap hv hv1 (lo (by omega)) hG2 (lo2 (by omega)) (r + 1) (by omega)
    rw [show zU g (r + 1) (gSt fa v g (r + 1)) (r + 1) = gSt fa v g (r + 1) from if_pos rfl] at h5
    omega
theorem bv_bd {fv : Nat → Int} {cnt : Nat} {rm : Int} : ∀ n, -1 ≤ (bvF fv cnt rm n).2 ∧ (bvF fv cnt rm n).2 ≤ 300
  | 0 => ⟨show (-1 : Int) ≤ -1 by decide, show (-1 : Int) ≤ 300 by decide⟩
  | n + 1 => by
    have ih := bv_bd (fv := fv) (cnt := cnt) (rm := rm) n
    have h1 := rch_bd (f := PF fv cnt ((n + 1 : Nat) : Int)) (rm := rm) 300 0
    simp only [bvF]
    split
    · exact ih
    · split
      · show -1 ≤ (RP fv cnt ((n + 1 : Nat) : Int) rm : Int) ∧ (RP fv cnt ((n + 1 : Nat) : Int) rm : Int) ≤ 300
        simp only [RP]
        omega
      · exact ih
theorem bp_bd {fv fs : Nat → Int} {cnt : Nat} {rm : Int} : ∀ n, -1 ≤ (bpF cnt fv fs rm n).2 ∧ (bpF cnt fv fs rm n).2 ≤ 300
  | 0 => ⟨show (-1 : Int) ≤ -1 by decide, show (-1 : Int) ≤ 300 by decide⟩
  | n + 1 => by
    have ih := bp_bd (fv := fv) (fs := fs) (cnt := cnt) (rm := rm) n
    have h1 := rch_bd (f := TB cnt fv (zU fs n (fs n + 20)) rm) (rm := rm) 300 0
    simp only [bpF]
    split
    · show -1 ≤ (RC cnt fv (zU fs n (fs n + 20)) rm : Int) ∧ (RC cnt fv (zU fs n (fs n + 20)) rm : Int) ≤ 300
      simp only [RC]
      omega
    · exact ih
