/-! what a letter gets, looked for from the greatest value on: the search as a function -/
abbrev BB : Type := Option (Int × Int × (Nat → Int))
def bet (b : BB) (s m : Int) (f : Nat → Int) : BB := match b with
  | none => some (s, m, f)
  | some q => if q.1 < s ∨ (s = q.1 ∧ q.2.1 ≤ m) then some q else some (s, m, f)
def prn (b : BB) (m p : Int) : Bool := match b with
  | none => false
  | some q => decide (q.2.1 < m) && decide (q.1 = p)
def Lp (F : Int → BB → BB) : Nat → BB → BB
  | 0, b => b
  | j + 1, b => Lp F j (F (j : Int) b)
def LF (vs ss : Nat → Int) (p : Int) (n : Nat) : Nat → Int → Int → Int → (Nat → Int) → BB → BB
  | 0, _, sum, many, now, b => if p ≤ sum then bet b sum many (cpy (fun _ => 0) now n) else b
  | k + 1, left, sum, many, now, b => if p ≤ sum then bet b sum many (cpy (fun _ => 0) now (n - (k + 1))) else if sum + left * vs k < p then b else if prn b many p = true then b else Lp (fun j b => if 0 < j ∧ p ≤ sum + (j - 1) * vs k then b else LF vs ss p n k (left - j) (sum + j * vs k) (many + j) (zU now (n - (k + 1)) j) b) (min left (ss k) + 1).toNat b
/-- how often it can get better still -/
def mu (p : Int) : BB → Nat
  | none => 781
  | some q => ((q.1 - p) * 13 + q.2.1).toNat
def BBok (p : Int) : BB → Prop
  | none => True
  | some q => p ≤ q.1 ∧ q.1 ≤ p + 59 ∧ 0 ≤ q.2.1 ∧ q.2.1 ≤ 12
theorem bet_some {q : Int × Int × (Nat → Int)} {s m : Int} {f : Nat → Int} (h : ¬ (q.1 < s ∨ (s = q.1 ∧ q.2.1 ≤ m))) : bet (some q) s m f = some (s, m, f) := if_neg h
theorem bet_keep {q : Int × Int × (Nat → Int)} {s m : Int} {f : Nat → Int} (h : q.1 < s ∨ (s = q.1 ∧ q.2.1 ≤ m)) : bet (some q) s m f = some q := if_pos h
theorem bet_ok {p : Int} {b : BB} {s m : Int} {f : Nat → Int} (hb : BBok p b) (h1 : p ≤ s) (h2 : s ≤ p + 59) (h3 : 0 ≤ m) (h4 : m ≤ 12) : BBok p (bet b s m f) ∧ mu p (bet b s m f) ≤ mu p b := by
  cases b with
  | none =>
    refine ⟨⟨h1, h2, h3, h4⟩, ?_⟩
    show ((s - p) * 13 + m).toNat ≤ 781
    omega
  | some q =>
    by_cases h : q.1 < s ∨ (s = q.1 ∧ q.2.1 ≤ m)
    · rw [bet_keep h]
      exact ⟨hb, Nat.le_refl _⟩
    · rw [bet_some h]
      obtain ⟨g1, g2, g3, g4⟩ := hb
      refine ⟨⟨h1, h2, h3, h4⟩, ?_⟩
      show ((s - p) * 13 + m).toNat ≤ ((q.1 - p) * 13 + q.2.1).toNat
      omega
theorem mu_none {p s m : Int} {f : Nat → Int} (h1 : p ≤ s) (h2 : s ≤ p + 59) (h3 : 0 ≤ m) (h4 : m ≤ 12) : mu p (some (s, m, f)) + 1 ≤ mu p none := by
  show ((s - p) * 13 + m).toNat + 1 ≤ 781
  omega
theorem mu_some {p s m : Int} {f : Nat → Int} {q : Int × Int × (Nat → Int)} (hb : BBok p (some q)) (h1 : p ≤ s) (h3 : 0 ≤ m) (h4 : m ≤ 12) (h : ¬ (q.1 < s ∨ (s = q.1 ∧ q.2.1 ≤ m))) : mu p (some (s, m, f)) + 1 ≤ mu p (some q) := by
  obtain ⟨g1, g2, g3, g4⟩ := hb
  show ((s - p) * 13 + m).toNat + 1 ≤ ((q.1 - p) * 13 + q.2.1).toNat
  omega
theorem Lp_ok {p : Int} {F : Int → BB → BB} : ∀ t : Nat, (∀ (j : Nat) (b : BB), j < t → BBok p b → BBok p (F j b) ∧ mu p (F j b) ≤ mu p b) → ∀ b, BBok p b → BBok p (Lp F t b) ∧ mu p (Lp F t b) ≤ mu p b
  | 0, _, b, hb => ⟨hb, Nat.le_refl _⟩
  | t + 1, h, b, hb => by
    obtain ⟨h1, h2⟩ := h t b (Nat.lt_succ_self t) hb
    obtain ⟨h3, h4⟩ := Lp_ok t (fun j b hj hb => h j b (Nat.lt_succ_of_lt hj) hb) (F t b) h1
    exact ⟨h3, Nat.le_trans h4 h2⟩
theorem jv_split {j v : Int} : j * v = (j - 1) * v + v := by rw [Int.sub_mul, Int.one_mul]; omega
theorem LF_ok {vs ss : Nat → Int} {p : Int} {n : Nat} : ∀ k, (∀ j, j < k → 1 ≤ vs j ∧ vs j ≤ 60) → ∀ (left sum many : Int) (now : Nat → Int) (b : BB), 0 ≤ left → 0 ≤ many → many + left ≤ 12 → sum ≤ p + 59 → BBok p b → BBok p (LF vs ss p n k left sum many now b) ∧ mu p (LF vs ss p n k left sum many now b) ≤ mu p b
  | 0, _, left, sum, many, now, b, h1, h2, h3, h4, hb => by
    simp only [LF]
    by_cases hp : p ≤ sum
    · rw [if_pos hp]
      exact bet_ok hb hp h4 h2 (by omega)
    · rw [if_neg hp]
      exact ⟨hb, Nat.le_refl _⟩
  | k + 1, hv, left, sum, many, now, b, h1, h2, h3, h4, hb => by
    simp only [LF]
    by_cases hp : p ≤ sum
    · rw [if_pos hp]
      exact bet_ok hb hp h4 h2 (by omega)
    · rw [if_neg hp]
      by_cases hq : sum + left * vs k < p
      · rw [if_pos hq]
        exact ⟨hb, Nat.le_refl _⟩
      · rw [if_neg hq]
        by_cases hr : prn b many p = true
        · rw [if_pos hr]
          exact ⟨hb, Nat.le_refl _⟩
        · rw [if_neg hr]
          refine Lp_ok _ (fun j b hj hb => ?_) b hb
          show BBok p (if 0 < (j : Int) ∧ p ≤ sum + ((j : Int) - 1) * vs k then b else _) ∧ mu p (if 0 < (j : Int) ∧ p ≤ sum + ((j : Int) - 1) * vs k then b else _) ≤ mu p b
          by_cases hs : 0 < (j : Int) ∧ p ≤ sum + ((j : Int) - 1) * vs k
          · rw [if_pos hs]
            exact ⟨hb, Nat.le_refl _⟩
          · rw [if_neg hs]
            have hvk := hv k (Nat.lt_succ_self k)
            have e := jv_split (j := (j : Int)) (v := vs k)
            refine LF_ok k (fun i hi => hv i (Nat.lt_succ_of_lt hi)) _ _ _ _ b (by omega) (by omega) (by omega) ?_ hb
            by_cases hj0 : j = 0
            · subst hj0
              simp only [Int.natCast_zero, Int.zero_mul]
              omega
            · omega
/-! the least sum, the fewest for it, the first in order -/
def Lst (T : Nat → Int) (left : Int) (R s : Nat) : Prop := R ≤ s ∧ T s ≤ left ∧ ∀ i, R ≤ i → i < s → left < T i
def vec (c : Nat) (now g : Nat → Int) : Nat → Int := fun i => if i < c then now i else g i
def Gd (vs us : Nat → Int) (n : Nat) : Nat → Nat → Nat → Int
  | 0, _ => fun _ => 0
  | k + 1, s => fun i => if i = n - (k + 1) then ((mo (tb vs us k) (vs k) (tb vs us (k + 1) s) s (us k).toNat : Nat) : Int) else Gd vs us n k ((s : Int) - ((mo (tb vs us k) (vs k) (tb vs us (k + 1) s) s (us k).toNat : Nat) : Int) * vs k).toNat i
theorem Lst_ex {T : Nat → Int} {left : Int} {R : Nat} : (∃ s, Lst T left R s) ∨ ∀ s, R ≤ s → left < T s := by
  by_cases h : ∃ s, R ≤ s ∧ T s ≤ left
  · obtain ⟨s, h1, h2⟩ := h
    have key : ∀ m s, s ≤ m → R ≤ s → T s ≤ left → ∃ t, Lst T left R t := by
      intro m
      induction m with
      | zero =>
        intro s h1 h2 h3
        exact ⟨s, h2, h3, fun i h4 h5 => by omega⟩
      | succ m ih =>
        intro s h1 h2 h3
        by_cases h4 : ∃ i, R ≤ i ∧ i < s ∧ T i ≤ left
        · obtain ⟨i, g1, g2, g3⟩ := h4
          exact ih i (by omega) g1 g3
        · exact ⟨s, h2, h3, fun i g1 g2 => Int.not_le.mp (fun g3 => h4 ⟨i, g1, g2, g3⟩)⟩
    exact Or.inl (key s s (Nat.le_refl _) h1 h2)
  · exact Or.inr (fun s h1 => Int.not_le.mp (fun h2 => h ⟨s, h1, h2⟩))
theorem tb_dec {vs us : Nat → Int} {k s : Nat} (hu : 0 ≤ us k) : ∃ j s' : Nat, (j : Int) ≤ us k ∧ (s : Int) = (j : Int) * vs k + (s' : Int) ∧ tb vs us (k + 1) s = tb vs us k s' + (j : Int) := by
  have e : tb vs us (k + 1) s = tIn (tb vs us k) (vs k) (us k) s 12 := rfl
  rcases tIn_at (f := tb vs us k) (v := vs k) (u := us k) (s := s) 12 with h | ⟨j, h3, h4, h5, h6, h7⟩
  · exact ⟨0, s, hu, by simp, by rw [e, h]; simp⟩
  · exact ⟨j, ((s : Int) - (j : Int) * vs k).toNat, h5, by omega, by rw [e, h7]⟩
theorem tb_inc {vs us : Nat → Int} {k s j s' : Nat} (hu : us k ≤ 12) (h1 : (j : Int) ≤ us k) (h2 : (s : Int) = (j : Int) * vs k + (s' : Int)) : tb vs us (k + 1) s ≤ tb vs us k s' + (j : Int) := by
  have h := tRow_le (f := tb vs us k) (v := vs k) (u := us k) (s := s) (j := j) hu h1 (by omega)
  rw [show ((s : Int) - (j : Int) * vs k).toNat = s' by omega] at h
  exact h
theorem tb_0 {vs us : Nat → Int} : ∀ k, (∀ j, j < k → 1 ≤ vs j) → tb vs us k 0 = 0
  | 0, _ => rfl
  | k + 1, hv => by
    have hvk := hv k (Nat.lt_succ_self k)
    have e : tb vs us (k + 1) 0 = tIn (tb vs us k) (vs k) (us k) 0 12 := rfl
    rcases tIn_at (f := tb vs us k) (v := vs k) (u := us k) (s := 0) 12 with h | ⟨j, h3, h4, h5, h6, h7⟩
    · rw [e, h]
      exact tb_0 k (fun j hj => hv j (Nat.lt_succ_of_lt hj))
    · exfalso
      have h8 : (1 : Int) * vs k ≤ (j : Int) * vs k := Int.mul_le_mul_of_nonneg_right (by omega) (by omega)
      omega
theorem tb_far {vs us : Nat → Int} {V : Int} : ∀ k, (∀ j, j < k → 0 ≤ vs j ∧ vs j ≤ V ∧ 0 ≤ us j) → ∀ (s : Nat) (m : Int), tb vs us k s ≤ m → m < 1000 → 0 ≤ V → (s : Int) ≤ m * V
  | 0, _, s, m, h1, h2, h3 => by
    have h4 := tb_bd (vs := vs) (us := us) 0 (fun j hj => absurd hj (Nat.not_lt_zero _)) s
    by_cases h5 : s = 0
    · subst h5
      exact Int.mul_nonneg (by omega) h3
    · have : tb vs us 0 s = 1000 := if_neg h5
      omega
  | k + 1, hv, s, m, h1, h2, h3 => by
    obtain ⟨g1, g2, g3⟩ := hv k (Nat.lt_succ_self k)
    obtain ⟨j, s', e1, e2, e3⟩ := tb_dec (vs := vs) (us := us) (k := k) (s := s) g3
    have h4 := tb_far k (fun i hi => hv i (Nat.lt_succ_of_lt hi)) s' (m - (j : Int)) (by omega) (by omega) h3
    have h5 : (j : Int) * vs k ≤ (j : Int) * V := Int.mul_le_mul_of_nonneg_left g2 (by omega)
    rw [Int.sub_mul] at h4
    omega
theorem Gd_0 {vs us : Nat → Int} {n : Nat} : ∀ k, (∀ j, j < k → 1 ≤ vs j) → ∀ i, Gd vs us n k 0 i = 0
  | 0, _, i => rfl
  | k + 1, hv, i => by
    have hvk := hv k (Nat.lt_succ_self k)
    have hm : mo (tb vs us k) (vs k) (tb vs us (k + 1) 0) 0 (us k).toNat = 0 := mo_is (fun h => absurd h (by omega)) _ (Nat.zero_le _) (fun j h1 h2 h3 => by
      have h8 : (1 : Int) * vs k ≤ (j : Int) * vs k := Int.mul_le_mul_of_nonneg_right (by omega) (by omega)
      have := h3.1
      omega)
    simp only [Gd]
    rw [hm]
    by_cases h : i = n - (k + 1)
    · rw [if_pos h]; rfl
    · rw [if_neg h]
      simp only [Int.natCast_zero, Int.zero_mul, Int.sub_zero, Int.toNat_zero]
      exact Gd_0 k (fun j hj => hv j (Nat.lt_succ_of_lt hj)) i
def betO (b c : BB) : BB := match c with
  | none => b
  | some q => bet b q.1 q.2.1 q.2.2
theorem bet_assoc {b c : BB} {s m : Int} {f : Nat → Int} : bet (betO b c) s m f = betO b (bet c s m f) := by
  cases c with
  | none => rfl
  | some q =>
    show bet (bet b q.1 q.2.1 q.2.2) s m f = betO b (bet (some q) s m f)
    by_cases h1 : q.1 < s ∨ (s = q.1 ∧ q.2.1 ≤ m)
    · rw [bet_keep h1]
      show bet (bet b q.1 q.2.1 q.2.2) s m f = bet b q.1 q.2.1 q.2.2
      cases b with
      | none => exact bet_keep h1
      | some r =>
        by_cases h2 : r.1 < q.1 ∨ (q.1 = r.1 ∧ r.2.1 ≤ q.2.1)
        · rw [bet_keep h2]
          exact bet_keep (by omega)
        · rw [bet_some h2]
          exact bet_keep h1
    · rw [bet_some h1]
      show bet (bet b q.1 q.2.1 q.2.2) s m f = bet b s m f
      cases b with
      | none => exact bet_some h1
      | some r =>
        by_cases h2 : r.1 < q.1 ∨ (q.1 = r.1 ∧ r.2.1 ≤ q.2.1)
        · rw [bet_keep h2]
        · rw [bet_some h2]
          have h3 : ¬ (r.1 < s ∨ (s = r.1 ∧ r.2.1 ≤ m)) := by omega
          rw [bet_some h3]
          exact bet_some h1
/-- not passed over -/
def nsk (v : Int) (R j : Nat) : Prop := j = 0 ∨ ((j : Int) - 1) * v < (R : Int)
def fea (T : Nat → Int) (v left : Int) (R j s : Nat) : Prop := (R : Int) ≤ (j : Int) * v + (s : Int) ∧ T s ≤ left - (j : Int)
/-- the best of the choices with t or more of one stamp -/
def IvP (T : Nat → Int) (v left : Int) (R : Nat) (sum many : Int) (J : Nat) (VV : Nat → Nat → Nat → Int) (t : Nat) (c : BB) : Prop :=
  (c = none ∧ ∀ j s, t ≤ j → j ≤ J → nsk v R j → ¬ fea T v left R j s) ∨ ∃ j0 s0, t ≤ j0 ∧ j0 ≤ J ∧ nsk v R j0 ∧ fea T v left R j0 s0 ∧ c = some (sum + (j0 : Int) * v + (s0 : Int), many + (j0 : Int) + T s0, VV j0 s0) ∧ ∀ j s, t ≤ j → j ≤ J → nsk v R j → fea T v left R j s → (j0 : Int) * v + (s0 : Int) < (j : Int) * v + (s : Int) ∨ ((j0 : Int) * v + (s0 : Int) = (j : Int) * v + (s : Int) ∧ ((j0 : Int) + T s0 < (j : Int) + T s ∨ ((j0 : Int) + T s0 = (j : Int) + T s ∧ j ≤ j0)))
section IV
variable {T : Nat → Int} {v left : Int} {R : Nat} {sum many : Int} {J : Nat} {VV : Nat → Nat → Nat → Int} {t : Nat} {c : BB}
theorem IvP.skip (h : IvP T v left R sum many J VV (t + 1) c) (hs : ∀ s, nsk v R t → ¬ fea T v left R t s) : IvP T v left R sum many J VV t c := by
  rcases h with ⟨h1, h2⟩ | ⟨j0, s0, h1, h2, h3, h4, h5, h6⟩
  · refine Or.inl ⟨h1, fun j s g1 g2 g3 => ?_⟩
    by_cases e : j = t
    · subst e; exact hs s g3
    · exact h2 j s (by omega) g2 g3
  · refine Or.inr ⟨j0, s0, by omega, h2, h3, h4, h5, fun j s g1 g2 g3 g4 => ?_⟩
    by_cases e : j = t
    · subst e; exact absurd g4 (hs s g3)
    · exact h6 j s (by omega) g2 g3 g4
theorem IvP.more (h : IvP T v left R sum many J VV (t + 1) c) (htJ : t ≤ J) (hn : nsk v R t) {s1 : Nat} (hf : fea T v left R t s1) (hl : ∀ s, fea T v left R t s → s1 ≤ s) : IvP T v left R sum many J VV t (bet c (sum + (t : Int) * v + (s1 : Int)) (many + (t : Int) + T s1) (VV t s1)) := by
  have self : ∀ s, fea T v left R t s → (t : Int) * v + (s1 : Int) < (t : Int) * v + (s : Int) ∨ ((t : Int) * v + (s1 : Int) = (t : Int) * v + (s : Int) ∧ ((t : Int) + T s1 < (t : Int) + T s ∨ ((t : Int) + T s1 = (t : Int) + T s ∧ t ≤ t))) := fun s hs => by
    have h1 := hl s hs
    by_cases e : s1 = s
    · subst e; exact Or.inr ⟨rfl, Or.inr ⟨rfl, Nat.le_refl _⟩⟩
    · exact Or.inl (by omega)
  rcases h with ⟨h1, h2⟩ | ⟨j0, s0, h1, h2, h3, h4, h5, h6⟩
  · subst h1
    refine Or.inr ⟨t, s1, Nat.le_refl _, htJ, hn, hf, rfl, fun j s g1 g2 g3 g4 => ?_⟩
    by_cases e : j = t
    · subst e; exact self s g4
    · exact absurd g4 (h2 j s (by omega) g2 g3)
  · subst h5
    by_cases hb : sum + (j0 : Int) * v + (s0 : Int) < sum + (t : Int) * v + (s1 : Int) ∨ (sum + (t : Int) * v + (s1 : Int) = sum + (j0 : Int) * v + (s0 : Int) ∧ many + (j0 : Int) + T s0 ≤ many + (t : Int) + T s1)
    · rw [bet_keep hb]
      refine Or.inr ⟨j0, s0, by omega, h2, h3, h4, rfl, fun j s g1 g2 g3 g4 => ?_⟩
      by_cases e : j = t
      · subst e
        have g5 := self s g4
        omega
      · exact h6 j s (by omega) g2 g3 g4
    · rw [bet_some hb]
      refine Or.inr ⟨t, s1, Nat.le_refl _, htJ, hn, hf, rfl, fun j s g1 g2 g3 g4 => ?_⟩
      by_cases e : j = t
      · subst e; exact self s g4
      · have g5 := h6 j s (by omega) g2 g3 g4
        omega
end IV
