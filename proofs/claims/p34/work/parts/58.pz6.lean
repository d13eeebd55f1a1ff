/-! the two tables by hand: passes over a row; layers of the print -/
def ps (v : Int) (F : Nat → Int) (p : Nat) : Int := if v ≤ (p : Int) then min (F p) (F ((p : Int) - v).toNat + 1) else F p
def psP (v : Int) (F : Nat → Int) (t : Int) : Nat → Int := fun p => if t < (p : Int) ∧ p ≤ 300 then ps v F p else F p
def psN (v : Int) (F : Nat → Int) : Nat → Nat → Int
  | 0 => F
  | c + 1 => psP v (psN v F c) (-1)
def fwF (fv us : Nat → Int) : Nat → Nat → Int
  | 0 => fun q => if 1 ≤ q ∧ q < 301 then 99 else 0
  | i + 1 => psN (fv i) (fwF fv us i) (us i).toNat
theorem psP_0 {v : Int} {F : Nat → Int} : F = psP v F 300 := by
  funext p
  exact (if_neg (by omega)).symm
theorem psP_end {v t : Int} {F : Nat → Int} (h : t < v) : psP v F t = psP v F (-1) := by
  funext p
  simp only [psP]
  by_cases h1 : t < (p : Int) ∧ p ≤ 300
  · rw [if_pos h1, if_pos (by omega)]
  · rw [if_neg h1]
    by_cases h2 : (-1 : Int) < (p : Int) ∧ p ≤ 300
    · rw [if_pos h2]
      exact (if_neg (by omega)).symm
    · rw [if_neg h2]
theorem psP_s {v : Int} {F : Nat → Int} {t : Nat} (ht : t ≤ 300) : zU (psP v F (t : Int)) t (ps v F t) = psP v F ((t : Int) - 1) := by
  funext p
  simp only [zU, psP]
  by_cases e : p = t
  · subst e
    rw [if_pos rfl, if_pos (by omega)]
  · rw [if_neg e]
    by_cases h : (t : Int) < (p : Int) ∧ p ≤ 300
    · rw [if_pos h, if_pos (by omega)]
    · rw [if_neg h, if_neg (by omega)]
theorem psP_lo {v : Int} {F : Nat → Int} {t p : Nat} (h : p ≤ t) : psP v F (t : Int) p = F p := if_neg (by omega)
theorem tRow_0 {f : Nat → Int} {v : Int} {s : Nat} : tRow f v 0 s = f s := by
  have key : ∀ m, tIn f v 0 s m = f s := by
    intro m
    induction m with
    | zero => rfl
    | succ m ih =>
      simp only [tIn]
      rw [if_neg (by omega)]
      exact ih
  exact key 12
theorem tRow_at {f : Nat → Int} {v u : Int} {s : Nat} (hu : 0 ≤ u) : ∃ j s' : Nat, (j : Int) ≤ u ∧ (s : Int) = (j : Int) * v + (s' : Int) ∧ tRow f v u s = f s' + (j : Int) := by
  rcases tIn_at (f := f) (v := v) (u := u) (s := s) 12 with h | ⟨j, h3, h4, h5, h6, h7⟩
  · exact ⟨0, s, hu, by simp, by show tIn f v u s 12 = _; rw [h]; simp⟩
  · exact ⟨j, ((s : Int) - (j : Int) * v).toNat, h5, by omega, h7⟩
theorem tRow_up {f : Nat → Int} {v u : Int} {s j s' : Nat} (hu : u ≤ 12) (h1 : (j : Int) ≤ u) (h2 : (s : Int) = (j : Int) * v + (s' : Int)) : tRow f v u s ≤ f s' + (j : Int) := by
  have h := tRow_le (f := f) (v := v) (u := u) (s := s) (j := j) hu h1 (by omega)
  rw [show ((s : Int) - (j : Int) * v).toNat = s' by omega] at h
  exact h
theorem tRow_s {f : Nat → Int} {v : Int} (hv : 1 ≤ v) {c : Nat} (hc : c + 1 ≤ 12) {p : Nat} : tRow f v ((c + 1 : Nat) : Int) p = ps v (tRow f v (c : Int)) p := by
  obtain ⟨j, s', h1, h2, h3⟩ := tRow_at (f := f) (v := v) (u := ((c + 1 : Nat) : Int)) (s := p) (by omega)
  obtain ⟨i, t', g1, g2, g3⟩ := tRow_at (f := f) (v := v) (u := (c : Int)) (s := p) (by omega)
  have a1 := tRow_up (f := f) (v := v) (u := ((c + 1 : Nat) : Int)) (s := p) (j := i) (s' := t') (by omega) (by omega) g2
  have hj : (j : Int) * v = ((j : Int) - 1) * v + v := jv_split
  have hj0 : 0 ≤ (j : Int) * v := Int.mul_nonneg (by omega) (by omega)
  simp only [ps]
  by_cases hp : v ≤ (p : Int)
  · rw [if_pos hp]
    obtain ⟨k, r', q1, q2, q3⟩ := tRow_at (f := f) (v := v) (u := (c : Int)) (s := ((p : Int) - v).toNat) (by omega)
    have hk : ((k + 1 : Nat) : Int) * v = (k : Int) * v + v := by rw [show ((k + 1 : Nat) : Int) = (k : Int) + 1 by omega, Int.add_mul, Int.one_mul]
    have a2 := tRow_up (f := f) (v := v) (u := ((c + 1 : Nat) : Int)) (s := p) (j := k + 1) (s' := r') (by omega) (by omega) (by omega)
    by_cases e : j ≤ c
    · have a3 := tRow_up (f := f) (v := v) (u := (c : Int)) (s := p) (j := j) (s' := s') (by omega) (by omega) h2
      omega
    · have hj1 : 0 ≤ ((j : Int) - 1) * v := Int.mul_nonneg (by omega) (by omega)
      have a3 := tRow_up (f := f) (v := v) (u := (c : Int)) (s := ((p : Int) - v).toNat) (j := j - 1) (s' := s') (by omega) (by omega) (by rw [show ((j - 1 : Nat) : Int) = (j : Int) - 1 by omega]; omega)
      omega
  · rw [if_neg hp]
    have e : j ≤ c := by
      rcases Nat.lt_or_ge c j with e | e
      · have hj1 : 0 ≤ ((j : Int) - 1) * v := Int.mul_nonneg (by omega) (by omega)
        omega
      · exact e
    have a3 := tRow_up (f := f) (v := v) (u := (c : Int)) (s := p) (j := j) (s' := s') (by omega) (by omega) h2
    omega
theorem psN_row {v : Int} {F f : Nat → Int} (hv : 1 ≤ v) (hF : ∀ p, p ≤ 300 → F p = min 99 (f p)) : ∀ c, c ≤ 12 → ∀ p, p ≤ 300 → psN v F c p = min 99 (tRow f v (c : Int) p)
  | 0, _, p, hp => by
    show F p = min 99 (tRow f v 0 p)
    rw [hF p hp, tRow_0]
  | c + 1, hc, p, hp => by
    have ih := psN_row hv hF c (by omega)
    rw [tRow_s hv hc]
    show psP v (psN v F c) (-1) p = _
    simp only [psP]
    rw [if_pos (by omega)]
    simp only [ps]
    by_cases h : v ≤ (p : Int)
    · rw [if_pos h, if_pos h, ih p hp, ih _ (by omega)]
      omega
    · rw [if_neg h, if_neg h, ih p hp]
theorem fwF_tb {fv us : Nat → Int} : ∀ i, (∀ j, j < i → 1 ≤ fv j ∧ 0 ≤ us j ∧ us j ≤ 12) → ∀ p, p ≤ 300 → fwF fv us i p = min 99 (tb fv us i p)
  | 0, _, p, hp => by
    show (if 1 ≤ p ∧ p < 301 then (99 : Int) else 0) = min 99 (if p = 0 then (0 : Int) else 1000)
    by_cases e : p = 0
    · rw [if_pos e, if_neg (by omega)]
      rfl
    · rw [if_neg e, if_pos (by omega)]
      rfl
  | i + 1, h, p, hp => by
    obtain ⟨h1, h2, h3⟩ := h i (Nat.lt_succ_self i)
    have := psN_row (f := tb fv us i) h1 (fwF_tb i (fun j hj => h j (Nat.lt_succ_of_lt hj))) (us i).toNat (by omega) p hp
    show psN (fv i) (fwF fv us i) (us i).toNat p = min 99 (tRow (tb fv us i) (fv i) (us i) p)
    rw [this, show (((us i).toNat : Nat) : Int) = us i by omega]
/-- the reach by hand -/
theorem RC_few {n : Nat} {fv fs f : Nat → Int} {rm : Int} (hS : Sok n fv fs) (hr : 0 ≤ rm ∧ rm ≤ 12) (hf : ∀ p, p ≤ 300 → f p = min 99 (tb fv (fun j => min (fs j) rm) n p)) : rch f rm 300 0 = RC n fv fs rm := by
  refine rch_iff (fun q q1 q2 => ?_)
  rw [hf q q2]
  have h := TB_ix hS hr (s := q) (m := rm) (by omega)
  constructor
  · intro g
    exact h.mp (by omega)
  · intro g
    have := h.mpr g
    omega
/-! the print by hand -/
def PLm (fv : Nat → Int) (n : Nat) (more m : Int) (q : Nat) : Int := if PF fv n more q ≤ m then PF fv n more q else -1
def prS (fv : Nat → Int) (n : Nat) (more m : Int) (t : Nat) : Nat → Int := fun q => if q ≤ 300 then (if t < q then PLm fv n more m q else PLm fv n more (m - 1) q) else 0
def vlF (fv : Nat → Int) (n : Nat) (more : Int) (i : Nat) : Int := if i < n then fv i else more
def hitP (fv : Nat → Int) (n : Nat) (more m : Int) (t i : Nat) : Prop := 0 < vlF fv n more i ∧ vlF fv n more i ≤ (t : Int) ∧ PLm fv n more (m - 1) ((t : Int) - vlF fv n more i).toNat = m - 1
section PR
variable {fv : Nat → Int} {n : Nat} {more m : Int}
theorem prS_0 (hv : ∀ j, j < n → 1 ≤ fv j) : (fun q => if 1 ≤ q ∧ q < 301 then (-1 : Int) else 0) = prS fv n more 1 300 := by
  funext q
  simp only [prS]
  by_cases h : q ≤ 300
  · rw [if_pos h, if_neg (show ¬ 300 < q by omega)]
    simp only [PLm]
    by_cases e : q = 0
    · subst e
      rw [if_neg (by omega), pf_0 hv]
      rfl
    · have := pf_pos (more := more) hv (q := q) (by omega) h
      rw [if_pos (by omega), if_neg (by omega)]
  · rw [if_neg h, if_neg (by omega)]
theorem prS_nx (hv : ∀ j, j < n → 1 ≤ fv j) (hm : 1 ≤ m) : prS fv n more m 0 = prS fv n more (m + 1) 300 := by
  funext q
  simp only [prS]
  by_cases h : q ≤ 300
  · rw [if_pos h, if_pos h, if_neg (show ¬ 300 < q by omega), show m + 1 - 1 = m by omega]
    by_cases e : q = 0
    · subst e
      rw [if_neg (Nat.lt_irrefl _)]
      simp only [PLm]
      rw [pf_0 hv, if_pos (by omega), if_pos (by omega)]
    · rw [if_pos (by omega)]
  · rw [if_neg h, if_neg h]
theorem prS_at {t : Nat} (ht : t ≤ 300) {q : Nat} (hq : q ≤ t) : prS fv n more m t q = PLm fv n more (m - 1) q := by
  simp only [prS]
  rw [if_pos (by omega), if_neg (by omega)]
theorem prS_s {t : Nat} (ht : t ≤ 300) (h1 : 1 ≤ t) : zU (prS fv n more m t) t (PLm fv n more m t) = prS fv n more m (t - 1) := by
  funext q
  simp only [zU, prS]
  by_cases e : q = t
  · subst e
    rw [if_pos rfl, if_pos ht, if_pos (by omega)]
  · rw [if_neg e]
    by_cases h : q ≤ 300
    · rw [if_pos h, if_pos h]
      by_cases h2 : t < q
      · rw [if_pos h2, if_pos (by omega)]
      · rw [if_neg h2, if_neg (by omega)]
    · rw [if_neg h, if_neg h]
theorem prS_k {t : Nat} (ht : t ≤ 300) (h1 : 1 ≤ t) (h : 0 ≤ PLm fv n more (m - 1) t) : prS fv n more m t = prS fv n more m (t - 1) := by
  rw [← prS_s ht h1]
  funext q
  simp only [zU]
  by_cases e : q = t
  · subst e
    rw [if_pos rfl, prS_at ht (Nat.le_refl _)]
    simp only [PLm] at h ⊢
    by_cases g : PF fv n more q ≤ m - 1
    · rw [if_pos g, if_pos (by omega)]
    · rw [if_neg g] at h
      omega
  · rw [if_neg e]
theorem prS_n (hv : ∀ j, j < n → 1 ≤ fv j) {t : Nat} (ht : t ≤ 300) (h : ¬ 0 ≤ PLm fv n more (m - 1) t) : prS fv n more m t = zU (prS fv n more m t) t (-1) := by
  funext q
  simp only [zU]
  by_cases e : q = t
  · subst e
    rw [if_pos rfl, prS_at ht (Nat.le_refl _)]
    simp only [PLm] at h ⊢
    by_cases g : PF fv n more q ≤ m - 1
    · rw [if_pos g] at h
      rw [if_pos g]
      have h9 : ¬ 0 ≤ PF fv n more q := h
      exact absurd (pf_nn hv ht) h9
    · rw [if_neg g]
  · rw [if_neg e]
theorem hit_PL (hv : ∀ j, j < n → 1 ≤ fv j) (hm : 1 ≤ m) (hm2 : m ≤ 12) {t : Nat} (ht : t ≤ 300) (h1 : 1 ≤ t) (h : ¬ 0 ≤ PLm fv n more (m - 1) t) {x : Int} (hx : (x = m ∧ ∃ i, i < n + 1 ∧ hitP fv n more m t i) ∨ (x = -1 ∧ ∀ i, i < n + 1 → ¬ hitP fv n more m t i)) : x = PLm fv n more m t := by
  have hn := pf_nn (more := more) hv ht
  have h2 : ¬ PF fv n more t ≤ m - 1 := by
    intro g
    simp only [PLm] at h
    rw [if_pos g] at h
    exact h hn
  rcases hx with ⟨rfl, i, i1, i2, i3, i4⟩ | ⟨rfl, hno⟩
  · have h5 : PF fv n more ((t : Int) - vlF fv n more i).toNat = x - 1 := by
      simp only [PLm] at i4
      by_cases g : PF fv n more ((t : Int) - vlF fv n more i).toNat ≤ x - 1
      · rw [if_pos g] at i4
        exact i4
      · rw [if_neg g] at i4
        omega
    have h6 : PF fv n more t ≤ PF fv n more ((t : Int) - vlF fv n more i).toNat + 1 := by
      by_cases c : i < n
      · have e : vlF fv n more i = fv i := if_pos c
        rw [e] at i3 ⊢
        exact pf_le hv h1 ht c i3
      · have e : vlF fv n more i = more := if_neg c
        rw [e] at i2 i3 ⊢
        exact pf_more hv ht (by omega) i3
    simp only [PLm]
    rw [if_pos (by omega)]
    omega
  · simp only [PLm]
    by_cases g : PF fv n more t ≤ m
    · exfalso
      obtain ⟨v, v1, v2, v3, v4⟩ := pf_at (more := more) hv h1 ht (by omega)
      have key : PLm fv n more (m - 1) ((t : Int) - v).toNat = m - 1 := by
        simp only [PLm]
        rw [if_pos (by omega)]
        omega
      rcases v3 with rfl | ⟨i, i1, rfl⟩
      · have e : vlF fv n v n = v := if_neg (Nat.lt_irrefl _)
        exact hno n (by omega) ⟨by rw [e]; omega, by rw [e]; exact v2, by rw [e]; exact key⟩
      · have e : vlF fv n more i = fv i := if_pos i1
        exact hno i (by omega) ⟨by rw [e]; omega, by rw [e]; exact v2, by rw [e]; exact key⟩
    · rw [if_neg g]
theorem RP_print (hv : ∀ j, j < n → 1 ≤ fv j) {f : Nat → Int} (hf : ∀ p, p ≤ 300 → f p = PLm fv n more m p) : rch (fun q => 1 - f q) 0 300 0 = RP fv n more m := by
  refine rch_iff (fun q q1 q2 => ?_)
  have h := pf_pos (more := more) hv q1 q2
  have h2 := hf q q2
  simp only [PLm] at h2
  by_cases g : PF fv n more q ≤ m
  · rw [if_pos g] at h2
    constructor
    · intro _; exact g
    · intro _; show 1 - f q ≤ 0; omega
  · rw [if_neg g] at h2
    constructor
    · intro h3
      have h3 : 1 - f q ≤ 0 := h3
      omega
    · intro h3; exact absurd h3 g
end PR
