/-! pure functions of the print's tables -/
def pMin (f fv : Nat → Int) (p : Nat) (x : Int) : Nat → Int
  | 0 => x
  | n + 1 => if fv n ≤ (p : Int) then min (pMin f fv p x n) (f ((p : Int) - fv n).toNat + 1) else pMin f fv p x n
def stM (f : Nat → Int) (more : Int) (p : Nat) : Int := if 1 ≤ more ∧ more ≤ (p : Int) then f ((p : Int) - more).toNat + 1 else 1000
theorem stM_0 {f : Nat → Int} {p : Nat} : stM f 0 p = 1000 := if_neg (by omega)
theorem pMin_t {f fv : Nat → Int} {p n : Nat} {x : Int} (h : ¬ (p : Int) - fv n < 0) : min (pMin f fv p x n) (f ((p : Int) - fv n).toNat + 1) = pMin f fv p x (n + 1) := (if_pos (by omega)).symm
theorem pMin_f {f fv : Nat → Int} {p n : Nat} {x : Int} (h : (p : Int) - fv n < 0) : pMin f fv p x (n + 1) = pMin f fv p x n := if_neg (by omega)
theorem pMin_congr {f g fv gv : Nat → Int} {p : Nat} {x : Int} : ∀ n, (∀ j, j < n → 1 ≤ fv j) → (∀ j, j < n → fv j = gv j) → (∀ q, q < p → f q = g q) → pMin f fv p x n = pMin g gv p x n
  | 0, _, _, _ => rfl
  | n + 1, h1, h2, h3 => by
    have h4 := h1 n (Nat.lt_succ_self n)
    simp only [pMin]
    rw [pMin_congr n (fun j hj => h1 j (Nat.lt_succ_of_lt hj)) (fun j hj => h2 j (Nat.lt_succ_of_lt hj)) h3, ← h2 n (Nat.lt_succ_self n)]
    by_cases h5 : fv n ≤ (p : Int)
    · rw [if_pos h5, if_pos h5, h3 _ (by omega)]
    · rw [if_neg h5, if_neg h5]
theorem pMin_bd {f fv : Nat → Int} {p : Nat} {x : Int} (hx : 0 ≤ x) : ∀ n, (∀ j, j < n → 1 ≤ fv j) → (∀ q, q < p → 0 ≤ f q) → 0 ≤ pMin f fv p x n ∧ pMin f fv p x n ≤ x
  | 0, _, _ => ⟨hx, Int.le_refl _⟩
  | n + 1, h1, h2 => by
    have h4 := h1 n (Nat.lt_succ_self n)
    have ih := pMin_bd hx n (fun j hj => h1 j (Nat.lt_succ_of_lt hj)) h2
    simp only [pMin]
    split
    · have := h2 ((p : Int) - fv n).toNat (by omega)
      omega
    · exact ih
/-- the print's table up to n, with one more value, if it isn't 0 -/
def Pk (fv : Nat → Int) (cnt : Nat) (more : Int) (f : Nat → Int) (n : Nat) : Prop := f 0 = 0 ∧ ∀ q, 1 ≤ q → q < n → f q = pMin f fv q (stM f more q) cnt
theorem stM_congr {f g : Nat → Int} {more : Int} {p : Nat} (h : ∀ q, q < p → f q = g q) : stM f more p = stM g more p := by
  simp only [stM]
  by_cases h1 : 1 ≤ more ∧ more ≤ (p : Int)
  · rw [if_pos h1, if_pos h1, h _ (by omega)]
  · rw [if_neg h1, if_neg h1]
theorem stM_bd {f : Nat → Int} {more : Int} {p : Nat} (h : ∀ q, q < p → 0 ≤ f q ∧ f q ≤ 1000 + (q : Int)) : 0 ≤ stM f more p ∧ stM f more p ≤ 1000 + (p : Int) := by
  simp only [stM]
  split
  · have := h ((p : Int) - more).toNat (by omega)
    omega
  · omega
theorem Pk.bd {fv f : Nat → Int} {cnt n : Nat} {more : Int} (h : Pk fv cnt more f n) (hv : ∀ j, j < cnt → 1 ≤ fv j) : ∀ q, q < n → 0 ≤ f q ∧ f q ≤ 1000 + (q : Int) := by
  intro q
  induction q using Nat.strongRecOn with
  | _ q ih =>
    intro hq
    by_cases e : q = 0
    · subst e; rw [h.1]; omega
    · rw [h.2 q (by omega) hq]
      have h0 := stM_bd (f := f) (more := more) (p := q) (fun r hr => ih r hr (by omega))
      have h1 := pMin_bd (f := f) (fv := fv) (p := q) h0.1 cnt hv (fun r hr => (ih r hr (by omega)).1)
      omega
theorem Pk.uniq {fv gv f g : Nat → Int} {cnt n : Nat} {more : Int} (h : Pk fv cnt more f n) (h' : Pk gv cnt more g n) (hv : ∀ j, j < cnt → 1 ≤ fv j) (he : ∀ j, j < cnt → fv j = gv j) : ∀ q, q < n → f q = g q := by
  intro q
  induction q using Nat.strongRecOn with
  | _ q ih =>
    intro hq
    by_cases e : q = 0
    · subst e; rw [h.1, h'.1]
    · have hc : ∀ r, r < q → f r = g r := fun r hr => ih r hr (by omega)
      rw [h.2 q (by omega) hq, h'.2 q (by omega) hq, stM_congr hc, pMin_congr cnt hv he hc]
theorem Pk.step {fv f : Nat → Int} {cnt n : Nat} {more x : Int} (h : Pk fv cnt more f n) (hn : 1 ≤ n) (hv : ∀ j, j < cnt → 1 ≤ fv j) (hx : x = pMin f fv n (stM f more n) cnt) : Pk fv cnt more (zU f n x) (n + 1) := by
  have hc : ∀ q, q < n → zU f n x q = f q := fun q hq => if_neg (by omega)
  refine ⟨(hc 0 (by omega)).trans h.1, fun q h1 h2 => ?_⟩
  by_cases e : q = n
  · subst e
    rw [stM_congr hc, pMin_congr cnt hv (fun _ _ => rfl) hc, ← hx]
    exact if_pos rfl
  · rw [stM_congr (fun r hr => hc r (by omega)), pMin_congr cnt hv (fun _ _ => rfl) (fun r hr => hc r (by omega)), hc q (by omega)]
    exact h.2 q h1 (by omega)
/-- the first postage from s on, n looked at, that isn't paid; how many to n aren't -/
def fgp (f : Nat → Int) (rm : Int) : Nat → Nat → Int
  | 0, _ => -1
  | n + 1, s => if rm < f s then (s : Int) else fgp f rm n (s + 1)
theorem fgp_t {f : Nat → Int} {rm : Int} {n s : Nat} (h : rm < f s) : fgp f rm (n + 1) s = (s : Int) := if_pos h
theorem fgp_f {f : Nat → Int} {rm : Int} {n s : Nat} (h : ¬ rm < f s) : fgp f rm (n + 1) s = fgp f rm n (s + 1) := if_neg h
theorem fgp_bd {f : Nat → Int} {rm : Int} : ∀ (n s : Nat), fgp f rm n s = -1 ∨ ∃ j : Nat, s ≤ j ∧ j < s + n ∧ fgp f rm n s = (j : Int)
  | 0, _ => Or.inl rfl
  | n + 1, s => by
    by_cases h : rm < f s
    · exact Or.inr ⟨s, Nat.le_refl _, by omega, fgp_t h⟩
    · rw [fgp_f h]
      rcases fgp_bd n (s + 1) with h1 | ⟨j, h1, h2, h3⟩
      · exact Or.inl h1
      · exact Or.inr ⟨j, by omega, by omega, h3⟩
def cgp (f : Nat → Int) (rm : Int) : Nat → Nat
  | 0 => 0
  | n + 1 => cgp f rm n + (if rm < f (n + 1) then 1 else 0)
theorem cgp_t {f : Nat → Int} {rm : Int} {n : Nat} (h : rm < f (n + 1)) : ((cgp f rm (n + 1) : Nat) : Int) = (cgp f rm n : Int) + 1 := by simp [cgp, h]
theorem cgp_f {f : Nat → Int} {rm : Int} {n : Nat} (h : ¬ rm < f (n + 1)) : cgp f rm (n + 1) = cgp f rm n := by simp [cgp, h]
/-- with one value more, over a table -/
def gSt (fa : Nat → Int) (v : Int) (f : Nat → Int) (p : Nat) : Int := if v ≤ (p : Int) then min (fa p) (f ((p : Int) - v).toNat + 1) else fa p
def Gk (fa : Nat → Int) (v : Int) (f : Nat → Int) (n : Nat) : Prop := f 0 = 0 ∧ ∀ q, 1 ≤ q → q < n → f q = gSt fa v f q
theorem gSt_congr {fa f g : Nat → Int} {v : Int} {p : Nat} (hv : 1 ≤ v) (hp : 1 ≤ p) (h : ∀ q, q < p → f q = g q) : gSt fa v f p = gSt fa v g p := by
  simp only [gSt]
  by_cases h1 : v ≤ (p : Int)
  · rw [if_pos h1, if_pos h1, h _ (by omega)]
  · rw [if_neg h1, if_neg h1]
theorem Gk.step {fa f : Nat → Int} {v x : Int} {n : Nat} (h : Gk fa v f n) (hn : 1 ≤ n) (hv : 1 ≤ v) (hx : x = gSt fa v f n) : Gk fa v (zU f n x) (n + 1) := by
  have hc : ∀ q, q < n → zU f n x q = f q := fun q hq => if_neg (by omega)
  refine ⟨(hc 0 (by omega)).trans h.1, fun q h1 h2 => ?_⟩
  rw [gSt_congr hv h1 (fun r hr => hc r (by omega))]
  by_cases e : q = n
  · subst e
    rw [← hx]
    exact if_pos rfl
  · rw [hc q (by omega)]
    exact h.2 q h1 (by omega)
theorem Gk.bd {fa f : Nat → Int} {v : Int} {n : Nat} (h : Gk fa v f n) (hv : 1 ≤ v) (ha : ∀ q, q < n → 0 ≤ fa q ∧ fa q ≤ 2000) : ∀ q, q < n → 0 ≤ f q ∧ f q ≤ 2000 := by
  intro q
  induction q using Nat.strongRecOn with
  | _ q ih =>
    intro hq
    by_cases e : q = 0
    · subst e; rw [h.1]; omega
    · rw [h.2 q (by omega) hq]
      have h1 := ha q hq
      simp only [gSt]
      split
      · have := ih ((q : Int) - v).toNat (by omega) (by omega)
        omega
      · exact h1
/-- ways: a row of choices of k stamps, with one value more -/
def nw (M : Nat → Nat → Int) (v : Nat) : Nat → Nat → Int
  | 0 => M 0
  | k + 1 => fun p => if v ≤ p then M (k + 1) p + nw M v k (p - v) else M (k + 1) p
def w0 : Nat → Nat → Int := fun k p => if k = 0 ∧ p = 0 then 1 else 0
def wy (fv : Nat → Int) : Nat → Nat → Nat → Int
  | 0 => w0
  | n + 1 => nw (wy fv n) (fv n).toNat
def wsum (M : Nat → Nat → Int) (p : Nat) : Nat → Int
  | 0 => 0
  | k + 1 => wsum M p k + M k p
theorem nw_congr {M N : Nat → Nat → Int} {v pg : Nat} : ∀ k, (∀ a q, a ≤ k → q ≤ pg → M a q = N a q) → ∀ q, q ≤ pg → nw M v k q = nw N v k q
  | 0, h, q, hq => h 0 q (Nat.le_refl _) hq
  | k + 1, h, q, hq => by
    simp only [nw]
    rw [h (k + 1) q (Nat.le_refl _) hq]
    by_cases h1 : v ≤ q
    · rw [if_pos h1, if_pos h1, nw_congr k (fun a q ha hq => h a q (Nat.le_succ_of_le ha) hq) (q - v) (by omega)]
    · rw [if_neg h1, if_neg h1]
/-- half-way through a row -/
def W1 (M M1 : Nat → Nat → Int) (v pg k p : Nat) : Prop := ∀ a q, q ≤ pg → M1 a q = if a < k ∨ (a = k ∧ q < p) then nw M v a q else M a q
theorem W1.first {M : Nat → Nat → Int} {v pg : Nat} : W1 M M v pg 1 0 := by
  intro a q hq
  by_cases h : a < 1 ∨ (a = 1 ∧ q < 0)
  · rw [if_pos h]
    have : a = 0 := by omega
    subst this
    rfl
  · rw [if_neg h]
theorem W1.begin {M M1 : Nat → Nat → Int} {v pg k : Nat} (hk : 1 ≤ k) (h : W1 M M1 v pg k 0) : W1 M M1 v pg k v := by
  intro a q hq
  rw [h a q hq]
  by_cases h1 : a < k
  · rw [if_pos (Or.inl h1), if_pos (Or.inl h1)]
  · rw [if_neg (by omega)]
    by_cases h2 : a = k ∧ q < v
    · rw [if_pos (Or.inr h2)]
      obtain ⟨k', rfl⟩ : ∃ k', a = k' + 1 := ⟨a - 1, by omega⟩
      exact (if_neg (by omega)).symm
    · rw [if_neg (by omega)]
theorem W1.step {M M1 : Nat → Nat → Int} {v pg k p : Nat} (hp : v ≤ p) (hv : 1 ≤ v) (hq : p ≤ pg) (h : W1 M M1 v pg (k + 1) p) : W1 M (gU M1 (k + 1) p (M1 (k + 1) p + M1 k (p - v))) v pg (k + 1) (p + 1) := by
  intro a q hq2
  by_cases h1 : a = k + 1 ∧ q = p
  · obtain ⟨rfl, rfl⟩ := h1
    rw [gU_eq, if_pos (Or.inr ⟨rfl, Nat.lt_succ_self _⟩), h (k + 1) q hq2, h k (q - v) (by omega), if_neg (by omega), if_pos (Or.inl (Nat.lt_succ_self k))]
    exact (if_pos hp).symm
  · rw [gU_ne (fun e => by omega), h a q hq2]
    by_cases h2 : a < k + 1 ∨ (a = k + 1 ∧ q < p)
    · rw [if_pos h2, if_pos (by omega)]
    · rw [if_neg h2, if_neg (by omega)]
theorem W1.next {M M1 : Nat → Nat → Int} {v pg k p : Nat} (hp : pg < p) (h : W1 M M1 v pg k p) : W1 M M1 v pg (k + 1) 0 := by
  intro a q hq
  rw [h a q hq]
  by_cases h2 : a < k ∨ (a = k ∧ q < p)
  · rw [if_pos h2, if_pos (by omega)]
  · rw [if_neg h2, if_neg (by omega)]
theorem gSt_bd {fa f : Nat → Int} {v : Int} {p : Nat} (ha : 0 ≤ fa p ∧ fa p ≤ 2000) (hf : v ≤ (p : Int) → 0 ≤ f ((p : Int) - v).toNat) : 0 ≤ gSt fa v f p ∧ gSt fa v f p ≤ 2000 := by
  simp only [gSt]
  split
  · rename_i h
    have := hf h
    omega
  · exact ha
