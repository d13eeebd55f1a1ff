/-! by the print: fewest, ways, gaps, reach; the best value, the best to print, the scarcest; letters -/
section PV
variable {cnt : Nat} {fv : Nat → Int} {more : Int}
theorem pf_0 (hv : ∀ j, j < cnt → 1 ≤ fv j) : PF fv cnt more 0 = 0 := (PF_ok hv).1
theorem pf_nn (hv : ∀ j, j < cnt → 1 ≤ fv j) {q : Nat} (hq : q ≤ 300) : 0 ≤ PF fv cnt more q := ((PF_ok (more := more) hv).bd hv q (by omega)).1
theorem pf_le (hv : ∀ j, j < cnt → 1 ≤ fv j) {q i : Nat} (h1 : 1 ≤ q) (hq : q ≤ 300) (hi : i < cnt) (h : fv i ≤ (q : Int)) : PF fv cnt more q ≤ PF fv cnt more ((q : Int) - fv i).toNat + 1 := by
  rw [(PF_ok (more := more) hv).2 q h1 (by omega)]
  exact (pMin_le cnt).2 i hi h
theorem pf_more (hv : ∀ j, j < cnt → 1 ≤ fv j) {q : Nat} (hq : q ≤ 300) (h1 : 1 ≤ more) (h : more ≤ (q : Int)) : PF fv cnt more q ≤ PF fv cnt more ((q : Int) - more).toNat + 1 := by
  rw [(PF_ok (more := more) hv).2 q (by omega) (by omega)]
  have h2 := (pMin_le (f := PF fv cnt more) (fv := fv) (p := q) (x := stM (PF fv cnt more) more q) cnt).1
  have h3 : stM (PF fv cnt more) more q = PF fv cnt more ((q : Int) - more).toNat + 1 := if_pos ⟨h1, h⟩
  omega
theorem pf_at (hv : ∀ j, j < cnt → 1 ≤ fv j) {q : Nat} (h1 : 1 ≤ q) (hq : q ≤ 300) (h : PF fv cnt more q < 1000) : ∃ v : Int, 1 ≤ v ∧ v ≤ (q : Int) ∧ (v = more ∨ ∃ i, i < cnt ∧ v = fv i) ∧ PF fv cnt more q = PF fv cnt more ((q : Int) - v).toNat + 1 := by
  have e := (PF_ok (more := more) hv).2 q h1 (by omega)
  rcases pMin_at (f := PF fv cnt more) (fv := fv) (p := q) (x := stM (PF fv cnt more) more q) cnt with g | ⟨i, g1, g2, g3⟩
  · by_cases hm : 1 ≤ more ∧ more ≤ (q : Int)
    · have h3 : stM (PF fv cnt more) more q = PF fv cnt more ((q : Int) - more).toNat + 1 := if_pos hm
      exact ⟨more, hm.1, hm.2, Or.inl rfl, by omega⟩
    · have h3 : stM (PF fv cnt more) more q = 1000 := if_neg hm
      omega
  · exact ⟨fv i, hv i g1, g2, Or.inr ⟨i, g1, rfl⟩, by omega⟩
theorem pf_pos (hv : ∀ j, j < cnt → 1 ≤ fv j) {q : Nat} (h1 : 1 ≤ q) (hq : q ≤ 300) : 1 ≤ PF fv cnt more q := by
  by_cases h : PF fv cnt more q < 1000
  · obtain ⟨v, g1, g2, -, g3⟩ := pf_at hv h1 hq h
    have := pf_nn (more := more) hv (q := ((q : Int) - v).toNat) (by omega)
    omega
  · omega
/-- with one value more it takes no more -/
theorem pf_mono (hv : ∀ j, j < cnt → 1 ≤ fv j) : ∀ q : Nat, q ≤ 300 → PF fv cnt 0 q < 1000 → PF fv cnt more q ≤ PF fv cnt 0 q := by
  intro q
  induction q using Nat.strongRecOn with
  | _ q ih =>
    intro hq h
    by_cases h0 : q = 0
    · subst h0
      rw [pf_0 hv, pf_0 hv]
      exact Int.le_refl _
    · obtain ⟨v, g1, g2, g3, g4⟩ := pf_at (more := 0) hv (by omega) hq h
      rcases g3 with g3 | ⟨i, g3, g5⟩
      · omega
      · subst g5
        have h1 := ih ((q : Int) - fv i).toNat (by omega) (by omega) (by omega)
        have h2 := pf_le (more := more) hv (by omega) hq g3 g2
        omega
theorem f_reach (hv : ∀ j, j < cnt → 1 ≤ fv j) {rm : Int} (hr : rm ≤ 12) : RP fv cnt 0 rm ≤ RP fv cnt more rm := by
  have a := rch_sp (f := PF fv cnt 0) (rm := rm) 300 0
  refine rch_ge (by show rch (PF fv cnt 0) rm 300 0 ≤ 300; omega) (fun q q1 q2 => ?_)
  have q2 : q ≤ rch (PF fv cnt 0) rm 300 0 := q2
  have h1 := a.2.2.1 q q1 q2
  have h2 := pf_mono (more := more) hv q (by omega) (by omega)
  omega
theorem f_room {rm rm' : Int} (h : rm ≤ rm') : RP fv cnt 0 rm ≤ RP fv cnt 0 rm' := by
  have a := rch_sp (f := PF fv cnt 0) (rm := rm) 300 0
  refine rch_ge (by show rch (PF fv cnt 0) rm 300 0 ≤ 300; omega) (fun q q1 q2 => ?_)
  have h1 := a.2.2.1 q q1 q2
  omega
theorem pf_step (hv : ∀ j, j < cnt → 1 ≤ fv j) {i : Nat} (hi : i < cnt) : ∀ (j : Nat) (s' s : Nat), (s : Int) = (j : Int) * fv i + (s' : Int) → s ≤ 300 → PF fv cnt 0 s ≤ PF fv cnt 0 s' + (j : Int)
  | 0, s', s, h, _ => by
    have : s = s' := by simp at h; omega
    subst this
    simp
  | j + 1, s', s, h, hs => by
    have hvi := hv i hi
    rw [show ((j + 1 : Nat) : Int) = (j : Int) + 1 by omega, Int.add_mul, Int.one_mul] at h
    have hj : 0 ≤ (j : Int) * fv i := Int.mul_nonneg (by omega) (by omega)
    have h1 := pf_step hv hi j s' ((s : Int) - fv i).toNat (by omega) (by omega)
    have h2 := pf_le (more := 0) hv (q := s) (i := i) (by omega) hs hi (by omega)
    omega
/-- the fewest by the print are no more than by the stock -/
theorem pf_tb (hv : ∀ j, j < cnt → 1 ≤ fv j) {us : Nat → Int} : ∀ k, k ≤ cnt → (∀ j, j < k → 0 ≤ us j) → ∀ s, s ≤ 300 → tb fv us k s < 1000 → PF fv cnt 0 s ≤ tb fv us k s
  | 0, _, _, s, hs, h => by
    by_cases e : s = 0
    · subst e
      rw [pf_0 hv]
      exact Int.le_refl _
    · have : tb fv us 0 s = 1000 := if_neg e
      omega
  | k + 1, hk, hu, s, hs, h => by
    obtain ⟨j, s', e1, e2, e3⟩ := tb_dec (vs := fv) (us := us) (k := k) (s := s) (hu k (Nat.lt_succ_self k))
    have hvk := hv k (by omega)
    have hj : 0 ≤ (j : Int) * fv k := Int.mul_nonneg (by omega) (by omega)
    have h1 := pf_tb hv k (by omega) (fun i hi => hu i (Nat.lt_succ_of_lt hi)) s' (by omega) (by omega)
    have h2 := pf_step hv (i := k) (by omega) j s' s e2 hs
    omega
theorem f_few {fs : Nat → Int} {rm : Int} (hS : Sok cnt fv fs) (hr : 0 ≤ rm ∧ rm ≤ 12) {p : Nat} (hp : p ≤ 300) (h : TB cnt fv fs rm p ≤ rm) : PF fv cnt 0 p ≤ TB cnt fv fs rm p := by
  have hv : ∀ j, j < cnt → 1 ≤ fv j := fun j hj => (hS.1 j hj).1
  have h1 := (TB_ix (cnt := cnt) (fv := fv) (fs := fs) hS hr (s := p) (m := TB cnt fv fs rm p) (by omega)).mpr (Int.le_refl _)
  have h2 := pf_tb hv (us := fun j => min (fs j) rm) cnt (Nat.le_refl _) (fun j hj => by have := hS.2.1 j hj; show 0 ≤ min (fs j) rm; omega) p hp (by omega)
  omega
/-- the reach by the stock is no greater -/
theorem f_now {fs : Nat → Int} {rm : Int} (hS : Sok cnt fv fs) (hr : 0 ≤ rm ∧ rm ≤ 12) : RC cnt fv fs rm ≤ RP fv cnt 0 rm := by
  have a := rch_sp (f := TB cnt fv fs rm) (rm := rm) 300 0
  refine rch_ge (by show rch (TB cnt fv fs rm) rm 300 0 ≤ 300; omega) (fun q q1 q2 => ?_)
  have q2 : q ≤ rch (TB cnt fv fs rm) rm 300 0 := q2
  have h1 := a.2.2.1 q q1 q2
  have h2 := f_few hS hr (p := q) (by omega) h1
  omega
end PV
/-! ways -/
theorem nw_nn {M : Nat → Nat → Int} {v : Nat} (h : ∀ a q, 0 ≤ M a q) : ∀ k q, 0 ≤ nw M v k q
  | 0, q => h 0 q
  | k + 1, q => by
    have h1 := h (k + 1) q
    have h2 := nw_nn (v := v) h k (q - v)
    simp only [nw]
    split <;> omega
theorem wy_nn {fv : Nat → Int} : ∀ n k q, 0 ≤ wy fv n k q
  | 0, k, q => by
    show 0 ≤ (if k = 0 ∧ q = 0 then (1 : Int) else 0)
    split <;> omega
  | n + 1, k, q => nw_nn (wy_nn n) k q
def Bs (f : Nat → Nat) : Nat → Nat
  | 0 => f 0
  | k + 1 => f (k + 1) + Bs f k
def Bw : Nat → Nat → Nat
  | 0 => fun k => if k = 0 then 1 else 0
  | n + 1 => Bs (Bw n)
theorem wy_bd {fv : Nat → Int} : ∀ n k q, wy fv n k q ≤ (Bw n k : Int)
  | 0, k, q => by
    show (if k = 0 ∧ q = 0 then (1 : Int) else 0) ≤ ((if k = 0 then 1 else 0 : Nat) : Int)
    by_cases h : k = 0
    · rw [if_pos h]
      split <;> omega
    · rw [if_neg h, if_neg (by omega)]
      omega
  | n + 1, 0, q => wy_bd (fv := fv) n 0 q
  | n + 1, k + 1, q => by
    have h1 := wy_bd (fv := fv) n (k + 1) q
    have h2 := wy_bd (fv := fv) (n + 1) k (q - (fv n).toNat)
    have h3 := wy_nn (fv := fv) n (k + 1) q
    show nw (wy fv n) (fv n).toNat (k + 1) q ≤ ((Bw n (k + 1) + Bw (n + 1) k : Nat) : Int)
    have h2 : nw (wy fv n) (fv n).toNat k (q - (fv n).toNat) ≤ (Bw (n + 1) k : Int) := h2
    simp only [nw]
    split <;> omega
theorem Bw_all : ∀ n, n ≤ 8 → ∀ k, k ≤ 12 → Bw n k ≤ 60000 := by decide +kernel
theorem wsum_bd {fv : Nat → Int} {n p : Nat} (hn : n ≤ 8) : ∀ k, k ≤ 13 → 0 ≤ wsum (wy fv n) p k ∧ wsum (wy fv n) p k ≤ 60000 * (k : Int)
  | 0, _ => ⟨Int.le_refl _, Int.le_refl _⟩
  | k + 1, hk => by
    obtain ⟨h1, h2⟩ := wsum_bd (fv := fv) (p := p) hn k (by omega)
    have h3 := wy_nn (fv := fv) n k p
    have h4 := wy_bd (fv := fv) n k p
    have h5 := Bw_all n hn k (by omega)
    show 0 ≤ wsum (wy fv n) p k + wy fv n k p ∧ wsum (wy fv n) p k + wy fv n k p ≤ 60000 * ((k + 1 : Nat) : Int)
    omega
theorem wsum_pos {M : Nat → Nat → Int} {p : Nat} (h : ∀ a q, 0 ≤ M a q) : ∀ k, 0 ≤ wsum M p k ∧ (wsum M p k = 0 → ∀ j, j < k → M j p = 0)
  | 0 => ⟨Int.le_refl _, fun _ j hj => absurd hj (Nat.not_lt_zero _)⟩
  | k + 1 => by
    obtain ⟨h1, h2⟩ := wsum_pos (p := p) h k
    have h3 := h k p
    show 0 ≤ wsum M p k + M k p ∧ (wsum M p k + M k p = 0 → _)
    refine ⟨by omega, fun h4 j hj => ?_⟩
    by_cases e : j = k
    · subst e; omega
    · exact h2 (by omega) j (by omega)
section PU
variable {cnt : Nat} {fv : Nat → Int}
theorem nw_up {M : Nat → Nat → Int} {v w : Nat} (hn : ∀ a q, 0 ≤ M a q) (h : ∀ a q, 1 ≤ M a q → 1 ≤ M (a + 1) (q + w)) : ∀ k q, 1 ≤ nw M v k q → 1 ≤ nw M v (k + 1) (q + w)
  | 0, q, h1 => by
    have h2 := h 0 q h1
    have h3 := nw_nn (v := v) hn 0 (q + w - v)
    show 1 ≤ (if v ≤ q + w then M (0 + 1) (q + w) + nw M v 0 (q + w - v) else M (0 + 1) (q + w))
    split <;> omega
  | k + 1, q, h1 => by
    have h3 := nw_nn (v := v) hn (k + 1) (q + w - v)
    show 1 ≤ (if v ≤ q + w then M (k + 1 + 1) (q + w) + nw M v (k + 1) (q + w - v) else M (k + 1 + 1) (q + w))
    by_cases g : 1 ≤ M (k + 1) q
    · have := h _ _ g
      split <;> omega
    · have h1 : 1 ≤ (if v ≤ q then M (k + 1) q + nw M v k (q - v) else M (k + 1) q) := h1
      have h4 := hn (k + 1) q
      by_cases c : v ≤ q
      · rw [if_pos c] at h1
        have h5 := nw_up (v := v) hn h k (q - v) (by omega)
        rw [show q - v + w = q + w - v by omega] at h5
        have h6 := hn (k + 1 + 1) (q + w)
        rw [if_pos (by omega)]
        omega
      · rw [if_neg c] at h1
        omega
theorem wy_add (hv : ∀ j, j < cnt → 1 ≤ fv j) : ∀ n, n ≤ cnt → ∀ i, i < n → ∀ k q, 1 ≤ wy fv n k q → 1 ≤ wy fv n (k + 1) (q + (fv i).toNat)
  | 0, _, i, hi, _, _, _ => absurd hi (Nat.not_lt_zero _)
  | n + 1, hn, i, hi, k, q, h => by
    by_cases e : i = n
    · subst e
      show 1 ≤ nw (wy fv i) (fv i).toNat (k + 1) (q + (fv i).toNat)
      have h2 : 1 ≤ nw (wy fv i) (fv i).toNat k q := h
      have h3 := wy_nn (fv := fv) i (k + 1) (q + (fv i).toNat)
      simp only [nw]
      rw [if_pos (by omega), Nat.add_sub_cancel]
      omega
    · exact nw_up (wy_nn n) (fun a b h9 => wy_add hv n (by omega) i (by omega) a b h9) k q h
theorem wy_of (hv : ∀ j, j < cnt → 1 ≤ fv j) : ∀ (k q : Nat), q ≤ 300 → PF fv cnt 0 q = (k : Int) → k < 1000 → 1 ≤ wy fv cnt k q
  | 0, q, hq, h, _ => by
    have h0 : q = 0 := by
      by_cases e : q = 0
      · exact e
      · have := pf_pos (more := 0) hv (q := q) (by omega) hq
        omega
    subst h0
    have key : ∀ n, wy fv n 0 0 = 1 := by
      intro n
      induction n with
      | zero => rfl
      | succ n ih => exact ih
    rw [key]
    exact Int.le_refl _
  | k + 1, q, hq, h, hk => by
    have h1 : 1 ≤ q := by
      by_cases e : q = 0
      · subst e
        rw [pf_0 hv] at h
        omega
      · omega
    obtain ⟨v, g1, g2, g3, g4⟩ := pf_at (more := 0) hv h1 hq (by omega)
    rcases g3 with g3 | ⟨i, g3, g5⟩
    · omega
    · subst g5
      have h2 := wy_of hv k ((q : Int) - fv i).toNat (by omega) (by omega) (by omega)
      have h3 := wy_add hv cnt (Nat.le_refl _) i g3 k _ h2
      rw [show ((q : Int) - fv i).toNat + (fv i).toNat = q by omega] at h3
      exact h3
theorem wy_to (hv : ∀ j, j < cnt → 1 ≤ fv j) : ∀ n, n ≤ cnt → ∀ k q, q ≤ 300 → 1 ≤ wy fv n k q → PF fv cnt 0 q ≤ (k : Int)
  | 0, _, k, q, _, h => by
    have h : 1 ≤ (if k = 0 ∧ q = 0 then (1 : Int) else 0) := h
    by_cases e : k = 0 ∧ q = 0
    · rw [e.2, pf_0 hv]
      omega
    · rw [if_neg e] at h
      omega
  | n + 1, hn, 0, q, hq, h => wy_to hv n (by omega) 0 q hq h
  | n + 1, hn, k + 1, q, hq, h => by
    have hvn := hv n (by omega)
    have h1 : 1 ≤ (if (fv n).toNat ≤ q then wy fv n (k + 1) q + nw (wy fv n) (fv n).toNat k (q - (fv n).toNat) else wy fv n (k + 1) q) := h
    by_cases g : 1 ≤ wy fv n (k + 1) q
    · exact wy_to hv n (by omega) (k + 1) q hq g
    · by_cases c : (fv n).toNat ≤ q
      · rw [if_pos c] at h1
        have h2 : 1 ≤ wy fv (n + 1) k (q - (fv n).toNat) := by show 1 ≤ nw (wy fv n) (fv n).toNat k (q - (fv n).toNat); omega
        have h3 := wy_to hv (n + 1) hn k (q - (fv n).toNat) (by omega) h2
        have h4 := pf_le (more := 0) hv (q := q) (i := n) (by omega) hq (by omega) (by omega)
        rw [show ((q : Int) - fv n).toNat = q - (fv n).toNat by omega] at h4
        omega
      · rw [if_neg c] at h1
        omega
/-- there is a way just if there is a number -/
theorem f_ways (hv : ∀ j, j < cnt → 1 ≤ fv j) {rm : Int} (hr : 0 ≤ rm ∧ rm ≤ 12) {p : Nat} (hp : p ≤ 300) : wsum (wy fv cnt) p (rm.toNat + 1) = 0 ↔ rm < PF fv cnt 0 p := by
  obtain ⟨h1, h2⟩ := wsum_pos (p := p) (wy_nn (fv := fv) cnt) (rm.toNat + 1)
  constructor
  · intro h
    rcases Int.lt_or_le rm (PF fv cnt 0 p) with g | g
    · exact g
    · have h3 := pf_nn (more := 0) hv hp
      have h4 := wy_of hv (PF fv cnt 0 p).toNat p hp (by omega) (by omega)
      have h5 := h2 h (PF fv cnt 0 p).toNat (by omega)
      omega
  · intro h
    have key : ∀ k, k ≤ rm.toNat + 1 → wsum (wy fv cnt) p k = 0 := by
      intro k
      induction k with
      | zero => intro _; rfl
      | succ k ih =>
        intro hk
        have h3 := wy_nn (fv := fv) cnt k p
        have h4 : ¬ 1 ≤ wy fv cnt k p := fun q => by
          have := wy_to hv cnt (Nat.le_refl _) k p hp q
          omega
        show wsum (wy fv cnt) p k + wy fv cnt k p = 0
        rw [ih (by omega)]
        omega
    exact key _ (Nat.le_refl _)
end PU
/-! gaps -/
theorem fgp_sp {f : Nat → Int} {rm : Int} : ∀ (n s : Nat), (fgp f rm n s = -1 ∧ ∀ j, s ≤ j → j < s + n → f j ≤ rm) ∨ ∃ j : Nat, s ≤ j ∧ j < s + n ∧ fgp f rm n s = (j : Int) ∧ rm < f j ∧ ∀ i, s ≤ i → i < j → f i ≤ rm
  | 0, s => Or.inl ⟨rfl, fun j h1 h2 => absurd h2 (by omega)⟩
  | n + 1, s => by
    by_cases h : rm < f s
    · exact Or.inr ⟨s, Nat.le_refl _, by omega, fgp_t h, h, fun i h1 h2 => absurd h2 (by omega)⟩
    · rw [fgp_f h]
      rcases fgp_sp (f := f) (rm := rm) n (s + 1) with ⟨h1, h2⟩ | ⟨j, h1, h2, h3, h4, h5⟩
      · refine Or.inl ⟨h1, fun j g1 g2 => ?_⟩
        by_cases e : j = s
        · subst e; omega
        · exact h2 j (by omega) (by omega)
      · refine Or.inr ⟨j, by omega, by omega, h3, h4, fun i g1 g2 => ?_⟩
        by_cases e : i = s
        · subst e; omega
        · exact h5 i (by omega) g2
theorem cgp_bd {f : Nat → Int} {rm : Int} : ∀ n, cgp f rm n ≤ n
  | 0 => Nat.le_refl _
  | n + 1 => by
    have := cgp_bd (f := f) (rm := rm) n
    simp only [cgp]
    split <;> omega
theorem cgp_no {f : Nat → Int} {rm : Int} {n : Nat} (h1 : 1 ≤ n) (h : f n ≤ rm) : cgp f rm n < n := by
  obtain ⟨m, rfl⟩ : ∃ m, n = m + 1 := ⟨n - 1, by omega⟩
  have := cgp_bd (f := f) (rm := rm) m
  rw [cgp_f (by omega)]
  omega
/-! the best -/
theorem pig {fv : Nat → Int} {cnt : Nat} : ∀ n m : Nat, (∀ v : Nat, m < v → v ≤ m + n → ∃ j, j < cnt ∧ fv j = (v : Int)) → n ≤ cab fv (m : Int) cnt
  | 0, _, _ => Nat.zero_le _
  | n + 1, m, h => by
    have ih := pig (fv := fv) (cnt := cnt) n (m + 1) (fun v h1 h2 => h v (by omega) (by omega))
    obtain ⟨j, h1, h2⟩ := h (m + 1) (by omega) (by omega)
    have h3 := cab_strict (fv := fv) (x := (m : Int)) (b := j) (by omega) cnt h1
    rw [h2] at h3
    omega
theorem bv_sp {fv : Nat → Int} {cnt : Nat} {rm : Int} : ∀ n : Nat, ((bvF fv cnt rm n).2 = -1 ∧ ∀ v : Nat, 0 < v → v ≤ 0 + n → ∃ j, j < cnt ∧ fv j = (v : Int)) ∨ ∃ v : Nat, 1 ≤ v ∧ v ≤ n ∧ (bvF fv cnt rm n).1 = (v : Int) ∧ hasB fv (v : Int) cnt = false
  | 0 => Or.inl ⟨rfl, fun v h1 h2 => absurd h2 (by omega)⟩
  | n + 1 => by
    simp only [bvF]
    by_cases h : hasB fv ((n + 1 : Nat) : Int) cnt = true
    · rw [if_pos h]
      rcases bv_sp (fv := fv) (cnt := cnt) (rm := rm) n with ⟨h1, h2⟩ | ⟨v, h1, h2, h3, h4⟩
      · refine Or.inl ⟨h1, fun v g1 g2 => ?_⟩
        by_cases e : v = n + 1
        · subst e; exact (hasB_iff cnt).mp h
        · exact h2 v g1 (by omega)
      · exact Or.inr ⟨v, h1, by omega, h3, h4⟩
    · rw [if_neg h]
      by_cases g : (bvF fv cnt rm n).2 < (RP fv cnt ((n + 1 : Nat) : Int) rm : Int)
      · rw [if_pos g]
        exact Or.inr ⟨n + 1, by omega, Nat.le_refl _, rfl, by simpa using h⟩
      · rw [if_neg g]
        rcases bv_sp (fv := fv) (cnt := cnt) (rm := rm) n with ⟨h1, h2⟩ | ⟨v, h1, h2, h3, h4⟩
        · omega
        · exact Or.inr ⟨v, h1, by omega, h3, h4⟩
theorem f_best {fv : Nat → Int} {cnt : Nat} {rm : Int} (hc : cnt ≤ 8) : ∃ v : Nat, 1 ≤ v ∧ v ≤ 60 ∧ (bvF fv cnt rm 60).1 = (v : Int) ∧ hasB fv (v : Int) cnt = false := by
  rcases bv_sp (fv := fv) (cnt := cnt) (rm := rm) 60 with ⟨h1, h2⟩ | h
  · exfalso
    have h3 := pig (fv := fv) (cnt := cnt) 60 0 h2
    have h4 := cab_le fv ((0 : Nat) : Int) cnt
    omega
  · exact h
theorem bp_sp {fv fs : Nat → Int} {cnt : Nat} {rm : Int} : ∀ n : Nat, 1 ≤ n → ∃ i : Nat, i < n ∧ (bpF cnt fv fs rm n).1 = (i : Int) ∧ (bpF cnt fv fs rm n).2 = (RC cnt fv (zU fs i (fs i + 20)) rm : Int) ∧ ∀ k, k < n → RC cnt fv (zU fs k (fs k + 20)) rm ≤ RC cnt fv (zU fs i (fs i + 20)) rm
  | 0, h => absurd h (by omega)
  | n + 1, _ => by
    simp only [bpF]
    by_cases h0 : n = 0
    · subst h0
      have e : (bpF cnt fv fs rm 0).2 = -1 := rfl
      rw [e, if_pos (by omega)]
      exact ⟨0, by omega, rfl, rfl, fun k hk => by
        have : k = 0 := by omega
        subst this
        exact Nat.le_refl _⟩
    · obtain ⟨i, h1, h2, h3, h4⟩ := bp_sp (fv := fv) (fs := fs) (cnt := cnt) (rm := rm) n (by omega)
      by_cases g : (bpF cnt fv fs rm n).2 < (RC cnt fv (zU fs n (fs n + 20)) rm : Int)
      · rw [if_pos g]
        refine ⟨n, Nat.lt_succ_self n, rfl, rfl, fun k hk => ?_⟩
        by_cases e : k = n
        · subst e; exact Nat.le_refl _
        · have := h4 k (by omega)
          omega
      · rw [if_neg g]
        refine ⟨i, by omega, h2, h3, fun k hk => ?_⟩
        by_cases e : k = n
        · subst e; omega
        · exact h4 k (by omega)
theorem sc_sp {fs : Nat → Int} : ∀ n : Nat, 1 ≤ n → (∀ j, j < n → fs j ≤ 99) → ∃ i : Nat, i < n ∧ (scF fs n).1 = (i : Int) ∧ (scF fs n).2 = fs i ∧ (∀ k, k < n → fs i ≤ fs k) ∧ ∀ k, k < i → fs i < fs k
  | 0, h, _ => absurd h (by omega)
  | n + 1, _, hb => by
    simp only [scF]
    by_cases h0 : n = 0
    · subst h0
      have e : (scF fs 0).2 = 100 := rfl
      have h9 := hb 0 (by omega)
      rw [e, if_pos (by omega)]
      exact ⟨0, by omega, rfl, rfl, fun k hk => by
        have : k = 0 := by omega
        subst this
        exact Int.le_refl _, fun k hk => absurd hk (Nat.not_lt_zero _)⟩
    · obtain ⟨i, h1, h2, h3, h4, h5⟩ := sc_sp (fs := fs) n (by omega) (fun j hj => hb j (by omega))
      by_cases g : fs n < (scF fs n).2
      · rw [if_pos g]
        refine ⟨n, Nat.lt_succ_self n, rfl, rfl, fun k hk => ?_, fun k hk => ?_⟩
        · by_cases e : k = n
          · subst e; exact Int.le_refl _
          · have := h4 k (by omega)
            omega
        · have := h4 k hk
          omega
      · rw [if_neg g]
        refine ⟨i, by omega, h2, h3, fun k hk => ?_, h5⟩
        by_cases e : k = n
        · subst e; omega
        · exact h4 k (by omega)
theorem ltr_bd {cnt : Nat} {fv : Nat → Int} {rm : Int} {p : Nat} : ∀ (n : Nat) (fs : Nat → Int), ltr cnt fv rm p n fs ≤ n
  | 0, _ => Nat.le_refl _
  | n + 1, fs => by
    by_cases h : LSm cnt fv fs rm p = -1
    · rw [ltr_0 h]
      omega
    · rw [ltr_s h]
      have := ltr_bd (cnt := cnt) (fv := fv) (rm := rm) (p := p) n (sbS cnt fs (CH cnt fv fs rm (LSm cnt fv fs rm p).toNat))
      omega
