/-! what holds of every letter: no other choice is better; the most; by the numbers or by the values, the table is one -/
theorem tb_choice {vs us c : Nat → Int} : ∀ k, (∀ j, j < k → 0 ≤ vs j ∧ us j ≤ 12 ∧ 0 ≤ c j ∧ c j ≤ us j) → 0 ≤ sumTo (fun j => c j * vs j) k ∧ tb vs us k (sumTo (fun j => c j * vs j) k).toNat ≤ sumTo c k
  | 0, _ => ⟨Int.le_refl _, Int.le_refl _⟩
  | k + 1, h => by
    obtain ⟨h1, h2⟩ := tb_choice k (fun j hj => h j (Nat.lt_succ_of_lt hj))
    obtain ⟨g1, g2, g3, g4⟩ := h k (Nat.lt_succ_self k)
    have h3 : 0 ≤ c k * vs k := Int.mul_nonneg g3 g1
    have e : (((c k).toNat : Nat) : Int) = c k := by omega
    show 0 ≤ sumTo (fun j => c j * vs j) k + c k * vs k ∧ tb vs us (k + 1) (sumTo (fun j => c j * vs j) k + c k * vs k).toNat ≤ sumTo c k + c k
    refine ⟨by omega, ?_⟩
    have h4 := tb_inc (vs := vs) (us := us) (k := k) (s := (sumTo (fun j => c j * vs j) k + c k * vs k).toNat) (j := (c k).toNat) (s' := (sumTo (fun j => c j * vs j) k).toNat) g2 (by omega) (by rw [e]; omega)
    omega
theorem tb_ex {vs us : Nat → Int} : ∀ k, (∀ j, j < k → 0 ≤ us j) → (∀ j, j < k → 0 ≤ vs j) → ∀ s, tb vs us k s < 1000 → ∃ c : Nat → Int, (∀ j, j < k → 0 ≤ c j ∧ c j ≤ us j) ∧ sumTo (fun j => c j * vs j) k = (s : Int) ∧ sumTo c k = tb vs us k s
  | 0, _, _, s, h => by
    have h1 : s = 0 := by
      by_cases e : s = 0
      · exact e
      · have : tb vs us 0 s = 1000 := if_neg e
        omega
    subst h1
    exact ⟨fun _ => 0, fun j hj => absurd hj (Nat.not_lt_zero _), rfl, rfl⟩
  | k + 1, hu, hv, s, h => by
    obtain ⟨j, s', e1, e2, e3⟩ := tb_dec (vs := vs) (us := us) (k := k) (s := s) (hu k (Nat.lt_succ_self k))
    obtain ⟨c, c1, c2, c3⟩ := tb_ex k (fun i hi => hu i (Nat.lt_succ_of_lt hi)) (fun i hi => hv i (Nat.lt_succ_of_lt hi)) s' (by omega)
    have en : ∀ i, i < k → zU c k (j : Int) i = c i := fun i hi => if_neg (by omega)
    have ek : zU c k (j : Int) k = (j : Int) := if_pos rfl
    refine ⟨zU c k (j : Int), fun i hi => ?_, ?_, ?_⟩
    · by_cases e : i = k
      · subst e; rw [ek]; omega
      · rw [en i (by omega)]; exact c1 i (by omega)
    · show sumTo (fun i => zU c k (j : Int) i * vs i) k + zU c k (j : Int) k * vs k = (s : Int)
      rw [ek, sumTo_congr (g := fun i => c i * vs i) k (fun i hi => by rw [en i hi]), c2]
      omega
    · show sumTo (zU c k (j : Int)) k + zU c k (j : Int) k = tb vs us (k + 1) s
      rw [ek, sumTo_congr (g := c) k en, c3]
      omega
section PY
variable {cnt : Nat} {fv fs : Nat → Int} {rm : Int}
/-- a choice by the stamps' own numbers -/
theorem TB_choice (hS : Sok cnt fv fs) (hr : 0 ≤ rm ∧ rm ≤ 12) {o : Nat → Int} (ho : ∀ x, x < cnt → 0 ≤ o x ∧ o x ≤ fs x ∧ o x ≤ rm) : 0 ≤ sumTo (fun x => o x * fv x) cnt ∧ TB cnt fv fs rm (sumTo (fun x => o x * fv x) cnt).toNat ≤ sumTo o cnt := by
  have hord := ordF_ok fv cnt hS.2.2
  have h := tb_choice (vs := vsF fv cnt) (us := usF fv fs cnt rm) (c := fun j => o (ordF fv cnt j)) cnt (fun j hj => by
    have h1 := hS.vs hj
    have h2 := hS.us hr hj
    have h3 := ho _ (hord.1 j hj)
    have h4 : usF fv fs cnt rm j = min (fs (ordF fv cnt j)) rm := rfl
    refine ⟨by omega, by omega, h3.1, ?_⟩
    show o (ordF fv cnt j) ≤ usF fv fs cnt rm j
    omega)
  have e1 : sumTo (fun j => o (ordF fv cnt j) * vsF fv cnt j) cnt = sumTo (fun x => o x * fv x) cnt := sumTo_ord (F := fun x => o x * fv x) fv cnt
  have e2 : sumTo (fun j => o (ordF fv cnt j)) cnt = sumTo o cnt := sumTo_ord (F := o) fv cnt
  have h' : 0 ≤ sumTo (fun j => o (ordF fv cnt j) * vsF fv cnt j) cnt ∧ tb (vsF fv cnt) (usF fv fs cnt rm) cnt (sumTo (fun j => o (ordF fv cnt j) * vsF fv cnt j) cnt).toNat ≤ sumTo (fun j => o (ordF fv cnt j)) cnt := h
  rw [e1, e2] at h'
  exact h'
/-- no other choice is better -/
theorem f_other (hS : Sok cnt fv fs) (hr : 0 ≤ rm ∧ rm ≤ 12) {p : Nat} (hp : p ≤ 300) {o : Nat → Int} (ho : ∀ x, x < cnt → 0 ≤ o x ∧ o x ≤ fs x) (hm : sumTo o cnt ≤ rm) (hps : (p : Int) ≤ sumTo (fun x => o x * fv x) cnt) : ∃ s : Nat, LSm cnt fv fs rm p = (s : Int) ∧ (s : Int) ≤ sumTo (fun x => o x * fv x) cnt ∧ ((s : Int) = sumTo (fun x => o x * fv x) cnt → TB cnt fv fs rm s ≤ sumTo o cnt) := by
  have h1 := TB_choice hS hr (o := o) (fun x hx => ⟨(ho x hx).1, (ho x hx).2, by have := sumTo_one cnt (fun j hj => (ho j hj).1) x hx; omega⟩)
  rcases LS_sp hS hr hp with ⟨g1, g2⟩ | ⟨s, g1, g2, g3⟩
  · have := g2 (sumTo (fun x => o x * fv x) cnt).toNat (by omega)
    omega
  · refine ⟨s, g1, ?_, fun e => ?_⟩
    · rcases Int.lt_or_le (sumTo (fun x => o x * fv x) cnt) (s : Int) with g | g
      · have := g3.2.2 (sumTo (fun x => o x * fv x) cnt).toNat (by omega) (by omega)
        omega
      · exact g
    · rw [← e, Int.toNat_natCast] at h1
      exact h1.2
/-- the table by the stamps' own numbers -/
theorem TB_ix (hS : Sok cnt fv fs) (hr : 0 ≤ rm ∧ rm ≤ 12) {s : Nat} {m : Int} (hm : m < 1000) : tb fv (fun j => min (fs j) rm) cnt s ≤ m ↔ TB cnt fv fs rm s ≤ m := by
  have hord := ordF_ok fv cnt hS.2.2
  constructor
  · intro h
    obtain ⟨c, c1, c2, c3⟩ := tb_ex (vs := fv) (us := fun j => min (fs j) rm) cnt (fun j hj => by have := hS.2.1 j hj; show 0 ≤ min (fs j) rm; omega) (fun j hj => by have := hS.1 j hj; omega) s (by omega)
    have h1 := TB_choice hS hr (o := c) (fun x hx => by have : 0 ≤ c x ∧ c x ≤ min (fs x) rm := c1 x hx; omega)
    rw [c2, Int.toNat_natCast] at h1
    omega
  · intro h
    obtain ⟨c, c1, c2, c3⟩ := tb_ex (vs := vsF fv cnt) (us := usF fv fs cnt rm) cnt (fun j hj => (hS.us hr hj).1) (fun j hj => by have := hS.vs hj; omega) s (by have : TB cnt fv fs rm s = tb (vsF fv cnt) (usF fv fs cnt rm) cnt s := rfl; omega)
    have hj : ∀ j, j < cnt → cnt - 1 - cab fv (fv (ordF fv cnt j)) cnt = j := fun j hj => by
      rw [rank_ord hS.2.2 hj]
      omega
    have e1 : sumTo (fun x => c (cnt - 1 - cab fv (fv x) cnt) * fv x) cnt = (s : Int) := by
      rw [← sumTo_ord (F := fun x => c (cnt - 1 - cab fv (fv x) cnt) * fv x) fv cnt, ← c2]
      exact sumTo_congr cnt (fun j h9 => by rw [hj j h9]; rfl)
    have e2 : sumTo (fun x => c (cnt - 1 - cab fv (fv x) cnt)) cnt = tb (vsF fv cnt) (usF fv fs cnt rm) cnt s := by
      rw [← sumTo_ord (F := fun x => c (cnt - 1 - cab fv (fv x) cnt)) fv cnt, ← c3]
      exact sumTo_congr cnt (fun j h9 => by rw [hj j h9])
    have h1 := tb_choice (vs := fv) (us := fun j => min (fs j) rm) (c := fun x => c (cnt - 1 - cab fv (fv x) cnt)) cnt (fun x hx => by
      obtain ⟨j, j1, rfl⟩ := ordF_sur fv cnt x hx
      have h3 := c1 j j1
      have h4 : usF fv fs cnt rm j = min (fs (ordF fv cnt j)) rm := rfl
      have h5 := hS.1 _ hx
      rw [hj j j1]
      refine ⟨by omega, by show min (fs (ordF fv cnt j)) rm ≤ 12; omega, h3.1, by show c j ≤ min (fs (ordF fv cnt j)) rm; omega⟩)
    have h1' : 0 ≤ sumTo (fun x => c (cnt - 1 - cab fv (fv x) cnt) * fv x) cnt ∧ tb fv (fun j => min (fs j) rm) cnt (sumTo (fun x => c (cnt - 1 - cab fv (fv x) cnt) * fv x) cnt).toNat ≤ sumTo (fun x => c (cnt - 1 - cab fv (fv x) cnt)) cnt := h1
    rw [e1, e2, Int.toNat_natCast] at h1'
    have : TB cnt fv fs rm s = tb (vsF fv cnt) (usF fv fs cnt rm) cnt s := rfl
    omega
end PY
/-- the greatest sum of m stamps, from the greatest value on -/
def gk (vs us : Nat → Int) : Nat → Int → Int
  | 0, _ => 0
  | k + 1, m => min (us k) m * vs k + gk vs us k (m - min (us k) m)
theorem gk_lip {vs us : Nat → Int} {V : Int} : ∀ k, (∀ j, j < k → 0 ≤ vs j ∧ vs j ≤ V ∧ 0 ≤ us j) → 0 ≤ V → ∀ m d : Int, 0 ≤ m → 0 ≤ d → gk vs us k (m + d) ≤ gk vs us k m + d * V
  | 0, _, hV, m, d, _, hd => by
    have := Int.mul_nonneg hd hV
    show (0 : Int) ≤ 0 + d * V
    omega
  | k + 1, h, hV, m, d, hm, hd => by
    obtain ⟨g1, g2, g3⟩ := h k (Nat.lt_succ_self k)
    show min (us k) (m + d) * vs k + gk vs us k (m + d - min (us k) (m + d)) ≤ min (us k) m * vs k + gk vs us k (m - min (us k) m) + d * V
    obtain ⟨a, ha⟩ : ∃ a, min (us k) m = a := ⟨_, rfl⟩
    obtain ⟨b, hb⟩ : ∃ b, min (us k) (m + d) = a + b := ⟨min (us k) (m + d) - a, by omega⟩
    rw [ha, hb]
    have hb0 : 0 ≤ b := by omega
    have hbd : b ≤ d := by omega
    have ih := gk_lip (V := V) k (fun j hj => h j (Nat.lt_succ_of_lt hj)) hV (m - a) (d - b) (by omega) (by omega)
    have e : m - a + (d - b) = m + d - (a + b) := by omega
    rw [e] at ih
    have h1 : b * vs k ≤ b * V := Int.mul_le_mul_of_nonneg_left g2 hb0
    rw [Int.add_mul]
    rw [Int.sub_mul] at ih
    omega
theorem gk_hi {vs us : Nat → Int} : ∀ k, (∀ j, j < k → 0 ≤ vs j ∧ 0 ≤ us j) → (∀ i j, i < j → j < k → vs i ≤ vs j) → ∀ (s : Nat) (m : Int), tb vs us k s ≤ m → m < 1000 → (s : Int) ≤ gk vs us k m
  | 0, _, _, s, m, h1, h2 => by
    by_cases e : s = 0
    · subst e; exact Int.le_refl _
    · have : tb vs us 0 s = 1000 := if_neg e
      omega
  | k + 1, h, ha, s, m, h1, h2 => by
    obtain ⟨g1, g3⟩ := h k (Nat.lt_succ_self k)
    obtain ⟨j, s', e1, e2, e3⟩ := tb_dec (vs := vs) (us := us) (k := k) (s := s) g3
    have h0 := (tb_bd (vs := vs) (us := us) k (fun i hi => (h i (Nat.lt_succ_of_lt hi)).1) s').1
    have ih := gk_hi k (fun i hi => h i (Nat.lt_succ_of_lt hi)) (fun i j q1 q2 => ha i j q1 (Nat.lt_succ_of_lt q2)) s' (m - (j : Int)) (by omega) (by omega)
    show (s : Int) ≤ min (us k) m * vs k + gk vs us k (m - min (us k) m)
    obtain ⟨a, hA⟩ : ∃ a, min (us k) m = (j : Int) + a := ⟨min (us k) m - (j : Int), by omega⟩
    rw [hA]
    have h5 := gk_lip (vs := vs) (us := us) (V := vs k) k (fun i hi => ⟨(h i (Nat.lt_succ_of_lt hi)).1, ha i k hi (Nat.lt_succ_self k), (h i (Nat.lt_succ_of_lt hi)).2⟩) g1 (m - ((j : Int) + a)) a (by omega) (by omega)
    rw [show m - ((j : Int) + a) + a = m - (j : Int) by omega] at h5
    rw [Int.add_mul]
    omega
theorem gk_at {vs us : Nat → Int} : ∀ k, (∀ j, j < k → 0 ≤ vs j ∧ 0 ≤ us j ∧ us j ≤ 12) → ∀ m : Int, 0 ≤ m → 0 ≤ gk vs us k m ∧ tb vs us k (gk vs us k m).toNat ≤ m
  | 0, _, m, hm => ⟨Int.le_refl _, hm⟩
  | k + 1, h, m, hm => by
    obtain ⟨g1, g2, g3⟩ := h k (Nat.lt_succ_self k)
    obtain ⟨h1, h2⟩ := gk_at k (fun j hj => h j (Nat.lt_succ_of_lt hj)) (m - min (us k) m) (by omega)
    have h3 : 0 ≤ min (us k) m * vs k := Int.mul_nonneg (by omega) g1
    show 0 ≤ min (us k) m * vs k + gk vs us k (m - min (us k) m) ∧ tb vs us (k + 1) (min (us k) m * vs k + gk vs us k (m - min (us k) m)).toNat ≤ m
    refine ⟨by omega, ?_⟩
    have e : (((min (us k) m).toNat : Nat) : Int) = min (us k) m := by omega
    have h4 := tb_inc (vs := vs) (us := us) (k := k) (s := (min (us k) m * vs k + gk vs us k (m - min (us k) m)).toNat) (j := (min (us k) m).toNat) (s' := (gk vs us k (m - min (us k) m)).toNat) g3 (by omega) (by rw [e]; omega)
    omega
theorem gsm_gk {vs us : Nat → Int} {rm : Int} {n : Nat} : ∀ r, r ≤ n → (gsm (fun r => vs (n - 1 - r)) (fun r => us (n - 1 - r)) rm r).2 + gk vs us (n - r) (gsm (fun r => vs (n - 1 - r)) (fun r => us (n - 1 - r)) rm r).1 = gk vs us n rm
  | 0, _ => by
    show (0 : Int) + gk vs us (n - 0) rm = gk vs us n rm
    rw [Int.zero_add, Nat.sub_zero]
  | r + 1, h => by
    have ih := gsm_gk (vs := vs) (us := us) (rm := rm) (n := n) r (by omega)
    rw [show n - r = n - (r + 1) + 1 by omega] at ih
    have e : n - 1 - r = n - (r + 1) := by omega
    simp only [gsm, gk] at ih ⊢
    rw [e]
    omega
section PX
variable {cnt : Nat} {fv fs : Nat → Int} {rm : Int}
theorem GS_gk : GS cnt fv fs rm = gk (vsF fv cnt) (usF fv fs cnt rm) cnt rm := by
  have h := gsm_gk (vs := vsF fv cnt) (us := usF fv fs cnt rm) (rm := rm) (n := cnt) cnt (Nat.le_refl _)
  rw [Nat.sub_self] at h
  have h' : GS cnt fv fs rm + 0 = gk (vsF fv cnt) (usF fv fs cnt rm) cnt rm := h
  rw [Int.add_zero] at h'
  exact h'
/-- it gets some just if the postage is no more than the most -/
theorem f_most (hS : Sok cnt fv fs) (hr : 0 ≤ rm ∧ rm ≤ 12) {p : Nat} (hp : p ≤ 300) : LSm cnt fv fs rm p ≠ -1 ↔ (p : Int) ≤ GS cnt fv fs rm := by
  have hord := ordF_ok fv cnt hS.2.2
  have hv : ∀ j, j < cnt → 0 ≤ vsF fv cnt j ∧ 0 ≤ usF fv fs cnt rm j ∧ usF fv fs cnt rm j ≤ 12 := fun j hj => by
    have h1 := hS.vs hj
    have h2 := hS.us hr hj
    omega
  rw [GS_gk]
  constructor
  · intro h
    rcases LS_sp hS hr hp with ⟨g1, g2⟩ | ⟨s, g1, g2, g3⟩
    · exact absurd g1 h
    · have := gk_hi (vs := vsF fv cnt) (us := usF fv fs cnt rm) cnt (fun j hj => ⟨(hv j hj).1, (hv j hj).2.1⟩) (fun i j h1 h2 => Int.le_of_lt (hord.2 i j h1 h2)) s rm g3.2.1 (by omega)
      have := g3.1
      omega
  · intro h
    obtain ⟨h1, h2⟩ := gk_at (vs := vsF fv cnt) (us := usF fv fs cnt rm) cnt hv rm hr.1
    rcases LS_sp hS hr hp with ⟨g1, g2⟩ | ⟨s, g1, g2, g3⟩
    · have := g2 (gk (vsF fv cnt) (usF fv fs cnt rm) cnt rm).toNat (by omega)
      have e : TB cnt fv fs rm (gk (vsF fv cnt) (usF fv fs cnt rm) cnt rm).toNat = tb (vsF fv cnt) (usF fv fs cnt rm) cnt (gk (vsF fv cnt) (usF fv fs cnt rm) cnt rm).toNat := rfl
      omega
    · omega
/-- it pays exactly just if nothing is overpaid -/
theorem f_can {p : Nat} (hp : p < 360) : TB cnt fv fs rm p ≤ rm ↔ LSm cnt fv fs rm p = (p : Int) := by
  obtain ⟨n, hn⟩ : ∃ n, 360 - p = n + 1 := ⟨360 - p - 1, by omega⟩
  simp only [LSm]
  rw [hn]
  constructor
  · intro h
    exact fsm_t h
  · intro h
    by_cases g : TB cnt fv fs rm p ≤ rm
    · exact g
    · rw [fsm_f g] at h
      rcases fsm_bd (f := TB cnt fv fs rm) (rm := rm) n (p + 1) with q | ⟨j, q1, q2, q3, q4⟩ <;> omega
end PX
/-! rch by its marks -/
theorem rch_sp {f : Nat → Int} {rm : Int} : ∀ (n p : Nat), p ≤ rch f rm n p ∧ rch f rm n p ≤ p + n ∧ (∀ q, p < q → q ≤ rch f rm n p → f q ≤ rm) ∧ (rch f rm n p < p + n → rm < f (rch f rm n p + 1))
  | 0, p => ⟨Nat.le_refl _, Nat.le_refl _, fun q h1 h2 => by have h3 : q ≤ p := h2; omega, fun h => by have h3 : p < p + 0 := h; omega⟩
  | n + 1, p => by
    by_cases h : f (p + 1) ≤ rm
    · rw [rch_t h]
      obtain ⟨h1, h2, h3, h4⟩ := rch_sp (f := f) (rm := rm) n (p + 1)
      refine ⟨by omega, by omega, fun q q1 q2 => ?_, fun q => h4 (by omega)⟩
      by_cases e : q = p + 1
      · subst e; exact h
      · exact h3 q (by omega) q2
    · rw [rch_f h]
      exact ⟨Nat.le_refl _, by omega, fun q h1 h2 => by omega, fun _ => by omega⟩
theorem rch_ge {f : Nat → Int} {rm : Int} {r : Nat} (hr : r ≤ 300) (h : ∀ q, 0 < q → q ≤ r → f q ≤ rm) : r ≤ rch f rm 300 0 := by
  obtain ⟨h1, h2, h3, h4⟩ := rch_sp (f := f) (rm := rm) 300 0
  rcases Nat.lt_or_ge (rch f rm 300 0) r with g | g
  · have g1 := h4 (by omega)
    have g2 := h _ (Nat.succ_pos _) g
    have g3 : f (rch f rm 300 0 + 1) ≤ rm := g2
    omega
  · exact g
theorem rch_iff {f g : Nat → Int} {rm rm' : Int} (h : ∀ q, 0 < q → q ≤ 300 → (f q ≤ rm ↔ g q ≤ rm')) : rch f rm 300 0 = rch g rm' 300 0 := by
  have a := rch_sp (f := f) (rm := rm) 300 0
  have b := rch_sp (f := g) (rm := rm') 300 0
  have h1 : rch f rm 300 0 ≤ rch g rm' 300 0 := rch_ge (by omega) (fun q q1 q2 => (h q q1 (by omega)).mp (a.2.2.1 q q1 q2))
  have h2 : rch g rm' 300 0 ≤ rch f rm 300 0 := rch_ge (by omega) (fun q q1 q2 => (h q q1 (by omega)).mpr (b.2.2.1 q q1 q2))
  omega
