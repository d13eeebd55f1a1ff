/-! the search and the class's table: sums, counts, what is chosen -/
def sumTo (f : Nat → Int) : Nat → Int
  | 0 => 0
  | n + 1 => sumTo f n + f n
theorem sumTo_congr {f g : Nat → Int} : ∀ n, (∀ j, j < n → f j = g j) → sumTo f n = sumTo g n
  | 0, _ => rfl
  | n + 1, h => by
    simp only [sumTo]
    rw [sumTo_congr n (fun j hj => h j (Nat.lt_succ_of_lt hj)), h n (Nat.lt_succ_self n)]
theorem sumTo_nn {f : Nat → Int} : ∀ n, (∀ j, j < n → 0 ≤ f j) → 0 ≤ sumTo f n
  | 0, _ => Int.le_refl _
  | n + 1, h => by
    have h1 := sumTo_nn n (fun j hj => h j (Nat.lt_succ_of_lt hj))
    have h2 := h n (Nat.lt_succ_self n)
    show 0 ≤ sumTo f n + f n
    omega
theorem sumTo_one {f : Nat → Int} : ∀ n, (∀ j, j < n → 0 ≤ f j) → ∀ i, i < n → f i ≤ sumTo f n
  | 0, _, i, hi => absurd hi (Nat.not_lt_zero _)
  | n + 1, h, i, hi => by
    have h0 := sumTo_nn n (fun j hj => h j (Nat.lt_succ_of_lt hj))
    have h2 := h n (Nat.lt_succ_self n)
    show f i ≤ sumTo f n + f n
    by_cases e : i = n
    · subst e; omega
    · have h1 := sumTo_one n (fun j hj => h j (Nat.lt_succ_of_lt hj)) i (by omega)
      omega
theorem sumTo_bd {f : Nat → Int} {B : Int} : ∀ n, (∀ j, j < n → f j ≤ B) → sumTo f n ≤ (n : Int) * B
  | 0, _ => by simp [sumTo]
  | n + 1, h => by
    have h1 := sumTo_bd n (fun j hj => h j (Nat.lt_succ_of_lt hj))
    have h2 := h n (Nat.lt_succ_self n)
    show sumTo f n + f n ≤ ((n + 1 : Nat) : Int) * B
    rw [show ((n + 1 : Nat) : Int) = (n : Int) + 1 by omega, Int.add_mul, Int.one_mul]
    omega
theorem sumTo_ins {F : Nat → Int} {o : Nat → Nat} {p e : Nat} : ∀ n, p ≤ n → sumTo (fun j => F (insA o p e j)) (n + 1) = sumTo (fun j => F (o j)) n + F e
  | 0, hp => by
    have : p = 0 := by omega
    subst this
    simp [sumTo, insA]
  | n + 1, hp => by
    show sumTo (fun j => F (insA o p e j)) (n + 1) + F (insA o p e (n + 1)) = sumTo (fun j => F (o j)) n + F (o n) + F e
    by_cases h : p = n + 1
    · subst h
      have h1 : sumTo (fun j => F (insA o (n + 1) e j)) (n + 1) = sumTo (fun j => F (o j)) (n + 1) := sumTo_congr _ (fun j hj => by simp only [insA]; rw [if_pos hj])
      have h2 : insA o (n + 1) e (n + 1) = e := by simp only [insA]; rw [if_neg (Nat.lt_irrefl _)]; simp
      rw [h1, h2]
      rfl
    · rw [sumTo_ins n (by omega)]
      have h2 : insA o p e (n + 1) = o n := by simp only [insA]; rw [if_neg (by omega), if_neg (by omega)]; rfl
      rw [h2]
      omega
theorem sumTo_ord {F : Nat → Int} (fv : Nat → Int) : ∀ n, sumTo (fun j => F (ordF fv n j)) n = sumTo F n
  | 0 => rfl
  | n + 1 => by
    have h := sumTo_ins (F := F) (o := ordF fv n) (e := n) n (ptI_le (fv := fv) (o := ordF fv n) (x := fv n) n)
    show sumTo (fun j => F (insA (ordF fv n) (ptI fv (ordF fv n) (fv n) n) n j)) (n + 1) = sumTo F n + F n
    rw [h, sumTo_ord fv n]
theorem sumTo_split {f : Nat → Int} : ∀ n, sumTo f (n + 1) = f 0 + sumTo (fun j => f (j + 1)) n
  | 0 => by simp [sumTo]
  | n + 1 => by
    have h := sumTo_split (f := f) n
    show sumTo f (n + 1) + f (n + 1) = f 0 + (sumTo (fun j => f (j + 1)) n + f (n + 1))
    omega
theorem sumTo_rev {G : Nat → Int} : ∀ n, sumTo (fun r => G (n - 1 - r)) n = sumTo G n
  | 0 => rfl
  | n + 1 => by
    rw [sumTo_split]
    have h := sumTo_rev (G := G) n
    have h2 : sumTo (fun j => G (n + 1 - 1 - (j + 1))) n = sumTo (fun r => G (n - 1 - r)) n := sumTo_congr _ (fun j hj => by rw [show n + 1 - 1 - (j + 1) = n - 1 - j by omega])
    rw [h2, h]
    show G (n + 1 - 1 - 0) + sumTo G n = sumTo G n + G n
    rw [show n + 1 - 1 - 0 = n by omega]
    omega
def CHR (cnt : Nat) (fv fs : Nat → Int) (rm : Int) (s r : Nat) : Int := ((chm (RM cnt fv fs rm) (RV cnt fv) (RU cnt fv fs rm) s r : Nat) : Int)
theorem Gd_chm {vs us : Nat → Int} {n s : Nat} : ∀ k, k ≤ n → ∀ i, n - k ≤ i → i < n → Gd vs us n k (rst (fun r => tb vs us (n - r)) (fun r => vs (n - 1 - r)) (fun r => us (n - 1 - r)) s (n - k)) i = ((chm (fun r => tb vs us (n - r)) (fun r => vs (n - 1 - r)) (fun r => us (n - 1 - r)) s i : Nat) : Int)
  | 0, _, i, h1, h2 => absurd h2 (by omega)
  | k + 1, hk, i, h1, h2 => by
    have e1 : n - (n - (k + 1) + 1) = k := by omega
    have e2 : n - 1 - (n - (k + 1)) = k := by omega
    have e3 : n - (n - (k + 1)) = k + 1 := by omega
    have ec : chm (fun r => tb vs us (n - r)) (fun r => vs (n - 1 - r)) (fun r => us (n - 1 - r)) s (n - (k + 1)) = mo (tb vs us k) (vs k) (tb vs us (k + 1) (rst (fun r => tb vs us (n - r)) (fun r => vs (n - 1 - r)) (fun r => us (n - 1 - r)) s (n - (k + 1)))) (rst (fun r => tb vs us (n - r)) (fun r => vs (n - 1 - r)) (fun r => us (n - 1 - r)) s (n - (k + 1))) (us k).toNat := by
      simp only [chm]
      rw [e1, e2, e3]
    simp only [Gd]
    rw [← ec]
    by_cases e : i = n - (k + 1)
    · rw [if_pos e, e]
    · rw [if_neg e]
      have hs := rst_s (M := fun r => tb vs us (n - r)) (tv := fun r => vs (n - 1 - r)) (tu := fun r => us (n - 1 - r)) (s := s) (r := n - (k + 1))
      have e4 : vs (n - 1 - (n - (k + 1))) = vs k := by rw [e2]
      have hs' : ((rst (fun r => tb vs us (n - r)) (fun r => vs (n - 1 - r)) (fun r => us (n - 1 - r)) s (n - (k + 1)) : Nat) : Int) - ((chm (fun r => tb vs us (n - r)) (fun r => vs (n - 1 - r)) (fun r => us (n - 1 - r)) s (n - (k + 1)) : Nat) : Int) * vs k = ((rst (fun r => tb vs us (n - r)) (fun r => vs (n - 1 - r)) (fun r => us (n - 1 - r)) s (n - k) : Nat) : Int) := by
        rw [← e4, show n - k = n - (k + 1) + 1 by omega]
        exact hs.symm
      rw [hs', Int.toNat_natCast]
      exact Gd_chm k (by omega) i (by omega) h2
section PZ
variable {cnt : Nat} {fv fs : Nat → Int} {rm : Int}
theorem CHR_sum {s : Nat} : ∀ r, sumTo (fun i => CHR cnt fv fs rm s i * RV cnt fv i) r = (s : Int) - ((rst (RM cnt fv fs rm) (RV cnt fv) (RU cnt fv fs rm) s r : Nat) : Int)
  | 0 => by show (0 : Int) = (s : Int) - (s : Int); omega
  | r + 1 => by
    have h := rst_s (M := RM cnt fv fs rm) (tv := RV cnt fv) (tu := RU cnt fv fs rm) (s := s) (r := r)
    have h2 := CHR_sum (s := s) r
    show sumTo (fun i => CHR cnt fv fs rm s i * RV cnt fv i) r + ((chm (RM cnt fv fs rm) (RV cnt fv) (RU cnt fv fs rm) s r : Nat) : Int) * RV cnt fv r = _
    omega
theorem RU_bd (hS : Sok cnt fv fs) (hr : 0 ≤ rm ∧ rm ≤ 12) {r : Nat} (h : r < cnt) : 0 ≤ RU cnt fv fs rm r ∧ RU cnt fv fs rm r ≤ 12 := hS.us hr (by omega)
theorem RV_bd (hS : Sok cnt fv fs) {r : Nat} (h : r < cnt) : 1 ≤ RV cnt fv r ∧ RV cnt fv r ≤ 60 := hS.vs (by omega)
theorem CHR_many (hS : Sok cnt fv fs) (hr : 0 ≤ rm ∧ rm ≤ 12) {s : Nat} : ∀ r, r ≤ cnt → sumTo (CHR cnt fv fs rm s) r = TB cnt fv fs rm s - RM cnt fv fs rm r (rst (RM cnt fv fs rm) (RV cnt fv) (RU cnt fv fs rm) s r)
  | 0, _ => by
    show (0 : Int) = tb _ _ cnt s - tb _ _ (cnt - 0) s
    rw [Nat.sub_zero]
    omega
  | r + 1, h => by
    have h2 := CHR_many hS hr (s := s) r (by omega)
    have h3 := rst_s (M := RM cnt fv fs rm) (tv := RV cnt fv) (tu := RU cnt fv fs rm) (s := s) (r := r)
    have h4 := mo_at (f := RM cnt fv fs rm (r + 1)) (v := RV cnt fv r) (u := RU cnt fv fs rm r) (s := rst (RM cnt fv fs rm) (RV cnt fv) (RU cnt fv fs rm) s r) (RU_bd hS hr (by omega))
    rw [← RM_s (fv := fv) (fs := fs) (rm := rm) (by omega)] at h4
    show sumTo (CHR cnt fv fs rm s) r + ((chm (RM cnt fv fs rm) (RV cnt fv) (RU cnt fv fs rm) s r : Nat) : Int) = _
    have e : RM cnt fv fs rm (r + 1) ((rst (RM cnt fv fs rm) (RV cnt fv) (RU cnt fv fs rm) s r : Int) - ((chm (RM cnt fv fs rm) (RV cnt fv) (RU cnt fv fs rm) s r : Nat) : Int) * RV cnt fv r).toNat + ((chm (RM cnt fv fs rm) (RV cnt fv) (RU cnt fv fs rm) s r : Nat) : Int) = RM cnt fv fs rm r (rst (RM cnt fv fs rm) (RV cnt fv) (RU cnt fv fs rm) s r) := h4
    rw [← h3, Int.toNat_natCast] at e
    omega
theorem rst_end (hS : Sok cnt fv fs) (hr : 0 ≤ rm ∧ rm ≤ 12) {s : Nat} (hs : TB cnt fv fs rm s < 1000) : rst (RM cnt fv fs rm) (RV cnt fv) (RU cnt fv fs rm) s cnt = 0 ∧ sumTo (CHR cnt fv fs rm s) cnt = TB cnt fv fs rm s := by
  have h1 := CHR_many hS hr (s := s) cnt (Nat.le_refl _)
  have h2 := sumTo_nn (f := CHR cnt fv fs rm s) cnt (fun j _ => by show (0 : Int) ≤ ((_ : Nat) : Int); omega)
  have e : ∀ x, RM cnt fv fs rm cnt x = if x = 0 then 0 else 1000 := fun x => by
    show tb _ _ (cnt - cnt) x = _
    rw [Nat.sub_self]
    rfl
  rw [e] at h1
  by_cases h3 : rst (RM cnt fv fs rm) (RV cnt fv) (RU cnt fv fs rm) s cnt = 0
  · rw [if_pos h3] at h1
    exact ⟨h3, by omega⟩
  · rw [if_neg h3] at h1
    omega
/-- by the stamps' own numbers -/
theorem CH_sum (hS : Sok cnt fv fs) (hr : 0 ≤ rm ∧ rm ≤ 12) {s : Nat} (hs : TB cnt fv fs rm s < 1000) : sumTo (fun x => CH cnt fv fs rm s x * fv x) cnt = (s : Int) ∧ sumTo (CH cnt fv fs rm s) cnt = TB cnt fv fs rm s := by
  obtain ⟨h1, h2⟩ := rst_end hS hr hs
  have h3 := CHR_sum (cnt := cnt) (fv := fv) (fs := fs) (rm := rm) (s := s) cnt
  rw [h1] at h3
  have e : ∀ r, r < cnt → CH cnt fv fs rm s (ordF fv cnt (cnt - 1 - r)) = CHR cnt fv fs rm s r := fun r hr9 => by
    rw [CH_ord hS.2.2 (by omega), show cnt - 1 - (cnt - 1 - r) = r by omega]
    rfl
  constructor
  · rw [← sumTo_ord (F := fun x => CH cnt fv fs rm s x * fv x) fv cnt, ← sumTo_rev]
    rw [sumTo_congr (g := fun i => CHR cnt fv fs rm s i * RV cnt fv i) cnt (fun r hr9 => by
      show CH cnt fv fs rm s (ordF fv cnt (cnt - 1 - r)) * fv (ordF fv cnt (cnt - 1 - r)) = _
      rw [e r hr9]
      rfl)]
    rw [h3]
    simp
  · rw [← sumTo_ord (F := CH cnt fv fs rm s) fv cnt, ← sumTo_rev]
    rw [sumTo_congr (g := CHR cnt fv fs rm s) cnt (fun r hr9 => e r hr9)]
    exact h2
theorem LS_sp (hS : Sok cnt fv fs) (hr : 0 ≤ rm ∧ rm ≤ 12) {p : Nat} (hp : p ≤ 300) : (LSm cnt fv fs rm p = -1 ∧ ∀ s, p ≤ s → rm < TB cnt fv fs rm s) ∨ ∃ s : Nat, LSm cnt fv fs rm p = (s : Int) ∧ s < p + 60 ∧ Lst (TB cnt fv fs rm) rm p s := by
  rcases Lst_ex (T := TB cnt fv fs rm) (left := rm) (R := p) with ⟨s, h⟩ | h
  · right
    have h9 : s < p + 60 := by
      rcases Nat.lt_or_ge s (p + 60) with g | g
      · exact g
      · exfalso
        have h1 : tb (vsF fv cnt) (usF fv fs cnt rm) cnt s ≤ rm := h.2.1
        obtain ⟨v, g1, g2, g3, g4⟩ := tb_red (vs := vsF fv cnt) (us := usF fv fs cnt rm) cnt (fun i hi => hS.vs hi) (fun i hi => (hS.us hr hi).2) s (by omega) (by omega)
        have := h.2.2 (s - v) (by omega) (by omega)
        have e : TB cnt fv fs rm (s - v) = tb (vsF fv cnt) (usF fv fs cnt rm) cnt (s - v) := rfl
        omega
    exact ⟨s, fsm_is (360 - p) p s h.1 (by omega) h.2.1 h.2.2, h9, h⟩
  · exact Or.inl ⟨fsm_no (360 - p) p (fun j h1 _ => h j h1), h⟩
theorem Lst_uniq {T : Nat → Int} {left : Int} {R s t : Nat} (h : Lst T left R s) (g : Lst T left R t) : s = t := by
  rcases Nat.lt_trichotomy s t with e | e | e
  · have := g.2.2 s h.1 e
    have := h.2.1
    omega
  · exact e
  · have := h.2.2 t g.1 e
    have := g.2.1
    omega
/-- the stock by the order of the values -/
def soF (fv fs : Nat → Int) (cnt : Nat) : Nat → Int := fun j => fs (ordF fv cnt j)
/-- what the search gives, by the class's functions -/
def gotB (cnt : Nat) (fv fs : Nat → Int) (rm : Int) (p : Nat) (b : BB) : Prop := (LSm cnt fv fs rm p = -1 ∧ b = none) ∨ ∃ (s : Nat) (g : Nat → Int), LSm cnt fv fs rm p = (s : Int) ∧ TB cnt fv fs rm s ≤ rm ∧ p ≤ s ∧ s < p + 60 ∧ b = some ((s : Int), TB cnt fv fs rm s, g) ∧ ∀ r, r < cnt → g r = CHR cnt fv fs rm s r
theorem got_LF (hS : Sok cnt fv fs) (hr : 0 ≤ rm ∧ rm ≤ 12) {p : Nat} (hp : p ≤ 300) (now : Nat → Int) : gotB cnt fv fs rm p (LF (vsF fv cnt) (soF fv fs cnt) (p : Int) cnt cnt rm 0 0 now none) := by
  have hord := ordF_ok fv cnt hS.2.2
  have h := LF_bc (vs := vsF fv cnt) (ss := soF fv fs cnt) (us := usF fv fs cnt rm) (rm := rm) (p := (p : Int)) (n := cnt) hr.2 cnt (Nat.le_refl _) (fun j hj => hS.vs hj) (fun i j h1 h2 => Int.le_of_lt (hord.2 i j h1 h2)) (fun j hj => ⟨(hS.2.1 _ (hord.1 j hj)).1, rfl⟩) rm 0 0 now none hr.1 (Int.le_refl _)
  rw [show ((p : Int) - 0).toNat = p by omega] at h
  rcases LS_sp hS hr hp with ⟨g1, g2⟩ | ⟨s, g1, g2, g3⟩
  · rcases h with ⟨t, h1, h2⟩ | ⟨h1, h2⟩
    · have := g2 t h1.1
      have h3 : tb (vsF fv cnt) (usF fv fs cnt rm) cnt t ≤ rm := h1.2.1
      have e : TB cnt fv fs rm t = tb (vsF fv cnt) (usF fv fs cnt rm) cnt t := rfl
      omega
    · exact Or.inl ⟨g1, h2⟩
  · rcases h with ⟨t, h1, h2⟩ | ⟨h1, h2⟩
    · have e : t = s := Lst_uniq (T := TB cnt fv fs rm) h1 g3
      subst e
      refine Or.inr ⟨t, vec 0 now (Gd (vsF fv cnt) (usF fv fs cnt rm) cnt cnt t), g1, g3.2.1, g3.1, g2, ?_, ?_⟩
      · rw [h2]
        show some (0 + (t : Int), 0 + tb _ _ cnt t, vec (cnt - cnt) now (Gd (vsF fv cnt) (usF fv fs cnt rm) cnt cnt t)) = _
        rw [Int.zero_add, Int.zero_add, Nat.sub_self]
        rfl
      · intro r hr9
        show vec 0 now _ r = _
        simp only [vec]
        rw [if_neg (Nat.not_lt_zero _)]
        have h3 := Gd_chm (vs := vsF fv cnt) (us := usF fv fs cnt rm) (n := cnt) (s := t) cnt (Nat.le_refl _) r (by omega) hr9
        rw [Nat.sub_self] at h3
        exact h3
    · have := h1 s g3.1
      have h3 : tb (vsF fv cnt) (usF fv fs cnt rm) cnt s ≤ rm := g3.2.1
      omega
end PZ
