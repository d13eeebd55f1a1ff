/-! the model's world and small steps -/
def MW (ad : Nat → Nat) (cI cG : ClassId) (th : Int) (cnt : Nat) (rm lt tk ov : Int) (fv fs fd : Nat → Int) (w : va_W) : Prop := ∃ (fo : Nat → Int) (F : Nat → Nat → Int) (fg fp : Nat → Int) (Y : Nat → Nat → Int), w = wM ad cI cG th (cnt : Int) rm lt tk ov fv fs fd fo F fg fp Y
theorem if0 {P : Prop} [Decidable P] (h : (if P then (1 : Int) else 0) = 0) : ¬ P := fun q => by
  rw [if_pos q] at h
  exact absurd h (by decide)
theorem if1 {P : Prop} [Decidable P] (h : ¬ (if P then (1 : Int) else 0) = 0) : P := Decidable.byContradiction fun q => h (if_neg q)
theorem if01 {P : Prop} [Decidable P] : (if P then (1 : Int) else 0) = 0 ∨ (if P then (1 : Int) else 0) = 1 := by
  by_cases h : P
  · exact Or.inr (if_pos h)
  · exact Or.inl (if_neg h)
theorem zr01 {P : Prop} [Decidable P] : zr (if P then (1 : Int) else 0) := by
  rcases if01 (P := P) with h | h <;> (rw [h]; exact ⟨by decide, by decide⟩)
theorem ptI_t {fv : Nat → Int} {o : Nat → Nat} {x : Int} {a : Nat} (h0 : 1 ≤ a) (h : x < fv (o (a - 1))) : ptI fv o x a = ptI fv o x (a - 1) := by
  obtain ⟨b, rfl⟩ : ∃ b, a = b + 1 := ⟨a - 1, by omega⟩
  exact if_pos h
theorem ptI_f {fv : Nat → Int} {o : Nat → Nat} {x : Int} {a : Nat} (h0 : 1 ≤ a) (h : ¬ x < fv (o (a - 1))) : ptI fv o x a = a := by
  obtain ⟨b, rfl⟩ : ∃ b, a = b + 1 := ⟨a - 1, by omega⟩
  exact if_neg h
theorem sort_fin {fv fo : Nat → Int} {i a : Nat} (hi : a ≤ i) (hA : ∀ j, j < a → fo j = ((ordF fv i j : Nat) : Int)) (hB : ∀ j, a < j → j ≤ i → fo j = ((ordF fv i (j - 1) : Nat) : Int)) (e : ptI fv (ordF fv i) (fv i) i = a) : ∀ j, j < i + 1 → zU fo a (i : Int) j = ((ordF fv (i + 1) j : Nat) : Int) := by
  intro j hj
  show (if j = a then (i : Int) else fo j) = (((if j < ptI fv (ordF fv i) (fv i) i then ordF fv i j else if j = ptI fv (ordF fv i) (fv i) i then i else ordF fv i (j - 1)) : Nat) : Int)
  rw [e]
  by_cases h1 : j = a
  · rw [if_pos h1, if_neg (by omega), if_pos h1]
  · rw [if_neg h1]
    by_cases h2 : j < a
    · rw [if_pos h2]; exact hA j h2
    · rw [if_neg h2, if_neg h1]; exact hB j (by omega) (by omega)
theorem pr_bd {fv f : Nat → Int} {cnt n : Nat} {more : Int} (h : Pk fv cnt more f n) (hv : ∀ j, j < cnt → 1 ≤ fv j) (i : Nat) (hi : i ≤ cnt) : 0 ≤ pMin f fv n (stM f more n) i ∧ pMin f fv n (stM f more n) i ≤ 1000 + (n : Int) := by
  have h1 := h.bd hv
  have h2 := stM_bd (f := f) (more := more) (p := n) h1
  have h3 := pMin_bd (f := f) (fv := fv) (p := n) (x := stM f more n) h2.1 i (fun j hj => hv j (by omega)) (fun q hq => (h1 q hq).1)
  omega
theorem wsum1 {fv : Nat → Int} {p : Nat} (hp : 1 ≤ p) : ∀ n, wy fv n 0 p = 0
  | 0 => if_neg (by omega)
  | n + 1 => wsum1 hp n
theorem wsum_1 {fv : Nat → Int} {p n : Nat} (hp : 1 ≤ p) : wsum (wy fv n) p 1 = 0 := by
  show 0 + wy fv n 0 p = 0
  rw [wsum1 hp n]
  rfl
theorem w0_at {k p : Nat} : ((k : Int) + (p : Int) = 0 → w0 k p = 1) ∧ (¬ (k : Int) + (p : Int) = 0 → w0 k p = 0) := ⟨fun h => if_pos (by omega), fun h => if_neg (by omega)⟩
theorem sb_eq {cnt : Nat} {fs c c' : Nat → Int} (h : ∀ j, j < cnt → c j = c' j) : cpy fs (fun j => fs j - c j) cnt = sbS cnt fs c' := cpy_c (fun j hj => by show fs j - c j = fs j - c' j; rw [h j hj])
theorem st01 {s c : Int} : (if 0 ≤ s ∧ s ≤ c - 1 then (1 : Int) else 0) = (if 0 ≤ s ∧ s < c then (1 : Int) else 0) := by
  by_cases h8 : 0 ≤ s ∧ s < c
  · rw [if_pos h8, if_pos (by omega)]
  · rw [if_neg h8, if_neg (by omega)]
theorem rch_z {f : Nat → Int} {rm : Int} {p : Nat} : rch f rm 0 p = p := rfl
theorem Ook.lt {fv fo : Nat → Int} {cnt j : Nat} (h : Ook fv cnt fo) (hj : j < cnt) : fo j = ((ordF fv cnt j : Nat) : Int) ∧ ordF fv cnt j < cnt := ⟨h j hj, ordF_lt fv cnt j hj⟩
def sc_in (fs : Nat → Int) (i : Nat) : Prop := ((scF fs i).1 = -1 ∧ (scF fs i).2 = 100) ∨ (0 ≤ (scF fs i).1 ∧ (scF fs i).1 < (i : Int) ∧ fs ((scF fs i).1).toNat = (scF fs i).2)
theorem scF_t {fs : Nat → Int} {i : Nat} (h : fs i < (scF fs i).2) : scF fs (i + 1) = ((i : Int), fs i) := if_pos h
theorem scF_f {fs : Nat → Int} {i : Nat} (h : ¬ fs i < (scF fs i).2) : scF fs (i + 1) = scF fs i := if_neg h
theorem sc_in_s {fs : Nat → Int} {i : Nat} (hf : fs i ≤ 99) (h : sc_in fs i) : sc_in fs (i + 1) := by
  by_cases h1 : fs i < (scF fs i).2
  · simp only [sc_in]
    rw [scF_t h1]
    exact Or.inr ⟨show (0 : Int) ≤ (i : Int) by omega, show (i : Int) < ((i + 1 : Nat) : Int) by omega, show fs ((i : Int)).toNat = fs i by rw [Int.toNat_natCast]⟩
  · simp only [sc_in] at h ⊢
    rw [scF_f h1]
    rcases h with h | h
    · exact Or.inl h
    · exact Or.inr ⟨h.1, by omega, h.2.2⟩
theorem zU_back {f : Nat → Int} {i : Nat} {x : Int} : zU (zU f i x) i (f i) = f := by
  funext j
  simp only [zU]
  by_cases h : j = i
  · rw [if_pos h, h]
  · rw [if_neg h, if_neg h]
theorem sok_up {cnt : Nat} {fv fs : Nat → Int} {i : Nat} (hS : Sok cnt fv fs) : Sok cnt fv (zU fs i (min 99 (fs i + 20))) := ⟨hS.1, fun j hj => by
  have h1 := hS.2.1 j hj
  simp only [zU]
  by_cases h : j = i
  · subst h
    rw [if_pos rfl]
    omega
  · rw [if_neg h]
    exact h1, hS.2.2⟩
theorem rc_up {cnt : Nat} {fv fs : Nat → Int} {rm : Int} {i : Nat} (hS : Sok cnt fv fs) (hr : rm ≤ 12) : RC cnt fv (zU fs i (min 99 (fs i + 20))) rm = RC cnt fv (zU fs i (fs i + 20)) rm := RCc (fun _ _ => rfl) (fun j hj => by
  have h1 := hS.2.1 j hj
  simp only [zU]
  by_cases h : j = i
  · subst h
    rw [if_pos rfl, if_pos rfl]
    omega
  · rw [if_neg h, if_neg h])
