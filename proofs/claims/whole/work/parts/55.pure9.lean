/-! the state's invariant through every step -/
theorem xi_room {cnt : Nat} {fv fs : Nat → Int} {rm p : Int} (h : XI cnt fv fs rm) (hp : 1 ≤ p ∧ p ≤ 12) : XI cnt fv fs p := ⟨h.1, h.2.1, h.2.2.1, hp.1, hp.2⟩
theorem xi_print {cnt : Nat} {fv fs : Nat → Int} {rm y : Int} {s : Nat} (h : XI cnt fv fs rm) (hs : s < cnt) (hy : 1 ≤ y ∧ y ≤ 99) : XI cnt fv (zU fs s (min (fs s + y) 99)) rm := by
  obtain ⟨h1, h2, h3, h4, h5⟩ := h
  have h6 := h2.2.1 s hs
  have h7 : ∀ j, j < cnt → 0 ≤ zU fs s (min (fs s + y) 99) j ∧ zU fs s (min (fs s + y) 99) j ≤ 99 := fun j hj => by
    have h8 := h2.2.1 j hj
    have h9 := h3 j hj
    simp only [zU]
    by_cases e : j = s
    · rw [if_pos e]; omega
    · rw [if_neg e]; omega
  exact ⟨h1, ⟨h2.1, fun j hj => by have := h7 j hj; omega, h2.2.2⟩, fun j hj => (h7 j hj).2, h4, h5⟩
theorem xi_vend {cnt : Nat} {fv fs : Nat → Int} {rm : Int} {s : Nat} (h : XI cnt fv fs rm) : XI cnt fv (sbS cnt fs (CH cnt fv fs rm s)) rm := by
  obtain ⟨h1, h2, h3, h4, h5⟩ := h
  refine ⟨h1, sok_sb h2 ⟨by omega, h5⟩, fun j hj => ?_, h4, h5⟩
  have h6 := CH_le (s := s) h2 ⟨by omega, h5⟩ hj
  have h7 := h3 j hj
  show cpy fs _ cnt j ≤ 99
  rw [cpy_l hj]
  omega
theorem xi_add {cnt : Nat} {fv fs : Nat → Int} {rm x y : Int} (h : XI cnt fv fs rm) (hc : cnt < 8) (hv : 1 ≤ x ∧ x ≤ 60 ∧ 0 ≤ y ∧ y ≤ 99) (hn : hasB fv x cnt = false) : XI (cnt + 1) (zU fv cnt x) (zU fs cnt y) rm := by
  obtain ⟨h1, h2, h3, h4, h5⟩ := h
  have hn2 : ∀ j, j < cnt → fv j ≠ x := fun j hj e => by
    have := (hasB_iff cnt).mpr ⟨j, hj, e⟩
    rw [hn] at this
    exact absurd this (by decide)
  have ev : ∀ j, j < cnt → zU fv cnt x j = fv j := fun j hj => if_neg (by omega)
  have es : ∀ j, j < cnt → zU fs cnt y j = fs j := fun j hj => if_neg (by omega)
  have ev2 : zU fv cnt x cnt = x := if_pos rfl
  have es2 : zU fs cnt y cnt = y := if_pos rfl
  refine ⟨by omega, ⟨fun j hj => ?_, fun j hj => ?_, fun a b ha hb e => ?_⟩, fun j hj => ?_, h4, h5⟩
  · by_cases e : j = cnt
    · subst e; rw [ev2]; omega
    · rw [ev j (by omega)]; exact h2.1 j (by omega)
  · by_cases e : j = cnt
    · subst e; rw [es2]; omega
    · rw [es j (by omega)]; exact h2.2.1 j (by omega)
  · by_cases ea : a = cnt
    · by_cases eb : b = cnt
      · omega
      · rw [ea, ev2, ev b (by omega)] at e
        exact absurd e.symm (hn2 b (by omega))
    · by_cases eb : b = cnt
      · rw [eb, ev2, ev a (by omega)] at e
        exact absurd e (hn2 a (by omega))
      · rw [ev a (by omega), ev b (by omega)] at e
        exact h2.2.2 a b (by omega) (by omega) e
  · by_cases e : j = cnt
    · subst e; rw [es2]; omega
    · rw [es j (by omega)]; exact h3 j (by omega)
theorem xi_wd {cnt : Nat} {fv fs : Nat → Int} {rm : Int} {s : Nat} (h : XI cnt fv fs rm) (hs : s < cnt) : XI (cnt - 1) (rmv fv s (cnt - 1)) (rmv fs s (cnt - 1)) rm := by
  obtain ⟨h1, h2, h3, h4, h5⟩ := h
  have er : ∀ (f : Nat → Int) j, j < cnt - 1 → ∃ i, i < cnt ∧ rmv f s (cnt - 1) j = f i ∧ i = (if s ≤ j then j + 1 else j) := fun f j hj => by
    by_cases e : s ≤ j
    · exact ⟨j + 1, by omega, if_pos ⟨e, hj⟩, (if_pos e).symm⟩
    · exact ⟨j, by omega, if_neg (fun q => e q.1), (if_neg e).symm⟩
  refine ⟨by omega, ⟨fun j hj => ?_, fun j hj => ?_, fun a b ha hb e => ?_⟩, fun j hj => ?_, h4, h5⟩
  · obtain ⟨i, i1, i2, -⟩ := er fv j hj
    rw [i2]; exact h2.1 i i1
  · obtain ⟨i, i1, i2, -⟩ := er fs j hj
    rw [i2]; exact h2.2.1 i i1
  · obtain ⟨i, i1, i2, i3⟩ := er fv a ha
    obtain ⟨k, k1, k2, k3⟩ := er fv b hb
    rw [i2, k2] at e
    have e2 := h2.2.2 i k i1 k1 e
    rw [i3, k3] at e2
    split at e2 <;> split at e2 <;> omega
  · obtain ⟨i, i1, i2, -⟩ := er fs j hj
    rw [i2]; exact h3 i i1
theorem xi_0 : XI 0 (fun _ => 0) (fun _ => 0) 6 := ⟨by decide, ⟨fun j h => absurd h (Nat.not_lt_zero _), fun j h => absurd h (Nat.not_lt_zero _), fun a b h => absurd h (Nat.not_lt_zero _)⟩, fun j h => absurd h (Nat.not_lt_zero _), by decide, by decide⟩
