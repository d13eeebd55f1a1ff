/-! words of arrays; letters -/
theorem arrI : Cond.arrayClass .int ∈ LW := (mr_2 _ (List.mem_of_getElem? (i := 9) rfl))
/-- letters, one behind the other -/
theorem sok_sb {cnt : Nat} {fv fs : Nat → Int} {rm : Int} {s : Nat} (hS : Sok cnt fv fs) (hr : 0 ≤ rm ∧ rm ≤ 12) : Sok cnt fv (sbS cnt fs (CH cnt fv fs rm s)) := ⟨hS.1, fun j hj => by
  have h1 := hS.2.1 j hj
  have h2 := CH_le (s := s) hS hr hj
  show 0 ≤ cpy fs _ cnt j ∧ cpy fs _ cnt j ≤ 119
  rw [cpy_l hj]
  omega, hS.2.2⟩
theorem sb_hi {cnt j : Nat} {fs c : Nat → Int} (h : cnt ≤ j) : sbS cnt fs c j = fs j := cpy_g h
theorem cpy_rest {fs f2 : Nat → Int} (h : ∀ j, 8 ≤ j → f2 j = fs j) : cpy f2 (cpy (fun _ => 0) fs 8) 8 = fs := by
  funext j
  by_cases h1 : j < 8
  · rw [cpy_l h1, cpy_l h1]
  · rw [cpy_g (by omega), h j (by omega)]
def djF (f : Nat → Int) : Nat → Int64
  | 0 => 2129
  | n + 1 => djF f n * 31 + (zI (f n)).toInt64
