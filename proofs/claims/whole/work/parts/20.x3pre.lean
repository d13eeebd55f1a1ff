/-! the vendor's world and state -/
def XW (h : Nat) (ad a2 bd pd : Nat → Nat) (cI cG : ClassId) (cnt : Nat) (fv fs fd : Nat → Int) (rm lt tk ov : Int) (w : va_W) : Prop := ∃ (c2 : Int) (gv gs gd : Nat → Int) (tc tr : Int) (ft tv tu fc : Nat → Int) (M : Nat → Nat → Int) (fa fb : Nat → Int) (N : Nat → Nat → Int), w = ((((wV h (ad 0) (a2 0) (bd 0) (pd 0) rm lt tk ov) ++ (wS ad cI (cnt : Int) fv fs fd)) ++ (wS a2 cI c2 gv gs gd)) ++ (wT bd cI cG tc tr ft tv tu fc M)) ++ (wP pd cI cG fa fb N)
def XI (cnt : Nat) (fv fs : Nat → Int) (rm : Int) : Prop := cnt ≤ 8 ∧ Sok cnt fv fs ∧ (∀ j, j < cnt → fs j ≤ 99) ∧ 1 ≤ rm ∧ rm ≤ 12
section WX
variable {E : gEnv} {k n : Nat} {w : va_W} {pc : Nat} {L : List (Nat × Value)} {nm : String}
theorem gx_perm {w' : va_W} (ks : List Nat) (hn : va_nd ks = true) (h : ks.map (fun i => w[i]?) = w'.map some) (K : gWx E k n w' pc L nm) : gWx E k n w pc L nm := by
  obtain ⟨p, l, e, R, s, m, args, below, meth, c, A, D, nL, Q⟩ := E
  intro H locs ls q ce st hP hD hS hl hc hv hcl
  exact K H locs ls q ce st (gP_sub hP ks h) (hD.sub ks hn h) hS hl hc hv hcl
end WX
theorem LSm_bd {cnt : Nat} {fv fs : Nat → Int} {rm : Int} {p : Nat} (hp : p ≤ 360) : LSm cnt fv fs rm p = -1 ∨ ∃ j : Nat, p ≤ j ∧ j < 360 ∧ LSm cnt fv fs rm p = (j : Int) ∧ TB cnt fv fs rm j ≤ rm := by
  rcases fsm_bd (f := TB cnt fv fs rm) (rm := rm) (360 - p) p with h | ⟨j, h1, h2, h3, h4⟩
  · exact Or.inl h
  · exact Or.inr ⟨j, h1, by omega, h3, h4⟩
theorem LSm_rg {cnt : Nat} {fv fs : Nat → Int} {rm : Int} {p : Nat} (hp : p ≤ 360) : -1 ≤ LSm cnt fv fs rm p ∧ LSm cnt fv fs rm p < 360 := by
  rcases LSm_bd (cnt := cnt) (fv := fv) (fs := fs) (rm := rm) hp with h | ⟨j, h1, h2, h3, h4⟩ <;> omega
theorem cpy_c {f c c' : Nat → Int} {n : Nat} (h : ∀ j, j < n → c j = c' j) : cpy f c n = cpy f c' n := by
  funext j
  simp only [cpy]
  by_cases h1 : j < n
  · rw [if_pos h1, if_pos h1, h j h1]
  · rw [if_neg h1, if_neg h1]
