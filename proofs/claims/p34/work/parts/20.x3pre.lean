/-! the vendor's world and state -/
def XW (h : Nat) (ad a2 bd pd : Nat → Nat) (cI cG : ClassId) (cnt : Nat) (fv fs fd : Nat → Int) (rm lt tk ov : Int) (w : va_W) : Prop := ∃ (c2 : Int) (gv gs gd : Nat → Int) (tc tr : Int) (ft tv tu fc : Nat → Int) (M : Nat → Nat → Int) (fa fb : Nat → Int) (N : Nat → Nat → Int), w = ((((wV h (ad 0) (a2 0) (bd 0) (pd 0) rm lt tk ov) ++ (wS ad cI (cnt : Int) fv fs fd)) ++ (wS a2 cI c2 gv gs gd)) ++ (wT bd cI cG tc tr ft tv tu fc M)) ++ (wP pd cI cG fa fb N)
def XI (cnt : Nat) (fv fs : Nat → Int) (rm : Int) : Prop := cnt ≤ 8 ∧ Sok cnt fv fs ∧ (∀ j, j < cnt → fs j ≤ 99) ∧ 1 ≤ rm ∧ rm ≤ 12
section WX
variable {E : gEnv} {k n : Nat} {w : va_W} {pc : Nat} {L : List (Nat × Value)} {nm : String}
theorem gx_perm {w' : va_W} (ks : List Nat) (hn : va_nd ks = true) (h : ks.map (fun i => w[i]?) = w'.map some) (K : gWx E k n w' pc L nm) : gWx E k n w pc L nm := by
  obtain ⟨p, l, e, R, s, m, args, below, meth, c, A, D, nL, Q⟩ := E
  intro H locs ls q ce st hP hD hS hl hc hv hcl
  exact K H locs ls q ce st (gP_sub hP ks h) (hD.sub ks hn h) hS hl hc hv hcl
end WX
theorem LSm_bd {cnt : Nat} {fv fs : Nat → Int} {rm : Int} {p : Nat} (hp : p ≤ 360) : LSm cnt fv fs rm p = -1 ∨ ∃ j : Nat, p ≤ j ∧ j < 360 ∧ LSm cnt fv fs rm p = (j : Int) ∧ TB cnt fv fs rm j ≤ rm := by
  rcases fsm_bd (f := TB cnt fv fs rm) (rm := rm) (360 - p) p with h | ⟨j, h1, h2, h3, h4⟩
  · exact Or.inl h
  · exact Or.inr ⟨j, h1, by omega, h3, h4⟩
theorem LSm_rg {cnt : Nat} {fv fs : Nat → Int} {rm : Int} {p : Nat} (hp : p ≤ 360) : -1 ≤ LSm cnt fv fs rm p ∧ LSm cnt fv fs rm p < 360 := by
  rcases LSm_bd (cnt := cnt) (fv := fv) (fs := fs) (rm := rm) hp with h | ⟨j, h1, h2, h3, h4⟩ <;> omega
theorem cpy_c {f c c' : Nat → Int} {n : Nat} (h : ∀ j, j < n → c j = c' j) : cpy f c n = cpy f c' n := by
  funext j
  simp only [cpy]
  by_cases h1 : j < n
  · rw [if_pos h1, if_pos h1, h j h1]
  · rw [if_neg h1, if_neg h1]
theorem Pk.rp {fv f : Nat → Int} {cnt : Nat} {more rm : Int} (h : Pk fv cnt more f 301) (hv : ∀ j, j < cnt → 1 ≤ fv j) : (if fgp f rm 300 1 = -1 then (300 : Int) else fgp f rm 300 1 - 1) = (RP fv cnt more rm : Int) := by
  have h1 := fgp_rch (f := f) (rm := rm) 300 0
  rw [show RP fv cnt more rm = rch f rm 300 0 from (rch_congr 300 0 (fun j h8 h9 => h.eq hv (by omega))).symm]
  exact h1
theorem Pk.bd2 {fv f : Nat → Int} {cnt : Nat} (h : Pk fv cnt 0 f 301) (hv : ∀ j, j < cnt → 1 ≤ fv j) : ∀ q, q < 301 → 0 ≤ f q ∧ f q ≤ 2000 := fun q hq => by
  have := h.bd hv q hq
  omega
theorem Rok.gs {cnt : Nat} {fv fs ft tv tu : Nat → Int} {rm : Int} (h : Rok fv fs cnt rm ft tv tu) : (gsm tv tu rm cnt).2 = GS cnt fv fs rm := by
  simp only [GS]
  rw [gsm_congr cnt (fun r hr => ⟨(h r hr).2.1, (h r hr).2.2⟩)]
  rfl
theorem sc_bd {fs : Nat → Int} : ∀ n, (∀ j, j < n → 0 ≤ fs j ∧ fs j ≤ 99) → 0 ≤ (scF fs n).2 ∧ (scF fs n).2 ≤ 100
  | 0, _ => ⟨show (0 : Int) ≤ 100 by decide, show (100 : Int) ≤ 100 by decide⟩
  | n + 1, h => by
    have ih := sc_bd n (fun j hj => h j (Nat.lt_succ_of_lt hj))
    have h1 := h n (Nat.lt_succ_self n)
    simp only [scF]
    split
    · show 0 ≤ fs n ∧ fs n ≤ 100
      omega
    · exact ih
theorem hasV_hasB {fv : Nat → Int} {cnt : Nat} {x z : Int} (h : (z = 1 ∧ ∃ j, j < cnt ∧ fv j = x) ∨ (z = 0 ∧ ∀ j, j < cnt → fv j ≠ x)) : (z = 1 ∧ hasB fv x cnt = true) ∨ (z = 0 ∧ hasB fv x cnt = false) := by
  rcases h with ⟨h1, h2⟩ | ⟨h1, h2⟩
  · exact Or.inl ⟨h1, (hasB_iff cnt).mpr h2⟩
  · refine Or.inr ⟨h1, ?_⟩
    cases hb : hasB fv x cnt with
    | false => rfl
    | true =>
      obtain ⟨j, h3, h4⟩ := (hasB_iff cnt).mp hb
      exact absurd h4 (h2 j h3)
