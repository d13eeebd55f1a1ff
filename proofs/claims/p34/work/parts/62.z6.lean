/-! what is done to both: one act; a machine that cells choose -/
theorem lkISE : Cond.classLink RL 60 "java/lang/IllegalStateException" ∈ LW := (mr_5 _ (List.mem_of_getElem? (i := 17) rfl))
theorem gSp_e {w : va_W} : gSp w [] w [] (List.range' 0 w.length) := by
  refine ⟨rfl, ?_, rfl, nd_rg _ _, fun i _ h => absurd h List.not_mem_nil⟩
  have h := rg_map w [] []
  rw [List.nil_append, List.append_nil] at h
  exact h
/-- bounds of what is counted: at most T letters so far -/
def YI (cnt : Nat) (fd : Nat → Int) (lt tk ov T : Int) : Prop := 0 ≤ lt ∧ lt ≤ T ∧ 0 ≤ ov ∧ ov ≤ tk ∧ tk ≤ 360 * lt ∧ ∀ j, j < cnt → 0 ≤ fd j ∧ fd j ≤ 12 * lt
theorem YI.up {cnt : Nat} {fd : Nat → Int} {lt tk ov T T1 : Int} (h : YI cnt fd lt tk ov T) (hT : T ≤ T1) : YI cnt fd lt tk ov T1 := ⟨h.1, by have := h.2.1; omega, h.2.2⟩
theorem YI.add {cnt : Nat} {fd : Nat → Int} {lt tk ov T : Int} (h : YI cnt fd lt tk ov T) : YI (cnt + 1) (zU fd cnt 0) lt tk ov T := ⟨h.1, h.2.1, h.2.2.1, h.2.2.2.1, h.2.2.2.2.1, fun j hj => by
  have h0 := h.1
  simp only [zU]
  by_cases e : j = cnt
  · rw [if_pos e]; omega
  · rw [if_neg e]; exact h.2.2.2.2.2 j (by omega)⟩
theorem YI.wd {cnt s : Nat} {fd : Nat → Int} {lt tk ov T : Int} (h : YI cnt fd lt tk ov T) : YI (cnt - 1) (rmv fd s (cnt - 1)) lt tk ov T := ⟨h.1, h.2.1, h.2.2.1, h.2.2.2.1, h.2.2.2.2.1, fun j hj => by
  simp only [rmv]
  split
  · exact h.2.2.2.2.2 (j + 1) (by omega)
  · exact h.2.2.2.2.2 j (by omega)⟩
theorem LS_bd {cnt : Nat} {fv fs : Nat → Int} {rm : Int} {p : Nat} (hI : XI cnt fv fs rm) (hp : p ≤ 300) (h : LSm cnt fv fs rm p ≠ -1) : (p : Int) ≤ LSm cnt fv fs rm p ∧ LSm cnt fv fs rm p < 360 := by
  obtain ⟨hc, hS, h99, hr1, hr2⟩ := hI
  rcases LS_sp hS ⟨by omega, hr2⟩ hp with ⟨g1, g2⟩ | ⟨s, g1, g2, g3⟩
  · exact absurd g1 h
  · have := g3.1
    omega
theorem YI.vend {cnt p : Nat} {fv fs fd : Nat → Int} {rm lt tk ov T : Int} (hI : XI cnt fv fs rm) (hp : p ≤ 300) (hn : LSm cnt fv fs rm p ≠ -1) (h : YI cnt fd lt tk ov T) : YI cnt (cpy fd (fun j => fd j + CH cnt fv fs rm (LSm cnt fv fs rm p).toNat j) cnt) (lt + 1) (tk + LSm cnt fv fs rm p) (ov + (LSm cnt fv fs rm p - (p : Int))) (T + 1) := by
  have hb := LS_bd hI hp hn
  obtain ⟨h1, h2, h3, h4, h5, h6⟩ := h
  refine ⟨by omega, by omega, by omega, by omega, by omega, fun j hj => ?_⟩
  have h7 := h6 j hj
  have h8 := CH_le (s := (LSm cnt fv fs rm p).toNat) hI.2.1 ⟨by have := hI.2.2.2.1; omega, hI.2.2.2.2⟩ hj
  have h9 := hI.2.2.2.2
  rw [cpy_l hj]
  omega
/-- both machines, alike -/
def JS (hm h2 : Nat) (ad a2 bd pd : Nat → Nat) (cI cG : ClassId) (T : Int) (w : va_W) : Prop := ∃ (cnt : Nat) (fv fs fd : Nat → Int) (rm lt tk ov : Int) (w1 w2 : va_W), w = w1 ++ w2 ∧ XW hm ad a2 bd pd cI cG cnt fv fs fd rm lt tk ov w1 ∧ ZW h2 cI cG cnt fv fs fd rm lt tk ov w2 ∧ XI cnt fv fs rm ∧ YI cnt fd lt tk ov T
theorem JS_mk {hm h2 : Nat} {ad a2 bd pd : Nat → Nat} {cI cG : ClassId} {T : Int} {cnt : Nat} {fv fs fd : Nat → Int} {rm lt tk ov : Int} {w1 : va_W} {sa : Nat} {ra : Nat → Nat} {nw bs : Value} {bS bM : Int} (hX : XW hm ad a2 bd pd cI cG cnt fv fs fd rm lt tk ov w1) (hI : XI cnt fv fs rm) (hY : YI cnt fd lt tk ov T) : JS hm h2 ad a2 bd pd cI cG T (((w1 ++ wZ h2 sa rm lt tk ov nw bs bS bM) ++ wG sa cG cnt (rN ra cnt)) ++ wQ ra cI fv fs fd cnt) := ⟨cnt, fv, fs, fd, rm, lt, tk, ov, w1, (wZ h2 sa rm lt tk ov nw bs bS bM ++ wG sa cG cnt (rN ra cnt)) ++ wQ ra cI fv fs fd cnt, by simp only [List.append_assoc], hX, ⟨sa, ra, nw, bs, bS, bM, rfl⟩, hI, hY⟩
theorem wQ_ap2 {X : va_W} {ra : Nat → Nat} {cI : ClassId} {fv fs fd : Nat → Int} {n a : Nat} {u v w : Int} : (X ++ wQ ra cI fv fs fd n) ++ [(a, .inl (cI, 3, .inl (zA (rw3 u v w))))] = X ++ wQ (va_up ra n a) cI (zU fv n u) (zU fs n v) (zU fd n w) (n + 1) := by
  rw [List.append_assoc, wQ_push]
theorem g_idx {E : gEnv} {k n : Nat} {w w' : va_W} {pc : Nat} {L : List (Nat × Value)} {st : List Value} (g : Nat → Nat) (hg : ∀ (i : Nat) (q : Nat × va_E), w'[i]? = some q → w[g i]? = some q) (hi : ∀ i j, i < w'.length → j < w'.length → g i = g j → i = j) (K : gW E k n w' pc L st) : gW E k n w pc L st := by
  obtain ⟨p, l, e, R, s, m, args, below, meth, c, A, D, nL, Q⟩ := E
  intro H locs ls hP hD hS hl
  refine K H locs ls (hP.by g hg) ⟨fun i j p q h1 h2 e => ?_, fun i q h1 => hD.2 _ q (hg i q h1)⟩ hS hl
  exact hi i j (List.getElem?_eq_some_iff.mp h1).1 (List.getElem?_eq_some_iff.mp h2).1 (hD.1 _ _ p q (hg i p h1) (hg j q h2) e)
theorem wQ_len {ra : Nat → Nat} {cI : ClassId} {fv fs fd : Nat → Int} {n : Nat} : (wQ ra cI fv fs fd n).length = n := by
  unfold wQ
  rw [List.length_map, List.length_range]
/-- one row by itself, the others behind -/
theorem g_row {E : gEnv} {k n : Nat} {X : va_W} {pc : Nat} {L : List (Nat × Value)} {st : List Value} {ra : Nat → Nat} {cI : ClassId} {fv fs fd : Nat → Int} {m s : Nat} (hs : s < m) (K : gW E k n ((X ++ [(ra s, .inl (cI, 3, .inl (zA (rw3 (fv s) (fs s) (fd s)))))]) ++ wQ (woF ra s) cI (rmv fv s (m - 1)) (rmv fs s (m - 1)) (rmv fd s (m - 1)) (m - 1)) pc L st) : gW E k n (X ++ wQ ra cI fv fs fd m) pc L st := by
  have hlen : ((X ++ [(ra s, .inl (cI, 3, .inl (zA (rw3 (fv s) (fs s) (fd s)))))]) ++ wQ (woF ra s) cI (rmv fv s (m - 1)) (rmv fs s (m - 1)) (rmv fd s (m - 1)) (m - 1) : va_W).length = X.length + 1 + (m - 1) := by
    rw [List.length_append, List.length_append, wQ_len]
    rfl
  have hl1 : (X ++ [(ra s, .inl (cI, 3, .inl (zA (rw3 (fv s) (fs s) (fd s)))))] : va_W).length = X.length + 1 := by
    rw [List.length_append]
    rfl
  refine g_idx (fun i => if i < X.length then i else if i = X.length then X.length + s else if i - X.length - 1 < s then i - 1 else i) (fun i q hq => ?_) (fun i j hi hj e => ?_) K
  · by_cases h1 : i < X.length
    · simp only [if_pos h1]
      rw [List.append_assoc, List.getElem?_append_left h1] at hq
      rw [List.getElem?_append_left h1]
      exact hq
    · simp only [if_neg h1]
      by_cases h2 : i = X.length
      · rw [if_pos h2]
        subst h2
        rw [List.getElem?_append_left (by omega), List.getElem?_append_right (Nat.le_refl _), Nat.sub_self] at hq
        rw [List.getElem?_append_right (Nat.le_add_right _ _), Nat.add_sub_cancel_left, wQ_0 hs]
        exact hq
      · rw [if_neg h2]
        have hb := (List.getElem?_eq_some_iff.mp hq).1
        rw [hlen] at hb
        rw [List.getElem?_append_right (by omega), hl1] at hq
        have h3 : i - (X.length + 1) < m - 1 := by omega
        rw [wQ_0 h3] at hq
        by_cases h4 : i - X.length - 1 < s
        · rw [if_pos h4, List.getElem?_append_right (by omega), wQ_0 (by omega), ← hq]
          have e9 : i - 1 - X.length = i - (X.length + 1) := by omega
          rw [e9]
          simp only [woF, rmv]
          rw [if_pos (by omega), if_neg (by omega), if_neg (by omega), if_neg (by omega)]
        · rw [if_neg h4, List.getElem?_append_right (by omega), wQ_0 (by omega), ← hq]
          have e9 : i - X.length = i - (X.length + 1) + 1 := by omega
          rw [e9]
          simp only [woF, rmv]
          rw [if_neg (by omega), if_pos (by omega), if_pos (by omega), if_pos (by omega)]
  · rw [hlen] at hi hj
    (repeat' split at e) <;> omega
