/-! what is done to both: one act; a machine that cells choose -/
/-! the state's invariant through every step -/
theorem xi_room {cnt : Nat} {fv fs : Nat → Int} {rm p : Int} (h : XI cnt fv fs rm) (hp : 1 ≤ p ∧ p ≤ 12) : XI cnt fv fs p := ⟨h.1, h.2.1, h.2.2.1, hp.1, hp.2⟩
theorem xi_print {cnt : Nat} {fv fs : Nat → Int} {rm y : Int} {s : Nat} (h : XI cnt fv fs rm) (hs : s < cnt) (hy : 1 ≤ y ∧ y ≤ 99) : XI cnt fv (zU fs s (min (fs s + y) 99)) rm := by
  obtain ⟨h1, h2, h3, h4, h5⟩ := h
  have h6 := h2.2.1 s hs
  have h7 : ∀ j, j < cnt → 0 ≤ zU fs s (min (fs s + y) 99) j ∧ zU fs s (min (fs s + y) 99) j ≤ 99 := fun j hj => by
    have h8 := h2.2.1 j hj
    have h9 := h3 j hj
    simp only [zU]
    by_cases e : j = s
    · rw [if_pos e]; omega
    · rw [if_neg e]; omega
  exact ⟨h1, ⟨h2.1, fun j hj => by have := h7 j hj; omega, h2.2.2⟩, fun j hj => (h7 j hj).2, h4, h5⟩
theorem xi_vend {cnt : Nat} {fv fs : Nat → Int} {rm : Int} {s : Nat} (h : XI cnt fv fs rm) : XI cnt fv (sbS cnt fs (CH cnt fv fs rm s)) rm := by
  obtain ⟨h1, h2, h3, h4, h5⟩ := h
  refine ⟨h1, sok_sb h2 ⟨by omega, h5⟩, fun j hj => ?_, h4, h5⟩
  have h6 := CH_le (s := s) h2 ⟨by omega, h5⟩ hj
  have h7 := h3 j hj
  show cpy fs _ cnt j ≤ 99
  rw [cpy_l hj]
  omega
theorem xi_add {cnt : Nat} {fv fs : Nat → Int} {rm x y : Int} (h : XI cnt fv fs rm) (hc : cnt < 8) (hv : 1 ≤ x ∧ x ≤ 60 ∧ 0 ≤ y ∧ y ≤ 99) (hn : hasB fv x cnt = false) : XI (cnt + 1) (zU fv cnt x) (zU fs cnt y) rm := by
  obtain ⟨h1, h2, h3, h4, h5⟩ := h
  have hn2 : ∀ j, j < cnt → fv j ≠ x := fun j hj e => by
    have := (hasB_iff cnt).mpr ⟨j, hj, e⟩
    rw [hn] at this
    exact absurd this (by decide)
  have ev : ∀ j, j < cnt → zU fv cnt x j = fv j := fun j hj => if_neg (by omega)
  have es : ∀ j, j < cnt → zU fs cnt y j = fs j := fun j hj => if_neg (by omega)
  have ev2 : zU fv cnt x cnt = x := if_pos rfl
  have es2 : zU fs cnt y cnt = y := if_pos rfl
  refine ⟨by omega, ⟨fun j hj => ?_, fun j hj => ?_, fun a b ha hb e => ?_⟩, fun j hj => ?_, h4, h5⟩
  · by_cases e : j = cnt
    · subst e; rw [ev2]; omega
    · rw [ev j (by omega)]; exact h2.1 j (by omega)
  · by_cases e : j = cnt
    · subst e; rw [es2]; omega
    · rw [es j (by omega)]; exact h2.2.1 j (by omega)
  · by_cases ea : a = cnt
    · by_cases eb : b = cnt
      · omega
      · rw [ea, ev2, ev b (by omega)] at e
        exact absurd e.symm (hn2 b (by omega))
    · by_cases eb : b = cnt
      · rw [eb, ev2, ev a (by omega)] at e
        exact absurd e (hn2 a (by omega))
      · rw [ev a (by omega), ev b (by omega)] at e
        exact h2.2.2 a b (by omega) (by omega) e
  · by_cases e : j = cnt
    · subst e; rw [es2]; omega
    · rw [es j (by omega)]; exact h3 j (by omega)
theorem xi_wd {cnt : Nat} {fv fs : Nat → Int} {rm : Int} {s : Nat} (h : XI cnt fv fs rm) (hs : s < cnt) : XI (cnt - 1) (rmv fv s (cnt - 1)) (rmv fs s (cnt - 1)) rm := by
  obtain ⟨h1, h2, h3, h4, h5⟩ := h
  have er : ∀ (f : Nat → Int) j, j < cnt - 1 → ∃ i, i < cnt ∧ rmv f s (cnt - 1) j = f i ∧ i = (if s ≤ j then j + 1 else j) := fun f j hj => by
    by_cases e : s ≤ j
    · exact ⟨j + 1, by omega, if_pos ⟨e, hj⟩, (if_pos e).symm⟩
    · exact ⟨j, by omega, if_neg (fun q => e q.1), (if_neg e).symm⟩
  refine ⟨by omega, ⟨fun j hj => ?_, fun j hj => ?_, fun a b ha hb e => ?_⟩, fun j hj => ?_, h4, h5⟩
  · obtain ⟨i, i1, i2, -⟩ := er fv j hj
    rw [i2]; exact h2.1 i i1
  · obtain ⟨i, i1, i2, -⟩ := er fs j hj
    rw [i2]; exact h2.2.1 i i1
  · obtain ⟨i, i1, i2, i3⟩ := er fv a ha
    obtain ⟨k, k1, k2, k3⟩ := er fv b hb
    rw [i2, k2] at e
    have e2 := h2.2.2 i k i1 k1 e
    rw [i3, k3] at e2
    split at e2 <;> split at e2 <;> omega
  · obtain ⟨i, i1, i2, -⟩ := er fs j hj
    rw [i2]; exact h3 i i1
theorem xi_0 : XI 0 (fun _ => 0) (fun _ => 0) 6 := ⟨by decide, ⟨fun j h => absurd h (Nat.not_lt_zero _), fun j h => absurd h (Nat.not_lt_zero _), fun a b h => absurd h (Nat.not_lt_zero _)⟩, fun j h => absurd h (Nat.not_lt_zero _), by decide, by decide⟩
theorem lkISE : Cond.classLink RL 60 "java/lang/IllegalStateException" ∈ LW := (mr_5 _ (List.mem_of_getElem? (i := 17) rfl))
theorem gSp_e {w : va_W} : gSp w [] w [] (List.range' 0 w.length) := by
  refine ⟨rfl, ?_, rfl, nd_rg _ _, fun i _ h => absurd h List.not_mem_nil⟩
  have h := rg_map w [] []
  rw [List.nil_append, List.append_nil] at h
  exact h
/-- bounds of what is counted: at most T letters so far -/
def YI (cnt : Nat) (fd : Nat → Int) (lt tk ov T : Int) : Prop := 0 ≤ lt ∧ lt ≤ T ∧ 0 ≤ ov ∧ ov ≤ tk ∧ tk ≤ 360 * lt ∧ ∀ j, j < cnt → 0 ≤ fd j ∧ fd j ≤ 12 * lt
theorem YI.up {cnt : Nat} {fd : Nat → Int} {lt tk ov T T1 : Int} (h : YI cnt fd lt tk ov T) (hT : T ≤ T1) : YI cnt fd lt tk ov T1 := ⟨h.1, by have := h.2.1; omega, h.2.2⟩
theorem YI.add {cnt : Nat} {fd : Nat → Int} {lt tk ov T : Int} (h : YI cnt fd lt tk ov T) : YI (cnt + 1) (zU fd cnt 0) lt tk ov T := ⟨h.1, h.2.1, h.2.2.1, h.2.2.2.1, h.2.2.2.2.1, fun j hj => by
  have h0 := h.1
  simp only [zU]
  by_cases e : j = cnt
  · rw [if_pos e]; omega
  · rw [if_neg e]; exact h.2.2.2.2.2 j (by omega)⟩
theorem YI.wd {cnt s : Nat} {fd : Nat → Int} {lt tk ov T : Int} (h : YI cnt fd lt tk ov T) : YI (cnt - 1) (rmv fd s (cnt - 1)) lt tk ov T := ⟨h.1, h.2.1, h.2.2.1, h.2.2.2.1, h.2.2.2.2.1, fun j hj => by
  simp only [rmv]
  split
  · exact h.2.2.2.2.2 (j + 1) (by omega)
  · exact h.2.2.2.2.2 j (by omega)⟩
theorem LS_bd {cnt : Nat} {fv fs : Nat → Int} {rm : Int} {p : Nat} (hI : XI cnt fv fs rm) (hp : p ≤ 300) (h : LSm cnt fv fs rm p ≠ -1) : (p : Int) ≤ LSm cnt fv fs rm p ∧ LSm cnt fv fs rm p < 360 := by
  obtain ⟨hc, hS, h99, hr1, hr2⟩ := hI
  rcases LS_sp hS ⟨by omega, hr2⟩ hp with ⟨g1, g2⟩ | ⟨s, g1, g2, g3⟩
  · exact absurd g1 h
  · have := g3.1
    omega
theorem YI.vend {cnt p : Nat} {fv fs fd : Nat → Int} {rm lt tk ov T : Int} (hI : XI cnt fv fs rm) (hp : p ≤ 300) (hn : LSm cnt fv fs rm p ≠ -1) (h : YI cnt fd lt tk ov T) : YI cnt (cpy fd (fun j => fd j + CH cnt fv fs rm (LSm cnt fv fs rm p).toNat j) cnt) (lt + 1) (tk + LSm cnt fv fs rm p) (ov + (LSm cnt fv fs rm p - (p : Int))) (T + 1) := by
  have hb := LS_bd hI hp hn
  obtain ⟨h1, h2, h3, h4, h5, h6⟩ := h
  refine ⟨by omega, by omega, by omega, by omega, by omega, fun j hj => ?_⟩
  have h7 := h6 j hj
  have h8 := CH_le (s := (LSm cnt fv fs rm p).toNat) hI.2.1 ⟨by have := hI.2.2.2.1; omega, hI.2.2.2.2⟩ hj
  have h9 := hI.2.2.2.2
  rw [cpy_l hj]
  omega
/-- both machines, alike -/
def JS (hm h2 : Nat) (ad a2 bd pd : Nat → Nat) (cI cG : ClassId) (T : Int) (w : va_W) : Prop := ∃ (cnt : Nat) (fv fs fd : Nat → Int) (rm lt tk ov : Int) (w1 w2 : va_W), w = w1 ++ w2 ∧ XW hm ad a2 bd pd cI cG cnt fv fs fd rm lt tk ov w1 ∧ ZW h2 cI cG cnt fv fs fd rm lt tk ov w2 ∧ XI cnt fv fs rm ∧ YI cnt fd lt tk ov T
theorem JS_mk {hm h2 : Nat} {ad a2 bd pd : Nat → Nat} {cI cG : ClassId} {T : Int} {cnt : Nat} {fv fs fd : Nat → Int} {rm lt tk ov : Int} {w1 : va_W} {sa : Nat} {ra : Nat → Nat} {nw bs : Value} {bS bM : Int} (hX : XW hm ad a2 bd pd cI cG cnt fv fs fd rm lt tk ov w1) (hI : XI cnt fv fs rm) (hY : YI cnt fd lt tk ov T) : JS hm h2 ad a2 bd pd cI cG T (((w1 ++ wZ h2 sa rm lt tk ov nw bs bS bM) ++ wG sa cG cnt (rN ra cnt)) ++ wQ ra cI fv fs fd cnt) := ⟨cnt, fv, fs, fd, rm, lt, tk, ov, w1, (wZ h2 sa rm lt tk ov nw bs bS bM ++ wG sa cG cnt (rN ra cnt)) ++ wQ ra cI fv fs fd cnt, by simp only [List.append_assoc], hX, ⟨sa, ra, nw, bs, bS, bM, rfl⟩, hI, hY⟩
theorem wQ_ap2 {X : va_W} {ra : Nat → Nat} {cI : ClassId} {fv fs fd : Nat → Int} {n a : Nat} {u v w : Int} : (X ++ wQ ra cI fv fs fd n) ++ [(a, .inl (cI, 3, .inl (zA (rw3 u v w))))] = X ++ wQ (va_up ra n a) cI (zU fv n u) (zU fs n v) (zU fd n w) (n + 1) := by
  rw [List.append_assoc, wQ_push]
theorem g_idx {E : gEnv} {k n : Nat} {w w' : va_W} {pc : Nat} {L : List (Nat × Value)} {st : List Value} (g : Nat → Nat) (hg : ∀ (i : Nat) (q : Nat × va_E), w'[i]? = some q → w[g i]? = some q) (hi : ∀ i j, i < w'.length → j < w'.length → g i = g j → i = j) (K : gW E k n w' pc L st) : gW E k n w pc L st := by
  obtain ⟨p, l, e, R, s, m, args, below, meth, c, A, D, nL, Q⟩ := E
  intro H locs ls hP hD hS hl
  refine K H locs ls (hP.by g hg) ⟨fun i j p q h1 h2 e => ?_, fun i q h1 => hD.2 _ q (hg i q h1)⟩ hS hl
  exact hi i j (List.getElem?_eq_some_iff.mp h1).1 (List.getElem?_eq_some_iff.mp h2).1 (hD.1 _ _ p q (hg i p h1) (hg j q h2) e)
theorem wQ_len {ra : Nat → Nat} {cI : ClassId} {fv fs fd : Nat → Int} {n : Nat} : (wQ ra cI fv fs fd n).length = n := by
  unfold wQ
  rw [List.length_map, List.length_range]
/-- one row by itself, the others behind -/
theorem g_row {E : gEnv} {k n : Nat} {X : va_W} {pc : Nat} {L : List (Nat × Value)} {st : List Value} {ra : Nat → Nat} {cI : ClassId} {fv fs fd : Nat → Int} {m s : Nat} (hs : s < m) (K : gW E k n ((X ++ [(ra s, .inl (cI, 3, .inl (zA (rw3 (fv s) (fs s) (fd s)))))]) ++ wQ (woF ra s) cI (rmv fv s (m - 1)) (rmv fs s (m - 1)) (rmv fd s (m - 1)) (m - 1)) pc L st) : gW E k n (X ++ wQ ra cI fv fs fd m) pc L st := by
  have hlen : ((X ++ [(ra s, .inl (cI, 3, .inl (zA (rw3 (fv s) (fs s) (fd s)))))]) ++ wQ (woF ra s) cI (rmv fv s (m - 1)) (rmv fs s (m - 1)) (rmv fd s (m - 1)) (m - 1) : va_W).length = X.length + 1 + (m - 1) := by
    rw [List.length_append, List.length_append, wQ_len]
    rfl
  have hl1 : (X ++ [(ra s, .inl (cI, 3, .inl (zA (rw3 (fv s) (fs s) (fd s)))))] : va_W).length = X.length + 1 := by
    rw [List.length_append]
    rfl
  refine g_idx (fun i => if i < X.length then i else if i = X.length then X.length + s else if i - X.length - 1 < s then i - 1 else i) (fun i q hq => ?_) (fun i j hi hj e => ?_) K
  · by_cases h1 : i < X.length
    · simp only [if_pos h1]
      rw [List.append_assoc, List.getElem?_append_left h1] at hq
      rw [List.getElem?_append_left h1]
      exact hq
    · simp only [if_neg h1]
      by_cases h2 : i = X.length
      · rw [if_pos h2]
        subst h2
        rw [List.getElem?_append_left (by omega), List.getElem?_append_right (Nat.le_refl _), Nat.sub_self] at hq
        rw [List.getElem?_append_right (Nat.le_add_right _ _), Nat.add_sub_cancel_left, wQ_0 hs]
        exact hq
      · rw [if_neg h2]
        have hb := (List.getElem?_eq_some_iff.mp hq).1
        rw [hlen] at hb
        rw [List.getElem?_append_right (by omega), hl1] at hq
        have h3 : i - (X.length + 1) < m - 1 := by omega
        rw [wQ_0 h3] at hq
        by_cases h4 : i - X.length - 1 < s
        · rw [if_pos h4, List.getElem?_append_right (by omega), wQ_0 (by omega), ← hq]
          have e9 : i - 1 - X.length = i - (X.length + 1) := by omega
          rw [e9]
          simp only [woF, rmv]
          rw [if_pos (by omega), if_neg (by omega), if_neg (by omega), if_neg (by omega)]
        · rw [if_neg h4, List.getElem?_append_right (by omega), wQ_0 (by omega), ← hq]
          have e9 : i - X.length = i - (X.length + 1) + 1 := by omega
          rw [e9]
          simp only [woF, rmv]
          rw [if_neg (by omega), if_pos (by omega), if_pos (by omega), if_pos (by omega)]
  · rw [hlen] at hi hj
    (repeat' split at e) <;> omega
