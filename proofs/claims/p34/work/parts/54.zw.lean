/-! the worlds of the machine by hand: the object, rows of values, stocks and vended, rows put in order -/
def rw3 (a b c : Int) : Nat → Int := fun k => if k = 0 then a else if k = 1 then b else if k = 2 then c else 0
theorem rw3_1 {a b c x : Int} : zU (rw3 a b c) 1 x = rw3 a x c := by
  funext k
  simp only [zU, rw3]
  by_cases h : k = 1
  · subst h; simp
  · rw [if_neg h, if_neg h, if_neg h]
theorem rw3_2 {a b c x : Int} : zU (rw3 a b c) 2 x = rw3 a b x := by
  funext k
  simp only [zU, rw3]
  by_cases h : k = 2
  · subst h; simp
  · rw [if_neg h, if_neg h, if_neg h]
theorem rw3_mk {a b c : Int} : zU (zU (zU (fun _ => 0) 0 a) 1 b) 2 c = rw3 a b c := by
  funext k
  simp only [zU, rw3]
  by_cases h2 : k = 2
  · subst h2; simp
  · by_cases h1 : k = 1
    · subst h1; simp
    · by_cases h0 : k = 0
      · subst h0; simp
      · rw [if_neg h2, if_neg h1, if_neg h0, if_neg h0, if_neg h1, if_neg h2]
def rN (ra : Nat → Nat) (m : Nat) : Nat → Option Nat := fun j => if j < m then some (ra j) else none
theorem rN_at {ra : Nat → Nat} {m j : Nat} (h : j < m) : rN ra m j = some (ra j) := if_pos h
theorem rN_0 {ra : Nat → Nat} : (fun _ => none) = rN ra 0 := by
  funext j
  exact (if_neg (Nat.not_lt_zero _)).symm
theorem rN_push {ra : Nat → Nat} {m v : Nat} : va_up (rN ra m) m (some v) = rN (va_up ra m v) (m + 1) := by
  funext j
  simp only [va_up, rN]
  by_cases h : j = m
  · subst h; simp
  · rw [if_neg h]
    by_cases h2 : j < m
    · rw [if_pos h2, if_pos (by omega), if_neg h]
    · rw [if_neg h2, if_neg (by omega)]
theorem rN_congr {ra rb : Nat → Nat} {m : Nat} (h : ∀ j, j < m → ra j = rb j) : rN ra m = rN rb m := by
  funext j
  simp only [rN]
  by_cases h2 : j < m
  · rw [if_pos h2, if_pos h2, h j h2]
  · rw [if_neg h2, if_neg h2]
theorem rN_push' {ra : Nat → Nat} {m v : Nat} (h : ra m = v) : va_up (rN ra m) m (some v) = rN ra (m + 1) := by
  rw [rN_push]
  refine rN_congr (fun j _ => ?_)
  by_cases e : j = m
  · subst e; rw [va_up_self, h]
  · exact va_up_ne _ _ e
theorem rN_set {ra : Nat → Nat} {m j v : Nat} (h : j < m) : va_up (rN ra m) j (some v) = rN (va_up ra j v) m := by
  funext i
  simp only [va_up, rN]
  by_cases e : i = j
  · subst e; rw [if_pos rfl, if_pos h, if_pos rfl]
  · rw [if_neg e, if_neg e]
def wZ (h sa : Nat) (rm lt tk ov : Int) (nw bs : Value) (bS bM : Int) : va_W := [(h, .inr (4, [.int (zI rm), .int (zI lt), .int (zI tk), .int (zI ov), .ref sa, nw, bs, .int (zI bS), .int (zI bM)]))]
def wG (a : Nat) (cG : ClassId) (n : Nat) (r : Nat → Option Nat) : va_W := [(a, .inl (cG, n, .inr (.inr (.inr (.inr r)))))]
def wQ (ra : Nat → Nat) (cI : ClassId) (fv fs fd : Nat → Int) (n : Nat) : va_W := (List.range n).map (fun j => (ra j, .inl (cI, 3, .inl (zA (rw3 (fv j) (fs j) (fd j))))))
section WQ
variable {X : va_W} {ra : Nat → Nat} {cI : ClassId} {fv fs fd : Nat → Int} {n j : Nat} {x : Int}
theorem wQ_0 (h : j < n) : (wQ ra cI fv fs fd n)[j]? = some (ra j, .inl (cI, 3, .inl (zA (rw3 (fv j) (fs j) (fd j))))) := by
  unfold wQ
  rw [List.getElem?_map, List.getElem?_range h]
  rfl
theorem wQ_at (h : j < n) : (X ++ wQ ra cI fv fs fd n)[X.length + j]? = some (ra j, .inl (cI, 3, .inl (zA (rw3 (fv j) (fs j) (fd j))))) := by
  rw [List.getElem?_append_right (Nat.le_add_right _ _), Nat.add_sub_cancel_left]
  exact wQ_0 h
theorem wQ_st {fv' fs' fd' : Nat → Int} (h : j < n) (h1 : ∀ i, i ≠ j → fv' i = fv i ∧ fs' i = fs i ∧ fd' i = fd i) : (X ++ wQ ra cI fv fs fd n).set (X.length + j) (ra j, .inl (cI, 3, .inl (zA (rw3 (fv' j) (fs' j) (fd' j))))) = X ++ wQ ra cI fv' fs' fd' n := by
  rw [List.set_append_right _ _ (Nat.le_add_right _ _), Nat.add_sub_cancel_left]
  congr 1
  refine List.ext_getElem? (fun i => ?_)
  rw [List.getElem?_set]
  by_cases e : j = i
  · subst e
    rw [if_pos rfl]
    have hl : j < (wQ ra cI fv fs fd n).length := by unfold wQ; rw [List.length_map, List.length_range]; exact h
    rw [if_pos hl, wQ_0 h]
  · rw [if_neg e]
    by_cases hi : i < n
    · rw [wQ_0 hi, wQ_0 hi]
      obtain ⟨e1, e2, e3⟩ := h1 i (fun q => e q.symm)
      rw [e1, e2, e3]
    · unfold wQ
      rw [List.getElem?_map, List.getElem?_map, List.getElem?_eq_none (by rw [List.length_range]; omega)]
      rfl
theorem wQ_s1 (h : j < n) : (X ++ wQ ra cI fv fs fd n).set (X.length + j) (ra j, .inl (cI, 3, .inl (zA (zU (rw3 (fv j) (fs j) (fd j)) 1 x)))) = X ++ wQ ra cI fv (zU fs j x) fd n := by
  rw [rw3_1]
  have h1 := wQ_st (X := X) (ra := ra) (cI := cI) (fv := fv) (fs := fs) (fd := fd) (fv' := fv) (fs' := zU fs j x) (fd' := fd) h (fun i hi => ⟨rfl, if_neg hi, rfl⟩)
  rw [show zU fs j x j = x from if_pos rfl] at h1
  exact h1
theorem wQ_s2 (h : j < n) : (X ++ wQ ra cI fv fs fd n).set (X.length + j) (ra j, .inl (cI, 3, .inl (zA (zU (rw3 (fv j) (fs j) (fd j)) 2 x)))) = X ++ wQ ra cI fv fs (zU fd j x) n := by
  rw [rw3_2]
  have h1 := wQ_st (X := X) (ra := ra) (cI := cI) (fv := fv) (fs := fs) (fd := fd) (fv' := fv) (fs' := fs) (fd' := zU fd j x) h (fun i hi => ⟨rfl, rfl, if_neg hi⟩)
  rw [show zU fd j x j = x from if_pos rfl] at h1
  exact h1
theorem wQ_push {a : Nat} {u v w : Int} : wQ ra cI fv fs fd n ++ [(a, .inl (cI, 3, .inl (zA (rw3 u v w))))] = wQ (va_up ra n a) cI (zU fv n u) (zU fs n v) (zU fd n w) (n + 1) := by
  unfold wQ
  rw [List.range_succ, List.map_append]
  congr 1
  · refine List.map_congr_left (fun i hi => ?_)
    have hi := List.mem_range.mp hi
    rw [va_up_ne _ _ (by omega : i ≠ n)]
    simp only [zU]
    rw [if_neg (by omega), if_neg (by omega), if_neg (by omega)]
  · simp only [List.map_cons, List.map_nil]
    rw [va_up_self]
    simp only [zU, if_true]
theorem wQ_congr {rb : Nat → Nat} {gv gs gd : Nat → Int} (h : ∀ i, i < n → ra i = rb i ∧ fv i = gv i ∧ fs i = gs i ∧ fd i = gd i) : wQ ra cI fv fs fd n = wQ rb cI gv gs gd n := by
  unfold wQ
  refine List.map_congr_left (fun i hi => ?_)
  obtain ⟨h1, h2, h3, h4⟩ := h i (List.mem_range.mp hi)
  rw [h1, h2, h3, h4]
end WQ
theorem at_app {X pl : va_W} {k : Nat} {e : Nat × va_E} (h : pl[k]? = some e) : (X ++ pl)[X.length + k]? = some e := by
  rw [List.getElem?_append_right (Nat.le_add_right _ _), Nat.add_sub_cancel_left]
  exact h
theorem nd_rg : ∀ (n s : Nat), va_nd (List.range' s n) = true
  | 0, _ => rfl
  | n + 1, s => by
    rw [List.range'_succ]
    show (decide (s ∉ List.range' (s + 1) n) && va_nd (List.range' (s + 1) n)) = true
    rw [nd_rg n (s + 1), Bool.and_true]
    refine decide_eq_true (fun h => ?_)
    have := (List.mem_range'_1.mp h).1
    omega
theorem rg_map : ∀ (v a z : va_W), (List.range' a.length v.length).map (fun i => (a ++ (v ++ z))[i]?) = v.map some
  | [], _, _ => rfl
  | x :: v, a, z => by
    have h1 : (a ++ ((x :: v) ++ z))[a.length]? = some x := by
      rw [List.getElem?_append_right (Nat.le_refl _), Nat.sub_self]
      rfl
    have h2 := rg_map v (a ++ [x]) z
    rw [List.length_append, List.append_assoc] at h2
    rw [List.length_cons, List.range'_succ, List.map_cons, List.map_cons, h1]
    exact congrArg _ h2
theorem gSp_r {wc wr : va_W} : gSp (wr ++ wc) wc wr (List.range' wr.length wc.length) (List.range' 0 wr.length) := by
  refine ⟨?_, rg_map wr [] wc, nd_rg _ _, nd_rg _ _, fun i h1 h2 => ?_⟩
  · have h := rg_map wc wr []
    rw [List.append_nil] at h
    exact h
  · have h3 := List.mem_range'_1.mp h1
    have h4 := List.mem_range'_1.mp h2
    omega
theorem at_r {u v : va_W} {x : Nat × va_E} (h : v[0]? = some x) : (u ++ v)[u.length]? = some x := by
  rw [List.getElem?_append_right (Nat.le_refl _), Nat.sub_self]
  exact h
/-- rows by their values, the greatest first -/
def srt (ra : Nat → Nat) (fv : Nat → Int) (n : Nat) : Nat → Nat := fun r => ra (ordF fv n (n - 1 - r))
/-- the machine by hand -/
def ZW (h : Nat) (cI cG : ClassId) (cnt : Nat) (fv fs fd : Nat → Int) (rm lt tk ov : Int) (w : va_W) : Prop := ∃ (sa : Nat) (ra : Nat → Nat) (nw bs : Value) (bS bM : Int), w = ((wZ h sa rm lt tk ov nw bs bS bM) ++ (wG sa cG cnt (rN ra cnt))) ++ (wQ ra cI fv fs fd cnt)
