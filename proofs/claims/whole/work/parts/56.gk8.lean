/-! the law's walk: its script, worlds that part at a place, numbers against themselves -/
def gScr (E : gEnv) (b N : Nat) (xs : Nat → Int32) : Prop := match E with
  | (_, _, _, _, s, _, _, _, _, _, A, _, _, _) => va_X b N xs s s.heap ∧ b < s.heap.size ∧ ¬ A b
theorem nd_rg : ∀ (n s : Nat), va_nd (List.range' s n) = true
  | 0, _ => rfl
  | n + 1, s => by
    rw [List.range'_succ]
    show (decide (s ∉ List.range' (s + 1) n) && va_nd (List.range' (s + 1) n)) = true
    rw [nd_rg n (s + 1), Bool.and_true]
    refine decide_eq_true (fun h => ?_)
    have := (List.mem_range'_1.mp h).1
    omega
theorem nd_app : ∀ (a b : List Nat), va_nd a = true → va_nd b = true → (∀ i ∈ b, i ∉ a) → va_nd (b ++ a) = true
  | a, [], h1, _, _ => h1
  | a, x :: b, h1, h2, h3 => by
    have h2 : (decide (x ∉ b) && va_nd b) = true := h2
    rw [Bool.and_eq_true] at h2
    have h4 := of_decide_eq_true h2.1
    show (decide (x ∉ b ++ a) && va_nd (b ++ a)) = true
    rw [nd_app a b h1 h2.2 (fun i hi => h3 i (List.mem_cons_of_mem _ hi)), Bool.and_true]
    refine decide_eq_true (fun h => ?_)
    rcases List.mem_append.mp h with h5 | h5
    · exact h4 h5
    · exact h3 x List.mem_cons_self h5
theorem rg_map : ∀ (v a z : va_W), (List.range' a.length v.length).map (fun i => (a ++ (v ++ z))[i]?) = v.map some
  | [], _, _ => rfl
  | x :: v, a, z => by
    have h1 : (a ++ ((x :: v) ++ z))[a.length]? = some x := by
      rw [List.getElem?_append_right (Nat.le_refl _), Nat.sub_self]
      rfl
    have h2 := rg_map v (a ++ [x]) z
    rw [List.length_append, List.append_assoc] at h2
    rw [List.length_cons, List.range'_succ, List.map_cons, List.map_cons, h1]
    exact congrArg _ h2
theorem gSp_l {wc wr : va_W} : gSp (wc ++ wr) wc wr (List.range' 0 wc.length) (List.range' wc.length wr.length) := by
  refine ⟨rg_map wc [] wr, ?_, nd_rg _ _, nd_rg _ _, fun i h1 h2 => ?_⟩
  · have h := rg_map wr wc []
    rw [List.append_nil] at h
    exact h
  · have h3 := List.mem_range'_1.mp h1
    have h4 := List.mem_range'_1.mp h2
    omega
theorem gSp_r {wc wr : va_W} : gSp (wr ++ wc) wc wr (List.range' wr.length wc.length) (List.range' 0 wr.length) := by
  refine ⟨?_, rg_map wr [] wc, nd_rg _ _, nd_rg _ _, fun i h1 h2 => ?_⟩
  · have h := rg_map wc wr []
    rw [List.append_nil] at h
    exact h
  · have h3 := List.mem_range'_1.mp h1
    have h4 := List.mem_range'_1.mp h2
    omega
theorem at_r {u v : va_W} {x : Nat × va_E} (h : v[0]? = some x) : (u ++ v)[u.length]? = some x := by
  rw [List.getElem?_append_right (Nat.le_refl _), Nat.sub_self]
  exact h
theorem hat_l {u v : va_W} {x : Nat × va_E} (h : u[0]? = some x) : (u ++ v)[0]? = some x := by
  cases u with
  | nil => cases h
  | cons y u => exact h
theorem at_m {u v : va_W} {x : Nat × va_E} : ((u ++ [x]) ++ v)[u.length]? = some x := by
  rw [List.append_assoc]
  exact at_r rfl
theorem lcmp_self (x : Int64) : lg_cmp x x = zI 0 := by
  have h : ¬ x > x := Int64.lt_irrefl
  show (if x > x then (1 : Int32) else if x = x then 0 else -1) = zI 0
  rw [if_neg h, if_pos rfl]
  rfl
section GK8
variable {E : gEnv} {l : Launch} {R : Room} {D : va_G} {nL : Nat} {own : String} {cc : ByteArray} {cI cG cJ : ClassId} {k n : Nat} {w : va_W} {pc : Nat} {L : List (Nat × Value)} {st : List Value}
theorem g_swap {u v : va_W} (K : gW E k n (v ++ u) pc L st) : gW E k n (u ++ v) pc L st := by
  have h := gSp_l (wc := u) (wr := v)
  refine g_perm (w' := v ++ u) (List.range' u.length v.length ++ List.range' 0 u.length) ?_ ?_ K
  · exact nd_app _ _ (nd_rg _ _) (nd_rg _ _) h.2.2.2.2
  · rw [List.map_append, List.map_append]
    exact congr (congrArg _ h.2.1) h.1
theorem g_sld {b N : Nat} {xs : Nat → Int32} {i : Int} (C : gC E l R D nL own cc cI cG cJ) (hX : gScr E b N xs) (hN : N ≤ 2000) (h0 : 0 ≤ i) (h1 : i < N) (hd : decode cc pc = .ok (.iaload, 1)) (K : gW E k n w (pc + 1) L (.int (zI (xs i.toNat).toInt) :: st)) : gW E k n w pc L (.int (zI i) :: .ref b :: st) := by
  rw [zI_of] at K
  obtain ⟨p, l, e, R, s, m, args, below, meth, c, A, D, nL, Q⟩ := E
  obtain ⟨rfl, rfl, rfl, rfl, hx, hb, hml, hown, hts, hK, hO, hA, hZ⟩ := C
  obtain ⟨x1, x2, x3⟩ := hX
  intro H locs ls hP hD hS hl
  refine va_sld hx hb x1 x2 x3 hS (zI_in h0 h1 hN) hd ?_
  rw [zI_cl h0 h1 hN]
  exact K H locs ls hP hD hS hl
theorem g_slen {b N : Nat} {xs : Nat → Int32} (C : gC E l R D nL own cc cI cG cJ) (hX : gScr E b N xs) (hd : decode cc pc = .ok (.arraylength, 1)) (K : gW E k n w (pc + 1) L (.int (zI (N : Int)) :: st)) : gW E k n w pc L (.ref b :: st) := by
  rw [show zI (N : Int) = Int32.ofNat N from Int32.ofInt_eq_ofNat] at K
  obtain ⟨p, l, e, R, s, m, args, below, meth, c, A, D, nL, Q⟩ := E
  obtain ⟨rfl, rfl, rfl, rfl, hx, hb, hml, hown, hts, hK, hO, hA, hZ⟩ := C
  obtain ⟨x1, x2, x3⟩ := hX
  intro H locs ls hP hD hS hl
  exact va_slen hx hb x1 x2 x3 hS hd (K H locs ls hP hD hS hl)
/-- equal numbers: the jump is taken -/
theorem g_icmp_eqS {off : Int} {x : Int32} (tgt : Nat) (C : gC E l R D nL own cc cI cG cJ) (hd : decode cc pc = .ok (.if_icmp .eq off, 3)) (ht : (pc : Int) + off = (tgt : Int)) (K : gW E k n w tgt L st) : gW E k n w pc L (.int x :: .int x :: st) := by
  obtain ⟨p, l, e, R, s, m, args, below, meth, c, A, D, nL, Q⟩ := E
  obtain ⟨rfl, rfl, rfl, rfl, hx, hcc, hml, hown, hts, hK, hO, hA, hZ⟩ := C
  intro H locs ls hP hD hS hl
  exact lv_icmp_eq hx hcc hd ht (fun _ => K H locs ls hP hD hS hl) (fun c9 => absurd rfl c9)
theorem g_if_eqS {off : Int} (tgt : Nat) (C : gC E l R D nL own cc cI cG cJ) (hd : decode cc pc = .ok (.ifCond .eq off, 3)) (ht : (pc : Int) + off = (tgt : Int)) (K : gW E k n w tgt L st) : gW E k n w pc L (.int (zI 0) :: st) := g_if_eq tgt C hd ht zr0 (fun _ => K) (fun h => absurd rfl h)
theorem g_lcmpS {x : Int64} (C : gC E l R D nL own cc cI cG cJ) (hd : decode cc pc = .ok (.lcmp, 1)) (K : gW E k n w (pc + 1) L (.int (zI 0) :: st)) : gW E k n w pc L (.long x :: .long x :: st) := g_lcmp C hd (by rw [lcmp_self]; exact K)
end GK8
