/-! the machine by hand: its rows, one more, one there, in order -/
theorem gcX4_33 : gCl RX4 33 "[I" := ⟨(mr_18 _ (List.mem_of_getElem? (i := 3) rfl)), (mr_18 _ (List.mem_of_getElem? (i := 4) rfl)), (mr_18 _ (List.mem_of_getElem? (i := 5) rfl)), (mr_18 _ (List.mem_of_getElem? (i := 6) rfl)), (mr_18 _ (List.mem_of_getElem? (i := 7) rfl)), List.mem_of_getElem? (i := 10) rfl⟩
theorem gcX4_37 : gCl RX4 37 "[[I" := ⟨List.mem_append_left _ (List.mem_append_left _ (List.mem_append_left _ (List.mem_append_right _ (List.mem_of_getElem? (i := 0) rfl)))), List.mem_append_left _ (List.mem_append_left _ (List.mem_append_left _ (List.mem_append_right _ (List.mem_of_getElem? (i := 1) rfl)))), (mr_18 _ (List.mem_of_getElem? (i := 5) rfl)), (mr_18 _ (List.mem_of_getElem? (i := 6) rfl)), List.mem_append_left _ (List.mem_append_left _ (List.mem_append_left _ (List.mem_append_right _ (List.mem_of_getElem? (i := 2) rfl)))), List.mem_of_getElem? (i := 11) rfl⟩
theorem gSp_a {wc : va_W} : gSp wc wc [] (List.range' 0 wc.length) [] := by
  refine ⟨?_, rfl, nd_rg _ _, rfl, fun i h1 h2 => absurd h1 List.not_mem_nil⟩
  have h := rg_map wc [] []
  rw [List.nil_append, List.append_nil] at h
  exact h
abbrev rmX4_with : Room := { frames := 0, cells := 1, slots := 9, locals := 0 }
set_option maxHeartbeats 4000000 in
set_option maxRecDepth 100000 in
theorem met_X4_with (l : Launch) (D : va_G) (cI cG cJ : ClassId) (a v n : Nat) (hn : n ≤ 8) (ra : Nat → Nat) (pl : va_W) (hp : ∀ j, j < n → ∃ (k : Nat) (x : vp_A), pl[k]? = some (ra j, .inl (cI, x))) (hv : ∃ (k : Nat) (x : vp_A), pl[k]? = some (v, .inl (cI, x)))  : gMet l yX4_with cX4_with 4 (some (.array (.array .int))) rmX4_with D cI cG cJ [.ref a, .ref v] ((wG a cG n (rN ra n)) ++ (pl)) (gA (fun z w9 => ∃ q : Nat, z = .ref q ∧ w9 = ((wG q cG (n + 1) (rN (va_up ra n v) (n + 1))) ++ (wG a cG n (rN ra n))) ++ (pl))) := by
  refine gMet_A (Or.inr ⟨_, rfl⟩) (by decide) rfl (Nat.le_of_ble_eq_true rfl) (fun E C ret => ?_)
  refine g_aload_n C dX4_with_0 0 rfl ?_
  refine g_alenG C 0 rfl dX4_with_1 ?_
  refine g_iconst C dX4_with_2 ?_
  refine g_iadd C dX4_with_3 ?_
  refine g_anew (N := (n + 1)) C clX4_13 (by omega) ⟨by show (1 : Nat) ≤ 1; omega, by show 0 + (n + 1) ≤ 9; omega⟩ dX4_with_4 (fun q => ?_)
  refine g_ws (w' := ((wG a cG n (rN ra n)) ++ (pl)) ++ (wG q cG (n + 1) (fun _ => none))) rfl rfl ?_
  refine g_mods [wG a cG n (rN ra n), pl, wG q cG (n + 1) (fun _ => none)] [wG q cG (n + 1) (fun _ => none), wG a cG n (rN ra n), pl] [2, 0, 1] (by decide) rfl ?_
  refine g_ws (w' := ((wG q cG (n + 1) (fun _ => none)) ++ (wG a cG n (rN ra n))) ++ (pl)) rfl rfl ?_
  refine g_widen (k' := 1) (n' := 9) (by omega) (by omega) ?_
  refine g_astore_n (L' := [(2, .ref q), (0, .ref a), (1, .ref v)]) C dX4_with_7 (by decide) rfl ?_
  refine g_iconst C dX4_with_8 ?_
  refine g_istore_n (L' := [(3, .int (zI 0)), (2, .ref q), (0, .ref a), (1, .ref v)]) C dX4_with_9 (by decide) rfl ?_
  have loop_10 : ∀ (fu : Nat) (i : Nat), (hi : i ≤ n) → n - i < fu → gW E 1 9 (((wG q cG (n + 1) (rN ra i)) ++ (wG a cG n (rN ra n))) ++ (pl)) 10 [(3, .int (zI (i : Int))), (2, .ref q), (0, .ref a), (1, .ref v)] [] := by
    intro fu
    induction fu with
    | zero => intro i hi h9; exact absurd h9 (Nat.not_lt_zero _)
    | succ fu ih_10 =>
      intro i hi hmu_10
      refine g_iload_n C dX4_with_10 0 rfl ?_
      refine g_aload_n C dX4_with_11 2 rfl ?_
      refine g_alenG C 1 rfl dX4_with_12 ?_
      refine g_icmp_ge 28 C dX4_with_13 (by decide) (zr_i (by omega) (by omega)) (zr_i (by omega) (by omega)) (fun c_13 => ?_) (fun c_13 => ?_)
      · have e9 : n = i := by omega
        subst e9
        refine g_aload_n C dX4_with_28 1 rfl ?_
        refine g_aload_n C dX4_with_29 2 rfl ?_
        refine g_alenG C 1 rfl dX4_with_30 ?_
        refine g_aload_n C dX4_with_31 3 rfl ?_
        obtain ⟨k9, x9, e9⟩ := hv
        refine g_aast (w' := ((wG q cG (n + 1) (va_up (rN ra n) n (some v))) ++ (wG a cG n (rN ra n))) ++ (pl)) C 0 _ rfl (at_app e9) (by omega) (by omega) (by omega) rfl dX4_with_32 ?_
        refine g_aload_n C dX4_with_33 1 rfl ?_
        exact ret _ _ _ _ _ _ (by decide) (by decide) dX4_with_34 (Or.inr ⟨_, rfl⟩) (⟨q, rfl, by rw [rN_push]⟩)
      · refine g_aload_n C dX4_with_16 1 rfl ?_
        refine g_iload_n C dX4_with_17 0 rfl ?_
        refine g_aload_n C dX4_with_18 2 rfl ?_
        refine g_iload_n C dX4_with_19 0 rfl ?_
        refine g_aald (y := ra i) C 1 rfl (by omega) (by omega) (by omega) (rN_at (by omega)) dX4_with_20 ?_
        obtain ⟨k9, x9, e9⟩ := hp i (by omega)
        refine g_aast (w' := ((wG q cG (n + 1) (va_up (rN ra i) i (some (ra i)))) ++ (wG a cG n (rN ra n))) ++ (pl)) C 0 _ rfl (at_app e9) (by omega) (by omega) (by omega) rfl dX4_with_21 ?_
        refine g_iinc (L' := [(3, .int (zI ((i : Int) + 1))), (2, .ref q), (0, .ref a), (1, .ref v)]) C dX4_with_22 0 rfl (by decide) rfl ?_
        refine g_goto 10 C dX4_with_25 (by decide) ?_
        refine g_loc (L' := [(3, .int (zI ((i : Int) + 1))), (2, .ref q), (0, .ref a), (1, .ref v)]) [0, 1, 2, 3] rfl ?_
        refine g_ws (w' := ((wG q cG (n + 1) (rN ra (i + 1))) ++ (wG a cG n (rN ra n))) ++ (pl)) (by rw [rN_push' rfl]) rfl ?_
        exact ih_10 (i + 1) (by omega) (by omega)
  refine g_loc (L' := [(3, .int (zI 0)), (2, .ref q), (0, .ref a), (1, .ref v)]) [0, 1, 2, 3] rfl ?_
  refine g_ws (w' := ((wG q cG (n + 1) (rN ra 0)) ++ (wG a cG n (rN ra n))) ++ (pl)) (by rw [rN_0 (ra := ra)]) rfl ?_
  exact loop_10 _ 0 (Nat.zero_le _) (Nat.lt_succ_self _)
theorem Sok.zv {n : Nat} {fv fs : Nat → Int} (h : Sok n fv fs) {j : Nat} (hj : j < n) : zr (fv j) := by
  have := h.1 j hj
  exact ⟨by omega, by omega⟩
theorem Sok.zs {n : Nat} {fv fs : Nat → Int} (h : Sok n fv fs) {j : Nat} (hj : j < n) : zr (fs j) := by
  have := h.2.1 j hj
  exact ⟨by omega, by omega⟩
abbrev rmX4_isThere : Room := { frames := 0, cells := 0, slots := 0, locals := 0 }
set_option maxHeartbeats 4000000 in
set_option maxRecDepth 100000 in
theorem met_X4_isThere (l : Launch) (D : va_G) (cI cG cJ : ClassId) (h sa : Nat) (ra : Nat → Nat) (n : Nat) (hn : n ≤ 8) (fv fs fd : Nat → Int) (hS : Sok n fv fs) (rm lt tk ov : Int) (nw bs : Value) (bS bM : Int) (x : Int) (hx : zr x)  : gMet l yX4_isThere cX4_isThere 6 (some .boolean) rmX4_isThere D cI cG cJ [.ref h, .int (zI x)] (((wZ h sa rm lt tk ov nw bs bS bM) ++ (wG sa cG n (rN ra n))) ++ (wQ ra cI fv fs fd n)) (gI (fun z w9 => ((z = 1 ∧ ∃ j, j < n ∧ fv j = x) ∨ (z = 0 ∧ ∀ j, j < n → fv j ≠ x)) ∧ w9 = ((wZ h sa rm lt tk ov nw bs bS bM) ++ (wG sa cG n (rN ra n))) ++ (wQ ra cI fv fs fd n))) := by
  refine gMet_Z (by decide) rfl (Nat.le_of_ble_eq_true rfl) (fun E C ret => ?_)
  refine g_aload_n C dX4_isThere_0 0 rfl ?_
  refine g_getf C fX4_15 0 rfl rfl dX4_isThere_1 ?_
  refine g_astore_n (L' := [(2, .ref sa), (0, .ref h), (1, .int (zI x))]) C dX4_isThere_4 (by decide) rfl ?_
  refine g_aload_n C dX4_isThere_5 0 rfl ?_
  refine g_alenG C 1 rfl dX4_isThere_6 ?_
  refine g_istore_n (L' := [(3, .int (zI ((n : Nat) : Int))), (2, .ref sa), (0, .ref h), (1, .int (zI x))]) C dX4_isThere_7 (by decide) rfl ?_
  refine g_iconst C dX4_isThere_8 ?_
  refine g_istore (L' := [(4, .int (zI 0)), (3, .int (zI ((n : Nat) : Int))), (2, .ref sa), (0, .ref h), (1, .int (zI x))]) C dX4_isThere_9 (by decide) rfl ?_
  have loop_11 : ∀ (fu : Nat) (i : Nat), (hi : i ≤ n) → (hno : ∀ j, j < i → fv j ≠ x) → n - i < fu → gW E 0 0 (((wZ h sa rm lt tk ov nw bs bS bM) ++ (wG sa cG n (rN ra n))) ++ (wQ ra cI fv fs fd n)) 11 [(4, .int (zI (i : Int))), (3, .int (zI (n : Int))), (2, .ref sa), (0, .ref h), (1, .int (zI x))] [] := by
    intro fu
    induction fu with
    | zero => intro i hi hno h9; exact absurd h9 (Nat.not_lt_zero _)
    | succ fu ih_11 =>
      intro i hi hno hmu_11
      refine g_iload C dX4_isThere_11 0 rfl ?_
      refine g_iload_n C dX4_isThere_13 1 rfl ?_
      refine g_icmp_ge 39 C dX4_isThere_14 (by decide) (zr_i (by omega) (by omega)) (zr_i (by omega) (by omega)) (fun c_14 => ?_) (fun c_14 => ?_)
      · refine g_iconst C dX4_isThere_39 ?_
        exact ret _ _ _ _ _ _ (by decide) (by decide) dX4_isThere_40 (Or.inl rfl) (⟨Or.inr ⟨rfl, fun j hj => hno j (by omega)⟩, rfl⟩)
      · refine g_aload_n C dX4_isThere_17 2 rfl ?_
        refine g_iload C dX4_isThere_18 0 rfl ?_
        refine g_aald (y := ra i) C 1 rfl (by omega) (by omega) (by omega) (rN_at (by omega)) dX4_isThere_20 ?_
        refine g_astore (L' := [(5, .ref (ra i)), (4, .int (zI (i : Int))), (3, .int (zI (n : Int))), (2, .ref sa), (0, .ref h), (1, .int (zI x))]) C dX4_isThere_21 (by decide) rfl ?_
        refine g_aload C dX4_isThere_23 0 rfl ?_
        refine g_iconst C dX4_isThere_25 ?_
        refine g_iald C _ (wQ_at (j := i) (by omega)) (by decide) (by decide) (by decide) (v := (fv i)) rfl dX4_isThere_26 ?_
        refine g_iload_n C dX4_isThere_27 5 rfl ?_
        refine g_icmp_ne 33 C dX4_isThere_28 (by decide) (hS.zv (by omega)) hx (fun c_28 => ?_) (fun c_28 => ?_)
        · refine g_iinc (L' := [(4, .int (zI ((i : Int) + 1))), (5, .ref (ra i)), (3, .int (zI (n : Int))), (2, .ref sa), (0, .ref h), (1, .int (zI x))]) C dX4_isThere_33 1 rfl (by decide) rfl ?_
          refine g_goto 11 C dX4_isThere_36 (by decide) ?_
          refine g_loc (L' := [(4, .int (zI ((i : Int) + 1))), (3, .int (zI (n : Int))), (2, .ref sa), (0, .ref h), (1, .int (zI x))]) [0, 2, 3, 4, 5] rfl ?_
          exact ih_11 (i + 1) (by omega) (fun j hj => lt_or (p := fun j => fv j ≠ x) hj hno c_28) (by omega)
        · refine g_iconst C dX4_isThere_31 ?_
          exact ret _ _ _ _ _ _ (by decide) (by decide) dX4_isThere_32 (Or.inr rfl) (⟨Or.inl ⟨rfl, i, by omega, c_28⟩, rfl⟩)
  refine g_loc (L' := [(4, .int (zI 0)), (3, .int (zI ((n : Nat) : Int))), (2, .ref sa), (0, .ref h), (1, .int (zI x))]) [0, 1, 2, 3, 4] rfl ?_
  exact loop_11 _ 0 (Nat.zero_le _) (fun j hj => absurd hj (Nat.not_lt_zero _)) (Nat.lt_succ_self _)
def oS (ra : Nat → Nat) (fv : Nat → Int) (k : Nat) : Nat → Nat := fun j => if j < k then ra (ordF fv k (k - 1 - j)) else ra j
def oI (ra : Nat → Nat) (fv : Nat → Int) (k t : Nat) : Nat → Nat := fun j => if j < t then ra (ordF fv k (k - 1 - j)) else if j = t then ra k else if j ≤ k then ra (ordF fv k (k - j)) else ra j
theorem oS_1 {ra : Nat → Nat} {fv : Nat → Int} {n : Nat} : rN ra n = rN (oS ra fv 1) n := rN_congr (fun j _ => by
  simp only [oS]
  by_cases h : j < 1
  · have : j = 0 := by omega
    subst this
    rw [if_pos h]
    rfl
  · rw [if_neg h])
theorem oI_k {ra : Nat → Nat} {fv : Nat → Int} {n k : Nat} : rN (oS ra fv k) n = rN (oI ra fv k k) n := rN_congr (fun j _ => by
  simp only [oS, oI]
  by_cases h : j < k
  · rw [if_pos h, if_pos h]
  · rw [if_neg h, if_neg h]
    by_cases e : j = k
    · rw [if_pos e, e]
    · rw [if_neg e, if_neg (by omega)])
theorem oI_lo {ra : Nat → Nat} {fv : Nat → Int} {n k t : Nat} (h1 : 1 ≤ t) (h2 : t ≤ k) (h3 : k < n) : rN (oI ra fv k t) n (t - 1) = some (ra (ordF fv k (k - t))) := by
  rw [rN_at (by omega)]
  simp only [oI]
  rw [if_pos (by omega), show k - 1 - (t - 1) = k - t by omega]
theorem oI_at {ra : Nat → Nat} {fv : Nat → Int} {n k t : Nat} (h2 : t ≤ k) (h3 : k < n) : rN (oI ra fv k t) n t = some (ra k) := by
  rw [rN_at (by omega)]
  simp only [oI]
  rw [if_neg (Nat.lt_irrefl _), if_pos trivial]
theorem oI_sw {ra : Nat → Nat} {fv : Nat → Int} {n k t : Nat} (h1 : 1 ≤ t) (h2 : t ≤ k) (h3 : k < n) : va_up (va_up (rN (oI ra fv k t) n) t (some (ra (ordF fv k (k - t))))) (t - 1) (some (ra k)) = rN (oI ra fv k (t - 1)) n := by
  rw [rN_set (by omega), rN_set (by omega)]
  refine rN_congr (fun j _ => ?_)
  simp only [va_up, oI]
  by_cases e1 : j = t - 1
  · rw [if_pos e1, if_neg (by omega), if_pos e1]
  · rw [if_neg e1]
    by_cases e2 : j = t
    · rw [if_pos e2, if_neg (by omega), if_neg e1, if_pos (by omega), e2]
    · rw [if_neg e2]
      by_cases e3 : j < t
      · rw [if_pos e3, if_pos (by omega)]
      · rw [if_neg e3, if_neg e2, if_neg (show ¬ j < t - 1 by omega), if_neg e1]
theorem oI_end {ra : Nat → Nat} {fv : Nat → Int} {n k t : Nat} (hd : ∀ a b, a < n → b < n → fv a = fv b → a = b) (h2 : t ≤ k) (h3 : k < n) (hs : t = 0 ∨ ¬ fv (ordF fv k (k - t)) < fv k) (hb : ∀ j, t < j → j ≤ k → fv (ordF fv k (k - j)) < fv k) : rN (oI ra fv k t) n = rN (oS ra fv (k + 1)) n := by
  have hk := ordF_ok fv k (fun a b ha hb => hd a b (by omega) (by omega))
  have p0 := ptI_le (fv := fv) (o := ordF fv k) (x := fv k) k
  have p1 := ptI_hi (fv := fv) (o := ordF fv k) (x := fv k) k
  have p2 := ptI_lo (fv := fv) (o := ordF fv k) (x := fv k) k hk.2 (fun j hj e => by
    have h4 := hk.1 j hj
    have := hd _ _ (by omega) h3 e
    omega)
  have hp : ptI fv (ordF fv k) (fv k) k = k - t := by
    rcases Nat.lt_trichotomy (ptI fv (ordF fv k) (fv k) k) (k - t) with h | h | h
    · have q1 := p1 (k - (t + 1)) (by omega) (by omega)
      have q2 := hb (t + 1) (by omega) (by omega)
      omega
    · exact h
    · have q1 := p2 (k - t) h
      rcases hs with hs | hs
      · omega
      · exact absurd q1 hs
  refine rN_congr (fun j _ => ?_)
  have e : ordF fv (k + 1) = insA (ordF fv k) (k - t) k := by
    show insA (ordF fv k) (ptI fv (ordF fv k) (fv k) k) k = _
    rw [hp]
  simp only [oI, oS]
  by_cases c1 : j < k + 1
  · rw [if_pos c1, e, show k + 1 - 1 - j = k - j by omega]
    simp only [insA]
    by_cases c2 : j < t
    · rw [if_pos c2, if_neg (by omega), if_neg (by omega), show k - j - 1 = k - 1 - j by omega]
    · rw [if_neg c2]
      by_cases c3 : j = t
      · rw [if_pos c3, if_neg (by omega), if_pos (by omega)]
      · rw [if_neg c3, if_pos (by omega), if_pos (by omega)]
  · rw [if_neg c1, if_neg (by omega), if_neg (by omega), if_neg (by omega)]
theorem oS_end {ra : Nat → Nat} {fv : Nat → Int} {n k : Nat} (h : n ≤ k) (h2 : k ≤ n ∨ k = 1) : rN (oS ra fv k) n = rN (srt ra fv n) n := by
  refine rN_congr (fun j hj => ?_)
  have e : k = n := by omega
  subst e
  simp only [oS, srt]
  rw [if_pos hj]
abbrev rmX4_sorted : Room := { frames := 1, cells := 1, slots := 8, locals := 22 }
set_option maxHeartbeats 4000000 in
set_option maxRecDepth 100000 in
theorem met_X4_sorted (l : Launch) (D : va_G) (cI cG cJ : ClassId) (h sa : Nat) (ra : Nat → Nat) (n : Nat) (hn : n ≤ 8) (fv fs fd : Nat → Int) (hS : Sok n fv fs) (rm lt tk ov : Int) (nw bs : Value) (bS bM : Int)  : gMet l yX4_sorted cX4_sorted 5 (some (.array (.array .int))) rmX4_sorted D cI cG cJ [.ref h] (((wZ h sa rm lt tk ov nw bs bS bM) ++ (wG sa cG n (rN ra n))) ++ (wQ ra cI fv fs fd n)) (gA (fun z w9 => ∃ q : Nat, z = .ref q ∧ w9 = (((wZ h sa rm lt tk ov nw bs bS bM) ++ (wG sa cG n (rN ra n))) ++ (wG q cG n (rN (srt ra fv n) n))) ++ (wQ ra cI fv fs fd n))) := by
  refine gMet_A (Or.inr ⟨_, rfl⟩) (by decide) rfl (Nat.le_of_ble_eq_true rfl) (fun E C ret => ?_)
  refine g_aload_n C dX4_sorted_0 0 rfl ?_
  refine g_getf C fX4_15 0 rfl rfl dX4_sorted_1 ?_
  refine g_cloneG C gcX4_37 1 rfl (Nat.le_of_ble_eq_true rfl) ⟨by decide, by decide, by show 0 + 1 ≤ 1; omega, by show 0 + n ≤ 8; omega⟩ dX4_sorted_4 (fun q => ?_)
  refine g_ws (w' := (((wZ h sa rm lt tk ov nw bs bS bM) ++ (wG sa cG n (rN ra n))) ++ (wQ ra cI fv fs fd n)) ++ (wG q cG n (rN ra n))) rfl rfl ?_
  refine g_mods [wZ h sa rm lt tk ov nw bs bS bM, wG sa cG n (rN ra n), wQ ra cI fv fs fd n, wG q cG n (rN ra n)] [wZ h sa rm lt tk ov nw bs bS bM, wG sa cG n (rN ra n), wG q cG n (rN ra n), wQ ra cI fv fs fd n] [0, 1, 3, 2] (by decide) rfl ?_
  refine g_ws (w' := (((wZ h sa rm lt tk ov nw bs bS bM) ++ (wG sa cG n (rN ra n))) ++ (wG q cG n (rN ra n))) ++ (wQ ra cI fv fs fd n)) rfl rfl ?_
  refine g_widen (k' := 1) (n' := 8) (by omega) (by omega) ?_
  refine g_castG C clX4_38 2 (rfl) dX4_sorted_7 ?_
  refine g_astore_n (L' := [(1, .ref q), (0, .ref h)]) C dX4_sorted_10 (by decide) rfl ?_
  refine g_iconst C dX4_sorted_11 ?_
  refine g_istore_n (L' := [(2, .int (zI 1)), (1, .ref q), (0, .ref h)]) C dX4_sorted_12 (by decide) rfl ?_
  have loop_13 : ∀ (fu : Nat) (k : Nat), (hk1 : 1 ≤ k) → (hk2 : k ≤ n ∨ k = 1) → n + 1 - k < fu → gW E 1 8 ((((wZ h sa rm lt tk ov nw bs bS bM) ++ (wG sa cG n (rN ra n))) ++ (wG q cG n (rN (oS ra fv k) n))) ++ (wQ ra cI fv fs fd n)) 13 [(2, .int (zI (k : Int))), (1, .ref q), (0, .ref h)] [] := by
    intro fu
    induction fu with
    | zero => intro k hk1 hk2 h9; exact absurd h9 (Nat.not_lt_zero _)
    | succ fu ih_13 =>
      intro k hk1 hk2 hmu_13
      refine g_iload_n C dX4_sorted_13 0 rfl ?_
      refine g_aload_n C dX4_sorted_14 1 rfl ?_
      refine g_alenG C 2 rfl dX4_sorted_15 ?_
      refine g_icmp_ge 72 C dX4_sorted_16 (by decide) (zr_i (by omega) (by omega)) (zr_i (by omega) (by omega)) (fun c_16 => ?_) (fun c_16 => ?_)
      · refine g_aload_n C dX4_sorted_72 1 rfl ?_
        exact ret _ _ _ _ _ _ (by decide) (by decide) dX4_sorted_73 (Or.inr ⟨_, rfl⟩) (⟨q, rfl, by rw [oS_end (by omega) hk2]⟩)
      · refine g_iload_n C dX4_sorted_19 0 rfl ?_
        refine g_istore_n (L' := [(3, .int (zI (k : Int))), (2, .int (zI (k : Int))), (1, .ref q), (0, .ref h)]) C dX4_sorted_20 (by decide) rfl ?_
        have loop_21 : ∀ (fu : Nat) (t : Nat), (ht : t ≤ k) → (hb : ∀ j, t < j → j ≤ k → fv (ordF fv k (k - j)) < fv k) → t < fu → gW E 1 8 ((((wZ h sa rm lt tk ov nw bs bS bM) ++ (wG sa cG n (rN ra n))) ++ (wG q cG n (rN (oI ra fv k t) n))) ++ (wQ ra cI fv fs fd n)) 21 [(3, .int (zI (t : Int))), (2, .int (zI (k : Int))), (1, .ref q), (0, .ref h)] [] := by
          intro fu
          induction fu with
          | zero => intro t ht hb h9; exact absurd h9 (Nat.not_lt_zero _)
          | succ fu ih_21 =>
            intro t ht hb hmu_21
            refine g_iload_n C dX4_sorted_21 0 rfl ?_
            refine g_if_le 66 C dX4_sorted_22 (by decide) (zr_i (by omega) (by omega)) (fun c_22 => ?_) (fun c_22 => ?_)
            · have hst : t = 0 ∨ ¬ fv (ordF fv k (k - t)) < fv k := Or.inl (by omega)
              refine g_iinc (L' := [(2, .int (zI ((k : Int) + 1))), (3, .int (zI (t : Int))), (1, .ref q), (0, .ref h)]) C dX4_sorted_66 1 rfl (by decide) rfl ?_
              refine g_goto 13 C dX4_sorted_69 (by decide) ?_
              refine g_loc (L' := [(2, .int (zI ((k : Int) + 1))), (1, .ref q), (0, .ref h)]) [0, 2, 3] rfl ?_
              refine g_ws (w' := (((wZ h sa rm lt tk ov nw bs bS bM) ++ (wG sa cG n (rN ra n))) ++ (wG q cG n (rN (oS ra fv (k + 1)) n))) ++ (wQ ra cI fv fs fd n)) (by rw [oI_end hS.2.2 (by omega) (by omega) hst hb]) rfl ?_
              exact ih_13 (k + 1) (by omega) (by omega) (by omega)
            · refine g_aload_n C dX4_sorted_25 2 rfl ?_
              refine g_iload_n C dX4_sorted_26 0 rfl ?_
              refine g_iconst C dX4_sorted_27 ?_
              refine g_isub C dX4_sorted_28 ?_
              refine g_top (((t - 1) : Nat) : Int) (by omega) ?_
              refine g_aald (y := ra (ordF fv k (k - t))) C 2 rfl (by omega) (by omega) (by omega) (oI_lo (by omega) (by omega) (by omega)) dX4_sorted_29 ?_
              refine g_iconst C dX4_sorted_30 ?_
              refine g_iald C _ (wQ_at (j := ordF fv k (k - t)) (Nat.lt_trans (ordF_lt fv k _ (by omega)) (by omega))) (by decide) (by decide) (by decide) (v := (fv (ordF fv k (k - t)))) rfl dX4_sorted_31 ?_
              refine g_aload_n C dX4_sorted_32 2 rfl ?_
              refine g_iload_n C dX4_sorted_33 0 rfl ?_
              refine g_aald (y := ra k) C 2 rfl (by omega) (by omega) (by omega) (oI_at (by omega) (by omega)) dX4_sorted_34 ?_
              refine g_iconst C dX4_sorted_35 ?_
              refine g_iald C _ (wQ_at (j := k) (by omega)) (by decide) (by decide) (by decide) (v := (fv k)) rfl dX4_sorted_36 ?_
              refine g_icmp_ge 66 C dX4_sorted_37 (by decide) (hS.zv (Nat.lt_trans (ordF_lt fv k _ (by omega)) (by omega))) (hS.zv (by omega)) (fun c_37 => ?_) (fun c_37 => ?_)
              · have hst : t = 0 ∨ ¬ fv (ordF fv k (k - t)) < fv k := Or.inr (by omega)
                refine g_iinc (L' := [(2, .int (zI ((k : Int) + 1))), (3, .int (zI (t : Int))), (1, .ref q), (0, .ref h)]) C dX4_sorted_66 1 rfl (by decide) rfl ?_
                refine g_goto 13 C dX4_sorted_69 (by decide) ?_
                refine g_loc (L' := [(2, .int (zI ((k : Int) + 1))), (1, .ref q), (0, .ref h)]) [0, 2, 3] rfl ?_
                refine g_ws (w' := (((wZ h sa rm lt tk ov nw bs bS bM) ++ (wG sa cG n (rN ra n))) ++ (wG q cG n (rN (oS ra fv (k + 1)) n))) ++ (wQ ra cI fv fs fd n)) (by rw [oI_end hS.2.2 (by omega) (by omega) hst hb]) rfl ?_
                exact ih_13 (k + 1) (by omega) (by omega) (by omega)
              · have c_37b : fv (ordF fv k (k - t)) < fv k := by omega
                refine g_aload_n C dX4_sorted_40 2 rfl ?_
                refine g_iload_n C dX4_sorted_41 0 rfl ?_
                refine g_aald (y := ra k) C 2 rfl (by omega) (by omega) (by omega) (oI_at (by omega) (by omega)) dX4_sorted_42 ?_
                refine g_astore (L' := [(4, .ref (ra k)), (3, .int (zI (t : Int))), (2, .int (zI (k : Int))), (1, .ref q), (0, .ref h)]) C dX4_sorted_43 (by decide) rfl ?_
                refine g_aload_n C dX4_sorted_45 3 rfl ?_
                refine g_iload_n C dX4_sorted_46 1 rfl ?_
                refine g_aload_n C dX4_sorted_47 3 rfl ?_
                refine g_iload_n C dX4_sorted_48 1 rfl ?_
                refine g_iconst C dX4_sorted_49 ?_
                refine g_isub C dX4_sorted_50 ?_
                refine g_top (((t - 1) : Nat) : Int) (by omega) ?_
                refine g_aald (y := ra (ordF fv k (k - t))) C 2 rfl (by omega) (by omega) (by omega) (oI_lo (by omega) (by omega) (by omega)) dX4_sorted_51 ?_
                refine g_aast (w' := (((wZ h sa rm lt tk ov nw bs bS bM) ++ (wG sa cG n (rN ra n))) ++ (wG q cG n (va_up (rN (oI ra fv k t) n) t (some (ra (ordF fv k (k - t))))))) ++ (wQ ra cI fv fs fd n)) C 2 _ rfl (wQ_at (j := ordF fv k (k - t)) (Nat.lt_trans (ordF_lt fv k _ (by omega)) (by omega))) (by omega) (by omega) (by omega) rfl dX4_sorted_52 ?_
                refine g_aload_n C dX4_sorted_53 3 rfl ?_
                refine g_iload_n C dX4_sorted_54 1 rfl ?_
                refine g_iconst C dX4_sorted_55 ?_
                refine g_isub C dX4_sorted_56 ?_
                refine g_top (((t - 1) : Nat) : Int) (by omega) ?_
                refine g_aload C dX4_sorted_57 0 rfl ?_
                refine g_aast (w' := (((wZ h sa rm lt tk ov nw bs bS bM) ++ (wG sa cG n (rN ra n))) ++ (wG q cG n (va_up (va_up (rN (oI ra fv k t) n) t (some (ra (ordF fv k (k - t))))) (t - 1) (some (ra k))))) ++ (wQ ra cI fv fs fd n)) C 2 _ rfl (wQ_at (j := k) (by omega)) (by omega) (by omega) (by omega) rfl dX4_sorted_59 ?_
                refine g_iinc (L' := [(3, .int (zI ((t : Int) + (-1)))), (4, .ref (ra k)), (2, .int (zI (k : Int))), (1, .ref q), (0, .ref h)]) C dX4_sorted_60 1 rfl (by decide) rfl ?_
                refine g_goto 21 C dX4_sorted_63 (by decide) ?_
                refine g_loc (L' := [(3, .int (zI ((t : Int) + (-1)))), (2, .int (zI (k : Int))), (1, .ref q), (0, .ref h)]) [0, 2, 3, 4] rfl ?_
                refine g_lw (w' := (((wZ h sa rm lt tk ov nw bs bS bM) ++ (wG sa cG n (rN ra n))) ++ (wG q cG n (va_up (va_up (rN (oI ra fv k t) n) t (some (ra (ordF fv k (k - t))))) (t - 1) (some (ra k))))) ++ (wQ ra cI fv fs fd n)) (L' := [(3, .int (zI (((t - 1) : Nat) : Int))), (2, .int (zI (k : Int))), (1, .ref q), (0, .ref h)]) rfl (by rw [show (t : Int) + (-1) = (((t - 1) : Nat) : Int) by omega]) ?_
                refine g_ws (w' := (((wZ h sa rm lt tk ov nw bs bS bM) ++ (wG sa cG n (rN ra n))) ++ (wG q cG n (rN (oI ra fv k (t - 1)) n))) ++ (wQ ra cI fv fs fd n)) (by rw [oI_sw (by omega) (by omega) (by omega)]) rfl ?_
                exact ih_21 (t - 1) (by omega) (fun j h1 h2 => by
                 by_cases e : j = t
                 · rw [e]; exact c_37b
                 · exact hb j (by omega) h2) (by omega)
        refine g_loc (L' := [(3, .int (zI (k : Int))), (2, .int (zI (k : Int))), (1, .ref q), (0, .ref h)]) [0, 1, 2, 3] rfl ?_
        refine g_ws (w' := (((wZ h sa rm lt tk ov nw bs bS bM) ++ (wG sa cG n (rN ra n))) ++ (wG q cG n (rN (oI ra fv k k) n))) ++ (wQ ra cI fv fs fd n)) (by rw [← oI_k]) rfl ?_
        exact loop_21 _ k (Nat.le_refl _) (fun j h1 h2 => absurd h1 (by omega)) (Nat.lt_succ_self _)
  refine g_loc (L' := [(2, .int (zI 1)), (1, .ref q), (0, .ref h)]) [0, 1, 2] rfl ?_
  refine g_ws (w' := (((wZ h sa rm lt tk ov nw bs bS bM) ++ (wG sa cG n (rN ra n))) ++ (wG q cG n (rN (oS ra fv 1) n))) ++ (wQ ra cI fv fs fd n)) (by rw [← oS_1]) rfl ?_
  exact loop_13 _ 1 (Nat.le_refl _) (Or.inr rfl) (Nat.lt_succ_self _)
