/-! the start, one less, copies; the law's small methods -/
def gPL (own : String) (ix ci kf : Nat) (Cn : String) (T : u_T) (N : Nat) (ty : FieldType) : Prop := gF own ix ci kf Cn T N ∧ (∃ ty0 : Nat → FieldType, (∀ j, j < N → parseFieldDescriptor (T j).2.2.1 = some (ty0 j)) ∧ ∀ a, a < N → ∀ b, b < N → a ≠ b → (T a).2.1 ≠ (T b).2.1) ∧ (T kf).2.2.2 = false ∧ parseFieldDescriptor (T kf).2.2.1 = some ty
theorem g_putl {E : gEnv} {l : Launch} {R : Room} {D : va_G} {nL : Nat} {own : String} {cc : ByteArray} {cI cG cJ : ClassId} {k n : Nat} {w : va_W} {pc : Nat} {L : List (Nat × Value)} {st : List Value} {ix ci kf : Nat} {Cn : String} {T : u_T} {N a : Nat} {fs : List Value} {v : Value} {ty : FieldType} {w' : va_W} (C : gC E l R D nL own cc cI cG cJ) (f : gPL own ix ci kf Cn T N ty) (q0 : Nat) (he : w[q0]? = some (a, .inr (ci, fs))) (hn : narrow ty v = v) (hfit : fits ty v = true) (hk : kf < fs.length) (hw : w.set q0 (a, .inr (ci, fs.set kf v)) = w') (hd : decode cc pc = .ok (.putfield ix, 3)) (K : gW E k n w' (pc + 3) L st) : gW E k n w pc L (v :: .ref a :: st) := by
  obtain ⟨p, l, e, R, s, m, args, below, meth, c, A, D, nL, Q⟩ := E
  obtain ⟨rfl, rfl, rfl, rfl, hx, hb, hml, hown, hts, hK, hO, hA, hZ⟩ := C
  obtain ⟨⟨f1, f2, f3, f4⟩, ⟨ty0, g1, g2⟩, g3, g4⟩ := f
  subst hw
  intro H locs ls hP hD hS hl
  exact va_put (D := D) (ci := ci) hx hb hts f4 ty0 g1 g2 hown hK hP hD hS q0 he f2 kf f3 (hts _ f1) (fun _ h9 => h9) g3 g4 hn hfit hk hd (fun H1 locs1 hP1 hD1 hS1 => K H1 locs1 ls hP1 hD1 hS1 hl)
theorem fL_45 : gF RL 45 4 0 RX4 TX4 9 := ⟨(mr_3 _ (List.mem_of_getElem? (i := 15) rfl)), rfl, by decide, inlX4⟩
theorem pL_45 : gPL RL 45 4 0 RX4 TX4 9 (.int) := ⟨fL_45, ⟨tyX4, tyX4_ok, nmX4⟩, rfl, tyX4_ok 0 (by decide)⟩
theorem fL_9 : gF RL 9 4 4 RX4 TX4 9 := ⟨(mr_3 _ (List.mem_of_getElem? (i := 16) rfl)), rfl, by decide, inlX4⟩
theorem pL_9 : gPL RL 9 4 4 RX4 TX4 9 (.array (.array .int)) := ⟨fL_9, ⟨tyX4, tyX4_ok, nmX4⟩, rfl, tyX4_ok 4 (by decide)⟩
theorem fL_52 : gF RL 52 4 3 RX4 TX4 9 := ⟨(mr_5 _ (List.mem_of_getElem? (i := 18) rfl)), rfl, by decide, inlX4⟩
theorem pL_52 : gPL RL 52 4 3 RX4 TX4 9 (.int) := ⟨fL_52, ⟨tyX4, tyX4_ok, nmX4⟩, rfl, tyX4_ok 3 (by decide)⟩
abbrev rmX4_init : Room := { frames := 1, cells := 1, slots := 0, locals := 20 }
set_option maxHeartbeats 4000000 in
set_option maxRecDepth 100000 in
theorem met_X4_init (l : Launch) (D : va_G) (cI cG cJ : ClassId) (h : Nat)  : gMet l yX4_init cX4_init 1 none rmX4_init D cI cG cJ [.ref h] ([(h, .inr (4, [.int (zI 0), .int (zI 0), .int (zI 0), .int (zI 0), .null, .null, .null, .int (zI 0), .int (zI 0)]))]) (gN (fun w9 => ∃ q : Nat, w9 = (wZ h q 6 0 0 0 .null .null 0 0) ++ (wG q cG 0 (rN (fun _ => 0) 0)))) := by
  refine gMet_NC rfl (by decide) rfl (Nat.le_of_ble_eq_true rfl) (fun E C hI ret => ?_)
  refine g_aload_n C dX4_init_0 0 rfl ?_
  refine g_objI C oiX4 ⟨Nat.le_of_ble_eq_true rfl, Nat.le_of_ble_eq_true rfl⟩ (by decide) dX4_init_1 ?_
  refine g_aload_n C dX4_init_4 0 rfl ?_
  refine g_bipush C dX4_init_5 (by decide) ?_
  refine g_putf (w' := [(h, .inr (4, [.int (zI 6), .int (zI 0), .int (zI 0), .int (zI 0), .null, .null, .null, .int (zI 0), .int (zI 0)]))]) C pX4_7 0 rfl rfl rfl (Nat.le_of_ble_eq_true rfl) rfl dX4_init_7 ?_
  refine g_aload_n C dX4_init_10 0 rfl ?_
  refine g_iconst C dX4_init_11 ?_
  refine g_anew (N := 0) C clX4_13 (by omega) ⟨Nat.le_of_ble_eq_true rfl, Nat.le_of_ble_eq_true rfl⟩ dX4_init_12 (fun q => ?_)
  refine g_ws (w' := ([(h, .inr (4, [.int (zI 6), .int (zI 0), .int (zI 0), .int (zI 0), .null, .null, .null, .int (zI 0), .int (zI 0)]))]) ++ (wG q cG 0 (fun _ => none))) rfl rfl ?_
  refine g_putf (w' := ([(h, .inr (4, [.int (zI 6), .int (zI 0), .int (zI 0), .int (zI 0), .ref q, .null, .null, .int (zI 0), .int (zI 0)]))]) ++ (wG q cG 0 (fun _ => none))) C pX4_15 0 rfl rfl rfl (Nat.le_of_ble_eq_true rfl) rfl dX4_init_15 ?_
  exact ret _ _ _ _ _ (by decide) (by decide) dX4_init_18 (⟨q, by rw [← rN_0]; rfl⟩)
/-- rows but one -/
def woF (ra : Nat → Nat) (s : Nat) : Nat → Nat := fun j => if j < s then ra j else ra (j + 1)
theorem wo_push {ra : Nat → Nat} {s i c : Nat} (hc : (i ≤ s → c = i) ∧ (s < i → c + 1 = i)) (hne : ¬ i = s) : rN (va_up (woF ra s) c (ra i)) (c + 1) = rN (woF ra s) (c + 1) := by
  refine rN_congr (fun j hj => ?_)
  by_cases e : j = c
  · subst e
    rw [va_up_self]
    simp only [woF]
    by_cases h : j < s
    · rw [if_pos h, show i = j by omega]
    · rw [if_neg h, show j + 1 = i by omega]
  · exact va_up_ne _ _ e
abbrev rmX4_without : Room := { frames := 1, cells := 9, slots := 72, locals := 23 }
set_option maxHeartbeats 4000000 in
set_option maxRecDepth 100000 in
theorem met_X4_without (l : Launch) (D : va_G) (cI cG cJ : ClassId) (a s n : Nat) (hn : n ≤ 8) (hs : s < n) (ra : Nat → Nat) (pl : va_W) (hp : ∀ j, j < n → ∃ (k : Nat) (x : vp_A), pl[k]? = some (ra j, .inl (cI, x)))  : gMet l yX4_without cX4_without 4 (some (.array (.array .int))) rmX4_without D cI cG cJ [.ref a, .int (zI (s : Int))] ((wG a cG n (rN ra n)) ++ (pl)) (gA (fun z w9 => ∃ q : Nat, z = .ref q ∧ w9 = ((wG q cG (n - 1) (rN (woF ra s) (n - 1))) ++ (wG a cG n (rN ra n))) ++ (pl))) := by
  refine gMet_A (Or.inr ⟨_, rfl⟩) (by decide) rfl (Nat.le_of_ble_eq_true rfl) (fun E C ret => ?_)
  refine g_iconst C dX4_without_0 ?_
  refine g_anew (N := 0) C clX4_13 (by omega) ⟨by show (1 : Nat) ≤ 9; omega, by show (0 : Nat) ≤ 72; omega⟩ dX4_without_1 (fun m0 => ?_)
  refine g_ws (w' := ((wG a cG n (rN ra n)) ++ (pl)) ++ (wG m0 cG 0 (fun _ => none))) rfl rfl ?_
  refine g_mods [wG a cG n (rN ra n), pl, wG m0 cG 0 (fun _ => none)] [wG m0 cG 0 (fun _ => none), wG a cG n (rN ra n), pl] [2, 0, 1] (by decide) rfl ?_
  refine g_ws (w' := ((wG m0 cG 0 (fun _ => none)) ++ (wG a cG n (rN ra n))) ++ (pl)) rfl rfl ?_
  refine g_astore_n (L' := [(2, .ref m0), (0, .ref a), (1, .int (zI (s : Int)))]) C dX4_without_4 (by decide) rfl ?_
  refine g_iconst C dX4_without_5 ?_
  refine g_istore_n (L' := [(3, .int (zI 0)), (2, .ref m0), (0, .ref a), (1, .int (zI (s : Int)))]) C dX4_without_6 (by decide) rfl ?_
  have loop_7 : ∀ (fu : Nat) (i : Nat) (c : Nat) (m1 : Nat), (hi : i ≤ n) → (hc : (i ≤ s → c = i) ∧ (s < i → c + 1 = i)) → n - i < fu → gW E (1 + i) (9 * i) (((wG m1 cG c (rN (woF ra s) c)) ++ (wG a cG n (rN ra n))) ++ (pl)) 7 [(3, .int (zI (i : Int))), (2, .ref m1), (0, .ref a), (1, .int (zI (s : Int)))] [] := by
    intro fu
    induction fu with
    | zero => intro i c m1 hi hc h9; exact absurd h9 (Nat.not_lt_zero _)
    | succ fu ih_7 =>
      intro i c m1 hi hc hmu_7
      refine g_iload_n C dX4_without_7 0 rfl ?_
      refine g_aload_n C dX4_without_8 2 rfl ?_
      refine g_alenG C 1 rfl dX4_without_9 ?_
      refine g_icmp_ge 32 C dX4_without_10 (by decide) (zr_i (by omega) (by omega)) (zr_i (by omega) (by omega)) (fun c_10 => ?_) (fun c_10 => ?_)
      · have e9 : c = n - 1 := by omega
        subst e9
        refine g_aload_n C dX4_without_32 1 rfl ?_
        exact ret _ _ _ _ _ _ (by show 1 + i ≤ 9; omega) (by show 9 * i ≤ 72; omega) dX4_without_33 (Or.inr ⟨_, rfl⟩) (⟨m1, rfl, rfl⟩)
      · refine g_iload_n C dX4_without_13 0 rfl ?_
        refine g_iload_n C dX4_without_14 3 rfl ?_
        refine g_icmp_eq 26 C dX4_without_15 (by decide) (zr_i (by omega) (by omega)) (zr_i (by omega) (by omega)) (fun c_15 => ?_) (fun c_15 => ?_)
        · refine g_iinc (L' := [(3, .int (zI ((i : Int) + 1))), (2, .ref m1), (0, .ref a), (1, .int (zI (s : Int)))]) C dX4_without_26 0 rfl (by decide) rfl ?_
          refine g_goto 7 C dX4_without_29 (by decide) ?_
          refine g_loc (L' := [(3, .int (zI ((i : Int) + 1))), (2, .ref m1), (0, .ref a), (1, .int (zI (s : Int)))]) [0, 1, 2, 3] rfl ?_
          refine g_widen (k' := 1 + (i + 1)) (n' := 9 * (i + 1)) (by omega) (by omega) ?_
          exact ih_7 (i + 1) c m1 (by omega) (by omega) (by omega)
        · refine g_aload_n C dX4_without_18 1 rfl ?_
          refine g_aload_n C dX4_without_19 2 rfl ?_
          refine g_iload_n C dX4_without_20 0 rfl ?_
          refine g_aald (y := ra i) C 1 rfl (by omega) (by omega) (by omega) (rN_at (by omega)) dX4_without_21 ?_
          refine g_mods [wG m1 cG c (rN (woF ra s) c), wG a cG n (rN ra n), pl] [wG a cG n (rN ra n), wG m1 cG c (rN (woF ra s) c), pl] [1, 0, 2] (by decide) rfl ?_
          refine g_ws (w' := ((wG a cG n (rN ra n)) ++ (wG m1 cG c (rN (woF ra s) c))) ++ (pl)) rfl rfl ?_
          refine g_eqw (w' := (wG a cG n (rN ra n)) ++ ((wG m1 cG c (rN (woF ra s) c)) ++ (pl))) (by simp only [List.append_assoc]) ?_
          refine g_callS (wr := wG a cG n (rN ra n)) (st := []) _ _ C cX4_19 (met_X4_with l D cI cG cJ m1 (ra i) c (by omega) (woF ra s) pl (fun j hj => by simp only [woF]; split; exact hp j (by omega); exact hp (j + 1) (by omega)) (hp i (by omega))) gSp_r (by decide) ⟨by show 1 + i + 1 ≤ 9; omega, by show 9 * i + 9 ≤ 72; omega⟩ rfl rfl (Nat.le_of_ble_eq_true rfl) dX4_without_22 ?_
          rintro v9 w9 ⟨z9, rfl, q, rfl, rfl⟩
          refine g_ws (w' := (((wG a cG n (rN ra n)) ++ (wG q cG (c + 1) (rN (va_up (woF ra s) c (ra i)) (c + 1)))) ++ (wG m1 cG c (rN (woF ra s) c))) ++ (pl)) (st' := [.ref q]) (by simp only [List.append_assoc]) rfl ?_
          refine g_mods [wG a cG n (rN ra n), wG q cG (c + 1) (rN (va_up (woF ra s) c (ra i)) (c + 1)), wG m1 cG c (rN (woF ra s) c), pl] [wG q cG (c + 1) (rN (va_up (woF ra s) c (ra i)) (c + 1)), wG a cG n (rN ra n), pl] [1, 0, 3] (by decide) rfl ?_
          refine g_ws (w' := ((wG q cG (c + 1) (rN (va_up (woF ra s) c (ra i)) (c + 1))) ++ (wG a cG n (rN ra n))) ++ (pl)) rfl rfl ?_
          refine g_astore_n (L' := [(2, .ref q), (3, .int (zI (i : Int))), (0, .ref a), (1, .int (zI (s : Int)))]) C dX4_without_25 (by decide) rfl ?_
          refine g_iinc (L' := [(3, .int (zI ((i : Int) + 1))), (2, .ref q), (0, .ref a), (1, .int (zI (s : Int)))]) C dX4_without_26 1 rfl (by decide) rfl ?_
          refine g_goto 7 C dX4_without_29 (by decide) ?_
          refine g_loc (L' := [(3, .int (zI ((i : Int) + 1))), (2, .ref q), (0, .ref a), (1, .int (zI (s : Int)))]) [0, 1, 2, 3] rfl ?_
          refine g_ws (w' := ((wG q cG (c + 1) (rN (woF ra s) (c + 1))) ++ (wG a cG n (rN ra n))) ++ (pl)) (by rw [wo_push hc (by omega)]) rfl ?_
          exact ih_7 (i + 1) (c + 1) q (by omega) (by omega) (by omega)
  refine g_loc (L' := [(3, .int (zI 0)), (2, .ref m0), (0, .ref a), (1, .int (zI (s : Int)))]) [0, 1, 2, 3] rfl ?_
  refine g_ws (w' := ((wG m0 cG 0 (rN (woF ra s) 0)) ++ (wG a cG n (rN ra n))) ++ (pl)) (by rw [rN_0 (ra := woF ra s)]) rfl ?_
  exact loop_7 _ 0 0 m0 (Nat.zero_le _) (by omega) (Nat.lt_succ_self _)
theorem wQ_app {X : va_W} {ra : Nat → Nat} {cI : ClassId} {fv fs fd : Nat → Int} {n a : Nat} : (X ++ wQ ra cI fv fs fd n) ++ [(a, .inl (cI, 3, .inl (zA (rw3 (fv n) (fs n) (fd n)))))] = X ++ wQ (va_up ra n a) cI fv fs fd (n + 1) := by
  rw [List.append_assoc, wQ_push]
  congr 1
  refine wQ_congr (fun i _ => ⟨rfl, ?_, ?_, ?_⟩) <;> (simp only [zU]; split <;> simp_all)
theorem rN_nx {ra : Nat → Nat} {m a : Nat} : rN ra m = rN (va_up ra m a) m := rN_congr (fun j hj => (va_up_ne _ _ (by omega)).symm)
theorem rN_ny {ra : Nat → Nat} {m a : Nat} : rN (va_up (va_up ra m a) m a) (m + 1) = rN (va_up ra m a) (m + 1) := rN_congr (fun j _ => by
  by_cases e : j = m
  · subst e; rw [va_up_self, va_up_self]
  · rw [va_up_ne _ _ e])
theorem wQ_last {ra : Nat → Nat} {cI : ClassId} {fv fs fd : Nat → Int} {n a : Nat} : ∃ (k : Nat) (x : vp_A), (wQ (va_up ra n a) cI fv fs fd (n + 1))[k]? = some (a, .inl (cI, x)) := by
  have h := wQ_0 (ra := va_up ra n a) (cI := cI) (fv := fv) (fs := fs) (fd := fd) (n := n + 1) (j := n) (by omega)
  rw [va_up_self] at h
  exact ⟨n, _, h⟩
theorem wQ_any {ra : Nat → Nat} {cI : ClassId} {fv fs fd : Nat → Int} {n : Nat} (j : Nat) (h : j < n) : ∃ (k : Nat) (x : vp_A), (wQ ra cI fv fs fd n)[k]? = some (ra j, .inl (cI, x)) := ⟨j, _, wQ_0 h⟩
abbrev rmX4_copy : Room := { frames := 2, cells := 18, slots := 105, locals := 40 }
set_option maxHeartbeats 4000000 in
set_option maxRecDepth 100000 in
theorem met_X4_copy (l : Launch) (D : va_G) (cI cG cJ : ClassId) (h sa : Nat) (ra : Nat → Nat) (n : Nat) (hn : n ≤ 8) (fv fs fd : Nat → Int) (hS : Sok n fv fs) (rm lt tk ov : Int) (nw bs : Value) (bS bM : Int)  : gMet l yX4_copy cX4_copy 6 (some (.object "StampVendorLaw$Sim")) rmX4_copy D cI cG cJ [.ref h] (((wZ h sa rm lt tk ov nw bs bS bM) ++ (wG sa cG n (rN ra n))) ++ (wQ ra cI fv fs fd n)) (gA (fun z w9 => ∃ (h2 sb : Nat) (rb : Nat → Nat), z = .ref h2 ∧ w9 = (((((wZ h sa rm lt tk ov nw bs bS bM) ++ (wG sa cG n (rN ra n))) ++ (wZ h2 sb rm lt tk ov .null .null 0 0)) ++ (wG sb cG n (rN rb n))) ++ (wQ rb cI fv fs fd n)) ++ (wQ ra cI fv fs fd n))) := by
  refine gMet_A (Or.inl ⟨_, rfl⟩) (by decide) rfl (Nat.le_of_ble_eq_true rfl) (fun E C ret => ?_)
  refine g_new (ci := 4) [.int (zI 0), .int (zI 0), .int (zI 0), .int (zI 0), .null, .null, .null, .int (zI 0), .int (zI 0)] C nwX4_8 rfl inlX4 tyX4 tyX4_ok dfX4 ⟨Nat.le_of_ble_eq_true rfl, Nat.le_of_ble_eq_true rfl⟩ dX4_copy_0 (fun h2 => ?_)
  refine g_ws (w' := (((wZ h sa rm lt tk ov nw bs bS bM) ++ (wG sa cG n (rN ra n))) ++ (wQ ra cI fv fs fd n)) ++ ([(h2, .inr (4, [.int (zI 0), .int (zI 0), .int (zI 0), .int (zI 0), .null, .null, .null, .int (zI 0), .int (zI 0)]))])) rfl rfl ?_
  refine g_dup C dX4_copy_3 rfl ?_
  refine g_callC (wr := ((wZ h sa rm lt tk ov nw bs bS bM) ++ (wG sa cG n (rN ra n))) ++ (wQ ra cI fv fs fd n)) (st := [.ref h2]) _ _ C cX4_23 (met_X4_init l D cI cG cJ h2) gSp_r (by decide) (by decide) rfl rfl (Nat.le_of_ble_eq_true rfl) dX4_copy_4 ?_
  rintro v9 w9 ⟨rfl, q0, rfl⟩
  refine g_ws (w' := ((((wZ h sa rm lt tk ov nw bs bS bM) ++ (wG sa cG n (rN ra n))) ++ (wQ ra cI fv fs fd n)) ++ (wZ h2 q0 6 0 0 0 .null .null 0 0)) ++ (wG q0 cG 0 (rN (fun _ => 0) 0))) (st' := [.ref h2]) (by simp only [List.append_assoc]) rfl ?_
  refine g_astore_n (L' := [(1, .ref h2), (0, .ref h)]) C dX4_copy_7 (by decide) rfl ?_
  refine g_mods [wZ h sa rm lt tk ov nw bs bS bM, wG sa cG n (rN ra n), wQ ra cI fv fs fd n, wZ h2 q0 6 0 0 0 .null .null 0 0, wG q0 cG 0 (rN (fun _ => 0) 0)] [wZ h sa rm lt tk ov nw bs bS bM, wG sa cG n (rN ra n), wZ h2 q0 6 0 0 0 .null .null 0 0, wG q0 cG 0 (rN (fun _ => 0) 0), wQ ra cI fv fs fd n] [0, 1, 3, 4, 2] (by decide) rfl ?_
  refine g_ws (w' := ((((wZ h sa rm lt tk ov nw bs bS bM) ++ (wG sa cG n (rN ra n))) ++ (wZ h2 q0 6 0 0 0 .null .null 0 0)) ++ (wG q0 cG 0 (rN (fun _ => 0) 0))) ++ (wQ ra cI fv fs fd n)) rfl rfl ?_
  refine g_aload_n C dX4_copy_8 0 rfl ?_
  refine g_aload_n C dX4_copy_9 1 rfl ?_
  refine g_getf C fX4_7 0 rfl rfl dX4_copy_10 ?_
  refine g_putf (w' := ((((wZ h sa rm lt tk ov nw bs bS bM) ++ (wG sa cG n (rN ra n))) ++ (wZ h2 q0 rm 0 0 0 .null .null 0 0)) ++ (wG q0 cG 0 (rN (fun _ => 0) 0))) ++ (wQ ra cI fv fs fd n)) C pX4_7 2 rfl rfl rfl (Nat.le_of_ble_eq_true rfl) rfl dX4_copy_13 ?_
  refine g_aload_n C dX4_copy_16 0 rfl ?_
  refine g_aload_n C dX4_copy_17 1 rfl ?_
  refine g_getf C fX4_24 0 rfl rfl dX4_copy_18 ?_
  refine g_putf (w' := ((((wZ h sa rm lt tk ov nw bs bS bM) ++ (wG sa cG n (rN ra n))) ++ (wZ h2 q0 rm lt 0 0 .null .null 0 0)) ++ (wG q0 cG 0 (rN (fun _ => 0) 0))) ++ (wQ ra cI fv fs fd n)) C pX4_24 2 rfl rfl rfl (Nat.le_of_ble_eq_true rfl) rfl dX4_copy_21 ?_
  refine g_aload_n C dX4_copy_24 0 rfl ?_
  refine g_aload_n C dX4_copy_25 1 rfl ?_
  refine g_getf C fX4_27 0 rfl rfl dX4_copy_26 ?_
  refine g_putf (w' := ((((wZ h sa rm lt tk ov nw bs bS bM) ++ (wG sa cG n (rN ra n))) ++ (wZ h2 q0 rm lt tk 0 .null .null 0 0)) ++ (wG q0 cG 0 (rN (fun _ => 0) 0))) ++ (wQ ra cI fv fs fd n)) C pX4_27 2 rfl rfl rfl (Nat.le_of_ble_eq_true rfl) rfl dX4_copy_29 ?_
  refine g_aload_n C dX4_copy_32 0 rfl ?_
  refine g_aload_n C dX4_copy_33 1 rfl ?_
  refine g_getf C fX4_30 0 rfl rfl dX4_copy_34 ?_
  refine g_putf (w' := ((((wZ h sa rm lt tk ov nw bs bS bM) ++ (wG sa cG n (rN ra n))) ++ (wZ h2 q0 rm lt tk ov .null .null 0 0)) ++ (wG q0 cG 0 (rN (fun _ => 0) 0))) ++ (wQ ra cI fv fs fd n)) C pX4_30 2 rfl rfl rfl (Nat.le_of_ble_eq_true rfl) rfl dX4_copy_37 ?_
  refine g_aload_n C dX4_copy_40 1 rfl ?_
  refine g_getf C fX4_15 0 rfl rfl dX4_copy_41 ?_
  refine g_astore_n (L' := [(2, .ref sa), (1, .ref h2), (0, .ref h)]) C dX4_copy_44 (by decide) rfl ?_
  refine g_aload_n C dX4_copy_45 0 rfl ?_
  refine g_alenG C 1 rfl dX4_copy_46 ?_
  refine g_istore_n (L' := [(3, .int (zI ((n : Nat) : Int))), (2, .ref sa), (1, .ref h2), (0, .ref h)]) C dX4_copy_47 (by decide) rfl ?_
  refine g_iconst C dX4_copy_48 ?_
  refine g_istore (L' := [(4, .int (zI 0)), (3, .int (zI ((n : Nat) : Int))), (2, .ref sa), (1, .ref h2), (0, .ref h)]) C dX4_copy_49 (by decide) rfl ?_
  have loop_51 : ∀ (fu : Nat) (k : Nat) (sb : Nat) (rb : Nat → Nat), (hk : k ≤ n) → n - k < fu → gW E (2 + 2 * k) (9 + 12 * k) ((((((wZ h sa rm lt tk ov nw bs bS bM) ++ (wG sa cG n (rN ra n))) ++ (wZ h2 sb rm lt tk ov .null .null 0 0)) ++ (wG sb cG k (rN rb k))) ++ (wQ rb cI fv fs fd k)) ++ (wQ ra cI fv fs fd n)) 51 [(4, .int (zI (k : Int))), (3, .int (zI (n : Int))), (2, .ref sa), (1, .ref h2), (0, .ref h)] [] := by
    intro fu
    induction fu with
    | zero => intro k sb rb hk h9; exact absurd h9 (Nat.not_lt_zero _)
    | succ fu ih_51 =>
      intro k sb rb hk hmu_51
      refine g_iload C dX4_copy_51 0 rfl ?_
      refine g_iload_n C dX4_copy_53 1 rfl ?_
      refine g_icmp_ge 88 C dX4_copy_54 (by decide) (zr_i (by omega) (by omega)) (zr_i (by omega) (by omega)) (fun c_54 => ?_) (fun c_54 => ?_)
      · have e9 : n = k := by omega
        subst e9
        refine g_aload_n C dX4_copy_88 3 rfl ?_
        exact ret _ _ _ _ _ _ (by show 2 + 2 * n ≤ 18; omega) (by show 9 + 12 * n ≤ 105; omega) dX4_copy_89 (Or.inr ⟨_, rfl⟩) (⟨h2, sb, rb, rfl, rfl⟩)
      · refine g_aload_n C dX4_copy_57 2 rfl ?_
        refine g_iload C dX4_copy_58 0 rfl ?_
        refine g_aald (y := ra k) C 1 rfl (by omega) (by omega) (by omega) (rN_at (by omega)) dX4_copy_60 ?_
        refine g_astore (L' := [(5, .ref (ra k)), (4, .int (zI (k : Int))), (3, .int (zI (n : Int))), (2, .ref sa), (1, .ref h2), (0, .ref h)]) C dX4_copy_61 (by decide) rfl ?_
        refine g_aload_n C dX4_copy_63 4 rfl ?_
        refine g_aload_n C dX4_copy_64 4 rfl ?_
        refine g_getf C fX4_15 2 rfl rfl dX4_copy_65 ?_
        refine g_aload C dX4_copy_68 0 rfl ?_
        refine g_cloneI C gcX4_33 _ (wQ_at (j := k) (by omega)) (Nat.le_of_ble_eq_true rfl) ⟨by decide, by decide, by show 2 + 2 * k + 1 ≤ 18; omega, by show 9 + 12 * k + 3 ≤ 105; omega⟩ dX4_copy_70 (fun a2 => ?_)
        refine g_ws (w' := ((((((wZ h sa rm lt tk ov nw bs bS bM) ++ (wG sa cG n (rN ra n))) ++ (wZ h2 sb rm lt tk ov .null .null 0 0)) ++ (wG sb cG k (rN rb k))) ++ (wQ rb cI fv fs fd k)) ++ (wQ ra cI fv fs fd n)) ++ ([(a2, .inl (cI, 3, .inl (zA (rw3 (fv k) (fs k) (fd k)))))])) rfl rfl ?_
        refine g_castI C clX4_13 _ (at_r rfl) dX4_copy_73 ?_
        refine g_mods [wZ h sa rm lt tk ov nw bs bS bM, wG sa cG n (rN ra n), wZ h2 sb rm lt tk ov .null .null 0 0, wG sb cG k (rN rb k), wQ rb cI fv fs fd k, wQ ra cI fv fs fd n, [(a2, .inl (cI, 3, .inl (zA (rw3 (fv k) (fs k) (fd k)))))]] [wZ h sa rm lt tk ov nw bs bS bM, wG sa cG n (rN ra n), wQ ra cI fv fs fd n, wZ h2 sb rm lt tk ov .null .null 0 0, wG sb cG k (rN rb k), wQ rb cI fv fs fd k, [(a2, .inl (cI, 3, .inl (zA (rw3 (fv k) (fs k) (fd k)))))]] [0, 1, 5, 2, 3, 4, 6] (by decide) rfl ?_
        refine g_ws (w' := ((((((wZ h sa rm lt tk ov nw bs bS bM) ++ (wG sa cG n (rN ra n))) ++ (wQ ra cI fv fs fd n)) ++ (wZ h2 sb rm lt tk ov .null .null 0 0)) ++ (wG sb cG k (rN rb k))) ++ (wQ rb cI fv fs fd k)) ++ ([(a2, .inl (cI, 3, .inl (zA (rw3 (fv k) (fs k) (fd k)))))])) rfl rfl ?_
        refine g_eqw (w' := (((((wZ h sa rm lt tk ov nw bs bS bM) ++ (wG sa cG n (rN ra n))) ++ (wQ ra cI fv fs fd n)) ++ (wZ h2 sb rm lt tk ov .null .null 0 0)) ++ (wG sb cG k (rN (va_up rb k a2) k))) ++ (wQ (va_up rb k a2) cI fv fs fd (k + 1))) (by rw [wQ_app, rN_nx (ra := rb) (m := k) (a := a2)]) ?_
        refine g_eqw (w' := ((((wZ h sa rm lt tk ov nw bs bS bM) ++ (wG sa cG n (rN ra n))) ++ (wQ ra cI fv fs fd n)) ++ (wZ h2 sb rm lt tk ov .null .null 0 0)) ++ ((wG sb cG k (rN (va_up rb k a2) k)) ++ (wQ (va_up rb k a2) cI fv fs fd (k + 1)))) (by simp only [List.append_assoc]) ?_
        refine g_callS (wr := (((wZ h sa rm lt tk ov nw bs bS bM) ++ (wG sa cG n (rN ra n))) ++ (wQ ra cI fv fs fd n)) ++ (wZ h2 sb rm lt tk ov .null .null 0 0)) (st := [.ref h2]) _ _ C cX4_19 (met_X4_with l D cI cG cJ sb a2 k (by omega) (va_up rb k a2) (wQ (va_up rb k a2) cI fv fs fd (k + 1)) (fun j hj => wQ_any j (by omega)) wQ_last) gSp_r (by decide) ⟨by show 2 + 2 * k + 1 + 1 ≤ 18; omega, by show 9 + 12 * k + 3 + 9 ≤ 105; omega⟩ rfl rfl (Nat.le_of_ble_eq_true rfl) dX4_copy_76 ?_
        rintro v9 w9 ⟨z9, rfl, q2, rfl, rfl⟩
        refine g_ws (w' := ((((((wZ h sa rm lt tk ov nw bs bS bM) ++ (wG sa cG n (rN ra n))) ++ (wQ ra cI fv fs fd n)) ++ (wZ h2 sb rm lt tk ov .null .null 0 0)) ++ (wG q2 cG (k + 1) (rN (va_up (va_up rb k a2) k a2) (k + 1)))) ++ (wG sb cG k (rN (va_up rb k a2) k))) ++ (wQ (va_up rb k a2) cI fv fs fd (k + 1))) (st' := [.ref q2, .ref h2]) (by simp only [List.append_assoc]) rfl ?_
        refine g_mods [wZ h sa rm lt tk ov nw bs bS bM, wG sa cG n (rN ra n), wQ ra cI fv fs fd n, wZ h2 sb rm lt tk ov .null .null 0 0, wG q2 cG (k + 1) (rN (va_up (va_up rb k a2) k a2) (k + 1)), wG sb cG k (rN (va_up rb k a2) k), wQ (va_up rb k a2) cI fv fs fd (k + 1)] [wZ h sa rm lt tk ov nw bs bS bM, wG sa cG n (rN ra n), wZ h2 sb rm lt tk ov .null .null 0 0, wG q2 cG (k + 1) (rN (va_up (va_up rb k a2) k a2) (k + 1)), wQ (va_up rb k a2) cI fv fs fd (k + 1), wQ ra cI fv fs fd n] [0, 1, 3, 4, 6, 2] (by decide) rfl ?_
        refine g_ws (w' := (((((wZ h sa rm lt tk ov nw bs bS bM) ++ (wG sa cG n (rN ra n))) ++ (wZ h2 sb rm lt tk ov .null .null 0 0)) ++ (wG q2 cG (k + 1) (rN (va_up (va_up rb k a2) k a2) (k + 1)))) ++ (wQ (va_up rb k a2) cI fv fs fd (k + 1))) ++ (wQ ra cI fv fs fd n)) rfl rfl ?_
        refine g_putf (w' := (((((wZ h sa rm lt tk ov nw bs bS bM) ++ (wG sa cG n (rN ra n))) ++ (wZ h2 q2 rm lt tk ov .null .null 0 0)) ++ (wG q2 cG (k + 1) (rN (va_up (va_up rb k a2) k a2) (k + 1)))) ++ (wQ (va_up rb k a2) cI fv fs fd (k + 1))) ++ (wQ ra cI fv fs fd n)) C pX4_15 2 rfl rfl rfl (Nat.le_of_ble_eq_true rfl) rfl dX4_copy_79 ?_
        refine g_iinc (L' := [(4, .int (zI ((k : Int) + 1))), (5, .ref (ra k)), (3, .int (zI (n : Int))), (2, .ref sa), (1, .ref h2), (0, .ref h)]) C dX4_copy_82 1 rfl (by decide) rfl ?_
        refine g_goto 51 C dX4_copy_85 (by decide) ?_
        refine g_loc (L' := [(4, .int (zI ((k : Int) + 1))), (3, .int (zI (n : Int))), (2, .ref sa), (1, .ref h2), (0, .ref h)]) [0, 2, 3, 4, 5] rfl ?_
        refine g_ws (w' := (((((wZ h sa rm lt tk ov nw bs bS bM) ++ (wG sa cG n (rN ra n))) ++ (wZ h2 q2 rm lt tk ov .null .null 0 0)) ++ (wG q2 cG (k + 1) (rN (va_up rb k a2) (k + 1)))) ++ (wQ (va_up rb k a2) cI fv fs fd (k + 1))) ++ (wQ ra cI fv fs fd n)) (by rw [rN_ny]) rfl ?_
        exact ih_51 (k + 1) q2 (va_up rb k a2) (by omega) (by omega)
  refine g_loc (L' := [(4, .int (zI 0)), (3, .int (zI ((n : Nat) : Int))), (2, .ref sa), (1, .ref h2), (0, .ref h)]) [0, 1, 2, 3, 4] rfl ?_
  refine g_ws (w' := (((((wZ h sa rm lt tk ov nw bs bS bM) ++ (wG sa cG n (rN ra n))) ++ (wZ h2 q0 rm lt tk ov .null .null 0 0)) ++ (wG q0 cG 0 (rN (fun _ => 0) 0))) ++ (wQ (fun _ => 0) cI fv fs fd 0)) ++ (wQ ra cI fv fs fd n)) (rfl) rfl ?_
  exact loop_51 _ 0 q0 (fun _ => 0) (Nat.zero_le _) (Nat.lt_succ_self _)
theorem and31b (x : Int32) : ∃ z : Int, 0 ≤ z ∧ zr z ∧ x &&& 2147483647 = zI z := by
  refine ⟨((x &&& 2147483647).toBitVec.toNat : Int), by omega, ?_, ?_⟩
  · have h1 : (x.toBitVec &&& (2147483647#32)).toNat ≤ 2147483647 := by
      rw [BitVec.toNat_and]
      exact Nat.and_le_right
    exact ⟨by omega, by show (((x.toBitVec &&& (2147483647#32)).toNat : Nat) : Int) ≤ _; omega⟩
  · apply Int32.toBitVec_inj.mp
    show x.toBitVec &&& 2147483647#32 = BitVec.ofInt 32 (((x.toBitVec &&& 2147483647#32).toNat : Nat) : Int)
    rw [BitVec.ofInt_natCast, BitVec.ofNat_toNat, BitVec.setWidth_eq]
abbrev rmL_below : Room := { frames := 0, cells := 0, slots := 0, locals := 0 }
theorem met_L_below (l : Launch) (D : va_G) (cI cG cJ : ClassId) (x : Int) (n : Int) (hn : 0 < n) (hn2 : zr n) : gMet l yL_below cL_below 2 (some .int) rmL_below D cI cG cJ [.int (zI x), .int (zI n)] [] (gI (fun z w9 => (0 ≤ z ∧ z < n) ∧ w9 = [])) := by
  refine gMet_I (by decide) rfl (Nat.le_of_ble_eq_true rfl) (fun E C ret => ?_)
  refine g_iload_n C dL_below_0 0 rfl ?_
  refine g_ldc C (mr_4 _ (List.mem_of_getElem? (i := 6) rfl)) dL_below_1 ?_
  refine g_iand C dL_below_3 ?_
  obtain ⟨z, h1, h2, h3⟩ := and31b (zI x)
  rw [h3]
  refine g_iload_n C dL_below_4 1 rfl ?_
  refine g_irem C dL_below_5 h1 h2 hn hn2 (fun r r1 r2 => ?_)
  exact ret _ _ _ _ _ _ (by decide) (by decide) dL_below_6 ⟨⟨r1, r2⟩, rfl⟩
abbrev rmL_cell : Room := { frames := 0, cells := 0, slots := 0, locals := 0 }
theorem met_L_cell (l : Launch) (D : va_G) (cI cG cJ : ClassId) (b N : Nat) (xs : Nat → Int32) (hN : N ≤ 2000) (k : Int) (hk : 0 ≤ k ∧ k ≤ 100) : gMetX l yL_cell cL_cell 2 (some .int) rmL_cell D cI cG cJ [.ref b, .int (zI k)] [] b N xs (gI (fun z w9 => zr z ∧ w9 = [])) := by
  refine gMetX_I (by decide) rfl (Nat.le_of_ble_eq_true rfl) (fun E C hX ret => ?_)
  refine g_iload_n C dL_cell_0 1 rfl ?_
  refine g_aload_n C dL_cell_1 0 rfl ?_
  refine g_slen C hX dL_cell_2 ?_
  refine g_icmp_ge 12 C dL_cell_3 (by decide) (zr_i (by omega) (by omega)) (zr_i (by omega) (by omega)) (fun c1 => ?_) (fun c1 => ?_)
  · refine g_ldc C (mr_4 _ (List.mem_of_getElem? (i := 2) rfl)) dL_cell_12 ?_
    refine g_any (fun z hz => ?_)
    refine g_iload_n C dL_cell_14 1 rfl ?_
    refine g_iconst C dL_cell_15 ?_
    refine g_iadd C dL_cell_16 ?_
    refine g_imul C dL_cell_17 ?_
    refine g_any (fun y hy => ?_)
    exact ret _ _ _ _ _ _ (by decide) (by decide) dL_cell_18 ⟨hy, rfl⟩
  · refine g_aload_n C dL_cell_6 0 rfl ?_
    refine g_iload_n C dL_cell_7 1 rfl ?_
    refine g_sld C hX hN (by omega) (by omega) dL_cell_8 (fun z hz => ?_)
    refine g_goto 18 C dL_cell_9 (by decide) ?_
    exact ret _ _ _ _ _ _ (by decide) (by decide) dL_cell_18 ⟨hz, rfl⟩
abbrev rmL_reachPrinted : Room := { frames := 3, cells := 19, slots := 406, locals := 78 }
set_option maxHeartbeats 4000000 in
set_option maxRecDepth 100000 in
theorem met_L_reachPrinted (l : Launch) (D : va_G) (cI cG cJ : ClassId) (h sa : Nat) (ra : Nat → Nat) (n : Nat) (hn : n ≤ 8) (fv fs fd : Nat → Int) (hS : Sok n fv fs) (rm lt tk ov : Int) (hr : 0 ≤ rm ∧ rm ≤ 12) (nw bs : Value) (bS bM : Int) (s : Nat) (hs : s < n)  : gMet l yL_reachPrinted cL_reachPrinted 3 (some .int) rmL_reachPrinted D cI cG cJ [.ref h, .int (zI (s : Int))] (((wZ h sa rm lt tk ov nw bs bS bM) ++ (wG sa cG n (rN ra n))) ++ (wQ ra cI fv fs fd n)) (gI (fun z w9 => z = (RC n fv (zU fs s (fs s + 20)) rm : Int) ∧ w9 = ((wZ h sa rm lt tk ov nw bs bS bM) ++ (wG sa cG n (rN ra n))) ++ (wQ ra cI fv fs fd n))) := by
  have hS2 : Sok n fv (zU fs s (min 99 (fs s + 20))) := ⟨hS.1, fun j hj => by
    have h1 := hS.2.1 j hj
    have h2 := hS.2.1 s hs
    simp only [zU]
    split <;> omega, hS.2.2⟩
  have hRC : RC n fv (zU fs s (min 99 (fs s + 20))) rm = RC n fv (zU fs s (fs s + 20)) rm := RCc (fun _ _ => rfl) (fun j hj => by
    simp only [zU]
    split <;> omega)
  refine gMet_I (by decide) rfl (Nat.le_of_ble_eq_true rfl) (fun E C ret => ?_)
  refine g_aload_n C dL_reachPrinted_0 0 rfl ?_
  refine g_callV (wr := ([] : va_W)) (st := []) _ _ C cL_170 (met_X4_copy l D cI cG cJ h sa ra n hn fv fs fd hS rm lt tk ov nw bs bS bM) gSp_a (q0 := 0) rfl rfl (by decide) (by decide) rfl rfl (Nat.le_of_ble_eq_true rfl) dL_reachPrinted_1 ?_
  rintro v9 w9 ⟨z9, rfl, h2, sb, rb, rfl, rfl⟩
  refine g_ws (w' := (((((wZ h sa rm lt tk ov nw bs bS bM) ++ (wG sa cG n (rN ra n))) ++ (wZ h2 sb rm lt tk ov .null .null 0 0)) ++ (wG sb cG n (rN rb n))) ++ (wQ rb cI fv fs fd n)) ++ (wQ ra cI fv fs fd n)) (st' := [.ref h2]) (rfl) rfl ?_
  refine g_mods [wZ h sa rm lt tk ov nw bs bS bM, wG sa cG n (rN ra n), wZ h2 sb rm lt tk ov .null .null 0 0, wG sb cG n (rN rb n), wQ rb cI fv fs fd n, wQ ra cI fv fs fd n] [wZ h sa rm lt tk ov nw bs bS bM, wG sa cG n (rN ra n), wZ h2 sb rm lt tk ov .null .null 0 0, wG sb cG n (rN rb n), wQ ra cI fv fs fd n, wQ rb cI fv fs fd n] [0, 1, 2, 3, 5, 4] (by decide) rfl ?_
  refine g_ws (w' := (((((wZ h sa rm lt tk ov nw bs bS bM) ++ (wG sa cG n (rN ra n))) ++ (wZ h2 sb rm lt tk ov .null .null 0 0)) ++ (wG sb cG n (rN rb n))) ++ (wQ ra cI fv fs fd n)) ++ (wQ rb cI fv fs fd n)) rfl rfl ?_
  refine g_astore_n (L' := [(2, .ref h2), (0, .ref h), (1, .int (zI (s : Int)))]) C dL_reachPrinted_4 (by decide) rfl ?_
  refine g_aload_n C dL_reachPrinted_5 0 rfl ?_
  refine g_getf C fL_9 2 rfl rfl dL_reachPrinted_6 ?_
  refine g_iload_n C dL_reachPrinted_9 2 rfl ?_
  refine g_aald (y := rb s) C 3 rfl (by omega) (by omega) (by omega) (rN_at (by omega)) dL_reachPrinted_10 ?_
  refine g_iconst C dL_reachPrinted_11 ?_
  refine g_bipush C dL_reachPrinted_12 (by decide) ?_
  refine g_aload_n C dL_reachPrinted_14 0 rfl ?_
  refine g_getf C fL_9 2 rfl rfl dL_reachPrinted_15 ?_
  refine g_iload_n C dL_reachPrinted_18 2 rfl ?_
  refine g_aald (y := rb s) C 3 rfl (by omega) (by omega) (by omega) (rN_at (by omega)) dL_reachPrinted_19 ?_
  refine g_iconst C dL_reachPrinted_20 ?_
  refine g_iald C _ (wQ_at (j := s) (by omega)) (by decide) (by decide) (by decide) (v := (fs s)) rfl dL_reachPrinted_21 ?_
  refine g_bipush C dL_reachPrinted_22 (by decide) ?_
  refine g_iadd C dL_reachPrinted_24 ?_
  refine g_min C mL_112 (zr_i (by omega) (by omega)) (zr_i (by have := hS.2.1 s hs; omega) (by have := hS.2.1 s hs; omega)) (by decide) (Nat.le_of_ble_eq_true rfl) dL_reachPrinted_25 ?_
  refine g_iast (w' := (((((wZ h sa rm lt tk ov nw bs bS bM) ++ (wG sa cG n (rN ra n))) ++ (wZ h2 sb rm lt tk ov .null .null 0 0)) ++ (wG sb cG n (rN rb n))) ++ (wQ ra cI fv fs fd n)) ++ (wQ rb cI fv (zU fs s (min 99 ((fs s) + 20))) fd n)) C _ (wQ_at (j := s) (by omega)) (by decide) (by decide) (by decide) (wQ_s1 (by omega)) dL_reachPrinted_28 ?_
  refine g_aload_n C dL_reachPrinted_29 0 rfl ?_
  refine g_mods [wZ h sa rm lt tk ov nw bs bS bM, wG sa cG n (rN ra n), wZ h2 sb rm lt tk ov .null .null 0 0, wG sb cG n (rN rb n), wQ ra cI fv fs fd n, wQ rb cI fv (zU fs s (min 99 ((fs s) + 20))) fd n] [wZ h sa rm lt tk ov nw bs bS bM, wG sa cG n (rN ra n), wQ ra cI fv fs fd n, wZ h2 sb rm lt tk ov .null .null 0 0, wG sb cG n (rN rb n), wQ rb cI fv (zU fs s (min 99 ((fs s) + 20))) fd n] [0, 1, 4, 2, 3, 5] (by decide) rfl ?_
  refine g_ws (w' := (((((wZ h sa rm lt tk ov nw bs bS bM) ++ (wG sa cG n (rN ra n))) ++ (wQ ra cI fv fs fd n)) ++ (wZ h2 sb rm lt tk ov .null .null 0 0)) ++ (wG sb cG n (rN rb n))) ++ (wQ rb cI fv (zU fs s (min 99 ((fs s) + 20))) fd n)) rfl rfl ?_
  refine g_eqw (w' := (((wZ h sa rm lt tk ov nw bs bS bM) ++ (wG sa cG n (rN ra n))) ++ (wQ ra cI fv fs fd n)) ++ (((wZ h2 sb rm lt tk ov .null .null 0 0) ++ (wG sb cG n (rN rb n))) ++ (wQ rb cI fv (zU fs s (min 99 ((fs s) + 20))) fd n))) (by simp only [List.append_assoc]) ?_
  refine g_callV (wr := ((wZ h sa rm lt tk ov nw bs bS bM) ++ (wG sa cG n (rN ra n))) ++ (wQ ra cI fv fs fd n)) (st := []) _ _ C cL_174 (met_X4_reachNow l D cI cG cJ h2 sb rb n hn fv (zU fs s (min 99 (fs s + 20))) fd hS2 rm lt tk ov hr .null .null 0 0) gSp_r (ci := 4) (q0 := ((((wZ h sa rm lt tk ov nw bs bS bM) ++ (wG sa cG n (rN ra n))) ++ (wQ ra cI fv fs fd n)) : va_W).length) (at_r rfl) rfl (by decide) (by decide) rfl rfl (Nat.le_of_ble_eq_true rfl) dL_reachPrinted_30 ?_
  rintro v9 w9 ⟨z9, rfl, rfl, rfl⟩
  refine g_ws (w' := (((((wZ h sa rm lt tk ov nw bs bS bM) ++ (wG sa cG n (rN ra n))) ++ (wQ ra cI fv fs fd n)) ++ (wZ h2 sb rm lt tk ov .null .null 0 0)) ++ (wG sb cG n (rN rb n))) ++ (wQ rb cI fv (zU fs s (min 99 (fs s + 20))) fd n)) (st' := [.int (zI (RC n fv (zU fs s (min 99 (fs s + 20))) rm : Int))]) (by simp only [List.append_assoc]) rfl ?_
  refine g_mods [wZ h sa rm lt tk ov nw bs bS bM, wG sa cG n (rN ra n), wQ ra cI fv fs fd n, wZ h2 sb rm lt tk ov .null .null 0 0, wG sb cG n (rN rb n), wQ rb cI fv (zU fs s (min 99 (fs s + 20))) fd n] [wZ h sa rm lt tk ov nw bs bS bM, wG sa cG n (rN ra n), wQ ra cI fv fs fd n] [0, 1, 2] (by decide) rfl ?_
  refine g_ws (w' := ((wZ h sa rm lt tk ov nw bs bS bM) ++ (wG sa cG n (rN ra n))) ++ (wQ ra cI fv fs fd n)) rfl rfl ?_
  exact ret _ _ _ _ _ _ (by decide) (by decide) dL_reachPrinted_33 (⟨by rw [hRC], rfl⟩)
