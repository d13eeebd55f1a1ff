/-! the tables by hand, walked; copies, one less, the start -/
theorem ini_0 {x : Int} : (fun _ => (0 : Int)) = fun q : Nat => if 1 ≤ q ∧ q < 1 then x else 0 := by
  funext q
  exact (if_neg (by omega)).symm
theorem ini_s {x : Int} {p : Nat} (h : 1 ≤ p) : zU (fun q : Nat => if 1 ≤ q ∧ q < p then x else 0) p x = fun q : Nat => if 1 ≤ q ∧ q < p + 1 then x else 0 := by
  funext q
  simp only [zU]
  by_cases e : q = p
  · rw [if_pos e, if_pos (by omega)]
  · rw [if_neg e]
    by_cases g : 1 ≤ q ∧ q < p
    · rw [if_pos g, if_pos (by omega)]
    · rw [if_neg g, if_neg (by omega)]
theorem fwF_bd {n : Nat} {fv fs : Nat → Int} {rm : Int} (hS : Sok n fv fs) (hr : 0 ≤ rm ∧ rm ≤ 12) {i : Nat} (hi : i < n) : ∀ c, c ≤ 12 → ∀ p, p ≤ 300 → 0 ≤ psN (fv i) (fwF fv (fun j => min (fs j) rm) i) c p ∧ psN (fv i) (fwF fv (fun j => min (fs j) rm) i) c p ≤ 99 := fun c hc p hp => by
  have hu : ∀ j, j < i → 1 ≤ fv j ∧ 0 ≤ min (fs j) rm ∧ min (fs j) rm ≤ 12 := fun j hj => by
    have := hS.1 j (by omega)
    have := hS.2.1 j (by omega)
    omega
  have h1 := psN_row (f := tb fv (fun j => min (fs j) rm) i) (hS.1 i hi).1 (fwF_tb i hu) c hc p hp
  obtain ⟨j, s', g1, g2, g3⟩ := tRow_at (f := tb fv (fun j => min (fs j) rm) i) (v := fv i) (u := (c : Int)) (s := p) (by omega)
  have h2 := (tb_bd (vs := fv) (us := fun j => min (fs j) rm) i (fun j hj => by have := hu j hj; omega) s').1
  omega
theorem ps_lt {v : Int} {F : Nat → Int} {t : Nat} (h : v ≤ (t : Int)) (h2 : F ((t : Int) - v).toNat < F t) : min (F t) (F ((t : Int) - v).toNat + 1) = ps v F t := (if_pos h).symm
theorem ps_ge {v : Int} {F : Nat → Int} {t : Nat} (h : v ≤ (t : Int)) (h2 : ¬ F ((t : Int) - v).toNat < F t) : F t = ps v F t := by
  simp only [ps]
  rw [if_pos h]
  omega
abbrev rmX4_few : Room := { frames := 1, cells := 1, slots := 301, locals := 21 }
set_option maxHeartbeats 4000000 in
set_option maxRecDepth 100000 in
theorem met_X4_few (l : Launch) (D : va_G) (cI cG cJ : ClassId) (h sa : Nat) (ra : Nat → Nat) (n : Nat) (hn : n ≤ 8) (fv fs fd : Nat → Int) (hS : Sok n fv fs) (rm lt tk ov : Int) (hr : 0 ≤ rm ∧ rm ≤ 12) (nw bs : Value) (bS bM : Int)  : gMet l yX4_few cX4_few 8 (some (.array .int)) rmX4_few D cI cG cJ [.ref h] (((wZ h sa rm lt tk ov nw bs bS bM) ++ (wG sa cG n (rN ra n))) ++ (wQ ra cI fv fs fd n)) (gA (fun z w9 => ∃ (q : Nat) (f : Nat → Int), z = .ref q ∧ (∀ p, p ≤ 300 → f p = min 99 (tb fv (fun j => min (fs j) rm) n p)) ∧ w9 = (((wZ h sa rm lt tk ov nw bs bS bM) ++ (wG sa cG n (rN ra n))) ++ ([(q, .inl (cI, 301, .inl (zA f)))])) ++ (wQ ra cI fv fs fd n))) := by
  refine gMet_A (Or.inr ⟨_, rfl⟩) (by decide) rfl (Nat.le_of_ble_eq_true rfl) (fun E C ret => ?_)
  refine g_sipush C dX4_few_0 (by decide) ?_
  refine g_newi (N := 301) C arrI (by decide) ⟨Nat.le_of_ble_eq_true rfl, Nat.le_of_ble_eq_true rfl⟩ dX4_few_3 (fun q => ?_)
  refine g_ws (w' := (((wZ h sa rm lt tk ov nw bs bS bM) ++ (wG sa cG n (rN ra n))) ++ (wQ ra cI fv fs fd n)) ++ ([(q, .inl (cI, 301, .inl (zA (fun _ => 0))))])) rfl rfl ?_
  refine g_mods [wZ h sa rm lt tk ov nw bs bS bM, wG sa cG n (rN ra n), wQ ra cI fv fs fd n, [(q, .inl (cI, 301, .inl (zA (fun _ => 0))))]] [wZ h sa rm lt tk ov nw bs bS bM, wG sa cG n (rN ra n), [(q, .inl (cI, 301, .inl (zA (fun _ => 0))))], wQ ra cI fv fs fd n] [0, 1, 3, 2] (by decide) rfl ?_
  refine g_ws (w' := (((wZ h sa rm lt tk ov nw bs bS bM) ++ (wG sa cG n (rN ra n))) ++ ([(q, .inl (cI, 301, .inl (zA (fun _ => 0))))])) ++ (wQ ra cI fv fs fd n)) rfl rfl ?_
  refine g_astore_n (L' := [(1, .ref q), (0, .ref h)]) C dX4_few_5 (by decide) rfl ?_
  refine g_iconst C dX4_few_6 ?_
  refine g_istore_n (L' := [(2, .int (zI 1)), (1, .ref q), (0, .ref h)]) C dX4_few_7 (by decide) rfl ?_
  have loop_8 : ∀ (fu : Nat) (p : Nat), (hp : 1 ≤ p ∧ p ≤ 301) → 301 - p < fu → gW E 1 301 ((((wZ h sa rm lt tk ov nw bs bS bM) ++ (wG sa cG n (rN ra n))) ++ ([(q, .inl (cI, 301, .inl (zA (fun q => if 1 ≤ q ∧ q < p then 99 else 0))))])) ++ (wQ ra cI fv fs fd n)) 8 [(2, .int (zI (p : Int))), (1, .ref q), (0, .ref h)] [] := by
    intro fu
    induction fu with
    | zero => intro p hp h9; exact absurd h9 (Nat.not_lt_zero _)
    | succ fu ih_8 =>
      intro p hp hmu_8
      refine g_iload_n C dX4_few_8 0 rfl ?_
      refine g_sipush C dX4_few_9 (by decide) ?_
      refine g_icmp_ge 26 C dX4_few_12 (by decide) (zr_i (by omega) (by omega)) (zr_i (by omega) (by omega)) (fun c_12 => ?_) (fun c_12 => ?_)
      · have e9 : 301 = p := by omega
        subst e9
        refine g_aload_n C dX4_few_26 2 rfl ?_
        refine g_getf C fX4_15 0 rfl rfl dX4_few_27 ?_
        refine g_astore_n (L' := [(2, .ref sa), (1, .ref q), (0, .ref h)]) C dX4_few_30 (by decide) rfl ?_
        refine g_aload_n C dX4_few_31 0 rfl ?_
        refine g_alenG C 1 rfl dX4_few_32 ?_
        refine g_istore_n (L' := [(3, .int (zI ((n : Nat) : Int))), (2, .ref sa), (1, .ref q), (0, .ref h)]) C dX4_few_33 (by decide) rfl ?_
        refine g_iconst C dX4_few_34 ?_
        refine g_istore (L' := [(4, .int (zI 0)), (3, .int (zI ((n : Nat) : Int))), (2, .ref sa), (1, .ref q), (0, .ref h)]) C dX4_few_35 (by decide) rfl ?_
        have loop_37 : ∀ (fu : Nat) (i : Nat), (hi : i ≤ n) → n - i < fu → gW E 1 301 ((((wZ h sa rm lt tk ov nw bs bS bM) ++ (wG sa cG n (rN ra n))) ++ ([(q, .inl (cI, 301, .inl (zA (fwF fv (fun j => min (fs j) rm) i))))])) ++ (wQ ra cI fv fs fd n)) 37 [(4, .int (zI (i : Int))), (3, .int (zI (n : Int))), (2, .ref sa), (1, .ref q), (0, .ref h)] [] := by
          intro fu
          induction fu with
          | zero => intro i hi h9; exact absurd h9 (Nat.not_lt_zero _)
          | succ fu ih_37 =>
            intro i hi hmu_37
            refine g_iload C dX4_few_37 0 rfl ?_
            refine g_iload_n C dX4_few_39 1 rfl ?_
            refine g_icmp_ge 147 C dX4_few_40 (by decide) (zr_i (by omega) (by omega)) (zr_i (by omega) (by omega)) (fun c_40 => ?_) (fun c_40 => ?_)
            · have e9 : n = i := by omega
              subst e9
              refine g_aload_n C dX4_few_147 3 rfl ?_
              exact ret _ _ _ _ _ _ (by decide) (by decide) dX4_few_148 (Or.inr ⟨_, rfl⟩) (⟨q, _, rfl, fwF_tb n (fun j hj => by have := hS.1 j hj; have := hS.2.1 j hj; show 1 ≤ fv j ∧ 0 ≤ min (fs j) rm ∧ min (fs j) rm ≤ 12; omega), rfl⟩)
            · have hvi := hS.1 i (by omega)
              have hsi := hS.2.1 i (by omega)
              have hb9 := fwF_bd hS hr (i := i) (by omega)
              refine g_aload_n C dX4_few_43 2 rfl ?_
              refine g_iload C dX4_few_44 0 rfl ?_
              refine g_aald (y := ra i) C 1 rfl (by omega) (by omega) (by omega) (rN_at (by omega)) dX4_few_46 ?_
              refine g_astore (L' := [(5, .ref (ra i)), (4, .int (zI (i : Int))), (3, .int (zI (n : Int))), (2, .ref sa), (1, .ref q), (0, .ref h)]) C dX4_few_47 (by decide) rfl ?_
              refine g_iconst C dX4_few_49 ?_
              refine g_istore (L' := [(6, .int (zI 0)), (5, .ref (ra i)), (4, .int (zI (i : Int))), (3, .int (zI (n : Int))), (2, .ref sa), (1, .ref q), (0, .ref h)]) C dX4_few_50 (by decide) rfl ?_
              have loop_52 : ∀ (fu : Nat) (c : Nat), (hc : (c : Int) ≤ min (fs i) rm) → (min (fs i) rm).toNat - c < fu → gW E 1 301 ((((wZ h sa rm lt tk ov nw bs bS bM) ++ (wG sa cG n (rN ra n))) ++ ([(q, .inl (cI, 301, .inl (zA (psN (fv i) (fwF fv (fun j => min (fs j) rm) i) c))))])) ++ (wQ ra cI fv fs fd n)) 52 [(6, .int (zI (c : Int))), (5, .ref (ra i)), (4, .int (zI (i : Int))), (3, .int (zI (n : Int))), (2, .ref sa), (1, .ref q), (0, .ref h)] [] := by
                intro fu
                induction fu with
                | zero => intro c hc h9; exact absurd h9 (Nat.not_lt_zero _)
                | succ fu ih_52 =>
                  intro c hc hmu_52
                  refine g_iload C dX4_few_52 0 rfl ?_
                  refine g_aload C dX4_few_54 1 rfl ?_
                  refine g_iconst C dX4_few_56 ?_
                  refine g_iald C _ (wQ_at (j := i) (by omega)) (by decide) (by decide) (by decide) (v := (fs i)) rfl dX4_few_57 ?_
                  refine g_icmp_ge 141 C dX4_few_58 (by decide) (zr_i (by omega) (by omega)) (hS.zs (by omega)) (fun c_58 => ?_) (fun c_58 => ?_)
                  · refine g_iinc (L' := [(4, .int (zI ((i : Int) + 1))), (6, .int (zI (c : Int))), (5, .ref (ra i)), (3, .int (zI (n : Int))), (2, .ref sa), (1, .ref q), (0, .ref h)]) C dX4_few_141 2 rfl (by decide) rfl ?_
                    refine g_goto 37 C dX4_few_144 (by decide) ?_
                    refine g_loc (L' := [(4, .int (zI ((i : Int) + 1))), (3, .int (zI (n : Int))), (2, .ref sa), (1, .ref q), (0, .ref h)]) [0, 3, 4, 5, 6] rfl ?_
                    refine g_ws (w' := (((wZ h sa rm lt tk ov nw bs bS bM) ++ (wG sa cG n (rN ra n))) ++ ([(q, .inl (cI, 301, .inl (zA (fwF fv (fun j => min (fs j) rm) (i + 1)))))])) ++ (wQ ra cI fv fs fd n)) (by rw [show fwF fv (fun j => min (fs j) rm) (i + 1) = psN (fv i) (fwF fv (fun j => min (fs j) rm) i) c from congrArg (psN (fv i) (fwF fv (fun j => min (fs j) rm) i)) (show (min (fs i) rm).toNat = c by omega)]) rfl ?_
                    exact ih_37 (i + 1) (by omega) (by omega)
                  · refine g_iload C dX4_few_61 0 rfl ?_
                    refine g_aload_n C dX4_few_63 6 rfl ?_
                    refine g_getf C fX4_7 0 rfl rfl dX4_few_64 ?_
                    refine g_icmp_ge 141 C dX4_few_67 (by decide) (zr_i (by omega) (by omega)) (zr_i (by omega) (by omega)) (fun c_67 => ?_) (fun c_67 => ?_)
                    · refine g_iinc (L' := [(4, .int (zI ((i : Int) + 1))), (6, .int (zI (c : Int))), (5, .ref (ra i)), (3, .int (zI (n : Int))), (2, .ref sa), (1, .ref q), (0, .ref h)]) C dX4_few_141 2 rfl (by decide) rfl ?_
                      refine g_goto 37 C dX4_few_144 (by decide) ?_
                      refine g_loc (L' := [(4, .int (zI ((i : Int) + 1))), (3, .int (zI (n : Int))), (2, .ref sa), (1, .ref q), (0, .ref h)]) [0, 3, 4, 5, 6] rfl ?_
                      refine g_ws (w' := (((wZ h sa rm lt tk ov nw bs bS bM) ++ (wG sa cG n (rN ra n))) ++ ([(q, .inl (cI, 301, .inl (zA (fwF fv (fun j => min (fs j) rm) (i + 1)))))])) ++ (wQ ra cI fv fs fd n)) (by rw [show fwF fv (fun j => min (fs j) rm) (i + 1) = psN (fv i) (fwF fv (fun j => min (fs j) rm) i) c from congrArg (psN (fv i) (fwF fv (fun j => min (fs j) rm) i)) (show (min (fs i) rm).toNat = c by omega)]) rfl ?_
                      exact ih_37 (i + 1) (by omega) (by omega)
                    · refine g_sipush C dX4_few_70 (by decide) ?_
                      refine g_istore (L' := [(7, .int (zI 300)), (6, .int (zI (c : Int))), (5, .ref (ra i)), (4, .int (zI (i : Int))), (3, .int (zI (n : Int))), (2, .ref sa), (1, .ref q), (0, .ref h)]) C dX4_few_73 (by decide) rfl ?_
                      have loop_75 : ∀ (fu : Nat) (t : Nat), (ht : t ≤ 300) → t < fu → gW E 1 301 ((((wZ h sa rm lt tk ov nw bs bS bM) ++ (wG sa cG n (rN ra n))) ++ ([(q, .inl (cI, 301, .inl (zA (psP (fv i) (psN (fv i) (fwF fv (fun j => min (fs j) rm) i) c) (t : Int)))))])) ++ (wQ ra cI fv fs fd n)) 75 [(7, .int (zI (t : Int))), (6, .int (zI (c : Int))), (5, .ref (ra i)), (4, .int (zI (i : Int))), (3, .int (zI (n : Int))), (2, .ref sa), (1, .ref q), (0, .ref h)] [] := by
                        intro fu
                        induction fu with
                        | zero => intro t ht h9; exact absurd h9 (Nat.not_lt_zero _)
                        | succ fu ih_75 =>
                          intro t ht hmu_75
                          refine g_iload C dX4_few_75 0 rfl ?_
                          refine g_aload C dX4_few_77 2 rfl ?_
                          refine g_iconst C dX4_few_79 ?_
                          refine g_iald C _ (wQ_at (j := i) (by omega)) (by decide) (by decide) (by decide) (v := (fv i)) rfl dX4_few_80 ?_
                          refine g_icmp_lt 135 C dX4_few_81 (by decide) (zr_i (by omega) (by omega)) (hS.zv (by omega)) (fun c_81 => ?_) (fun c_81 => ?_)
                          · refine g_iinc (L' := [(6, .int (zI ((c : Int) + 1))), (7, .int (zI (t : Int))), (5, .ref (ra i)), (4, .int (zI (i : Int))), (3, .int (zI (n : Int))), (2, .ref sa), (1, .ref q), (0, .ref h)]) C dX4_few_135 1 rfl (by decide) rfl ?_
                            refine g_goto 52 C dX4_few_138 (by decide) ?_
                            refine g_loc (L' := [(6, .int (zI ((c : Int) + 1))), (5, .ref (ra i)), (4, .int (zI (i : Int))), (3, .int (zI (n : Int))), (2, .ref sa), (1, .ref q), (0, .ref h)]) [0, 2, 3, 4, 5, 6, 7] rfl ?_
                            refine g_ws (w' := (((wZ h sa rm lt tk ov nw bs bS bM) ++ (wG sa cG n (rN ra n))) ++ ([(q, .inl (cI, 301, .inl (zA (psN (fv i) (fwF fv (fun j => min (fs j) rm) i) (c + 1)))))])) ++ (wQ ra cI fv fs fd n)) (by rw [psP_end (v := fv i) (F := (psN (fv i) (fwF fv (fun j => min (fs j) rm) i) c)) (t := (t : Int)) (by omega)]; rfl) rfl ?_
                            exact ih_52 (c + 1) (by omega) (by omega)
                          · have hA := hb9 c (by omega) ((t : Int) - fv i).toNat (by omega)
                            have hB := hb9 c (by omega) t (by omega)
                            refine g_aload_n C dX4_few_84 6 rfl ?_
                            refine g_iload C dX4_few_85 0 rfl ?_
                            refine g_aload_n C dX4_few_87 6 rfl ?_
                            refine g_iload C dX4_few_88 0 rfl ?_
                            refine g_aload C dX4_few_90 2 rfl ?_
                            refine g_iconst C dX4_few_92 ?_
                            refine g_iald C _ (wQ_at (j := i) (by omega)) (by decide) (by decide) (by decide) (v := (fv i)) rfl dX4_few_93 ?_
                            refine g_isub C dX4_few_94 ?_
                            refine g_iald C 2 rfl (by decide) (by omega) (by omega) (v := ((psP (fv i) (psN (fv i) (fwF fv (fun j => min (fs j) rm) i) c) (t : Int)) ((((t : Int) - (fv i))).toNat))) rfl dX4_few_95 ?_
                            refine g_top (psN (fv i) (fwF fv (fun j => min (fs j) rm) i) c ((t : Int) - fv i).toNat) (psP_lo (by omega)) ?_
                            refine g_aload_n C dX4_few_96 6 rfl ?_
                            refine g_iload C dX4_few_97 0 rfl ?_
                            refine g_iald C 2 rfl (by decide) (by omega) (by omega) (v := ((psP (fv i) (psN (fv i) (fwF fv (fun j => min (fs j) rm) i) c) (t : Int)) t)) rfl dX4_few_99 ?_
                            refine g_top (psN (fv i) (fwF fv (fun j => min (fs j) rm) i) c t) (psP_lo (Nat.le_refl _)) ?_
                            refine g_icmp_ge 124 C dX4_few_100 (by decide) (zr_i (by omega) (by omega)) (zr_i (by omega) (by omega)) (fun c_100 => ?_) (fun c_100 => ?_)
                            · refine g_aload_n C dX4_few_124 6 rfl ?_
                              refine g_iload C dX4_few_125 0 rfl ?_
                              refine g_iald C 2 rfl (by decide) (by omega) (by omega) (v := ((psP (fv i) (psN (fv i) (fwF fv (fun j => min (fs j) rm) i) c) (t : Int)) t)) rfl dX4_few_127 ?_
                              refine g_top (psN (fv i) (fwF fv (fun j => min (fs j) rm) i) c t) (psP_lo (Nat.le_refl _)) ?_
                              refine g_iast (w' := (((wZ h sa rm lt tk ov nw bs bS bM) ++ (wG sa cG n (rN ra n))) ++ ([(q, .inl (cI, 301, .inl (zA (zU (psP (fv i) (psN (fv i) (fwF fv (fun j => min (fs j) rm) i) c) (t : Int)) t (psN (fv i) (fwF fv (fun j => min (fs j) rm) i) c t)))))])) ++ (wQ ra cI fv fs fd n)) C 2 rfl (by decide) (by omega) (by omega) rfl dX4_few_128 ?_
                              refine g_iinc (L' := [(7, .int (zI ((t : Int) + (-1)))), (6, .int (zI (c : Int))), (5, .ref (ra i)), (4, .int (zI (i : Int))), (3, .int (zI (n : Int))), (2, .ref sa), (1, .ref q), (0, .ref h)]) C dX4_few_129 0 rfl (by decide) rfl ?_
                              refine g_goto 75 C dX4_few_132 (by decide) ?_
                              refine g_loc (L' := [(7, .int (zI ((t : Int) + (-1)))), (6, .int (zI (c : Int))), (5, .ref (ra i)), (4, .int (zI (i : Int))), (3, .int (zI (n : Int))), (2, .ref sa), (1, .ref q), (0, .ref h)]) [0, 1, 2, 3, 4, 5, 6, 7] rfl ?_
                              refine g_lw (w' := (((wZ h sa rm lt tk ov nw bs bS bM) ++ (wG sa cG n (rN ra n))) ++ ([(q, .inl (cI, 301, .inl (zA (zU (psP (fv i) (psN (fv i) (fwF fv (fun j => min (fs j) rm) i) c) (t : Int)) t (psN (fv i) (fwF fv (fun j => min (fs j) rm) i) c t)))))])) ++ (wQ ra cI fv fs fd n)) (L' := [(7, .int (zI (((t - 1) : Nat) : Int))), (6, .int (zI (c : Int))), (5, .ref (ra i)), (4, .int (zI (i : Int))), (3, .int (zI (n : Int))), (2, .ref sa), (1, .ref q), (0, .ref h)]) rfl (by rw [show (t : Int) + (-1) = (((t - 1) : Nat) : Int) by omega]) ?_
                              refine g_ws (w' := (((wZ h sa rm lt tk ov nw bs bS bM) ++ (wG sa cG n (rN ra n))) ++ ([(q, .inl (cI, 301, .inl (zA (psP (fv i) (psN (fv i) (fwF fv (fun j => min (fs j) rm) i) c) (((t - 1) : Nat) : Int)))))])) ++ (wQ ra cI fv fs fd n)) (by rw [ps_ge (v := fv i) (F := (psN (fv i) (fwF fv (fun j => min (fs j) rm) i) c)) (t := t) (by omega) (by omega), psP_s (t := t) (by omega), show (t : Int) - 1 = (((t - 1) : Nat) : Int) by omega]) rfl ?_
                              exact ih_75 (t - 1) (by omega) (by omega)
                            · refine g_aload_n C dX4_few_103 6 rfl ?_
                              refine g_iload C dX4_few_104 0 rfl ?_
                              refine g_iald C 2 rfl (by decide) (by omega) (by omega) (v := ((psP (fv i) (psN (fv i) (fwF fv (fun j => min (fs j) rm) i) c) (t : Int)) t)) rfl dX4_few_106 ?_
                              refine g_top (psN (fv i) (fwF fv (fun j => min (fs j) rm) i) c t) (psP_lo (Nat.le_refl _)) ?_
                              refine g_aload_n C dX4_few_107 6 rfl ?_
                              refine g_iload C dX4_few_108 0 rfl ?_
                              refine g_aload C dX4_few_110 2 rfl ?_
                              refine g_iconst C dX4_few_112 ?_
                              refine g_iald C _ (wQ_at (j := i) (by omega)) (by decide) (by decide) (by decide) (v := (fv i)) rfl dX4_few_113 ?_
                              refine g_isub C dX4_few_114 ?_
                              refine g_iald C 2 rfl (by decide) (by omega) (by omega) (v := ((psP (fv i) (psN (fv i) (fwF fv (fun j => min (fs j) rm) i) c) (t : Int)) ((((t : Int) - (fv i))).toNat))) rfl dX4_few_115 ?_
                              refine g_top (psN (fv i) (fwF fv (fun j => min (fs j) rm) i) c ((t : Int) - fv i).toNat) (psP_lo (by omega)) ?_
                              refine g_iconst C dX4_few_116 ?_
                              refine g_iadd C dX4_few_117 ?_
                              refine g_min C mX4_63 (zr_i (by omega) (by omega)) (zr_i (by omega) (by omega)) (by decide) (Nat.le_of_ble_eq_true rfl) dX4_few_118 ?_
                              refine g_goto 128 C dX4_few_121 (by decide) ?_
                              refine g_iast (w' := (((wZ h sa rm lt tk ov nw bs bS bM) ++ (wG sa cG n (rN ra n))) ++ ([(q, .inl (cI, 301, .inl (zA (zU (psP (fv i) (psN (fv i) (fwF fv (fun j => min (fs j) rm) i) c) (t : Int)) t (min (psN (fv i) (fwF fv (fun j => min (fs j) rm) i) c t) ((psN (fv i) (fwF fv (fun j => min (fs j) rm) i) c ((t : Int) - fv i).toNat) + 1))))))])) ++ (wQ ra cI fv fs fd n)) C 2 rfl (by decide) (by omega) (by omega) rfl dX4_few_128 ?_
                              refine g_iinc (L' := [(7, .int (zI ((t : Int) + (-1)))), (6, .int (zI (c : Int))), (5, .ref (ra i)), (4, .int (zI (i : Int))), (3, .int (zI (n : Int))), (2, .ref sa), (1, .ref q), (0, .ref h)]) C dX4_few_129 0 rfl (by decide) rfl ?_
                              refine g_goto 75 C dX4_few_132 (by decide) ?_
                              refine g_loc (L' := [(7, .int (zI ((t : Int) + (-1)))), (6, .int (zI (c : Int))), (5, .ref (ra i)), (4, .int (zI (i : Int))), (3, .int (zI (n : Int))), (2, .ref sa), (1, .ref q), (0, .ref h)]) [0, 1, 2, 3, 4, 5, 6, 7] rfl ?_
                              refine g_lw (w' := (((wZ h sa rm lt tk ov nw bs bS bM) ++ (wG sa cG n (rN ra n))) ++ ([(q, .inl (cI, 301, .inl (zA (zU (psP (fv i) (psN (fv i) (fwF fv (fun j => min (fs j) rm) i) c) (t : Int)) t (min (psN (fv i) (fwF fv (fun j => min (fs j) rm) i) c t) ((psN (fv i) (fwF fv (fun j => min (fs j) rm) i) c ((t : Int) - fv i).toNat) + 1))))))])) ++ (wQ ra cI fv fs fd n)) (L' := [(7, .int (zI (((t - 1) : Nat) : Int))), (6, .int (zI (c : Int))), (5, .ref (ra i)), (4, .int (zI (i : Int))), (3, .int (zI (n : Int))), (2, .ref sa), (1, .ref q), (0, .ref h)]) rfl (by rw [show (t : Int) + (-1) = (((t - 1) : Nat) : Int) by omega]) ?_
                              refine g_ws (w' := (((wZ h sa rm lt tk ov nw bs bS bM) ++ (wG sa cG n (rN ra n))) ++ ([(q, .inl (cI, 301, .inl (zA (psP (fv i) (psN (fv i) (fwF fv (fun j => min (fs j) rm) i) c) (((t - 1) : Nat) : Int)))))])) ++ (wQ ra cI fv fs fd n)) (by rw [ps_lt (v := fv i) (t := t) (F := (psN (fv i) (fwF fv (fun j => min (fs j) rm) i) c)) (by omega) (by omega), psP_s (t := t) (by omega), show (t : Int) - 1 = (((t - 1) : Nat) : Int) by omega]) rfl ?_
                              exact ih_75 (t - 1) (by omega) (by omega)
                      refine g_loc (L' := [(7, .int (zI 300)), (6, .int (zI (c : Int))), (5, .ref (ra i)), (4, .int (zI (i : Int))), (3, .int (zI (n : Int))), (2, .ref sa), (1, .ref q), (0, .ref h)]) [0, 1, 2, 3, 4, 5, 6, 7] rfl ?_
                      refine g_ws (w' := (((wZ h sa rm lt tk ov nw bs bS bM) ++ (wG sa cG n (rN ra n))) ++ ([(q, .inl (cI, 301, .inl (zA (psP (fv i) (psN (fv i) (fwF fv (fun j => min (fs j) rm) i) c) ((300 : Nat) : Int)))))])) ++ (wQ ra cI fv fs fd n)) (by rw [show (((300 : Nat) : Int)) = 300 from rfl, ← psP_0]) rfl ?_
                      exact loop_75 _ 300 (by omega) (Nat.lt_succ_self _)
              refine g_loc (L' := [(6, .int (zI 0)), (5, .ref (ra i)), (4, .int (zI (i : Int))), (3, .int (zI (n : Int))), (2, .ref sa), (1, .ref q), (0, .ref h)]) [0, 1, 2, 3, 4, 5, 6] rfl ?_
              refine g_ws (w' := (((wZ h sa rm lt tk ov nw bs bS bM) ++ (wG sa cG n (rN ra n))) ++ ([(q, .inl (cI, 301, .inl (zA (psN (fv i) (fwF fv (fun j => min (fs j) rm) i) 0))))])) ++ (wQ ra cI fv fs fd n)) (rfl) rfl ?_
              exact loop_52 _ 0 (by omega) (Nat.lt_succ_self _)
        refine g_loc (L' := [(4, .int (zI 0)), (3, .int (zI ((n : Nat) : Int))), (2, .ref sa), (1, .ref q), (0, .ref h)]) [0, 1, 2, 3, 4] rfl ?_
        refine g_ws (w' := (((wZ h sa rm lt tk ov nw bs bS bM) ++ (wG sa cG n (rN ra n))) ++ ([(q, .inl (cI, 301, .inl (zA (fwF fv (fun j => min (fs j) rm) 0))))])) ++ (wQ ra cI fv fs fd n)) (rfl) rfl ?_
        exact loop_37 _ 0 (Nat.zero_le _) (Nat.lt_succ_self _)
      · refine g_aload_n C dX4_few_15 1 rfl ?_
        refine g_iload_n C dX4_few_16 0 rfl ?_
        refine g_bipush C dX4_few_17 (by decide) ?_
        refine g_iast (w' := (((wZ h sa rm lt tk ov nw bs bS bM) ++ (wG sa cG n (rN ra n))) ++ ([(q, .inl (cI, 301, .inl (zA (zU (fun q => if 1 ≤ q ∧ q < p then 99 else 0) p 99))))])) ++ (wQ ra cI fv fs fd n)) C 2 rfl (by decide) (by omega) (by omega) rfl dX4_few_19 ?_
        refine g_iinc (L' := [(2, .int (zI ((p : Int) + 1))), (1, .ref q), (0, .ref h)]) C dX4_few_20 0 rfl (by decide) rfl ?_
        refine g_goto 8 C dX4_few_23 (by decide) ?_
        refine g_loc (L' := [(2, .int (zI ((p : Int) + 1))), (1, .ref q), (0, .ref h)]) [0, 1, 2] rfl ?_
        refine g_ws (w' := (((wZ h sa rm lt tk ov nw bs bS bM) ++ (wG sa cG n (rN ra n))) ++ ([(q, .inl (cI, 301, .inl (zA (fun q => if 1 ≤ q ∧ q < p + 1 then 99 else 0))))])) ++ (wQ ra cI fv fs fd n)) (by rw [ini_s (by omega)]) rfl ?_
        exact ih_8 (p + 1) (by omega) (by omega)
  refine g_loc (L' := [(2, .int (zI 1)), (1, .ref q), (0, .ref h)]) [0, 1, 2] rfl ?_
  refine g_ws (w' := (((wZ h sa rm lt tk ov nw bs bS bM) ++ (wG sa cG n (rN ra n))) ++ ([(q, .inl (cI, 301, .inl (zA (fun q => if 1 ≤ q ∧ q < 1 then 99 else 0))))])) ++ (wQ ra cI fv fs fd n)) (by rw [← ini_0]) rfl ?_
  exact loop_8 _ 1 (by omega) (Nat.lt_succ_self _)
abbrev rmX4_reachNow : Room := { frames := 2, cells := 1, slots := 301, locals := 48 }
set_option maxHeartbeats 4000000 in
set_option maxRecDepth 100000 in
theorem met_X4_reachNow (l : Launch) (D : va_G) (cI cG cJ : ClassId) (h sa : Nat) (ra : Nat → Nat) (n : Nat) (hn : n ≤ 8) (fv fs fd : Nat → Int) (hS : Sok n fv fs) (rm lt tk ov : Int) (hr : 0 ≤ rm ∧ rm ≤ 12) (nw bs : Value) (bS bM : Int)  : gMet l yX4_reachNow cX4_reachNow 3 (some .int) rmX4_reachNow D cI cG cJ [.ref h] (((wZ h sa rm lt tk ov nw bs bS bM) ++ (wG sa cG n (rN ra n))) ++ (wQ ra cI fv fs fd n)) (gI (fun z w9 => z = (RC n fv fs rm : Int) ∧ w9 = ((wZ h sa rm lt tk ov nw bs bS bM) ++ (wG sa cG n (rN ra n))) ++ (wQ ra cI fv fs fd n))) := by
  refine gMet_I (by decide) rfl (Nat.le_of_ble_eq_true rfl) (fun E C ret => ?_)
  refine g_aload_n C dX4_reachNow_0 0 rfl ?_
  refine g_callV (wr := ([] : va_W)) (st := []) _ _ C cX4_69 (met_X4_few l D cI cG cJ h sa ra n hn fv fs fd hS rm lt tk ov hr nw bs bS bM) gSp_a (q0 := 0) rfl rfl (by decide) (by decide) rfl rfl (Nat.le_of_ble_eq_true rfl) dX4_reachNow_1 ?_
  rintro v9 w9 ⟨z9, rfl, q, f, rfl, hf, rfl⟩
  refine g_ws (w' := (((wZ h sa rm lt tk ov nw bs bS bM) ++ (wG sa cG n (rN ra n))) ++ ([(q, .inl (cI, 301, .inl (zA f)))])) ++ (wQ ra cI fv fs fd n)) (st' := [.ref q]) (rfl) rfl ?_
  refine g_astore_n (L' := [(1, .ref q), (0, .ref h)]) C dX4_reachNow_4 (by decide) rfl ?_
  have hfb : ∀ p, p ≤ 300 → 0 ≤ f p ∧ f p ≤ 99 := fun p hp => by
    have h1 := hf p hp
    have h2 := (tb_bd (vs := fv) (us := fun j => min (fs j) rm) n (fun j hj => by have := hS.1 j hj; omega) p).1
    omega
  refine g_iconst C dX4_reachNow_5 ?_
  refine g_istore_n (L' := [(2, .int (zI 1)), (1, .ref q), (0, .ref h)]) C dX4_reachNow_6 (by decide) rfl ?_
  have loop_7 : ∀ (fu : Nat) (p : Nat), (hp : 1 ≤ p ∧ p ≤ 301) → (hR : rch f rm (301 - p) (p - 1) = RC n fv fs rm) → 301 - p < fu → gW E 1 301 ((((wZ h sa rm lt tk ov nw bs bS bM) ++ (wG sa cG n (rN ra n))) ++ ([(q, .inl (cI, 301, .inl (zA f)))])) ++ (wQ ra cI fv fs fd n)) 7 [(2, .int (zI (p : Int))), (1, .ref q), (0, .ref h)] [] := by
    intro fu
    induction fu with
    | zero => intro p hp hR h9; exact absurd h9 (Nat.not_lt_zero _)
    | succ fu ih_7 =>
      intro p hp hR hmu_7
      refine g_iload_n C dX4_reachNow_7 0 rfl ?_
      refine g_sipush C dX4_reachNow_8 (by decide) ?_
      refine g_icmp_ge 30 C dX4_reachNow_11 (by decide) (zr_i (by omega) (by omega)) (zr_i (by omega) (by omega)) (fun c_11 => ?_) (fun c_11 => ?_)
      · refine g_iload_n C dX4_reachNow_30 0 rfl ?_
        refine g_iconst C dX4_reachNow_31 ?_
        refine g_isub C dX4_reachNow_32 ?_
        refine g_mods [wZ h sa rm lt tk ov nw bs bS bM, wG sa cG n (rN ra n), [(q, .inl (cI, 301, .inl (zA f)))], wQ ra cI fv fs fd n] [wZ h sa rm lt tk ov nw bs bS bM, wG sa cG n (rN ra n), wQ ra cI fv fs fd n] [0, 1, 3] (by decide) rfl ?_
        refine g_ws (w' := ((wZ h sa rm lt tk ov nw bs bS bM) ++ (wG sa cG n (rN ra n))) ++ (wQ ra cI fv fs fd n)) rfl rfl ?_
        exact ret _ _ _ _ _ _ (by decide) (by decide) dX4_reachNow_33 (⟨by
          have e9 : p = 301 := by omega
          subst e9
          rw [← hR]
          rfl, rfl⟩)
      · refine g_aload_n C dX4_reachNow_14 1 rfl ?_
        refine g_iload_n C dX4_reachNow_15 0 rfl ?_
        refine g_iald C 2 rfl (by decide) (by omega) (by omega) (v := (f p)) rfl dX4_reachNow_16 ?_
        refine g_aload_n C dX4_reachNow_17 2 rfl ?_
        refine g_getf C fX4_7 0 rfl rfl dX4_reachNow_18 ?_
        refine g_icmp_gt 30 C dX4_reachNow_21 (by decide) (zr_i (by have := hfb p; omega) (by have := hfb p; omega)) (zr_i (by omega) (by omega)) (fun c_21 => ?_) (fun c_21 => ?_)
        · refine g_iload_n C dX4_reachNow_30 0 rfl ?_
          refine g_iconst C dX4_reachNow_31 ?_
          refine g_isub C dX4_reachNow_32 ?_
          refine g_mods [wZ h sa rm lt tk ov nw bs bS bM, wG sa cG n (rN ra n), [(q, .inl (cI, 301, .inl (zA f)))], wQ ra cI fv fs fd n] [wZ h sa rm lt tk ov nw bs bS bM, wG sa cG n (rN ra n), wQ ra cI fv fs fd n] [0, 1, 3] (by decide) rfl ?_
          refine g_ws (w' := ((wZ h sa rm lt tk ov nw bs bS bM) ++ (wG sa cG n (rN ra n))) ++ (wQ ra cI fv fs fd n)) rfl rfl ?_
          exact ret _ _ _ _ _ _ (by decide) (by decide) dX4_reachNow_33 (⟨by
            have h9 : rch f rm (301 - p) (p - 1) = p - 1 := rch_f (by rw [show p - 1 + 1 = p by omega]; omega)
            rw [← hR, h9]
            omega, rfl⟩)
        · refine g_iinc (L' := [(2, .int (zI ((p : Int) + 1))), (1, .ref q), (0, .ref h)]) C dX4_reachNow_24 0 rfl (by decide) rfl ?_
          refine g_goto 7 C dX4_reachNow_27 (by decide) ?_
          refine g_loc (L' := [(2, .int (zI ((p : Int) + 1))), (1, .ref q), (0, .ref h)]) [0, 1, 2] rfl ?_
          exact ih_7 (p + 1) (by omega) (by
           rw [show 301 - p = 301 - (p + 1) + 1 by omega, rch_t (by rw [show p - 1 + 1 = p by omega]; omega)] at hR
           rw [show p + 1 - 1 = p - 1 + 1 by omega]
           exact hR) (by omega)
  refine g_loc (L' := [(2, .int (zI 1)), (1, .ref q), (0, .ref h)]) [0, 1, 2] rfl ?_
  exact loop_7 _ 1 (by omega) (RC_few hS hr hf) (Nat.lt_succ_self _)
theorem vlF_lt {fv : Nat → Int} {n : Nat} {more : Int} {i : Nat} (h : i < n) : fv i = vlF fv n more i := (if_pos h).symm
theorem vlF_ge {fv : Nat → Int} {n : Nat} {more : Int} {i : Nat} (h : ¬ i < n) : more = vlF fv n more i := (if_neg h).symm
theorem vlF_zr {fv fs : Nat → Int} {n : Nat} {more : Int} {i : Nat} (hS : Sok n fv fs) (hm : zr more) : zr (vlF fv n more i) := by
  by_cases h : i < n
  · rw [← vlF_lt h]; exact hS.zv h
  · rw [← vlF_ge h]; exact hm
theorem PLm_zr {fv : Nat → Int} {n : Nat} {more m : Int} {q : Nat} (hv : ∀ j, j < n → 1 ≤ fv j) (hm : m ≤ 12) (hq : q ≤ 300) : -1 ≤ PLm fv n more m q ∧ PLm fv n more m q ≤ 12 := by
  have := pf_nn (more := more) hv hq
  simp only [PLm]
  split <;> omega
theorem hit_s {P : Nat → Prop} {x m : Int} {k : Nat} (h : (x = m ∧ ∃ i, i < k ∧ P i) ∨ (x = -1 ∧ ∀ i, i < k → ¬ P i)) (hk : ¬ P k) : (x = m ∧ ∃ i, i < k + 1 ∧ P i) ∨ (x = -1 ∧ ∀ i, i < k + 1 → ¬ P i) := by
  rcases h with ⟨h1, i, h2, h3⟩ | ⟨h1, h2⟩
  · exact Or.inl ⟨h1, i, by omega, h3⟩
  · refine Or.inr ⟨h1, fun i hi => ?_⟩
    by_cases e : i = k
    · subst e; exact hk
    · exact h2 i (by omega)
theorem zU_zU {f : Nat → Int} {t : Nat} {x y : Int} : zU (zU f t x) t y = zU f t y := by
  funext q
  simp only [zU]
  by_cases e : q = t
  · rw [if_pos e, if_pos e]
  · rw [if_neg e, if_neg e, if_neg e]
abbrev rmX4_print : Room := { frames := 0, cells := 1, slots := 301, locals := 0 }
set_option maxHeartbeats 4000000 in
set_option maxRecDepth 100000 in
theorem met_X4_print (l : Launch) (D : va_G) (cI cG cJ : ClassId) (h sa : Nat) (ra : Nat → Nat) (n : Nat) (hn : n ≤ 8) (fv fs fd : Nat → Int) (hS : Sok n fv fs) (rm lt tk ov : Int) (hr : 0 ≤ rm ∧ rm ≤ 12) (nw bs : Value) (bS bM : Int) (its more : Int) (hi : 1 ≤ its ∧ its ≤ 12) (hmr : zr more)  : gMet l yX4_print cX4_print 8 (some (.array .int)) rmX4_print D cI cG cJ [.ref h, .int (zI its), .int (zI more)] (((wZ h sa rm lt tk ov nw bs bS bM) ++ (wG sa cG n (rN ra n))) ++ (wQ ra cI fv fs fd n)) (gA (fun z w9 => ∃ (q : Nat) (f : Nat → Int), z = .ref q ∧ (∀ p, p ≤ 300 → f p = PLm fv n more its p) ∧ w9 = (((wZ h sa rm lt tk ov nw bs bS bM) ++ (wG sa cG n (rN ra n))) ++ ([(q, .inl (cI, 301, .inl (zA f)))])) ++ (wQ ra cI fv fs fd n))) := by
  have hv1 : ∀ j, j < n → 1 ≤ fv j := fun j hj => (hS.1 j hj).1
  refine gMet_A (Or.inr ⟨_, rfl⟩) (by decide) rfl (Nat.le_of_ble_eq_true rfl) (fun E C ret => ?_)
  refine g_sipush C dX4_print_0 (by decide) ?_
  refine g_newi (N := 301) C arrI (by decide) ⟨Nat.le_of_ble_eq_true rfl, Nat.le_of_ble_eq_true rfl⟩ dX4_print_3 (fun q => ?_)
  refine g_ws (w' := (((wZ h sa rm lt tk ov nw bs bS bM) ++ (wG sa cG n (rN ra n))) ++ (wQ ra cI fv fs fd n)) ++ ([(q, .inl (cI, 301, .inl (zA (fun _ => 0))))])) rfl rfl ?_
  refine g_mods [wZ h sa rm lt tk ov nw bs bS bM, wG sa cG n (rN ra n), wQ ra cI fv fs fd n, [(q, .inl (cI, 301, .inl (zA (fun _ => 0))))]] [wZ h sa rm lt tk ov nw bs bS bM, wG sa cG n (rN ra n), [(q, .inl (cI, 301, .inl (zA (fun _ => 0))))], wQ ra cI fv fs fd n] [0, 1, 3, 2] (by decide) rfl ?_
  refine g_ws (w' := (((wZ h sa rm lt tk ov nw bs bS bM) ++ (wG sa cG n (rN ra n))) ++ ([(q, .inl (cI, 301, .inl (zA (fun _ => 0))))])) ++ (wQ ra cI fv fs fd n)) rfl rfl ?_
  refine g_astore_n (L' := [(3, .ref q), (0, .ref h), (1, .int (zI its)), (2, .int (zI more))]) C dX4_print_5 (by decide) rfl ?_
  refine g_iconst C dX4_print_6 ?_
  refine g_istore (L' := [(4, .int (zI 1)), (3, .ref q), (0, .ref h), (1, .int (zI its)), (2, .int (zI more))]) C dX4_print_7 (by decide) rfl ?_
  have loop_9 : ∀ (fu : Nat) (p : Nat), (hp : 1 ≤ p ∧ p ≤ 301) → 301 - p < fu → gW E 1 301 ((((wZ h sa rm lt tk ov nw bs bS bM) ++ (wG sa cG n (rN ra n))) ++ ([(q, .inl (cI, 301, .inl (zA (fun q => if 1 ≤ q ∧ q < p then (-1) else 0))))])) ++ (wQ ra cI fv fs fd n)) 9 [(4, .int (zI (p : Int))), (3, .ref q), (0, .ref h), (1, .int (zI its)), (2, .int (zI more))] [] := by
    intro fu
    induction fu with
    | zero => intro p hp h9; exact absurd h9 (Nat.not_lt_zero _)
    | succ fu ih_9 =>
      intro p hp hmu_9
      refine g_iload C dX4_print_9 0 rfl ?_
      refine g_sipush C dX4_print_11 (by decide) ?_
      refine g_icmp_ge 28 C dX4_print_14 (by decide) (zr_i (by omega) (by omega)) (zr_i (by omega) (by omega)) (fun c_14 => ?_) (fun c_14 => ?_)
      · have e9 : 301 = p := by omega
        subst e9
        refine g_iconst C dX4_print_28 ?_
        refine g_istore (L' := [(4, .int (zI 1)), (3, .ref q), (0, .ref h), (1, .int (zI its)), (2, .int (zI more))]) C dX4_print_29 (by decide) rfl ?_
        have loop_31 : ∀ (fu : Nat) (m : Nat), (hm : 1 ≤ m ∧ (m : Int) ≤ its + 1) → 13 - m < fu → gW E 1 301 ((((wZ h sa rm lt tk ov nw bs bS bM) ++ (wG sa cG n (rN ra n))) ++ ([(q, .inl (cI, 301, .inl (zA (prS fv n more (m : Int) 300))))])) ++ (wQ ra cI fv fs fd n)) 31 [(4, .int (zI (m : Int))), (3, .ref q), (0, .ref h), (1, .int (zI its)), (2, .int (zI more))] [] := by
          intro fu
          induction fu with
          | zero => intro m hm h9; exact absurd h9 (Nat.not_lt_zero _)
          | succ fu ih_31 =>
            intro m hm hmu_31
            refine g_iload C dX4_print_31 0 rfl ?_
            refine g_iload_n C dX4_print_33 3 rfl ?_
            refine g_icmp_gt 145 C dX4_print_34 (by decide) (zr_i (by omega) (by omega)) (zr_i (by omega) (by omega)) (fun c_34 => ?_) (fun c_34 => ?_)
            · refine g_aload_n C dX4_print_145 1 rfl ?_
              exact ret _ _ _ _ _ _ (by decide) (by decide) dX4_print_146 (Or.inr ⟨_, rfl⟩) (⟨q, _, rfl, fun p hp => by
                have e9 : (m : Int) = its + 1 := by omega
                rw [prS_at (by omega) hp, e9, show its + 1 - 1 = its by omega], rfl⟩)
            · refine g_sipush C dX4_print_37 (by decide) ?_
              refine g_istore (L' := [(5, .int (zI 300)), (4, .int (zI (m : Int))), (3, .ref q), (0, .ref h), (1, .int (zI its)), (2, .int (zI more))]) C dX4_print_40 (by decide) rfl ?_
              have loop_42 : ∀ (fu : Nat) (t : Nat), (ht : t ≤ 300) → t < fu → gW E 1 301 ((((wZ h sa rm lt tk ov nw bs bS bM) ++ (wG sa cG n (rN ra n))) ++ ([(q, .inl (cI, 301, .inl (zA (prS fv n more (m : Int) t))))])) ++ (wQ ra cI fv fs fd n)) 42 [(5, .int (zI (t : Int))), (4, .int (zI (m : Int))), (3, .ref q), (0, .ref h), (1, .int (zI its)), (2, .int (zI more))] [] := by
                intro fu
                induction fu with
                | zero => intro t ht h9; exact absurd h9 (Nat.not_lt_zero _)
                | succ fu ih_42 =>
                  intro t ht hmu_42
                  refine g_iload C dX4_print_42 0 rfl ?_
                  refine g_if_le 139 C dX4_print_44 (by decide) (zr_i (by omega) (by omega)) (fun c_44 => ?_) (fun c_44 => ?_)
                  · have e9 : t = 0 := by omega
                    subst e9
                    refine g_iinc (L' := [(4, .int (zI ((m : Int) + 1))), (5, .int (zI (0 : Int))), (3, .ref q), (0, .ref h), (1, .int (zI its)), (2, .int (zI more))]) C dX4_print_139 1 rfl (by decide) rfl ?_
                    refine g_goto 31 C dX4_print_142 (by decide) ?_
                    refine g_loc (L' := [(4, .int (zI ((m : Int) + 1))), (3, .ref q), (0, .ref h), (1, .int (zI its)), (2, .int (zI more))]) [0, 2, 3, 4, 5] rfl ?_
                    refine g_ws (w' := (((wZ h sa rm lt tk ov nw bs bS bM) ++ (wG sa cG n (rN ra n))) ++ ([(q, .inl (cI, 301, .inl (zA (prS fv n more (((m + 1) : Nat) : Int) 300))))])) ++ (wQ ra cI fv fs fd n)) (by rw [show (((m + 1) : Nat) : Int) = (m : Int) + 1 by omega, ← prS_nx hv1 (by omega)]) rfl ?_
                    exact ih_31 (m + 1) (by omega) (by omega)
                  · have hPt := PLm_zr (more := more) (m := (m : Int) - 1) (q := t) hv1 (by omega) (by omega)
                    refine g_aload_n C dX4_print_47 2 rfl ?_
                    refine g_iload C dX4_print_48 0 rfl ?_
                    refine g_iald C 2 rfl (by decide) (by omega) (by omega) (v := ((prS fv n more (m : Int) t) t)) rfl dX4_print_50 ?_
                    refine g_top (PLm fv n more ((m : Int) - 1) t) (prS_at (by omega) (Nat.le_refl _)) ?_
                    refine g_if_lt 57 C dX4_print_51 (by decide) (zr_i (by omega) (by omega)) (fun c_51 => ?_) (fun c_51 => ?_)
                    · have c_51c : ¬ 0 ≤ PLm fv n more ((m : Int) - 1) t := by omega
                      refine g_iconst C dX4_print_57 ?_
                      refine g_istore (L' := [(6, .int (zI 0)), (5, .int (zI (t : Int))), (4, .int (zI (m : Int))), (3, .ref q), (0, .ref h), (1, .int (zI its)), (2, .int (zI more))]) C dX4_print_58 (by decide) rfl ?_
                      have loop_60 : ∀ (fu : Nat) (k : Nat) (x : Int), (hk : k ≤ n + 1) → (hx : (x = (m : Int) ∧ ∃ i, i < k ∧ hitP fv n more (m : Int) t i) ∨ (x = -1 ∧ ∀ i, i < k → ¬ hitP fv n more (m : Int) t i)) → n + 1 - k < fu → gW E 1 301 ((((wZ h sa rm lt tk ov nw bs bS bM) ++ (wG sa cG n (rN ra n))) ++ ([(q, .inl (cI, 301, .inl (zA (zU (prS fv n more (m : Int) t) t x))))])) ++ (wQ ra cI fv fs fd n)) 60 [(6, .int (zI (k : Int))), (5, .int (zI (t : Int))), (4, .int (zI (m : Int))), (3, .ref q), (0, .ref h), (1, .int (zI its)), (2, .int (zI more))] [] := by
                        intro fu
                        induction fu with
                        | zero => intro k x hk hx h9; exact absurd h9 (Nat.not_lt_zero _)
                        | succ fu ih_60 =>
                          intro k x hk hx hmu_60
                          refine g_iload C dX4_print_60 0 rfl ?_
                          refine g_aload_n C dX4_print_62 4 rfl ?_
                          refine g_getf C fX4_15 0 rfl rfl dX4_print_63 ?_
                          refine g_alenG C 1 rfl dX4_print_66 ?_
                          refine g_icmp_gt 133 C dX4_print_67 (by decide) (zr_i (by omega) (by omega)) (zr_i (by omega) (by omega)) (fun c_67 => ?_) (fun c_67 => ?_)
                          · have hkn : n + 1 = k := by omega
                            subst hkn
                            refine g_iinc (L' := [(5, .int (zI ((t : Int) + (-1)))), (6, .int (zI ((n + 1) : Int))), (4, .int (zI (m : Int))), (3, .ref q), (0, .ref h), (1, .int (zI its)), (2, .int (zI more))]) C dX4_print_133 1 rfl (by decide) rfl ?_
                            refine g_goto 42 C dX4_print_136 (by decide) ?_
                            refine g_loc (L' := [(5, .int (zI ((t : Int) + (-1)))), (4, .int (zI (m : Int))), (3, .ref q), (0, .ref h), (1, .int (zI its)), (2, .int (zI more))]) [0, 2, 3, 4, 5, 6] rfl ?_
                            refine g_lw (w' := (((wZ h sa rm lt tk ov nw bs bS bM) ++ (wG sa cG n (rN ra n))) ++ ([(q, .inl (cI, 301, .inl (zA (zU (prS fv n more (m : Int) t) t x))))])) ++ (wQ ra cI fv fs fd n)) (L' := [(5, .int (zI (((t - 1) : Nat) : Int))), (4, .int (zI (m : Int))), (3, .ref q), (0, .ref h), (1, .int (zI its)), (2, .int (zI more))]) rfl (by rw [show (t : Int) + (-1) = (((t - 1) : Nat) : Int) by omega]) ?_
                            refine g_ws (w' := (((wZ h sa rm lt tk ov nw bs bS bM) ++ (wG sa cG n (rN ra n))) ++ ([(q, .inl (cI, 301, .inl (zA (prS fv n more (m : Int) (t - 1)))))])) ++ (wQ ra cI fv fs fd n)) (by rw [hit_PL hv1 (by omega) (by omega) (by omega) (by omega) c_51c hx, prS_s (by omega) (by omega)]) rfl ?_
                            exact ih_42 (t - 1) (by omega) (by omega)
                          · refine g_iload C dX4_print_70 0 rfl ?_
                            refine g_aload_n C dX4_print_72 4 rfl ?_
                            refine g_getf C fX4_15 0 rfl rfl dX4_print_73 ?_
                            refine g_alenG C 1 rfl dX4_print_76 ?_
                            refine g_icmp_ge 92 C dX4_print_77 (by decide) (zr_i (by omega) (by omega)) (zr_i (by omega) (by omega)) (fun c_77 => ?_) (fun c_77 => ?_)
                            · refine g_iload_n C dX4_print_92 6 rfl ?_
                              refine g_top (vlF fv n more k) (vlF_ge (by omega)) ?_
                              refine g_istore (L' := [(7, .int (zI (vlF fv n more k))), (6, .int (zI (k : Int))), (5, .int (zI (t : Int))), (4, .int (zI (m : Int))), (3, .ref q), (0, .ref h), (1, .int (zI its)), (2, .int (zI more))]) C dX4_print_93 (by decide) rfl ?_
                              refine g_iload C dX4_print_95 0 rfl ?_
                              refine g_if_le 127 C dX4_print_97 (by decide) (vlF_zr hS hmr) (fun c_97 => ?_) (fun c_97 => ?_)
                              · refine g_iinc (L' := [(6, .int (zI ((k : Int) + 1))), (7, .int (zI (vlF fv n more k))), (5, .int (zI (t : Int))), (4, .int (zI (m : Int))), (3, .ref q), (0, .ref h), (1, .int (zI its)), (2, .int (zI more))]) C dX4_print_127 1 rfl (by decide) rfl ?_
                                refine g_goto 60 C dX4_print_130 (by decide) ?_
                                refine g_loc (L' := [(6, .int (zI ((k : Int) + 1))), (5, .int (zI (t : Int))), (4, .int (zI (m : Int))), (3, .ref q), (0, .ref h), (1, .int (zI its)), (2, .int (zI more))]) [0, 2, 3, 4, 5, 6, 7] rfl ?_
                                exact ih_60 (k + 1) x (by omega) (hit_s hx (fun q9 => by have := q9.1; omega)) (by omega)
                              · refine g_iload C dX4_print_100 0 rfl ?_
                                refine g_iload C dX4_print_102 2 rfl ?_
                                refine g_icmp_gt 127 C dX4_print_104 (by decide) (vlF_zr hS hmr) (zr_i (by omega) (by omega)) (fun c_104 => ?_) (fun c_104 => ?_)
                                · refine g_iinc (L' := [(6, .int (zI ((k : Int) + 1))), (7, .int (zI (vlF fv n more k))), (5, .int (zI (t : Int))), (4, .int (zI (m : Int))), (3, .ref q), (0, .ref h), (1, .int (zI its)), (2, .int (zI more))]) C dX4_print_127 1 rfl (by decide) rfl ?_
                                  refine g_goto 60 C dX4_print_130 (by decide) ?_
                                  refine g_loc (L' := [(6, .int (zI ((k : Int) + 1))), (5, .int (zI (t : Int))), (4, .int (zI (m : Int))), (3, .ref q), (0, .ref h), (1, .int (zI its)), (2, .int (zI more))]) [0, 2, 3, 4, 5, 6, 7] rfl ?_
                                  exact ih_60 (k + 1) x (by omega) (hit_s hx (fun q9 => by have := q9.2.1; omega)) (by omega)
                                · have hPv := PLm_zr (more := more) (m := (m : Int) - 1) (q := ((t : Int) - vlF fv n more k).toNat) hv1 (by omega) (by omega)
                                  refine g_aload_n C dX4_print_107 4 rfl ?_
                                  refine g_iload C dX4_print_108 2 rfl ?_
                                  refine g_iload C dX4_print_110 0 rfl ?_
                                  refine g_isub C dX4_print_112 ?_
                                  refine g_iald C 2 rfl (by decide) (by omega) (by omega) (v := ((zU (prS fv n more (m : Int) t) t x) ((((t : Int) - (vlF fv n more k))).toNat))) rfl dX4_print_113 ?_
                                  refine g_top (PLm fv n more ((m : Int) - 1) ((t : Int) - vlF fv n more k).toNat) (by
                                    simp only [zU]
                                    rw [if_neg (by omega), prS_at (by omega) (by omega)]) ?_
                                  refine g_iload C dX4_print_114 3 rfl ?_
                                  refine g_iconst C dX4_print_116 ?_
                                  refine g_isub C dX4_print_117 ?_
                                  refine g_icmp_ne 127 C dX4_print_118 (by decide) (zr_i (by omega) (by omega)) (zr_i (by omega) (by omega)) (fun c_118 => ?_) (fun c_118 => ?_)
                                  · refine g_iinc (L' := [(6, .int (zI ((k : Int) + 1))), (7, .int (zI (vlF fv n more k))), (5, .int (zI (t : Int))), (4, .int (zI (m : Int))), (3, .ref q), (0, .ref h), (1, .int (zI its)), (2, .int (zI more))]) C dX4_print_127 1 rfl (by decide) rfl ?_
                                    refine g_goto 60 C dX4_print_130 (by decide) ?_
                                    refine g_loc (L' := [(6, .int (zI ((k : Int) + 1))), (5, .int (zI (t : Int))), (4, .int (zI (m : Int))), (3, .ref q), (0, .ref h), (1, .int (zI its)), (2, .int (zI more))]) [0, 2, 3, 4, 5, 6, 7] rfl ?_
                                    exact ih_60 (k + 1) x (by omega) (hit_s hx (fun q9 => c_118 q9.2.2)) (by omega)
                                  · refine g_aload_n C dX4_print_121 4 rfl ?_
                                    refine g_iload C dX4_print_122 2 rfl ?_
                                    refine g_iload C dX4_print_124 3 rfl ?_
                                    refine g_iast (w' := (((wZ h sa rm lt tk ov nw bs bS bM) ++ (wG sa cG n (rN ra n))) ++ ([(q, .inl (cI, 301, .inl (zA (zU (zU (prS fv n more (m : Int) t) t x) t (m : Int)))))])) ++ (wQ ra cI fv fs fd n)) C 2 rfl (by decide) (by omega) (by omega) rfl dX4_print_126 ?_
                                    refine g_iinc (L' := [(6, .int (zI ((k : Int) + 1))), (7, .int (zI (vlF fv n more k))), (5, .int (zI (t : Int))), (4, .int (zI (m : Int))), (3, .ref q), (0, .ref h), (1, .int (zI its)), (2, .int (zI more))]) C dX4_print_127 1 rfl (by decide) rfl ?_
                                    refine g_goto 60 C dX4_print_130 (by decide) ?_
                                    refine g_loc (L' := [(6, .int (zI ((k : Int) + 1))), (5, .int (zI (t : Int))), (4, .int (zI (m : Int))), (3, .ref q), (0, .ref h), (1, .int (zI its)), (2, .int (zI more))]) [0, 2, 3, 4, 5, 6, 7] rfl ?_
                                    refine g_ws (w' := (((wZ h sa rm lt tk ov nw bs bS bM) ++ (wG sa cG n (rN ra n))) ++ ([(q, .inl (cI, 301, .inl (zA (zU (prS fv n more (m : Int) t) t (m : Int)))))])) ++ (wQ ra cI fv fs fd n)) (by rw [zU_zU]) rfl ?_
                                    exact ih_60 (k + 1) (m : Int) (by omega) (Or.inl ⟨rfl, k, Nat.lt_succ_self k, by omega, by omega, by omega⟩) (by omega)
                            · refine g_aload_n C dX4_print_80 4 rfl ?_
                              refine g_getf C fX4_15 0 rfl rfl dX4_print_81 ?_
                              refine g_iload C dX4_print_84 0 rfl ?_
                              refine g_aald (y := ra k) C 1 rfl (by omega) (by omega) (by omega) (rN_at (by omega)) dX4_print_86 ?_
                              refine g_iconst C dX4_print_87 ?_
                              refine g_iald C _ (wQ_at (j := k) (by omega)) (by decide) (by decide) (by decide) (v := (fv k)) rfl dX4_print_88 ?_
                              refine g_goto 93 C dX4_print_89 (by decide) ?_
                              refine g_top (vlF fv n more k) (vlF_lt (by omega)) ?_
                              refine g_istore (L' := [(7, .int (zI (vlF fv n more k))), (6, .int (zI (k : Int))), (5, .int (zI (t : Int))), (4, .int (zI (m : Int))), (3, .ref q), (0, .ref h), (1, .int (zI its)), (2, .int (zI more))]) C dX4_print_93 (by decide) rfl ?_
                              refine g_iload C dX4_print_95 0 rfl ?_
                              refine g_if_le 127 C dX4_print_97 (by decide) (vlF_zr hS hmr) (fun c_97 => ?_) (fun c_97 => ?_)
                              · refine g_iinc (L' := [(6, .int (zI ((k : Int) + 1))), (7, .int (zI (vlF fv n more k))), (5, .int (zI (t : Int))), (4, .int (zI (m : Int))), (3, .ref q), (0, .ref h), (1, .int (zI its)), (2, .int (zI more))]) C dX4_print_127 1 rfl (by decide) rfl ?_
                                refine g_goto 60 C dX4_print_130 (by decide) ?_
                                refine g_loc (L' := [(6, .int (zI ((k : Int) + 1))), (5, .int (zI (t : Int))), (4, .int (zI (m : Int))), (3, .ref q), (0, .ref h), (1, .int (zI its)), (2, .int (zI more))]) [0, 2, 3, 4, 5, 6, 7] rfl ?_
                                exact ih_60 (k + 1) x (by omega) (hit_s hx (fun q9 => by have := q9.1; omega)) (by omega)
                              · refine g_iload C dX4_print_100 0 rfl ?_
                                refine g_iload C dX4_print_102 2 rfl ?_
                                refine g_icmp_gt 127 C dX4_print_104 (by decide) (vlF_zr hS hmr) (zr_i (by omega) (by omega)) (fun c_104 => ?_) (fun c_104 => ?_)
                                · refine g_iinc (L' := [(6, .int (zI ((k : Int) + 1))), (7, .int (zI (vlF fv n more k))), (5, .int (zI (t : Int))), (4, .int (zI (m : Int))), (3, .ref q), (0, .ref h), (1, .int (zI its)), (2, .int (zI more))]) C dX4_print_127 1 rfl (by decide) rfl ?_
                                  refine g_goto 60 C dX4_print_130 (by decide) ?_
                                  refine g_loc (L' := [(6, .int (zI ((k : Int) + 1))), (5, .int (zI (t : Int))), (4, .int (zI (m : Int))), (3, .ref q), (0, .ref h), (1, .int (zI its)), (2, .int (zI more))]) [0, 2, 3, 4, 5, 6, 7] rfl ?_
                                  exact ih_60 (k + 1) x (by omega) (hit_s hx (fun q9 => by have := q9.2.1; omega)) (by omega)
                                · have hPv := PLm_zr (more := more) (m := (m : Int) - 1) (q := ((t : Int) - vlF fv n more k).toNat) hv1 (by omega) (by omega)
                                  refine g_aload_n C dX4_print_107 4 rfl ?_
                                  refine g_iload C dX4_print_108 2 rfl ?_
                                  refine g_iload C dX4_print_110 0 rfl ?_
                                  refine g_isub C dX4_print_112 ?_
                                  refine g_iald C 2 rfl (by decide) (by omega) (by omega) (v := ((zU (prS fv n more (m : Int) t) t x) ((((t : Int) - (vlF fv n more k))).toNat))) rfl dX4_print_113 ?_
                                  refine g_top (PLm fv n more ((m : Int) - 1) ((t : Int) - vlF fv n more k).toNat) (by
                                    simp only [zU]
                                    rw [if_neg (by omega), prS_at (by omega) (by omega)]) ?_
                                  refine g_iload C dX4_print_114 3 rfl ?_
                                  refine g_iconst C dX4_print_116 ?_
                                  refine g_isub C dX4_print_117 ?_
                                  refine g_icmp_ne 127 C dX4_print_118 (by decide) (zr_i (by omega) (by omega)) (zr_i (by omega) (by omega)) (fun c_118 => ?_) (fun c_118 => ?_)
                                  · refine g_iinc (L' := [(6, .int (zI ((k : Int) + 1))), (7, .int (zI (vlF fv n more k))), (5, .int (zI (t : Int))), (4, .int (zI (m : Int))), (3, .ref q), (0, .ref h), (1, .int (zI its)), (2, .int (zI more))]) C dX4_print_127 1 rfl (by decide) rfl ?_
                                    refine g_goto 60 C dX4_print_130 (by decide) ?_
                                    refine g_loc (L' := [(6, .int (zI ((k : Int) + 1))), (5, .int (zI (t : Int))), (4, .int (zI (m : Int))), (3, .ref q), (0, .ref h), (1, .int (zI its)), (2, .int (zI more))]) [0, 2, 3, 4, 5, 6, 7] rfl ?_
                                    exact ih_60 (k + 1) x (by omega) (hit_s hx (fun q9 => c_118 q9.2.2)) (by omega)
                                  · refine g_aload_n C dX4_print_121 4 rfl ?_
                                    refine g_iload C dX4_print_122 2 rfl ?_
                                    refine g_iload C dX4_print_124 3 rfl ?_
                                    refine g_iast (w' := (((wZ h sa rm lt tk ov nw bs bS bM) ++ (wG sa cG n (rN ra n))) ++ ([(q, .inl (cI, 301, .inl (zA (zU (zU (prS fv n more (m : Int) t) t x) t (m : Int)))))])) ++ (wQ ra cI fv fs fd n)) C 2 rfl (by decide) (by omega) (by omega) rfl dX4_print_126 ?_
                                    refine g_iinc (L' := [(6, .int (zI ((k : Int) + 1))), (7, .int (zI (vlF fv n more k))), (5, .int (zI (t : Int))), (4, .int (zI (m : Int))), (3, .ref q), (0, .ref h), (1, .int (zI its)), (2, .int (zI more))]) C dX4_print_127 1 rfl (by decide) rfl ?_
                                    refine g_goto 60 C dX4_print_130 (by decide) ?_
                                    refine g_loc (L' := [(6, .int (zI ((k : Int) + 1))), (5, .int (zI (t : Int))), (4, .int (zI (m : Int))), (3, .ref q), (0, .ref h), (1, .int (zI its)), (2, .int (zI more))]) [0, 2, 3, 4, 5, 6, 7] rfl ?_
                                    refine g_ws (w' := (((wZ h sa rm lt tk ov nw bs bS bM) ++ (wG sa cG n (rN ra n))) ++ ([(q, .inl (cI, 301, .inl (zA (zU (prS fv n more (m : Int) t) t (m : Int)))))])) ++ (wQ ra cI fv fs fd n)) (by rw [zU_zU]) rfl ?_
                                    exact ih_60 (k + 1) (m : Int) (by omega) (Or.inl ⟨rfl, k, Nat.lt_succ_self k, by omega, by omega, by omega⟩) (by omega)
                      refine g_loc (L' := [(6, .int (zI 0)), (5, .int (zI (t : Int))), (4, .int (zI (m : Int))), (3, .ref q), (0, .ref h), (1, .int (zI its)), (2, .int (zI more))]) [0, 1, 2, 3, 4, 5, 6] rfl ?_
                      refine g_ws (w' := (((wZ h sa rm lt tk ov nw bs bS bM) ++ (wG sa cG n (rN ra n))) ++ ([(q, .inl (cI, 301, .inl (zA (zU (prS fv n more (m : Int) t) t (-1)))))])) ++ (wQ ra cI fv fs fd n)) (by rw [← prS_n hv1 (by omega) c_51c]) rfl ?_
                      exact loop_60 _ 0 (-1) (by omega) (Or.inr ⟨rfl, fun i h9 => absurd h9 (Nat.not_lt_zero _)⟩) (Nat.lt_succ_self _)
                    · have c_51b : 0 ≤ PLm fv n more ((m : Int) - 1) t := by omega
                      refine g_goto 133 C dX4_print_54 (by decide) ?_
                      refine g_iinc (L' := [(5, .int (zI ((t : Int) + (-1)))), (4, .int (zI (m : Int))), (3, .ref q), (0, .ref h), (1, .int (zI its)), (2, .int (zI more))]) C dX4_print_133 0 rfl (by decide) rfl ?_
                      refine g_goto 42 C dX4_print_136 (by decide) ?_
                      refine g_loc (L' := [(5, .int (zI ((t : Int) + (-1)))), (4, .int (zI (m : Int))), (3, .ref q), (0, .ref h), (1, .int (zI its)), (2, .int (zI more))]) [0, 1, 2, 3, 4, 5] rfl ?_
                      refine g_lw (w' := (((wZ h sa rm lt tk ov nw bs bS bM) ++ (wG sa cG n (rN ra n))) ++ ([(q, .inl (cI, 301, .inl (zA (prS fv n more (m : Int) t))))])) ++ (wQ ra cI fv fs fd n)) (L' := [(5, .int (zI (((t - 1) : Nat) : Int))), (4, .int (zI (m : Int))), (3, .ref q), (0, .ref h), (1, .int (zI its)), (2, .int (zI more))]) rfl (by rw [show (t : Int) + (-1) = (((t - 1) : Nat) : Int) by omega]) ?_
                      refine g_ws (w' := (((wZ h sa rm lt tk ov nw bs bS bM) ++ (wG sa cG n (rN ra n))) ++ ([(q, .inl (cI, 301, .inl (zA (prS fv n more (m : Int) (t - 1)))))])) ++ (wQ ra cI fv fs fd n)) (by rw [prS_k (by omega) (by omega) c_51b]) rfl ?_
                      exact ih_42 (t - 1) (by omega) (by omega)
              refine g_loc (L' := [(5, .int (zI 300)), (4, .int (zI (m : Int))), (3, .ref q), (0, .ref h), (1, .int (zI its)), (2, .int (zI more))]) [0, 1, 2, 3, 4, 5] rfl ?_
              exact loop_42 _ 300 (by omega) (Nat.lt_succ_self _)
        refine g_loc (L' := [(4, .int (zI 1)), (3, .ref q), (0, .ref h), (1, .int (zI its)), (2, .int (zI more))]) [0, 1, 2, 3, 4] rfl ?_
        refine g_ws (w' := (((wZ h sa rm lt tk ov nw bs bS bM) ++ (wG sa cG n (rN ra n))) ++ ([(q, .inl (cI, 301, .inl (zA (prS fv n more ((1 : Nat) : Int) 300))))])) ++ (wQ ra cI fv fs fd n)) (by rw [show (((1 : Nat) : Int)) = 1 from rfl, ← prS_0 hv1]) rfl ?_
        exact loop_31 _ 1 (by omega) (Nat.lt_succ_self _)
      · refine g_aload_n C dX4_print_17 1 rfl ?_
        refine g_iload C dX4_print_18 0 rfl ?_
        refine g_iconst C dX4_print_20 ?_
        refine g_iast (w' := (((wZ h sa rm lt tk ov nw bs bS bM) ++ (wG sa cG n (rN ra n))) ++ ([(q, .inl (cI, 301, .inl (zA (zU (fun q => if 1 ≤ q ∧ q < p then (-1) else 0) p (-1)))))])) ++ (wQ ra cI fv fs fd n)) C 2 rfl (by decide) (by omega) (by omega) rfl dX4_print_21 ?_
        refine g_iinc (L' := [(4, .int (zI ((p : Int) + 1))), (3, .ref q), (0, .ref h), (1, .int (zI its)), (2, .int (zI more))]) C dX4_print_22 0 rfl (by decide) rfl ?_
        refine g_goto 9 C dX4_print_25 (by decide) ?_
        refine g_loc (L' := [(4, .int (zI ((p : Int) + 1))), (3, .ref q), (0, .ref h), (1, .int (zI its)), (2, .int (zI more))]) [0, 1, 2, 3, 4] rfl ?_
        refine g_ws (w' := (((wZ h sa rm lt tk ov nw bs bS bM) ++ (wG sa cG n (rN ra n))) ++ ([(q, .inl (cI, 301, .inl (zA (fun q => if 1 ≤ q ∧ q < p + 1 then (-1) else 0))))])) ++ (wQ ra cI fv fs fd n)) (by rw [ini_s (by omega)]) rfl ?_
        exact ih_9 (p + 1) (by omega) (by omega)
  refine g_loc (L' := [(4, .int (zI 1)), (3, .ref q), (0, .ref h), (1, .int (zI its)), (2, .int (zI more))]) [0, 1, 2, 3, 4] rfl ?_
  refine g_ws (w' := (((wZ h sa rm lt tk ov nw bs bS bM) ++ (wG sa cG n (rN ra n))) ++ ([(q, .inl (cI, 301, .inl (zA (fun q => if 1 ≤ q ∧ q < 1 then (-1) else 0))))])) ++ (wQ ra cI fv fs fd n)) (by rw [← ini_0]) rfl ?_
  exact loop_9 _ 1 (by omega) (Nat.lt_succ_self _)
abbrev rmX4_reach : Room := { frames := 0, cells := 0, slots := 0, locals := 0 }
set_option maxHeartbeats 4000000 in
set_option maxRecDepth 100000 in
theorem met_X4_reach (l : Launch) (D : va_G) (cI cG cJ : ClassId) (ca : Nat) (f : Nat → Int) (hf : ∀ p, p ≤ 300 → zr (f p))  : gMet l yX4_reach cX4_reach 2 (some .int) rmX4_reach D cI cG cJ [.ref ca] ([(ca, .inl (cI, 301, .inl (zA f)))]) (gI (fun z w9 => z = (rch (fun q => 1 - f q) 0 300 0 : Int) ∧ w9 = [(ca, .inl (cI, 301, .inl (zA f)))])) := by
  refine gMet_I (by decide) rfl (Nat.le_of_ble_eq_true rfl) (fun E C ret => ?_)
  refine g_iconst C dX4_reach_0 ?_
  refine g_istore_n (L' := [(1, .int (zI 1)), (0, .ref ca)]) C dX4_reach_1 (by decide) rfl ?_
  have loop_2 : ∀ (fu : Nat) (p : Nat), (hp : 1 ≤ p ∧ p ≤ 301) → (hR : rch (fun q => 1 - f q) 0 (301 - p) (p - 1) = rch (fun q => 1 - f q) 0 300 0) → 301 - p < fu → gW E 0 0 ([(ca, .inl (cI, 301, .inl (zA f)))]) 2 [(1, .int (zI (p : Int))), (0, .ref ca)] [] := by
    intro fu
    induction fu with
    | zero => intro p hp hR h9; exact absurd h9 (Nat.not_lt_zero _)
    | succ fu ih_2 =>
      intro p hp hR hmu_2
      refine g_iload_n C dX4_reach_2 0 rfl ?_
      refine g_sipush C dX4_reach_3 (by decide) ?_
      refine g_icmp_ge 21 C dX4_reach_6 (by decide) (zr_i (by omega) (by omega)) (zr_i (by omega) (by omega)) (fun c_6 => ?_) (fun c_6 => ?_)
      · refine g_iload_n C dX4_reach_21 0 rfl ?_
        refine g_iconst C dX4_reach_22 ?_
        refine g_isub C dX4_reach_23 ?_
        exact ret _ _ _ _ _ _ (by decide) (by decide) dX4_reach_24 (⟨by
          have e9 : p = 301 := by omega
          subst e9
          rw [← hR]
          rfl, rfl⟩)
      · refine g_aload_n C dX4_reach_9 1 rfl ?_
        refine g_iload_n C dX4_reach_10 0 rfl ?_
        refine g_iald C 0 rfl (by decide) (by omega) (by omega) (v := (f p)) rfl dX4_reach_11 ?_
        refine g_if_le 21 C dX4_reach_12 (by decide) (hf p (by omega)) (fun c_12 => ?_) (fun c_12 => ?_)
        · refine g_iload_n C dX4_reach_21 0 rfl ?_
          refine g_iconst C dX4_reach_22 ?_
          refine g_isub C dX4_reach_23 ?_
          exact ret _ _ _ _ _ _ (by decide) (by decide) dX4_reach_24 (⟨by
            have h9 : rch (fun q => 1 - f q) 0 (301 - p) (p - 1) = p - 1 := rch_f (by rw [show p - 1 + 1 = p by omega]; omega)
            rw [← hR, h9]
            omega, rfl⟩)
        · refine g_iinc (L' := [(1, .int (zI ((p : Int) + 1))), (0, .ref ca)]) C dX4_reach_15 0 rfl (by decide) rfl ?_
          refine g_goto 2 C dX4_reach_18 (by decide) ?_
          refine g_loc (L' := [(1, .int (zI ((p : Int) + 1))), (0, .ref ca)]) [0, 1] rfl ?_
          exact ih_2 (p + 1) (by omega) (by
           rw [show 301 - p = 301 - (p + 1) + 1 by omega, rch_t (by rw [show p - 1 + 1 = p by omega]; omega)] at hR
           rw [show p + 1 - 1 = p - 1 + 1 by omega]
           exact hR) (by omega)
  refine g_loc (L' := [(1, .int (zI 1)), (0, .ref ca)]) [0, 1] rfl ?_
  exact loop_2 _ 1 (by omega) rfl (Nat.lt_succ_self _)
