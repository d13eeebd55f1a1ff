/-! in the end all is as by hand -/
abbrev rmX4_isSame : Room := { frames := 13, cells := 1000, slots := 8000, locals := 400 }
def dcB (a b : Nat) : Bool := decide (Op.cmpValue (FP.dcmp (mnD (a : Int) (b : Int)) (mnD (a : Int) (b : Int))) .l = 0)
set_option maxRecDepth 100000 in
theorem dc_all : (List.range 481).all (fun a => (List.range 8).all (fun b => dcB a (b + 1))) = true := by decide +kernel
theorem dc_ok {fv : Nat → Int} {cnt : Nat} (hc : cnt ≤ 8) (h0 : cnt ≠ 0) (h : ∀ j, j < cnt → 1 ≤ fv j ∧ fv j ≤ 60) : Op.cmpValue (FP.dcmp (mnD (vsum fv cnt) (cnt : Int)) (mnD (vsum fv cnt) (cnt : Int))) .l = zI 0 := by
  have hb := vsum_bd cnt h
  have h1 := List.all_eq_true.mp dc_all (vsum fv cnt).toNat (List.mem_range.mpr (by omega))
  have h2 := List.all_eq_true.mp h1 (cnt - 1) (List.mem_range.mpr (by omega))
  have h3 := of_decide_eq_true h2
  rw [show (((vsum fv cnt).toNat : Nat) : Int) = vsum fv cnt by omega, show cnt - 1 + 1 = cnt by omega] at h3
  exact h3
theorem dc_0 : Op.cmpValue (FP.dcmp FP.dconst0 FP.dconst0) .l = zI 0 := by decide +kernel
theorem wQ_inj {X : va_W} {ra : Nat → Nat} {cI : ClassId} {fv fs fd : Nat → Int} {n : Nat} (h : (X ++ wQ ra cI fv fs fd n).Pairwise (fun p q => p.1 ≠ q.1)) (i j : Nat) (hi : i < n) (hj : j < n) (e : ra i = ra j) : i = j := by
  have h1 := (List.pairwise_append.mp h).2.1
  have hl : (wQ ra cI fv fs fd n).length = n := wQ_len
  have key : ∀ a b, a < n → b < n → a < b → ra a ≠ ra b := fun a b ha hb hab => by
    have h2 := List.pairwise_iff_getElem.mp h1 a b (by omega) (by omega) hab
    have ea := wQ_0 (ra := ra) (cI := cI) (fv := fv) (fs := fs) (fd := fd) ha
    have eb := wQ_0 (ra := ra) (cI := cI) (fv := fv) (fs := fs) (fd := fd) hb
    rw [List.getElem?_eq_getElem (by omega)] at ea eb
    rw [Option.some.inj ea, Option.some.inj eb] at h2
    exact h2
  rcases Nat.lt_trichotomy i j with g | g | g
  · exact absurd e (key i j hi hj g)
  · exact g
  · exact absurd e.symm (key j i hj hi g)
/-- the first of the fewest, from t on -/
def scP (fs : Nat → Int) (cnt t : Nat) (sc : Int) : Prop := (sc = -1 ∧ t = cnt) ∨ ∃ i : Nat, sc = (i : Int) ∧ t ≤ i ∧ i < cnt ∧ (∀ j, t ≤ j → j < cnt → fs i ≤ fs j) ∧ ∀ j, t ≤ j → j < i → fs i < fs j
theorem scP_new {fs : Nat → Int} {cnt u : Nat} (hu : u < cnt) (h : ∀ j, u < j → j < cnt → fs u ≤ fs j) : scP fs cnt u (u : Int) := Or.inr ⟨u, rfl, Nat.le_refl _, hu, fun j h1 h2 => by
  by_cases e : j = u
  · subst e; exact Int.le_refl _
  · exact h j (by omega) h2, fun j h1 h2 => absurd h2 (by omega)⟩
theorem scP_keep {fs : Nat → Int} {cnt u i : Nat} (h1 : u + 1 ≤ i) (h2 : i < cnt) (h3 : ∀ j, u + 1 ≤ j → j < cnt → fs i ≤ fs j) (h4 : ∀ j, u + 1 ≤ j → j < i → fs i < fs j) (h5 : fs i < fs u) : scP fs cnt u (i : Int) := Or.inr ⟨i, rfl, by omega, h2, fun j g1 g2 => by
  by_cases e : j = u
  · subst e; omega
  · exact h3 j (by omega) g2, fun j g1 g2 => by
  by_cases e : j = u
  · subst e; exact h5
  · exact h4 j (by omega) g2⟩
theorem scP_end {fs : Nat → Int} {cnt : Nat} {sc : Int} (hb : ∀ j, j < cnt → fs j ≤ 99) (h : scP fs cnt 0 sc) : (scF fs cnt).1 = sc := by
  rcases h with ⟨h1, h2⟩ | ⟨i, h1, h2, h3, h4, h5⟩
  · subst h2
    rw [h1]
    rfl
  · obtain ⟨k, g1, g2, g3, g4, g5⟩ := sc_sp cnt (by omega) hb
    rw [g2, h1]
    rcases Nat.lt_trichotomy k i with e | e | e
    · have := h5 k (by omega) e
      have := g4 i h3
      omega
    · rw [e]
    · have := g5 i e
      have := h4 k (by omega) g1
      omega
theorem CH_k {cnt a k s : Nat} {fv fs : Nat → Int} {rm : Int} (hS : Sok cnt fv fs) (ha : a < cnt) (hk : ordF fv cnt (cnt - 1 - a) = k) : CH cnt fv fs rm s k = CHR cnt fv fs rm s a := by
  rw [← hk, CH_ord hS.2.2 (by omega), show cnt - 1 - (cnt - 1 - a) = a by omega]
  rfl
theorem f_gs {cnt : Nat} {fv fs : Nat → Int} {rm : Int} (hI : XI cnt fv fs rm) : 0 ≤ GS cnt fv fs rm ∧ GS cnt fv fs rm ≤ 720 := by
  obtain ⟨hc, hS, h99, hr1, hr2⟩ := hI
  have hord := ordF_ok fv cnt hS.2.2
  rw [GS_gk]
  obtain ⟨h1, h2⟩ := gk_at (vs := vsF fv cnt) (us := usF fv fs cnt rm) cnt (fun j hj => by have a := hS.vs hj; have b := hS.us ⟨by omega, hr2⟩ hj; omega) rm (by omega)
  have h3 := tb_far (vs := vsF fv cnt) (us := usF fv fs cnt rm) (V := 60) cnt (fun j hj => by have a := hS.vs hj; have b := hS.us ⟨by omega, hr2⟩ hj; omega) _ rm h2 (by omega) (by omega)
  omega
set_option maxHeartbeats 8000000 in
set_option maxRecDepth 100000 in
theorem met_X4_isSame (l : Launch) (hl9 : l.stackTraces = false) (D : va_G) (cI cG cJ : ClassId) (hm h2 : Nat) (ad a2 bd pd : Nat → Nat) (T : Int) (hT1 : T ≤ 100) (p : Nat) (hp : 1 ≤ p ∧ p ≤ 300) (w : va_W) (hJ : JS hm h2 ad a2 bd pd cI cG T w) : gMet l yX4_isSame cX4_isSame 14 (some .boolean) rmX4_isSame D cI cG cJ [.ref h2, .ref hm, .int (zI (p : Int))] w (gI (fun z w9 => z = 1)) := by
  obtain ⟨cnt, fv, fs, fd, rm, lt, tk, ov, w1, w2, rfl, hX, ⟨sa, ra, nw, bs, bS, bM, rfl⟩, hI, hY⟩ := hJ
  obtain ⟨hc, hS, h99, hr1, hr2⟩ := id hI
  have hr : 0 ≤ rm ∧ rm ≤ 12 := ⟨by omega, hr2⟩
  refine gMet_Z (by decide) rfl (Nat.le_of_ble_eq_true rfl) (fun E C ret => ?_)
  refine g_ws (w' := (((w1) ++ (wZ h2 sa rm lt tk ov nw bs bS bM)) ++ (wG sa cG cnt (rN ra cnt))) ++ (wQ ra cI fv fs fd cnt)) (by simp only [List.append_assoc]) rfl ?_
  refine g_mods [w1, wZ h2 sa rm lt tk ov nw bs bS bM, wG sa cG cnt (rN ra cnt), wQ ra cI fv fs fd cnt] [wZ h2 sa rm lt tk ov nw bs bS bM, wG sa cG cnt (rN ra cnt), w1, wQ ra cI fv fs fd cnt] [1, 2, 0, 3] (by decide) rfl ?_
  refine g_ws (w' := (((wZ h2 sa rm lt tk ov nw bs bS bM) ++ (wG sa cG cnt (rN ra cnt))) ++ (w1)) ++ (wQ ra cI fv fs fd cnt)) rfl rfl ?_
  refine g_aload_n C dX4_isSame_0 0 rfl ?_
  refine g_getf C fX4_15 0 rfl rfl dX4_isSame_1 ?_
  refine g_alenG C 1 rfl dX4_isSame_4 ?_
  refine g_istore_n (L' := [(3, .int (zI ((cnt : Nat) : Int))), (0, .ref h2), (1, .ref hm), (2, .int (zI (p : Int)))]) C dX4_isSame_5 (by decide) rfl ?_
  refine g_iconst C dX4_isSame_6 ?_
  refine g_istore (L' := [(4, .int (zI (-1))), (3, .int (zI ((cnt : Nat) : Int))), (0, .ref h2), (1, .ref hm), (2, .int (zI (p : Int)))]) C dX4_isSame_7 (by decide) rfl ?_
  refine g_iconst C dX4_isSame_9 ?_
  refine g_istore (L' := [(5, .int (zI 0)), (4, .int (zI (-1))), (3, .int (zI ((cnt : Nat) : Int))), (0, .ref h2), (1, .ref hm), (2, .int (zI (p : Int)))]) C dX4_isSame_10 (by decide) rfl ?_
  refine g_iload_n C dX4_isSame_12 2 rfl ?_
  refine g_iconst C dX4_isSame_13 ?_
  refine g_isub C dX4_isSame_14 ?_
  refine g_istore (L' := [(6, .int (zI (((cnt : Nat) : Int) - 1))), (5, .int (zI 0)), (4, .int (zI (-1))), (3, .int (zI ((cnt : Nat) : Int))), (0, .ref h2), (1, .ref hm), (2, .int (zI (p : Int)))]) C dX4_isSame_15 (by decide) rfl ?_
  have loop_17 : ∀ (fu : Nat) (t : Nat) (sc : Int) (v5 : Int) (w1 : va_W), (ht : t ≤ cnt) → (hsc : scP fs cnt t sc) → (hv5 : v5 = vsum fv cnt - vsum fv t) → (hX : XW hm ad a2 bd pd cI cG cnt fv fs fd rm lt tk ov w1) → t < fu → gW E (30 - 3 * t) (200 - 18 * t) ((((wZ h2 sa rm lt tk ov nw bs bS bM) ++ (wG sa cG cnt (rN ra cnt))) ++ (w1)) ++ (wQ ra cI fv fs fd cnt)) 17 [(6, .int (zI ((t : Int) - 1))), (5, .int (zI v5)), (4, .int (zI sc)), (3, .int (zI (cnt : Int))), (0, .ref h2), (1, .ref hm), (2, .int (zI (p : Int)))] [] := by
    intro fu
    induction fu with
    | zero => intro t sc v5 w1 ht hsc hv5 hX h9; exact absurd h9 (Nat.not_lt_zero _)
    | succ fu ih_17 =>
      intro t sc v5 w1 ht hsc hv5 hX hmu_17
      refine g_iload C dX4_isSame_17 0 rfl ?_
      refine g_if_lt 112 C dX4_isSame_19 (by decide) (zr_i (by omega) (by omega)) (fun c_19 => ?_) (fun c_19 => ?_)
      · have e9 : t = 0 := by omega
        subst e9
        have hscz := scP_end h99 hsc
        refine g_aload_n C dX4_isSame_112 4 rfl ?_
        refine g_mods [wZ h2 sa rm lt tk ov nw bs bS bM, wG sa cG cnt (rN ra cnt), w1, wQ ra cI fv fs fd cnt] [w1, wZ h2 sa rm lt tk ov nw bs bS bM, wG sa cG cnt (rN ra cnt), wQ ra cI fv fs fd cnt] [2, 0, 1, 3] (by decide) rfl ?_
        refine g_ws (w' := (((w1) ++ (wZ h2 sa rm lt tk ov nw bs bS bM)) ++ (wG sa cG cnt (rN ra cnt))) ++ (wQ ra cI fv fs fd cnt)) rfl rfl ?_
        refine g_eqw (w' := (w1) ++ (((wZ h2 sa rm lt tk ov nw bs bS bM) ++ (wG sa cG cnt (rN ra cnt))) ++ (wQ ra cI fv fs fd cnt))) (by simp only [List.append_assoc]) ?_
        refine g_callV (wr := w1) (st := []) _ _ C cX4_55 (met_X4_sorted l D cI cG cJ h2 sa ra cnt hc fv fs fd hS rm lt tk ov nw bs bS bM) gSp_r (ci := 4) (q0 := ((w1) : va_W).length) (at_r rfl) rfl (by decide) ⟨by dsimp only [rmX4_sorted, rmX4_isSame]; omega, by dsimp only [rmX4_sorted, rmX4_isSame]; omega⟩ rfl rfl (Nat.le_of_ble_eq_true rfl) dX4_isSame_113 ?_
        rintro v9 w9 ⟨z8, rfl, q, rfl, rfl⟩
        refine g_ws (w' := ((((w1) ++ (wZ h2 sa rm lt tk ov nw bs bS bM)) ++ (wG sa cG cnt (rN ra cnt))) ++ (wG q cG cnt (rN (srt ra fv cnt) cnt))) ++ (wQ ra cI fv fs fd cnt)) (st' := [.ref q]) (by simp only [List.append_assoc]) rfl ?_
        refine g_mods [w1, wZ h2 sa rm lt tk ov nw bs bS bM, wG sa cG cnt (rN ra cnt), wG q cG cnt (rN (srt ra fv cnt) cnt), wQ ra cI fv fs fd cnt] [wZ h2 sa rm lt tk ov nw bs bS bM, wG sa cG cnt (rN ra cnt), wG q cG cnt (rN (srt ra fv cnt) cnt), w1, wQ ra cI fv fs fd cnt] [1, 2, 3, 0, 4] (by decide) rfl ?_
        refine g_ws (w' := ((((wZ h2 sa rm lt tk ov nw bs bS bM) ++ (wG sa cG cnt (rN ra cnt))) ++ (wG q cG cnt (rN (srt ra fv cnt) cnt))) ++ (w1)) ++ (wQ ra cI fv fs fd cnt)) rfl rfl ?_
        refine g_astore (L' := [(6, .ref q), (5, .int (zI v5)), (4, .int (zI sc)), (3, .int (zI (cnt : Int))), (0, .ref h2), (1, .ref hm), (2, .int (zI (p : Int)))]) C dX4_isSame_116 (by decide) rfl ?_
        refine g_aload_n C dX4_isSame_118 4 rfl ?_
        refine g_getf C fX4_7 0 rfl rfl dX4_isSame_119 ?_
        refine g_istore (L' := [(7, .int (zI rm)), (6, .ref q), (5, .int (zI v5)), (4, .int (zI sc)), (3, .int (zI (cnt : Int))), (0, .ref h2), (1, .ref hm), (2, .int (zI (p : Int)))]) C dX4_isSame_122 (by decide) rfl ?_
        refine g_iconst C dX4_isSame_124 ?_
        refine g_istore (L' := [(8, .int (zI 0)), (7, .int (zI rm)), (6, .ref q), (5, .int (zI v5)), (4, .int (zI sc)), (3, .int (zI (cnt : Int))), (0, .ref h2), (1, .ref hm), (2, .int (zI (p : Int)))]) C dX4_isSame_125 (by decide) rfl ?_
        refine g_aload C dX4_isSame_127 2 rfl ?_
        refine g_astore (L' := [(9, .ref q), (8, .int (zI 0)), (7, .int (zI rm)), (6, .ref q), (5, .int (zI v5)), (4, .int (zI sc)), (3, .int (zI (cnt : Int))), (0, .ref h2), (1, .ref hm), (2, .int (zI (p : Int)))]) C dX4_isSame_129 (by decide) rfl ?_
        refine g_aload C dX4_isSame_131 0 rfl ?_
        refine g_alenG C 2 rfl dX4_isSame_133 ?_
        refine g_istore (L' := [(10, .int (zI ((cnt : Nat) : Int))), (9, .ref q), (8, .int (zI 0)), (7, .int (zI rm)), (6, .ref q), (5, .int (zI v5)), (4, .int (zI sc)), (3, .int (zI (cnt : Int))), (0, .ref h2), (1, .ref hm), (2, .int (zI (p : Int)))]) C dX4_isSame_134 (by decide) rfl ?_
        refine g_iconst C dX4_isSame_136 ?_
        refine g_istore (L' := [(11, .int (zI 0)), (10, .int (zI ((cnt : Nat) : Int))), (9, .ref q), (8, .int (zI 0)), (7, .int (zI rm)), (6, .ref q), (5, .int (zI v5)), (4, .int (zI sc)), (3, .int (zI (cnt : Int))), (0, .ref h2), (1, .ref hm), (2, .int (zI (p : Int)))]) C dX4_isSame_137 (by decide) rfl ?_
        have loop_139 : ∀ (fu : Nat) (i : Nat), (hi : i ≤ cnt) → cnt - i < fu → gW E 31 208 (((((wZ h2 sa rm lt tk ov nw bs bS bM) ++ (wG sa cG cnt (rN ra cnt))) ++ (wG q cG cnt (rN (srt ra fv cnt) cnt))) ++ (w1)) ++ (wQ ra cI fv fs fd cnt)) 139 [(11, .int (zI (i : Int))), (10, .int (zI (cnt : Int))), (9, .ref q), (8, .int (zI (((gsm (RV cnt fv) (RU cnt fv fs rm) rm i)).2))), (7, .int (zI (((gsm (RV cnt fv) (RU cnt fv fs rm) rm i)).1))), (6, .ref q), (5, .int (zI v5)), (4, .int (zI sc)), (3, .int (zI (cnt : Int))), (0, .ref h2), (1, .ref hm), (2, .int (zI (p : Int)))] [] := by
          intro fu
          induction fu with
          | zero => intro i hi h9; exact absurd h9 (Nat.not_lt_zero _)
          | succ fu ih_139 =>
            intro i hi hmu_139
            refine g_iload C dX4_isSame_139 0 rfl ?_
            refine g_iload C dX4_isSame_141 1 rfl ?_
            refine g_icmp_ge 198 C dX4_isSame_143 (by decide) (zr_i (by omega) (by omega)) (zr_i (by omega) (by omega)) (fun c_143 => ?_) (fun c_143 => ?_)
            · have e9 : cnt = i := by omega
              subst e9
              refine g_aload_n C dX4_isSame_198 9 rfl ?_
              refine g_iload_n C dX4_isSame_199 11 rfl ?_
              refine g_mods [wZ h2 sa rm lt tk ov nw bs bS bM, wG sa cG cnt (rN ra cnt), wG q cG cnt (rN (srt ra fv cnt) cnt), w1, wQ ra cI fv fs fd cnt] [wG q cG cnt (rN (srt ra fv cnt) cnt), w1, wZ h2 sa rm lt tk ov nw bs bS bM, wG sa cG cnt (rN ra cnt), wQ ra cI fv fs fd cnt] [2, 3, 0, 1, 4] (by decide) rfl ?_
              refine g_ws (w' := ((((wG q cG cnt (rN (srt ra fv cnt) cnt)) ++ (w1)) ++ (wZ h2 sa rm lt tk ov nw bs bS bM)) ++ (wG sa cG cnt (rN ra cnt))) ++ (wQ ra cI fv fs fd cnt)) rfl rfl ?_
              refine g_eqw (w' := ((wG q cG cnt (rN (srt ra fv cnt) cnt)) ++ (w1)) ++ (((wZ h2 sa rm lt tk ov nw bs bS bM) ++ (wG sa cG cnt (rN ra cnt))) ++ (wQ ra cI fv fs fd cnt))) (by simp only [List.append_assoc]) ?_
              refine g_callV (wr := (wG q cG cnt (rN (srt ra fv cnt) cnt)) ++ (w1)) (st := []) _ _ C cX4_59 (met_X4_gets l D cI cG cJ h2 sa ra cnt hc fv fs fd hS rm lt tk ov hr nw bs bS bM p hp) gSp_r (ci := 4) (q0 := (((wG q cG cnt (rN (srt ra fv cnt) cnt)) ++ (w1)) : va_W).length) (at_r rfl) rfl (by decide) ⟨by dsimp only [rmX4_gets, rmX4_isSame]; omega, by dsimp only [rmX4_gets, rmX4_isSame]; omega⟩ rfl rfl (Nat.le_of_ble_eq_true rfl) dX4_isSame_200 ?_
              rintro v9 w9 ⟨z8, rfl, hz8⟩
              refine g_ws (w' := ((wG q cG cnt (rN (srt ra fv cnt) cnt)) ++ (w1)) ++ (w9)) (st' := [z8]) (by simp only [List.append_assoc]) rfl ?_
              rcases hz8 with ⟨g1, rfl, nw1, bs1, x1, y1, rfl⟩ | ⟨s, ba, g, nw1, bs1, x1, y1, g1, g2, g3, g4, rfl, g5, rfl⟩
              · refine g_ws (w' := ((((wG q cG cnt (rN (srt ra fv cnt) cnt)) ++ (w1)) ++ (wZ h2 sa rm lt tk ov nw1 bs1 x1 y1)) ++ (wG sa cG cnt (rN ra cnt))) ++ (wQ ra cI fv fs fd cnt)) (by simp only [List.append_assoc]) rfl ?_
                refine g_mods [wG q cG cnt (rN (srt ra fv cnt) cnt), w1, wZ h2 sa rm lt tk ov nw1 bs1 x1 y1, wG sa cG cnt (rN ra cnt), wQ ra cI fv fs fd cnt] [wZ h2 sa rm lt tk ov nw1 bs1 x1 y1, wG sa cG cnt (rN ra cnt), wG q cG cnt (rN (srt ra fv cnt) cnt), w1, wQ ra cI fv fs fd cnt] [2, 3, 0, 1, 4] (by decide) rfl ?_
                refine g_ws (w' := ((((wZ h2 sa rm lt tk ov nw1 bs1 x1 y1) ++ (wG sa cG cnt (rN ra cnt))) ++ (wG q cG cnt (rN (srt ra fv cnt) cnt))) ++ (w1)) ++ (wQ ra cI fv fs fd cnt)) rfl rfl ?_
                refine g_astoreN (L' := [(9, .null), (11, .int (zI (cnt : Int))), (10, .int (zI (cnt : Int))), (8, .int (zI (((gsm (RV cnt fv) (RU cnt fv fs rm) rm cnt)).2))), (7, .int (zI (((gsm (RV cnt fv) (RU cnt fv fs rm) rm cnt)).1))), (6, .ref q), (5, .int (zI v5)), (4, .int (zI sc)), (3, .int (zI (cnt : Int))), (0, .ref h2), (1, .ref hm), (2, .int (zI (p : Int)))]) C dX4_isSame_203 (by decide) rfl ?_
                refine g_aload_n C dX4_isSame_205 10 rfl ?_
                refine g_iload_n C dX4_isSame_206 11 rfl ?_
                refine g_mods [wZ h2 sa rm lt tk ov nw1 bs1 x1 y1, wG sa cG cnt (rN ra cnt), wG q cG cnt (rN (srt ra fv cnt) cnt), w1, wQ ra cI fv fs fd cnt] [wZ h2 sa rm lt tk ov nw1 bs1 x1 y1, wG sa cG cnt (rN ra cnt), wG q cG cnt (rN (srt ra fv cnt) cnt), wQ ra cI fv fs fd cnt, w1] [0, 1, 2, 4, 3] (by decide) rfl ?_
                refine g_ws (w' := ((((wZ h2 sa rm lt tk ov nw1 bs1 x1 y1) ++ (wG sa cG cnt (rN ra cnt))) ++ (wG q cG cnt (rN (srt ra fv cnt) cnt))) ++ (wQ ra cI fv fs fd cnt)) ++ (w1)) rfl rfl ?_
                obtain ⟨c20, gv0, gs0, gd0, tc0, tr0, ft0, tv0, tu0, fc0, M0, fa0, fb0, N0, rfl⟩ := hX
                refine g_callVX (wr := (((wZ h2 sa rm lt tk ov nw1 bs1 x1 y1) ++ (wG sa cG cnt (rN ra cnt))) ++ (wG q cG cnt (rN (srt ra fv cnt) cnt))) ++ (wQ ra cI fv fs fd cnt)) (st := []) _ _ C cX4_89 (met_X3_overpay l hl9 D cI cG cJ hm ad a2 bd pd cnt fv fs fd rm lt tk ov hI c20 gv0 gs0 gd0 tc0 tr0 ft0 tv0 tu0 fc0 M0 fa0 fb0 N0 (p : Int) (zr_i (by omega) (by omega))) gSp_r (ci := 3) (q0 := (((((wZ h2 sa rm lt tk ov nw1 bs1 x1 y1) ++ (wG sa cG cnt (rN ra cnt))) ++ (wG q cG cnt (rN (srt ra fv cnt) cnt))) ++ (wQ ra cI fv fs fd cnt)) : va_W).length) (at_r rfl) rfl (by decide) ⟨by dsimp only [rmX3_overpay, rmX4_isSame]; omega, by dsimp only [rmX3_overpay, rmX4_isSame]; omega⟩ rfl rfl (Nat.le_of_ble_eq_true rfl) dX4_isSame_207 (fun nm9 w9 h9 => ?_) ?_
                · exfalso
                  rcases h9 with ⟨_, h8, _⟩
                  exact h8 ⟨by omega, by omega⟩
                rintro v9 w9 ⟨z9, rfl, hz9, hX⟩
                have ho : z9 = -1 := hz9.2.trans (if_pos g1)
                refine g_ws (w' := ((((wZ h2 sa rm lt tk ov nw1 bs1 x1 y1) ++ (wG sa cG cnt (rN ra cnt))) ++ (wG q cG cnt (rN (srt ra fv cnt) cnt))) ++ (wQ ra cI fv fs fd cnt)) ++ (w9)) (st' := [.int (zI z9)]) (by simp only [List.append_assoc]) rfl ?_
                refine g_mods [wZ h2 sa rm lt tk ov nw1 bs1 x1 y1, wG sa cG cnt (rN ra cnt), wG q cG cnt (rN (srt ra fv cnt) cnt), wQ ra cI fv fs fd cnt, w9] [wZ h2 sa rm lt tk ov nw1 bs1 x1 y1, wG sa cG cnt (rN ra cnt), wG q cG cnt (rN (srt ra fv cnt) cnt), w9, wQ ra cI fv fs fd cnt] [0, 1, 2, 4, 3] (by decide) rfl ?_
                refine g_ws (w' := ((((wZ h2 sa rm lt tk ov nw1 bs1 x1 y1) ++ (wG sa cG cnt (rN ra cnt))) ++ (wG q cG cnt (rN (srt ra fv cnt) cnt))) ++ (w9)) ++ (wQ ra cI fv fs fd cnt)) rfl rfl ?_
                refine g_aloadN C dX4_isSame_210 0 rfl ?_
                refine g_ifnonnullN C dX4_isSame_212 ?_
                refine g_iconst C dX4_isSame_215 ?_
                refine g_goto 227 C dX4_isSame_216 (by decide) ?_
                refine g_icmp_ne 280 C dX4_isSame_227 (by decide) (zr_i (by omega) (by omega)) (zr_i (by omega) (by omega)) (fun c_227 => ?_) (fun c_227 => ?_)
                · exfalso; omega
                · refine g_aload_n C dX4_isSame_230 10 rfl ?_
                  refine g_iload_n C dX4_isSame_231 11 rfl ?_
                  refine g_mods [wZ h2 sa rm lt tk ov nw1 bs1 x1 y1, wG sa cG cnt (rN ra cnt), wG q cG cnt (rN (srt ra fv cnt) cnt), w9, wQ ra cI fv fs fd cnt] [wZ h2 sa rm lt tk ov nw1 bs1 x1 y1, wG sa cG cnt (rN ra cnt), wG q cG cnt (rN (srt ra fv cnt) cnt), wQ ra cI fv fs fd cnt, w9] [0, 1, 2, 4, 3] (by decide) rfl ?_
                  refine g_ws (w' := ((((wZ h2 sa rm lt tk ov nw1 bs1 x1 y1) ++ (wG sa cG cnt (rN ra cnt))) ++ (wG q cG cnt (rN (srt ra fv cnt) cnt))) ++ (wQ ra cI fv fs fd cnt)) ++ (w9)) rfl rfl ?_
                  obtain ⟨c20, gv0, gs0, gd0, tc0, tr0, ft0, tv0, tu0, fc0, M0, fa0, fb0, N0, rfl⟩ := hX
                  refine g_callVX (wr := (((wZ h2 sa rm lt tk ov nw1 bs1 x1 y1) ++ (wG sa cG cnt (rN ra cnt))) ++ (wG q cG cnt (rN (srt ra fv cnt) cnt))) ++ (wQ ra cI fv fs fd cnt)) (st := []) _ _ C cX4_96 (met_X3_stampsFor l hl9 D cI cG cJ hm ad a2 bd pd cnt fv fs fd rm lt tk ov hI c20 gv0 gs0 gd0 tc0 tr0 ft0 tv0 tu0 fc0 M0 fa0 fb0 N0 (p : Int) (zr_i (by omega) (by omega))) gSp_r (ci := 3) (q0 := (((((wZ h2 sa rm lt tk ov nw1 bs1 x1 y1) ++ (wG sa cG cnt (rN ra cnt))) ++ (wG q cG cnt (rN (srt ra fv cnt) cnt))) ++ (wQ ra cI fv fs fd cnt)) : va_W).length) (at_r rfl) rfl (by decide) ⟨by dsimp only [rmX3_stampsFor, rmX4_isSame]; omega, by dsimp only [rmX3_stampsFor, rmX4_isSame]; omega⟩ rfl rfl (Nat.le_of_ble_eq_true rfl) dX4_isSame_232 (fun nm9 w9 h9 => ?_) ?_
                  · exfalso
                    rcases h9 with ⟨_, h8, _⟩
                    exact h8 ⟨by omega, by omega⟩
                  rintro v9 w9 ⟨z9, rfl, hz9, hX⟩
                  have hs9 : z9 = 0 := hz9.2.trans (if_pos g1)
                  refine g_ws (w' := ((((wZ h2 sa rm lt tk ov nw1 bs1 x1 y1) ++ (wG sa cG cnt (rN ra cnt))) ++ (wG q cG cnt (rN (srt ra fv cnt) cnt))) ++ (wQ ra cI fv fs fd cnt)) ++ (w9)) (st' := [.int (zI z9)]) (by simp only [List.append_assoc]) rfl ?_
                  refine g_mods [wZ h2 sa rm lt tk ov nw1 bs1 x1 y1, wG sa cG cnt (rN ra cnt), wG q cG cnt (rN (srt ra fv cnt) cnt), wQ ra cI fv fs fd cnt, w9] [wZ h2 sa rm lt tk ov nw1 bs1 x1 y1, wG sa cG cnt (rN ra cnt), wG q cG cnt (rN (srt ra fv cnt) cnt), w9, wQ ra cI fv fs fd cnt] [0, 1, 2, 4, 3] (by decide) rfl ?_
                  refine g_ws (w' := ((((wZ h2 sa rm lt tk ov nw1 bs1 x1 y1) ++ (wG sa cG cnt (rN ra cnt))) ++ (wG q cG cnt (rN (srt ra fv cnt) cnt))) ++ (w9)) ++ (wQ ra cI fv fs fd cnt)) rfl rfl ?_
                  refine g_aloadN C dX4_isSame_235 0 rfl ?_
                  refine g_ifnonnullN C dX4_isSame_237 ?_
                  refine g_iconst C dX4_isSame_240 ?_
                  refine g_goto 249 C dX4_isSame_241 (by decide) ?_
                  refine g_icmp_ne 280 C dX4_isSame_249 (by decide) (zr_i (by omega) (by omega)) (zr_i (by omega) (by omega)) (fun c_249 => ?_) (fun c_249 => ?_)
                  · exfalso; omega
                  · refine g_aload_n C dX4_isSame_252 10 rfl ?_
                    refine g_iload_n C dX4_isSame_253 11 rfl ?_
                    refine g_mods [wZ h2 sa rm lt tk ov nw1 bs1 x1 y1, wG sa cG cnt (rN ra cnt), wG q cG cnt (rN (srt ra fv cnt) cnt), w9, wQ ra cI fv fs fd cnt] [wZ h2 sa rm lt tk ov nw1 bs1 x1 y1, wG sa cG cnt (rN ra cnt), wG q cG cnt (rN (srt ra fv cnt) cnt), wQ ra cI fv fs fd cnt, w9] [0, 1, 2, 4, 3] (by decide) rfl ?_
                    refine g_ws (w' := ((((wZ h2 sa rm lt tk ov nw1 bs1 x1 y1) ++ (wG sa cG cnt (rN ra cnt))) ++ (wG q cG cnt (rN (srt ra fv cnt) cnt))) ++ (wQ ra cI fv fs fd cnt)) ++ (w9)) rfl rfl ?_
                    obtain ⟨c20, gv0, gs0, gd0, tc0, tr0, ft0, tv0, tu0, fc0, M0, fa0, fb0, N0, rfl⟩ := hX
                    refine g_callVX (wr := (((wZ h2 sa rm lt tk ov nw1 bs1 x1 y1) ++ (wG sa cG cnt (rN ra cnt))) ++ (wG q cG cnt (rN (srt ra fv cnt) cnt))) ++ (wQ ra cI fv fs fd cnt)) (st := []) _ _ C cX4_102 (met_X3_canPay l hl9 D cI cG cJ hm ad a2 bd pd cnt fv fs fd rm lt tk ov hI c20 gv0 gs0 gd0 tc0 tr0 ft0 tv0 tu0 fc0 M0 fa0 fb0 N0 (p : Int) (zr_i (by omega) (by omega))) gSp_r (ci := 3) (q0 := (((((wZ h2 sa rm lt tk ov nw1 bs1 x1 y1) ++ (wG sa cG cnt (rN ra cnt))) ++ (wG q cG cnt (rN (srt ra fv cnt) cnt))) ++ (wQ ra cI fv fs fd cnt)) : va_W).length) (at_r rfl) rfl (by decide) ⟨by dsimp only [rmX3_canPay, rmX4_isSame]; omega, by dsimp only [rmX3_canPay, rmX4_isSame]; omega⟩ rfl rfl (Nat.le_of_ble_eq_true rfl) dX4_isSame_254 (fun nm9 w9 h9 => ?_) ?_
                    · exfalso
                      rcases h9 with ⟨_, h8, _⟩
                      exact h8 ⟨by omega, by omega⟩
                    rintro v9 w9 ⟨z9, rfl, hz9, hX⟩
                    have hcan := f_can (cnt := cnt) (fv := fv) (fs := fs) (rm := rm) (p := p) (by omega)
                    have hcz : (TB cnt fv fs rm p ≤ rm ∧ z9 = 1) ∨ (¬ TB cnt fv fs rm p ≤ rm ∧ z9 = 0) := by
                      by_cases h9 : TB cnt fv fs rm p ≤ rm
                      · exact Or.inl ⟨h9, hz9.2.trans (if_pos h9)⟩
                      · exact Or.inr ⟨h9, hz9.2.trans (if_neg h9)⟩
                    refine g_ws (w' := ((((wZ h2 sa rm lt tk ov nw1 bs1 x1 y1) ++ (wG sa cG cnt (rN ra cnt))) ++ (wG q cG cnt (rN (srt ra fv cnt) cnt))) ++ (wQ ra cI fv fs fd cnt)) ++ (w9)) (st' := [.int (zI z9)]) (by simp only [List.append_assoc]) rfl ?_
                    refine g_mods [wZ h2 sa rm lt tk ov nw1 bs1 x1 y1, wG sa cG cnt (rN ra cnt), wG q cG cnt (rN (srt ra fv cnt) cnt), wQ ra cI fv fs fd cnt, w9] [wZ h2 sa rm lt tk ov nw1 bs1 x1 y1, wG sa cG cnt (rN ra cnt), wG q cG cnt (rN (srt ra fv cnt) cnt), w9, wQ ra cI fv fs fd cnt] [0, 1, 2, 4, 3] (by decide) rfl ?_
                    refine g_ws (w' := ((((wZ h2 sa rm lt tk ov nw1 bs1 x1 y1) ++ (wG sa cG cnt (rN ra cnt))) ++ (wG q cG cnt (rN (srt ra fv cnt) cnt))) ++ (w9)) ++ (wQ ra cI fv fs fd cnt)) rfl rfl ?_
                    refine g_aloadN C dX4_isSame_257 0 rfl ?_
                    refine g_ifnullN 276 C dX4_isSame_259 (by decide) ?_
                    refine g_iconst C dX4_isSame_276 ?_
                    refine g_icmp_eq 282 C dX4_isSame_277 (by decide) (zr_i (by omega) (by omega)) (zr_i (by omega) (by omega)) (fun c_277 => ?_) (fun c_277 => ?_)
                    · refine g_apart (fun hap => ?_)
                      have hinj := wQ_inj hap
                      refine g_iconst C dX4_isSame_282 ?_
                      refine g_istore (L' := [(10, .int (zI 0)), (9, .null), (11, .int (zI (cnt : Int))), (8, .int (zI (((gsm (RV cnt fv) (RU cnt fv fs rm) rm cnt)).2))), (7, .int (zI (((gsm (RV cnt fv) (RU cnt fv fs rm) rm cnt)).1))), (6, .ref q), (5, .int (zI v5)), (4, .int (zI sc)), (3, .int (zI (cnt : Int))), (0, .ref h2), (1, .ref hm), (2, .int (zI (p : Int)))]) C dX4_isSame_283 (by decide) rfl ?_
                      have loop_285 : ∀ (fu : Nat) (k : Nat) (w1 : va_W), (hk : k ≤ cnt) → (hX : XW hm ad a2 bd pd cI cG cnt fv fs fd rm lt tk ov w1) → cnt - k < fu → gW E (840 + 2 * k) (6800 + 12 * k) (((((wZ h2 sa rm lt tk ov nw1 bs1 x1 y1) ++ (wG sa cG cnt (rN ra cnt))) ++ (wG q cG cnt (rN (srt ra fv cnt) cnt))) ++ (w1)) ++ (wQ ra cI fv fs fd cnt)) 285 [(10, .int (zI (k : Int))), (9, .null), (8, .int (zI (((gsm (RV cnt fv) (RU cnt fv fs rm) rm cnt)).2))), (6, .ref q), (5, .int (zI v5)), (4, .int (zI sc)), (3, .int (zI (cnt : Int))), (0, .ref h2), (1, .ref hm), (2, .int (zI (p : Int)))] [] := by
                        intro fu
                        induction fu with
                        | zero => intro k w1 hk hX h9; exact absurd h9 (Nat.not_lt_zero _)
                        | succ fu ih_285 =>
                          intro k w1 hk hX hmu_285
                          refine g_iload C dX4_isSame_285 0 rfl ?_
                          refine g_iload_n C dX4_isSame_287 6 rfl ?_
                          refine g_icmp_ge 347 C dX4_isSame_288 (by decide) (zr_i (by omega) (by omega)) (zr_i (by omega) (by omega)) (fun c_288 => ?_) (fun c_288 => ?_)
                          · have hv6 : v5 = vsum fv cnt := by rw [hv5]; show vsum fv cnt - 0 = _; omega
                            have hGS : GS cnt fv fs rm = (gsm (RV cnt fv) (RU cnt fv fs rm) rm cnt).2 := rfl
                            obtain ⟨q1, q2, q3, q4, q5, q6⟩ := id hY
                            have hgb2 := f_gs hI
                            have hRC := rch_bd (f := TB cnt fv fs rm) (rm := rm) 300 0
                            have hRC2 : RC cnt fv fs rm ≤ 300 := by show rch _ _ 300 0 ≤ 300; omega
                            have hvb := vsum_bd cnt hS.1
                            have hscb : -1 ≤ sc ∧ sc ≤ 8 := by
                              rcases hsc with ⟨e, _⟩ | ⟨i, e, _, e2, _⟩ <;> omega
                            refine g_aload_n C dX4_isSame_347 8 rfl ?_
                            refine g_mods [wZ h2 sa rm lt tk ov nw1 bs1 x1 y1, wG sa cG cnt (rN ra cnt), wG q cG cnt (rN (srt ra fv cnt) cnt), w1, wQ ra cI fv fs fd cnt] [wZ h2 sa rm lt tk ov nw1 bs1 x1 y1, wG sa cG cnt (rN ra cnt), wG q cG cnt (rN (srt ra fv cnt) cnt), wQ ra cI fv fs fd cnt, w1] [0, 1, 2, 4, 3] (by decide) rfl ?_
                            refine g_ws (w' := ((((wZ h2 sa rm lt tk ov nw1 bs1 x1 y1) ++ (wG sa cG cnt (rN ra cnt))) ++ (wG q cG cnt (rN (srt ra fv cnt) cnt))) ++ (wQ ra cI fv fs fd cnt)) ++ (w1)) rfl rfl ?_
                            obtain ⟨c20, gv0, gs0, gd0, tc0, tr0, ft0, tv0, tu0, fc0, M0, fa0, fb0, N0, rfl⟩ := hX
                            refine g_callV (wr := (((wZ h2 sa rm lt tk ov nw1 bs1 x1 y1) ++ (wG sa cG cnt (rN ra cnt))) ++ (wG q cG cnt (rN (srt ra fv cnt) cnt))) ++ (wQ ra cI fv fs fd cnt)) (st := []) _ _ C cX4_109 (met_X3_stamps l D cI cG cJ hm ad a2 bd pd cnt fv fs fd rm lt tk ov hI c20 gv0 gs0 gd0 tc0 tr0 ft0 tv0 tu0 fc0 M0 fa0 fb0 N0 ) gSp_r (ci := 3) (q0 := (((((wZ h2 sa rm lt tk ov nw1 bs1 x1 y1) ++ (wG sa cG cnt (rN ra cnt))) ++ (wG q cG cnt (rN (srt ra fv cnt) cnt))) ++ (wQ ra cI fv fs fd cnt)) : va_W).length) (at_r rfl) rfl (by decide) ⟨by dsimp only [rmX3_stamps, rmX4_isSame]; omega, by dsimp only [rmX3_stamps, rmX4_isSame]; omega⟩ rfl rfl (Nat.le_of_ble_eq_true rfl) dX4_isSame_348 ?_
                            rintro v9 w9 ⟨z9, rfl, hz9, hX⟩
                            have hz8 : z9 = (cnt : Int) := hz9
                            refine g_ws (w' := ((((wZ h2 sa rm lt tk ov nw1 bs1 x1 y1) ++ (wG sa cG cnt (rN ra cnt))) ++ (wG q cG cnt (rN (srt ra fv cnt) cnt))) ++ (wQ ra cI fv fs fd cnt)) ++ (w9)) (st' := [.int (zI z9)]) (by simp only [List.append_assoc]) rfl ?_
                            refine g_mods [wZ h2 sa rm lt tk ov nw1 bs1 x1 y1, wG sa cG cnt (rN ra cnt), wG q cG cnt (rN (srt ra fv cnt) cnt), wQ ra cI fv fs fd cnt, w9] [wZ h2 sa rm lt tk ov nw1 bs1 x1 y1, wG sa cG cnt (rN ra cnt), wG q cG cnt (rN (srt ra fv cnt) cnt), w9, wQ ra cI fv fs fd cnt] [0, 1, 2, 4, 3] (by decide) rfl ?_
                            refine g_ws (w' := ((((wZ h2 sa rm lt tk ov nw1 bs1 x1 y1) ++ (wG sa cG cnt (rN ra cnt))) ++ (wG q cG cnt (rN (srt ra fv cnt) cnt))) ++ (w9)) ++ (wQ ra cI fv fs fd cnt)) rfl rfl ?_
                            refine g_iload_n C dX4_isSame_351 6 rfl ?_
                            refine g_icmp_ne 454 C dX4_isSame_352 (by decide) (zr_i (by omega) (by omega)) (zr_i (by omega) (by omega)) (fun c_352 => ?_) (fun c_352 => ?_)
                            · exfalso; omega
                            · refine g_aload_n C dX4_isSame_355 8 rfl ?_
                              refine g_mods [wZ h2 sa rm lt tk ov nw1 bs1 x1 y1, wG sa cG cnt (rN ra cnt), wG q cG cnt (rN (srt ra fv cnt) cnt), w9, wQ ra cI fv fs fd cnt] [wZ h2 sa rm lt tk ov nw1 bs1 x1 y1, wG sa cG cnt (rN ra cnt), wG q cG cnt (rN (srt ra fv cnt) cnt), wQ ra cI fv fs fd cnt, w9] [0, 1, 2, 4, 3] (by decide) rfl ?_
                              refine g_ws (w' := ((((wZ h2 sa rm lt tk ov nw1 bs1 x1 y1) ++ (wG sa cG cnt (rN ra cnt))) ++ (wG q cG cnt (rN (srt ra fv cnt) cnt))) ++ (wQ ra cI fv fs fd cnt)) ++ (w9)) rfl rfl ?_
                              obtain ⟨c20, gv0, gs0, gd0, tc0, tr0, ft0, tv0, tu0, fc0, M0, fa0, fb0, N0, rfl⟩ := hX
                              refine g_callV (wr := (((wZ h2 sa rm lt tk ov nw1 bs1 x1 y1) ++ (wG sa cG cnt (rN ra cnt))) ++ (wG q cG cnt (rN (srt ra fv cnt) cnt))) ++ (wQ ra cI fv fs fd cnt)) (st := []) _ _ C cX4_112 (met_X3_room l D cI cG cJ hm ad a2 bd pd cnt fv fs fd rm lt tk ov hI c20 gv0 gs0 gd0 tc0 tr0 ft0 tv0 tu0 fc0 M0 fa0 fb0 N0 ) gSp_r (ci := 3) (q0 := (((((wZ h2 sa rm lt tk ov nw1 bs1 x1 y1) ++ (wG sa cG cnt (rN ra cnt))) ++ (wG q cG cnt (rN (srt ra fv cnt) cnt))) ++ (wQ ra cI fv fs fd cnt)) : va_W).length) (at_r rfl) rfl (by decide) ⟨by dsimp only [rmX3_room, rmX4_isSame]; omega, by dsimp only [rmX3_room, rmX4_isSame]; omega⟩ rfl rfl (Nat.le_of_ble_eq_true rfl) dX4_isSame_356 ?_
                              rintro v9 w9 ⟨z9, rfl, hz9, hX⟩
                              have hz8 : z9 = rm := hz9
                              refine g_ws (w' := ((((wZ h2 sa rm lt tk ov nw1 bs1 x1 y1) ++ (wG sa cG cnt (rN ra cnt))) ++ (wG q cG cnt (rN (srt ra fv cnt) cnt))) ++ (wQ ra cI fv fs fd cnt)) ++ (w9)) (st' := [.int (zI z9)]) (by simp only [List.append_assoc]) rfl ?_
                              refine g_mods [wZ h2 sa rm lt tk ov nw1 bs1 x1 y1, wG sa cG cnt (rN ra cnt), wG q cG cnt (rN (srt ra fv cnt) cnt), wQ ra cI fv fs fd cnt, w9] [wZ h2 sa rm lt tk ov nw1 bs1 x1 y1, wG sa cG cnt (rN ra cnt), wG q cG cnt (rN (srt ra fv cnt) cnt), w9, wQ ra cI fv fs fd cnt] [0, 1, 2, 4, 3] (by decide) rfl ?_
                              refine g_ws (w' := ((((wZ h2 sa rm lt tk ov nw1 bs1 x1 y1) ++ (wG sa cG cnt (rN ra cnt))) ++ (wG q cG cnt (rN (srt ra fv cnt) cnt))) ++ (w9)) ++ (wQ ra cI fv fs fd cnt)) rfl rfl ?_
                              refine g_aload_n C dX4_isSame_359 7 rfl ?_
                              refine g_getf C fX4_7 0 rfl rfl dX4_isSame_360 ?_
                              refine g_icmp_ne 454 C dX4_isSame_363 (by decide) (zr_i (by omega) (by omega)) (zr_i (by omega) (by omega)) (fun c_363 => ?_) (fun c_363 => ?_)
                              · exfalso; omega
                              · refine g_aload_n C dX4_isSame_366 8 rfl ?_
                                refine g_mods [wZ h2 sa rm lt tk ov nw1 bs1 x1 y1, wG sa cG cnt (rN ra cnt), wG q cG cnt (rN (srt ra fv cnt) cnt), w9, wQ ra cI fv fs fd cnt] [wZ h2 sa rm lt tk ov nw1 bs1 x1 y1, wG sa cG cnt (rN ra cnt), wG q cG cnt (rN (srt ra fv cnt) cnt), wQ ra cI fv fs fd cnt, w9] [0, 1, 2, 4, 3] (by decide) rfl ?_
                                refine g_ws (w' := ((((wZ h2 sa rm lt tk ov nw1 bs1 x1 y1) ++ (wG sa cG cnt (rN ra cnt))) ++ (wG q cG cnt (rN (srt ra fv cnt) cnt))) ++ (wQ ra cI fv fs fd cnt)) ++ (w9)) rfl rfl ?_
                                obtain ⟨c20, gv0, gs0, gd0, tc0, tr0, ft0, tv0, tu0, fc0, M0, fa0, fb0, N0, rfl⟩ := hX
                                refine g_callV (wr := (((wZ h2 sa rm lt tk ov nw1 bs1 x1 y1) ++ (wG sa cG cnt (rN ra cnt))) ++ (wG q cG cnt (rN (srt ra fv cnt) cnt))) ++ (wQ ra cI fv fs fd cnt)) (st := []) _ _ C cX4_114 (met_X3_letters l D cI cG cJ hm ad a2 bd pd cnt fv fs fd rm lt tk ov hI c20 gv0 gs0 gd0 tc0 tr0 ft0 tv0 tu0 fc0 M0 fa0 fb0 N0 ) gSp_r (ci := 3) (q0 := (((((wZ h2 sa rm lt tk ov nw1 bs1 x1 y1) ++ (wG sa cG cnt (rN ra cnt))) ++ (wG q cG cnt (rN (srt ra fv cnt) cnt))) ++ (wQ ra cI fv fs fd cnt)) : va_W).length) (at_r rfl) rfl (by decide) ⟨by dsimp only [rmX3_letters, rmX4_isSame]; omega, by dsimp only [rmX3_letters, rmX4_isSame]; omega⟩ rfl rfl (Nat.le_of_ble_eq_true rfl) dX4_isSame_367 ?_
                                rintro v9 w9 ⟨z9, rfl, hz9, hX⟩
                                have hz8 : z9 = lt := hz9
                                refine g_ws (w' := ((((wZ h2 sa rm lt tk ov nw1 bs1 x1 y1) ++ (wG sa cG cnt (rN ra cnt))) ++ (wG q cG cnt (rN (srt ra fv cnt) cnt))) ++ (wQ ra cI fv fs fd cnt)) ++ (w9)) (st' := [.int (zI z9)]) (by simp only [List.append_assoc]) rfl ?_
                                refine g_mods [wZ h2 sa rm lt tk ov nw1 bs1 x1 y1, wG sa cG cnt (rN ra cnt), wG q cG cnt (rN (srt ra fv cnt) cnt), wQ ra cI fv fs fd cnt, w9] [wZ h2 sa rm lt tk ov nw1 bs1 x1 y1, wG sa cG cnt (rN ra cnt), wG q cG cnt (rN (srt ra fv cnt) cnt), w9, wQ ra cI fv fs fd cnt] [0, 1, 2, 4, 3] (by decide) rfl ?_
                                refine g_ws (w' := ((((wZ h2 sa rm lt tk ov nw1 bs1 x1 y1) ++ (wG sa cG cnt (rN ra cnt))) ++ (wG q cG cnt (rN (srt ra fv cnt) cnt))) ++ (w9)) ++ (wQ ra cI fv fs fd cnt)) rfl rfl ?_
                                refine g_aload_n C dX4_isSame_370 7 rfl ?_
                                refine g_getf C fX4_24 0 rfl rfl dX4_isSame_371 ?_
                                refine g_icmp_ne 454 C dX4_isSame_374 (by decide) (zr_i (by omega) (by omega)) (zr_i (by omega) (by omega)) (fun c_374 => ?_) (fun c_374 => ?_)
                                · exfalso; omega
                                · refine g_aload_n C dX4_isSame_377 8 rfl ?_
                                  refine g_mods [wZ h2 sa rm lt tk ov nw1 bs1 x1 y1, wG sa cG cnt (rN ra cnt), wG q cG cnt (rN (srt ra fv cnt) cnt), w9, wQ ra cI fv fs fd cnt] [wZ h2 sa rm lt tk ov nw1 bs1 x1 y1, wG sa cG cnt (rN ra cnt), wG q cG cnt (rN (srt ra fv cnt) cnt), wQ ra cI fv fs fd cnt, w9] [0, 1, 2, 4, 3] (by decide) rfl ?_
                                  refine g_ws (w' := ((((wZ h2 sa rm lt tk ov nw1 bs1 x1 y1) ++ (wG sa cG cnt (rN ra cnt))) ++ (wG q cG cnt (rN (srt ra fv cnt) cnt))) ++ (wQ ra cI fv fs fd cnt)) ++ (w9)) rfl rfl ?_
                                  obtain ⟨c20, gv0, gs0, gd0, tc0, tr0, ft0, tv0, tu0, fc0, M0, fa0, fb0, N0, rfl⟩ := hX
                                  refine g_callV (wr := (((wZ h2 sa rm lt tk ov nw1 bs1 x1 y1) ++ (wG sa cG cnt (rN ra cnt))) ++ (wG q cG cnt (rN (srt ra fv cnt) cnt))) ++ (wQ ra cI fv fs fd cnt)) (st := []) _ _ C cX4_116 (met_X3_taken l D cI cG cJ hm ad a2 bd pd cnt fv fs fd rm lt tk ov hI c20 gv0 gs0 gd0 tc0 tr0 ft0 tv0 tu0 fc0 M0 fa0 fb0 N0 ) gSp_r (ci := 3) (q0 := (((((wZ h2 sa rm lt tk ov nw1 bs1 x1 y1) ++ (wG sa cG cnt (rN ra cnt))) ++ (wG q cG cnt (rN (srt ra fv cnt) cnt))) ++ (wQ ra cI fv fs fd cnt)) : va_W).length) (at_r rfl) rfl (by decide) ⟨by dsimp only [rmX3_taken, rmX4_isSame]; omega, by dsimp only [rmX3_taken, rmX4_isSame]; omega⟩ rfl rfl (Nat.le_of_ble_eq_true rfl) dX4_isSame_378 ?_
                                  rintro v9 w9 ⟨z9, rfl, hz9, hX⟩
                                  have hz8 : z9 = tk := hz9
                                  refine g_ws (w' := ((((wZ h2 sa rm lt tk ov nw1 bs1 x1 y1) ++ (wG sa cG cnt (rN ra cnt))) ++ (wG q cG cnt (rN (srt ra fv cnt) cnt))) ++ (wQ ra cI fv fs fd cnt)) ++ (w9)) (st' := [.int (zI z9)]) (by simp only [List.append_assoc]) rfl ?_
                                  refine g_mods [wZ h2 sa rm lt tk ov nw1 bs1 x1 y1, wG sa cG cnt (rN ra cnt), wG q cG cnt (rN (srt ra fv cnt) cnt), wQ ra cI fv fs fd cnt, w9] [wZ h2 sa rm lt tk ov nw1 bs1 x1 y1, wG sa cG cnt (rN ra cnt), wG q cG cnt (rN (srt ra fv cnt) cnt), w9, wQ ra cI fv fs fd cnt] [0, 1, 2, 4, 3] (by decide) rfl ?_
                                  refine g_ws (w' := ((((wZ h2 sa rm lt tk ov nw1 bs1 x1 y1) ++ (wG sa cG cnt (rN ra cnt))) ++ (wG q cG cnt (rN (srt ra fv cnt) cnt))) ++ (w9)) ++ (wQ ra cI fv fs fd cnt)) rfl rfl ?_
                                  refine g_aload_n C dX4_isSame_381 7 rfl ?_
                                  refine g_getf C fX4_27 0 rfl rfl dX4_isSame_382 ?_
                                  refine g_icmp_ne 454 C dX4_isSame_385 (by decide) (zr_i (by omega) (by omega)) (zr_i (by omega) (by omega)) (fun c_385 => ?_) (fun c_385 => ?_)
                                  · exfalso; omega
                                  · refine g_aload_n C dX4_isSame_388 8 rfl ?_
                                    refine g_mods [wZ h2 sa rm lt tk ov nw1 bs1 x1 y1, wG sa cG cnt (rN ra cnt), wG q cG cnt (rN (srt ra fv cnt) cnt), w9, wQ ra cI fv fs fd cnt] [wZ h2 sa rm lt tk ov nw1 bs1 x1 y1, wG sa cG cnt (rN ra cnt), wG q cG cnt (rN (srt ra fv cnt) cnt), wQ ra cI fv fs fd cnt, w9] [0, 1, 2, 4, 3] (by decide) rfl ?_
                                    refine g_ws (w' := ((((wZ h2 sa rm lt tk ov nw1 bs1 x1 y1) ++ (wG sa cG cnt (rN ra cnt))) ++ (wG q cG cnt (rN (srt ra fv cnt) cnt))) ++ (wQ ra cI fv fs fd cnt)) ++ (w9)) rfl rfl ?_
                                    obtain ⟨c20, gv0, gs0, gd0, tc0, tr0, ft0, tv0, tu0, fc0, M0, fa0, fb0, N0, rfl⟩ := hX
                                    refine g_callV (wr := (((wZ h2 sa rm lt tk ov nw1 bs1 x1 y1) ++ (wG sa cG cnt (rN ra cnt))) ++ (wG q cG cnt (rN (srt ra fv cnt) cnt))) ++ (wQ ra cI fv fs fd cnt)) (st := []) _ _ C cX4_118 (met_X3_overpaid l D cI cG cJ hm ad a2 bd pd cnt fv fs fd rm lt tk ov hI c20 gv0 gs0 gd0 tc0 tr0 ft0 tv0 tu0 fc0 M0 fa0 fb0 N0 ) gSp_r (ci := 3) (q0 := (((((wZ h2 sa rm lt tk ov nw1 bs1 x1 y1) ++ (wG sa cG cnt (rN ra cnt))) ++ (wG q cG cnt (rN (srt ra fv cnt) cnt))) ++ (wQ ra cI fv fs fd cnt)) : va_W).length) (at_r rfl) rfl (by decide) ⟨by dsimp only [rmX3_overpaid, rmX4_isSame]; omega, by dsimp only [rmX3_overpaid, rmX4_isSame]; omega⟩ rfl rfl (Nat.le_of_ble_eq_true rfl) dX4_isSame_389 ?_
                                    rintro v9 w9 ⟨z9, rfl, hz9, hX⟩
                                    have hz8 : z9 = ov := hz9
                                    refine g_ws (w' := ((((wZ h2 sa rm lt tk ov nw1 bs1 x1 y1) ++ (wG sa cG cnt (rN ra cnt))) ++ (wG q cG cnt (rN (srt ra fv cnt) cnt))) ++ (wQ ra cI fv fs fd cnt)) ++ (w9)) (st' := [.int (zI z9)]) (by simp only [List.append_assoc]) rfl ?_
                                    refine g_mods [wZ h2 sa rm lt tk ov nw1 bs1 x1 y1, wG sa cG cnt (rN ra cnt), wG q cG cnt (rN (srt ra fv cnt) cnt), wQ ra cI fv fs fd cnt, w9] [wZ h2 sa rm lt tk ov nw1 bs1 x1 y1, wG sa cG cnt (rN ra cnt), wG q cG cnt (rN (srt ra fv cnt) cnt), w9, wQ ra cI fv fs fd cnt] [0, 1, 2, 4, 3] (by decide) rfl ?_
                                    refine g_ws (w' := ((((wZ h2 sa rm lt tk ov nw1 bs1 x1 y1) ++ (wG sa cG cnt (rN ra cnt))) ++ (wG q cG cnt (rN (srt ra fv cnt) cnt))) ++ (w9)) ++ (wQ ra cI fv fs fd cnt)) rfl rfl ?_
                                    refine g_aload_n C dX4_isSame_392 7 rfl ?_
                                    refine g_getf C fX4_30 0 rfl rfl dX4_isSame_393 ?_
                                    refine g_icmp_ne 454 C dX4_isSame_396 (by decide) (zr_i (by omega) (by omega)) (zr_i (by omega) (by omega)) (fun c_396 => ?_) (fun c_396 => ?_)
                                    · exfalso; omega
                                    · refine g_aload_n C dX4_isSame_399 8 rfl ?_
                                      refine g_mods [wZ h2 sa rm lt tk ov nw1 bs1 x1 y1, wG sa cG cnt (rN ra cnt), wG q cG cnt (rN (srt ra fv cnt) cnt), w9, wQ ra cI fv fs fd cnt] [wZ h2 sa rm lt tk ov nw1 bs1 x1 y1, wG sa cG cnt (rN ra cnt), wG q cG cnt (rN (srt ra fv cnt) cnt), wQ ra cI fv fs fd cnt, w9] [0, 1, 2, 4, 3] (by decide) rfl ?_
                                      refine g_ws (w' := ((((wZ h2 sa rm lt tk ov nw1 bs1 x1 y1) ++ (wG sa cG cnt (rN ra cnt))) ++ (wG q cG cnt (rN (srt ra fv cnt) cnt))) ++ (wQ ra cI fv fs fd cnt)) ++ (w9)) rfl rfl ?_
                                      obtain ⟨c20, gv0, gs0, gd0, tc0, tr0, ft0, tv0, tu0, fc0, M0, fa0, fb0, N0, rfl⟩ := hX
                                      refine g_callV (wr := (((wZ h2 sa rm lt tk ov nw1 bs1 x1 y1) ++ (wG sa cG cnt (rN ra cnt))) ++ (wG q cG cnt (rN (srt ra fv cnt) cnt))) ++ (wQ ra cI fv fs fd cnt)) (st := []) _ _ C cX4_120 (met_X3_scarcest l D cI cG cJ hm ad a2 bd pd cnt fv fs fd rm lt tk ov hI c20 gv0 gs0 gd0 tc0 tr0 ft0 tv0 tu0 fc0 M0 fa0 fb0 N0 ) gSp_r (ci := 3) (q0 := (((((wZ h2 sa rm lt tk ov nw1 bs1 x1 y1) ++ (wG sa cG cnt (rN ra cnt))) ++ (wG q cG cnt (rN (srt ra fv cnt) cnt))) ++ (wQ ra cI fv fs fd cnt)) : va_W).length) (at_r rfl) rfl (by decide) ⟨by dsimp only [rmX3_scarcest, rmX4_isSame]; omega, by dsimp only [rmX3_scarcest, rmX4_isSame]; omega⟩ rfl rfl (Nat.le_of_ble_eq_true rfl) dX4_isSame_400 ?_
                                      rintro v9 w9 ⟨z9, rfl, hz9, hX⟩
                                      have hz8 : z9 = (scF fs cnt).1 := hz9
                                      refine g_ws (w' := ((((wZ h2 sa rm lt tk ov nw1 bs1 x1 y1) ++ (wG sa cG cnt (rN ra cnt))) ++ (wG q cG cnt (rN (srt ra fv cnt) cnt))) ++ (wQ ra cI fv fs fd cnt)) ++ (w9)) (st' := [.int (zI z9)]) (by simp only [List.append_assoc]) rfl ?_
                                      refine g_mods [wZ h2 sa rm lt tk ov nw1 bs1 x1 y1, wG sa cG cnt (rN ra cnt), wG q cG cnt (rN (srt ra fv cnt) cnt), wQ ra cI fv fs fd cnt, w9] [wZ h2 sa rm lt tk ov nw1 bs1 x1 y1, wG sa cG cnt (rN ra cnt), wG q cG cnt (rN (srt ra fv cnt) cnt), w9, wQ ra cI fv fs fd cnt] [0, 1, 2, 4, 3] (by decide) rfl ?_
                                      refine g_ws (w' := ((((wZ h2 sa rm lt tk ov nw1 bs1 x1 y1) ++ (wG sa cG cnt (rN ra cnt))) ++ (wG q cG cnt (rN (srt ra fv cnt) cnt))) ++ (w9)) ++ (wQ ra cI fv fs fd cnt)) rfl rfl ?_
                                      refine g_iload C dX4_isSame_403 5 rfl ?_
                                      refine g_icmp_ne 454 C dX4_isSame_405 (by decide) (zr_i (by omega) (by omega)) (zr_i (by omega) (by omega)) (fun c_405 => ?_) (fun c_405 => ?_)
                                      · exfalso; omega
                                      · refine g_aload_n C dX4_isSame_408 8 rfl ?_
                                        refine g_mods [wZ h2 sa rm lt tk ov nw1 bs1 x1 y1, wG sa cG cnt (rN ra cnt), wG q cG cnt (rN (srt ra fv cnt) cnt), w9, wQ ra cI fv fs fd cnt] [wZ h2 sa rm lt tk ov nw1 bs1 x1 y1, wG sa cG cnt (rN ra cnt), wG q cG cnt (rN (srt ra fv cnt) cnt), wQ ra cI fv fs fd cnt, w9] [0, 1, 2, 4, 3] (by decide) rfl ?_
                                        refine g_ws (w' := ((((wZ h2 sa rm lt tk ov nw1 bs1 x1 y1) ++ (wG sa cG cnt (rN ra cnt))) ++ (wG q cG cnt (rN (srt ra fv cnt) cnt))) ++ (wQ ra cI fv fs fd cnt)) ++ (w9)) rfl rfl ?_
                                        obtain ⟨c20, gv0, gs0, gd0, tc0, tr0, ft0, tv0, tu0, fc0, M0, fa0, fb0, N0, rfl⟩ := hX
                                        refine g_callV (wr := (((wZ h2 sa rm lt tk ov nw1 bs1 x1 y1) ++ (wG sa cG cnt (rN ra cnt))) ++ (wG q cG cnt (rN (srt ra fv cnt) cnt))) ++ (wQ ra cI fv fs fd cnt)) (st := []) _ _ C cX4_123 (met_X3_most l D cI cG cJ hm ad a2 bd pd cnt fv fs fd rm lt tk ov hI c20 gv0 gs0 gd0 tc0 tr0 ft0 tv0 tu0 fc0 M0 fa0 fb0 N0 ) gSp_r (ci := 3) (q0 := (((((wZ h2 sa rm lt tk ov nw1 bs1 x1 y1) ++ (wG sa cG cnt (rN ra cnt))) ++ (wG q cG cnt (rN (srt ra fv cnt) cnt))) ++ (wQ ra cI fv fs fd cnt)) : va_W).length) (at_r rfl) rfl (by decide) ⟨by dsimp only [rmX3_most, rmX4_isSame]; omega, by dsimp only [rmX3_most, rmX4_isSame]; omega⟩ rfl rfl (Nat.le_of_ble_eq_true rfl) dX4_isSame_409 ?_
                                        rintro v9 w9 ⟨z9, rfl, hz9, hX⟩
                                        have hz8 : z9 = GS cnt fv fs rm := hz9
                                        refine g_ws (w' := ((((wZ h2 sa rm lt tk ov nw1 bs1 x1 y1) ++ (wG sa cG cnt (rN ra cnt))) ++ (wG q cG cnt (rN (srt ra fv cnt) cnt))) ++ (wQ ra cI fv fs fd cnt)) ++ (w9)) (st' := [.int (zI z9)]) (by simp only [List.append_assoc]) rfl ?_
                                        refine g_mods [wZ h2 sa rm lt tk ov nw1 bs1 x1 y1, wG sa cG cnt (rN ra cnt), wG q cG cnt (rN (srt ra fv cnt) cnt), wQ ra cI fv fs fd cnt, w9] [wZ h2 sa rm lt tk ov nw1 bs1 x1 y1, wG sa cG cnt (rN ra cnt), wG q cG cnt (rN (srt ra fv cnt) cnt), w9, wQ ra cI fv fs fd cnt] [0, 1, 2, 4, 3] (by decide) rfl ?_
                                        refine g_ws (w' := ((((wZ h2 sa rm lt tk ov nw1 bs1 x1 y1) ++ (wG sa cG cnt (rN ra cnt))) ++ (wG q cG cnt (rN (srt ra fv cnt) cnt))) ++ (w9)) ++ (wQ ra cI fv fs fd cnt)) rfl rfl ?_
                                        refine g_iload C dX4_isSame_412 2 rfl ?_
                                        refine g_icmp_ne 454 C dX4_isSame_414 (by decide) (zr_i (by omega) (by omega)) (zr_i (by omega) (by omega)) (fun c_414 => ?_) (fun c_414 => ?_)
                                        · exfalso; omega
                                        · refine g_aload_n C dX4_isSame_417 8 rfl ?_
                                          refine g_mods [wZ h2 sa rm lt tk ov nw1 bs1 x1 y1, wG sa cG cnt (rN ra cnt), wG q cG cnt (rN (srt ra fv cnt) cnt), w9, wQ ra cI fv fs fd cnt] [wZ h2 sa rm lt tk ov nw1 bs1 x1 y1, wG sa cG cnt (rN ra cnt), wG q cG cnt (rN (srt ra fv cnt) cnt), wQ ra cI fv fs fd cnt, w9] [0, 1, 2, 4, 3] (by decide) rfl ?_
                                          refine g_ws (w' := ((((wZ h2 sa rm lt tk ov nw1 bs1 x1 y1) ++ (wG sa cG cnt (rN ra cnt))) ++ (wG q cG cnt (rN (srt ra fv cnt) cnt))) ++ (wQ ra cI fv fs fd cnt)) ++ (w9)) rfl rfl ?_
                                          obtain ⟨c20, gv0, gs0, gd0, tc0, tr0, ft0, tv0, tu0, fc0, M0, fa0, fb0, N0, rfl⟩ := hX
                                          refine g_callV (wr := (((wZ h2 sa rm lt tk ov nw1 bs1 x1 y1) ++ (wG sa cG cnt (rN ra cnt))) ++ (wG q cG cnt (rN (srt ra fv cnt) cnt))) ++ (wQ ra cI fv fs fd cnt)) (st := []) _ _ C cX4_126 (met_X3_reachNow l D cI cG cJ hm ad a2 bd pd cnt fv fs fd rm lt tk ov hI c20 gv0 gs0 gd0 tc0 tr0 ft0 tv0 tu0 fc0 M0 fa0 fb0 N0 ) gSp_r (ci := 3) (q0 := (((((wZ h2 sa rm lt tk ov nw1 bs1 x1 y1) ++ (wG sa cG cnt (rN ra cnt))) ++ (wG q cG cnt (rN (srt ra fv cnt) cnt))) ++ (wQ ra cI fv fs fd cnt)) : va_W).length) (at_r rfl) rfl (by decide) ⟨by dsimp only [rmX3_reachNow, rmX4_isSame]; omega, by dsimp only [rmX3_reachNow, rmX4_isSame]; omega⟩ rfl rfl (Nat.le_of_ble_eq_true rfl) dX4_isSame_418 ?_
                                          rintro v9 w9 ⟨z9, rfl, hz9, hX⟩
                                          have hz8 : z9 = (RC cnt fv fs rm : Int) := hz9
                                          refine g_ws (w' := ((((wZ h2 sa rm lt tk ov nw1 bs1 x1 y1) ++ (wG sa cG cnt (rN ra cnt))) ++ (wG q cG cnt (rN (srt ra fv cnt) cnt))) ++ (wQ ra cI fv fs fd cnt)) ++ (w9)) (st' := [.int (zI z9)]) (by simp only [List.append_assoc]) rfl ?_
                                          refine g_mods [wZ h2 sa rm lt tk ov nw1 bs1 x1 y1, wG sa cG cnt (rN ra cnt), wG q cG cnt (rN (srt ra fv cnt) cnt), wQ ra cI fv fs fd cnt, w9] [wZ h2 sa rm lt tk ov nw1 bs1 x1 y1, wG sa cG cnt (rN ra cnt), wG q cG cnt (rN (srt ra fv cnt) cnt), w9, wQ ra cI fv fs fd cnt] [0, 1, 2, 4, 3] (by decide) rfl ?_
                                          refine g_ws (w' := ((((wZ h2 sa rm lt tk ov nw1 bs1 x1 y1) ++ (wG sa cG cnt (rN ra cnt))) ++ (wG q cG cnt (rN (srt ra fv cnt) cnt))) ++ (w9)) ++ (wQ ra cI fv fs fd cnt)) rfl rfl ?_
                                          refine g_aload_n C dX4_isSame_421 7 rfl ?_
                                          refine g_mods [wZ h2 sa rm lt tk ov nw1 bs1 x1 y1, wG sa cG cnt (rN ra cnt), wG q cG cnt (rN (srt ra fv cnt) cnt), w9, wQ ra cI fv fs fd cnt] [wG q cG cnt (rN (srt ra fv cnt) cnt), w9, wZ h2 sa rm lt tk ov nw1 bs1 x1 y1, wG sa cG cnt (rN ra cnt), wQ ra cI fv fs fd cnt] [2, 3, 0, 1, 4] (by decide) rfl ?_
                                          refine g_ws (w' := ((((wG q cG cnt (rN (srt ra fv cnt) cnt)) ++ (w9)) ++ (wZ h2 sa rm lt tk ov nw1 bs1 x1 y1)) ++ (wG sa cG cnt (rN ra cnt))) ++ (wQ ra cI fv fs fd cnt)) rfl rfl ?_
                                          refine g_eqw (w' := ((wG q cG cnt (rN (srt ra fv cnt) cnt)) ++ (w9)) ++ (((wZ h2 sa rm lt tk ov nw1 bs1 x1 y1) ++ (wG sa cG cnt (rN ra cnt))) ++ (wQ ra cI fv fs fd cnt))) (by simp only [List.append_assoc]) ?_
                                          refine g_callV (wr := (wG q cG cnt (rN (srt ra fv cnt) cnt)) ++ (w9)) (st := [.int (zI z9)]) _ _ C cX4_129 (met_X4_reachNow l D cI cG cJ h2 sa ra cnt hc fv fs fd hS rm lt tk ov hr nw1 bs1 x1 y1) gSp_r (ci := 4) (q0 := (((wG q cG cnt (rN (srt ra fv cnt) cnt)) ++ (w9)) : va_W).length) (at_r rfl) rfl (by decide) ⟨by dsimp only [rmX4_reachNow, rmX4_isSame]; omega, by dsimp only [rmX4_reachNow, rmX4_isSame]; omega⟩ rfl rfl (Nat.le_of_ble_eq_true rfl) dX4_isSame_422 ?_
                                          rintro v9 w9 ⟨z8, rfl, rfl, rfl⟩
                                          refine g_ws (w' := ((((wG q cG cnt (rN (srt ra fv cnt) cnt)) ++ (w9)) ++ (wZ h2 sa rm lt tk ov nw1 bs1 x1 y1)) ++ (wG sa cG cnt (rN ra cnt))) ++ (wQ ra cI fv fs fd cnt)) (st' := [.int (zI (RC cnt fv fs rm : Int)), .int (zI z9)]) (by simp only [List.append_assoc]) rfl ?_
                                          refine g_mods [wG q cG cnt (rN (srt ra fv cnt) cnt), w9, wZ h2 sa rm lt tk ov nw1 bs1 x1 y1, wG sa cG cnt (rN ra cnt), wQ ra cI fv fs fd cnt] [wZ h2 sa rm lt tk ov nw1 bs1 x1 y1, wG sa cG cnt (rN ra cnt), wG q cG cnt (rN (srt ra fv cnt) cnt), w9, wQ ra cI fv fs fd cnt] [2, 3, 0, 1, 4] (by decide) rfl ?_
                                          refine g_ws (w' := ((((wZ h2 sa rm lt tk ov nw1 bs1 x1 y1) ++ (wG sa cG cnt (rN ra cnt))) ++ (wG q cG cnt (rN (srt ra fv cnt) cnt))) ++ (w9)) ++ (wQ ra cI fv fs fd cnt)) rfl rfl ?_
                                          refine g_icmp_ne 454 C dX4_isSame_425 (by decide) (zr_i (by omega) (by omega)) (zr_i (by omega) (by omega)) (fun c_425 => ?_) (fun c_425 => ?_)
                                          · exfalso; omega
                                          · refine g_aload_n C dX4_isSame_428 8 rfl ?_
                                            refine g_mods [wZ h2 sa rm lt tk ov nw1 bs1 x1 y1, wG sa cG cnt (rN ra cnt), wG q cG cnt (rN (srt ra fv cnt) cnt), w9, wQ ra cI fv fs fd cnt] [wZ h2 sa rm lt tk ov nw1 bs1 x1 y1, wG sa cG cnt (rN ra cnt), wG q cG cnt (rN (srt ra fv cnt) cnt), wQ ra cI fv fs fd cnt, w9] [0, 1, 2, 4, 3] (by decide) rfl ?_
                                            refine g_ws (w' := ((((wZ h2 sa rm lt tk ov nw1 bs1 x1 y1) ++ (wG sa cG cnt (rN ra cnt))) ++ (wG q cG cnt (rN (srt ra fv cnt) cnt))) ++ (wQ ra cI fv fs fd cnt)) ++ (w9)) rfl rfl ?_
                                            obtain ⟨c20, gv0, gs0, gd0, tc0, tr0, ft0, tv0, tu0, fc0, M0, fa0, fb0, N0, rfl⟩ := hX
                                            refine g_callV (wr := (((wZ h2 sa rm lt tk ov nw1 bs1 x1 y1) ++ (wG sa cG cnt (rN ra cnt))) ++ (wG q cG cnt (rN (srt ra fv cnt) cnt))) ++ (wQ ra cI fv fs fd cnt)) (st := []) _ _ C cX4_130 (met_X3_meanValue l D cI cG cJ hm ad a2 bd pd cnt fv fs fd rm lt tk ov hI c20 gv0 gs0 gd0 tc0 tr0 ft0 tv0 tu0 fc0 M0 fa0 fb0 N0 ) gSp_r (ci := 3) (q0 := (((((wZ h2 sa rm lt tk ov nw1 bs1 x1 y1) ++ (wG sa cG cnt (rN ra cnt))) ++ (wG q cG cnt (rN (srt ra fv cnt) cnt))) ++ (wQ ra cI fv fs fd cnt)) : va_W).length) (at_r rfl) rfl (by decide) ⟨by dsimp only [rmX3_meanValue, rmX4_isSame]; omega, by dsimp only [rmX3_meanValue, rmX4_isSame]; omega⟩ rfl rfl (Nat.le_of_ble_eq_true rfl) dX4_isSame_429 ?_
                                            rintro v9 w9 ⟨z9, rfl, hz9, hX⟩
                                            refine g_ws (w' := ((((wZ h2 sa rm lt tk ov nw1 bs1 x1 y1) ++ (wG sa cG cnt (rN ra cnt))) ++ (wG q cG cnt (rN (srt ra fv cnt) cnt))) ++ (wQ ra cI fv fs fd cnt)) ++ (w9)) (st' := [.double z9]) (by simp only [List.append_assoc]) rfl ?_
                                            refine g_mods [wZ h2 sa rm lt tk ov nw1 bs1 x1 y1, wG sa cG cnt (rN ra cnt), wG q cG cnt (rN (srt ra fv cnt) cnt), wQ ra cI fv fs fd cnt, w9] [wZ h2 sa rm lt tk ov nw1 bs1 x1 y1, wG sa cG cnt (rN ra cnt), wG q cG cnt (rN (srt ra fv cnt) cnt), w9, wQ ra cI fv fs fd cnt] [0, 1, 2, 4, 3] (by decide) rfl ?_
                                            refine g_ws (w' := ((((wZ h2 sa rm lt tk ov nw1 bs1 x1 y1) ++ (wG sa cG cnt (rN ra cnt))) ++ (wG q cG cnt (rN (srt ra fv cnt) cnt))) ++ (w9)) ++ (wQ ra cI fv fs fd cnt)) rfl rfl ?_
                                            refine g_iload_n C dX4_isSame_432 6 rfl ?_
                                            refine g_if_ne 440 C dX4_isSame_433 (by decide) (zr_i (by omega) (by omega)) (fun c_433 => ?_) (fun c_433 => ?_)
                                            · refine g_iload C dX4_isSame_440 4 rfl ?_
                                              refine g_i2d C dX4_isSame_442 ?_
                                              refine g_iload_n C dX4_isSame_443 6 rfl ?_
                                              refine g_i2d C dX4_isSame_444 ?_
                                              refine g_ddiv C dX4_isSame_445 (by rw [hv6]; exact mean_ok hc (by omega) hS.1) ?_
                                              refine g_dcmp C dX4_isSame_446 ?_
                                              refine g_eqs (st' := [.int (zI 0)]) (by rw [show z9 = mnD (vsum fv cnt) (cnt : Int) from hz9.trans (if_neg (by omega)), show FP.ddiv (FP.i2d (zI v5)) (FP.i2d (zI (cnt : Int))) = mnD (vsum fv cnt) (cnt : Int) by rw [hv6]; rfl, dc_ok hc (by omega) hS.1]) ?_
                                              refine g_if_ne 454 C dX4_isSame_447 (by decide) (zr_i (by omega) (by omega)) (fun c_447 => ?_) (fun c_447 => ?_)
                                              · exfalso; omega
                                              · refine g_iconst C dX4_isSame_450 ?_
                                                refine g_goto 455 C dX4_isSame_451 (by decide) ?_
                                                exact ret _ _ _ _ _ _ (by first | omega | (dsimp only [rmX4_isSame, rmX4_reachNow, rmX3_stamps, rmX3_room, rmX3_letters, rmX3_taken, rmX3_overpaid, rmX3_scarcest, rmX3_most, rmX3_reachNow, rmX3_meanValue]; omega)) (by first | omega | (dsimp only [rmX4_isSame, rmX4_reachNow, rmX3_stamps, rmX3_room, rmX3_letters, rmX3_taken, rmX3_overpaid, rmX3_scarcest, rmX3_most, rmX3_reachNow, rmX3_meanValue]; omega)) dX4_isSame_455 (Or.inr rfl) (rfl)
                                            · refine g_dconst0 C dX4_isSame_436 ?_
                                              refine g_goto 446 C dX4_isSame_437 (by decide) ?_
                                              refine g_dcmp C dX4_isSame_446 ?_
                                              refine g_eqs (st' := [.int (zI 0)]) (by rw [show z9 = FP.dconst0 from hz9.trans (if_pos (by omega)), dc_0]) ?_
                                              refine g_if_ne 454 C dX4_isSame_447 (by decide) (zr_i (by omega) (by omega)) (fun c_447 => ?_) (fun c_447 => ?_)
                                              · exfalso; omega
                                              · refine g_iconst C dX4_isSame_450 ?_
                                                refine g_goto 455 C dX4_isSame_451 (by decide) ?_
                                                exact ret _ _ _ _ _ _ (by first | omega | (dsimp only [rmX4_isSame, rmX4_reachNow, rmX3_stamps, rmX3_room, rmX3_letters, rmX3_taken, rmX3_overpaid, rmX3_scarcest, rmX3_most, rmX3_reachNow, rmX3_meanValue]; omega)) (by first | omega | (dsimp only [rmX4_isSame, rmX4_reachNow, rmX3_stamps, rmX3_room, rmX3_letters, rmX3_taken, rmX3_overpaid, rmX3_scarcest, rmX3_most, rmX3_reachNow, rmX3_meanValue]; omega)) dX4_isSame_455 (Or.inr rfl) (rfl)
                          · have hk0 : k < cnt := by omega
                            have hcl := cab_lt (fv := fv) (s := k) cnt hk0
                            have hrk : ∀ a, a = cab fv (fv k) cnt → ordF fv cnt (cnt - 1 - a) = k := fun a e9 => by
                              obtain ⟨j, j1, j2⟩ := ordF_sur fv cnt k hk0
                              have h1 := rank_ord hS.2.2 j1
                              rw [j2] at h1
                              rw [e9, h1, show cnt - 1 - (cnt - 1 - j) = j by omega, j2]
                            refine g_iconst C dX4_isSame_291 ?_
                            refine g_istore (L' := [(11, .int (zI 0)), (10, .int (zI (k : Int))), (9, .null), (8, .int (zI (((gsm (RV cnt fv) (RU cnt fv fs rm) rm cnt)).2))), (6, .ref q), (5, .int (zI v5)), (4, .int (zI sc)), (3, .int (zI (cnt : Int))), (0, .ref h2), (1, .ref hm), (2, .int (zI (p : Int)))]) C dX4_isSame_292 (by decide) rfl ?_
                            have loop_294 : ∀ (fu : Nat) (a : Nat), (ha0 : a ≤ cab fv (fv k) cnt) → cnt - a < fu → gW E (840 + 2 * k) (6800 + 12 * k) (((((wZ h2 sa rm lt tk ov nw1 bs1 x1 y1) ++ (wG sa cG cnt (rN ra cnt))) ++ (wG q cG cnt (rN (srt ra fv cnt) cnt))) ++ (w1)) ++ (wQ ra cI fv fs fd cnt)) 294 [(11, .int (zI (a : Int))), (10, .int (zI (k : Int))), (9, .null), (8, .int (zI (((gsm (RV cnt fv) (RU cnt fv fs rm) rm cnt)).2))), (6, .ref q), (5, .int (zI v5)), (4, .int (zI sc)), (3, .int (zI (cnt : Int))), (0, .ref h2), (1, .ref hm), (2, .int (zI (p : Int)))] [] := by
                              intro fu
                              induction fu with
                              | zero => intro a ha0 h9; exact absurd h9 (Nat.not_lt_zero _)
                              | succ fu ih_294 =>
                                intro a ha0 hmu_294
                                refine g_aload C dX4_isSame_294 4 rfl ?_
                                refine g_iload C dX4_isSame_296 0 rfl ?_
                                refine g_aald (y := ra (ordF fv cnt (cnt - 1 - a))) C 2 rfl (by omega) (by omega) (by omega) (rN_at (by omega)) dX4_isSame_298 ?_
                                refine g_aload_n C dX4_isSame_299 8 rfl ?_
                                refine g_getf C fX4_15 0 rfl rfl dX4_isSame_300 ?_
                                refine g_iload C dX4_isSame_303 1 rfl ?_
                                refine g_aald (y := ra k) C 1 rfl (by omega) (by omega) (by omega) (rN_at (by omega)) dX4_isSame_305 ?_
                                refine g_acmp_eq 315 C dX4_isSame_306 (by decide) (fun c_306 => ?_) (fun c_306 => ?_)
                                · have ha : a < cnt := by omega
                                  have hk9 : ordF fv cnt (cnt - 1 - a) = k := hinj _ _ (ordF_lt fv cnt _ (by omega)) hk0 c_306
                                  refine g_aload_n C dX4_isSame_315 9 rfl ?_
                                  refine g_iload_n C dX4_isSame_316 10 rfl ?_
                                  refine g_iload C dX4_isSame_317 1 rfl ?_
                                  refine g_mods [wZ h2 sa rm lt tk ov nw1 bs1 x1 y1, wG sa cG cnt (rN ra cnt), wG q cG cnt (rN (srt ra fv cnt) cnt), w1, wQ ra cI fv fs fd cnt] [wZ h2 sa rm lt tk ov nw1 bs1 x1 y1, wG sa cG cnt (rN ra cnt), wG q cG cnt (rN (srt ra fv cnt) cnt), wQ ra cI fv fs fd cnt, w1] [0, 1, 2, 4, 3] (by decide) rfl ?_
                                  refine g_ws (w' := ((((wZ h2 sa rm lt tk ov nw1 bs1 x1 y1) ++ (wG sa cG cnt (rN ra cnt))) ++ (wG q cG cnt (rN (srt ra fv cnt) cnt))) ++ (wQ ra cI fv fs fd cnt)) ++ (w1)) rfl rfl ?_
                                  obtain ⟨c20, gv0, gs0, gd0, tc0, tr0, ft0, tv0, tu0, fc0, M0, fa0, fb0, N0, rfl⟩ := hX
                                  refine g_callVX (wr := (((wZ h2 sa rm lt tk ov nw1 bs1 x1 y1) ++ (wG sa cG cnt (rN ra cnt))) ++ (wG q cG cnt (rN (srt ra fv cnt) cnt))) ++ (wQ ra cI fv fs fd cnt)) (st := []) _ _ C cX4_106 (met_X3_ofStampFor l hl9 D cI cG cJ hm ad a2 bd pd cnt fv fs fd rm lt tk ov hI c20 gv0 gs0 gd0 tc0 tr0 ft0 tv0 tu0 fc0 M0 fa0 fb0 N0 (p : Int) (k : Int) (zr_i (by omega) (by omega)) (zr_i (by omega) (by omega))) gSp_r (ci := 3) (q0 := (((((wZ h2 sa rm lt tk ov nw1 bs1 x1 y1) ++ (wG sa cG cnt (rN ra cnt))) ++ (wG q cG cnt (rN (srt ra fv cnt) cnt))) ++ (wQ ra cI fv fs fd cnt)) : va_W).length) (at_r rfl) rfl (by decide) ⟨by dsimp only [rmX3_ofStampFor, rmX4_isSame]; omega, by dsimp only [rmX3_ofStampFor, rmX4_isSame]; omega⟩ rfl rfl (Nat.le_of_ble_eq_true rfl) dX4_isSame_319 (fun nm9 w9 h9 => ?_) ?_
                                  · exfalso
                                    rcases h9 with ⟨_, h8, _⟩ | ⟨_, _, h8, _⟩
                                    · exact h8 ⟨by omega, by omega⟩
                                    · exact h8 ⟨by omega, by omega⟩
                                  rintro v9 w9 ⟨z9, rfl, hz9, hX⟩
                                  have hf9 : z9 = 0 := hz9.2.2.trans (if_pos g1)
                                  refine g_ws (w' := ((((wZ h2 sa rm lt tk ov nw1 bs1 x1 y1) ++ (wG sa cG cnt (rN ra cnt))) ++ (wG q cG cnt (rN (srt ra fv cnt) cnt))) ++ (wQ ra cI fv fs fd cnt)) ++ (w9)) (st' := [.int (zI z9)]) (by simp only [List.append_assoc]) rfl ?_
                                  refine g_mods [wZ h2 sa rm lt tk ov nw1 bs1 x1 y1, wG sa cG cnt (rN ra cnt), wG q cG cnt (rN (srt ra fv cnt) cnt), wQ ra cI fv fs fd cnt, w9] [wZ h2 sa rm lt tk ov nw1 bs1 x1 y1, wG sa cG cnt (rN ra cnt), wG q cG cnt (rN (srt ra fv cnt) cnt), w9, wQ ra cI fv fs fd cnt] [0, 1, 2, 4, 3] (by decide) rfl ?_
                                  refine g_ws (w' := ((((wZ h2 sa rm lt tk ov nw1 bs1 x1 y1) ++ (wG sa cG cnt (rN ra cnt))) ++ (wG q cG cnt (rN (srt ra fv cnt) cnt))) ++ (w9)) ++ (wQ ra cI fv fs fd cnt)) rfl rfl ?_
                                  refine g_aloadN C dX4_isSame_322 2 rfl ?_
                                  refine g_ifnonnullN C dX4_isSame_324 ?_
                                  refine g_iconst C dX4_isSame_327 ?_
                                  refine g_goto 336 C dX4_isSame_328 (by decide) ?_
                                  refine g_icmp_eq 341 C dX4_isSame_336 (by decide) (zr_i (by omega) (by omega)) (zr_i (by omega) (by omega)) (fun c_336 => ?_) (fun c_336 => ?_)
                                  · refine g_iinc (L' := [(10, .int (zI ((k : Int) + 1))), (11, .int (zI (a : Int))), (9, .null), (8, .int (zI (((gsm (RV cnt fv) (RU cnt fv fs rm) rm cnt)).2))), (6, .ref q), (5, .int (zI v5)), (4, .int (zI sc)), (3, .int (zI (cnt : Int))), (0, .ref h2), (1, .ref hm), (2, .int (zI (p : Int)))]) C dX4_isSame_341 1 rfl (by decide) rfl ?_
                                    refine g_goto 285 C dX4_isSame_344 (by decide) ?_
                                    refine g_loc (L' := [(10, .int (zI ((k : Int) + 1))), (9, .null), (8, .int (zI (((gsm (RV cnt fv) (RU cnt fv fs rm) rm cnt)).2))), (6, .ref q), (5, .int (zI v5)), (4, .int (zI sc)), (3, .int (zI (cnt : Int))), (0, .ref h2), (1, .ref hm), (2, .int (zI (p : Int)))]) [0, 2, 3, 4, 5, 6, 7, 8, 9, 10] rfl ?_
                                    exact ih_285 (k + 1) w9 (by omega) hX (by omega)
                                  · exfalso; omega
                                · refine g_iinc (L' := [(11, .int (zI ((a : Int) + 1))), (10, .int (zI (k : Int))), (9, .null), (8, .int (zI (((gsm (RV cnt fv) (RU cnt fv fs rm) rm cnt)).2))), (6, .ref q), (5, .int (zI v5)), (4, .int (zI sc)), (3, .int (zI (cnt : Int))), (0, .ref h2), (1, .ref hm), (2, .int (zI (p : Int)))]) C dX4_isSame_309 0 rfl (by decide) rfl ?_
                                  refine g_goto 294 C dX4_isSame_312 (by decide) ?_
                                  refine g_loc (L' := [(11, .int (zI ((a : Int) + 1))), (10, .int (zI (k : Int))), (9, .null), (8, .int (zI (((gsm (RV cnt fv) (RU cnt fv fs rm) rm cnt)).2))), (6, .ref q), (5, .int (zI v5)), (4, .int (zI sc)), (3, .int (zI (cnt : Int))), (0, .ref h2), (1, .ref hm), (2, .int (zI (p : Int)))]) [0, 1, 2, 3, 4, 5, 6, 7, 8, 9, 10] rfl ?_
                                  exact ih_294 (a + 1) (by
                                   have : a ≠ cab fv (fv k) cnt := fun e9 => c_306 (by rw [hrk a e9])
                                   omega) (by omega)
                            refine g_loc (L' := [(11, .int (zI 0)), (10, .int (zI (k : Int))), (9, .null), (8, .int (zI (((gsm (RV cnt fv) (RU cnt fv fs rm) rm cnt)).2))), (6, .ref q), (5, .int (zI v5)), (4, .int (zI sc)), (3, .int (zI (cnt : Int))), (0, .ref h2), (1, .ref hm), (2, .int (zI (p : Int)))]) [0, 1, 2, 3, 4, 5, 6, 7, 8, 9, 10] rfl ?_
                            exact loop_294 _ 0 (Nat.zero_le _) (Nat.lt_succ_self _)
                      refine g_loc (L' := [(10, .int (zI 0)), (9, .null), (8, .int (zI (((gsm (RV cnt fv) (RU cnt fv fs rm) rm cnt)).2))), (6, .ref q), (5, .int (zI v5)), (4, .int (zI sc)), (3, .int (zI (cnt : Int))), (0, .ref h2), (1, .ref hm), (2, .int (zI (p : Int)))]) [0, 1, 3, 5, 6, 7, 8, 9, 10, 11] rfl ?_
                      refine g_widen (k' := 840) (n' := 6800) (by dsimp only [rmX4_sorted, rmX4_gets, rmX4_sum, rmX4_many, rmX3_overpay, rmX3_stampsFor, rmX3_canPay]; omega) (by dsimp only [rmX4_sorted, rmX4_gets, rmX4_sum, rmX4_many, rmX3_overpay, rmX3_stampsFor, rmX3_canPay]; omega) ?_
                      exact loop_285 _ 0 w9 (Nat.zero_le _) hX (Nat.lt_succ_self _)
                    · exfalso; omega
              · refine g_ws (w' := (((((wG q cG cnt (rN (srt ra fv cnt) cnt)) ++ (w1)) ++ (wZ h2 sa rm lt tk ov nw1 bs1 x1 y1)) ++ (wG sa cG cnt (rN ra cnt))) ++ ([(ba, .inl (cI, cnt, .inl (zA g)))])) ++ (wQ ra cI fv fs fd cnt)) (by simp only [List.append_assoc]) rfl ?_
                refine g_mods [wG q cG cnt (rN (srt ra fv cnt) cnt), w1, wZ h2 sa rm lt tk ov nw1 bs1 x1 y1, wG sa cG cnt (rN ra cnt), [(ba, .inl (cI, cnt, .inl (zA g)))], wQ ra cI fv fs fd cnt] [wZ h2 sa rm lt tk ov nw1 bs1 x1 y1, wG sa cG cnt (rN ra cnt), wG q cG cnt (rN (srt ra fv cnt) cnt), [(ba, .inl (cI, cnt, .inl (zA g)))], w1, wQ ra cI fv fs fd cnt] [2, 3, 0, 4, 1, 5] (by decide) rfl ?_
                refine g_ws (w' := (((((wZ h2 sa rm lt tk ov nw1 bs1 x1 y1) ++ (wG sa cG cnt (rN ra cnt))) ++ (wG q cG cnt (rN (srt ra fv cnt) cnt))) ++ ([(ba, .inl (cI, cnt, .inl (zA g)))])) ++ (w1)) ++ (wQ ra cI fv fs fd cnt)) rfl rfl ?_
                refine g_astore (L' := [(9, .ref ba), (11, .int (zI (cnt : Int))), (10, .int (zI (cnt : Int))), (8, .int (zI (((gsm (RV cnt fv) (RU cnt fv fs rm) rm cnt)).2))), (7, .int (zI (((gsm (RV cnt fv) (RU cnt fv fs rm) rm cnt)).1))), (6, .ref q), (5, .int (zI v5)), (4, .int (zI sc)), (3, .int (zI (cnt : Int))), (0, .ref h2), (1, .ref hm), (2, .int (zI (p : Int)))]) C dX4_isSame_203 (by decide) rfl ?_
                refine g_aload_n C dX4_isSame_205 10 rfl ?_
                refine g_iload_n C dX4_isSame_206 11 rfl ?_
                refine g_mods [wZ h2 sa rm lt tk ov nw1 bs1 x1 y1, wG sa cG cnt (rN ra cnt), wG q cG cnt (rN (srt ra fv cnt) cnt), [(ba, .inl (cI, cnt, .inl (zA g)))], w1, wQ ra cI fv fs fd cnt] [wZ h2 sa rm lt tk ov nw1 bs1 x1 y1, wG sa cG cnt (rN ra cnt), wG q cG cnt (rN (srt ra fv cnt) cnt), [(ba, .inl (cI, cnt, .inl (zA g)))], wQ ra cI fv fs fd cnt, w1] [0, 1, 2, 3, 5, 4] (by decide) rfl ?_
                refine g_ws (w' := (((((wZ h2 sa rm lt tk ov nw1 bs1 x1 y1) ++ (wG sa cG cnt (rN ra cnt))) ++ (wG q cG cnt (rN (srt ra fv cnt) cnt))) ++ ([(ba, .inl (cI, cnt, .inl (zA g)))])) ++ (wQ ra cI fv fs fd cnt)) ++ (w1)) rfl rfl ?_
                obtain ⟨c20, gv0, gs0, gd0, tc0, tr0, ft0, tv0, tu0, fc0, M0, fa0, fb0, N0, rfl⟩ := hX
                refine g_callVX (wr := ((((wZ h2 sa rm lt tk ov nw1 bs1 x1 y1) ++ (wG sa cG cnt (rN ra cnt))) ++ (wG q cG cnt (rN (srt ra fv cnt) cnt))) ++ ([(ba, .inl (cI, cnt, .inl (zA g)))])) ++ (wQ ra cI fv fs fd cnt)) (st := []) _ _ C cX4_89 (met_X3_overpay l hl9 D cI cG cJ hm ad a2 bd pd cnt fv fs fd rm lt tk ov hI c20 gv0 gs0 gd0 tc0 tr0 ft0 tv0 tu0 fc0 M0 fa0 fb0 N0 (p : Int) (zr_i (by omega) (by omega))) gSp_r (ci := 3) (q0 := ((((((wZ h2 sa rm lt tk ov nw1 bs1 x1 y1) ++ (wG sa cG cnt (rN ra cnt))) ++ (wG q cG cnt (rN (srt ra fv cnt) cnt))) ++ ([(ba, .inl (cI, cnt, .inl (zA g)))])) ++ (wQ ra cI fv fs fd cnt)) : va_W).length) (at_r rfl) rfl (by decide) ⟨by dsimp only [rmX3_overpay, rmX4_isSame]; omega, by dsimp only [rmX3_overpay, rmX4_isSame]; omega⟩ rfl rfl (Nat.le_of_ble_eq_true rfl) dX4_isSame_207 (fun nm9 w9 h9 => ?_) ?_
                · exfalso
                  rcases h9 with ⟨_, h8, _⟩
                  exact h8 ⟨by omega, by omega⟩
                rintro v9 w9 ⟨z9, rfl, hz9, hX⟩
                have ho : z9 = (s : Int) - (p : Int) := hz9.2.trans ((if_neg (show ¬ LSm cnt fv fs rm p = -1 by omega)).trans (by show LSm cnt fv fs rm p - (p : Int) = _; rw [g1]))
                have htot := CHR_tot hS hr g2 g5
                have hTBn := (tb_bd (vs := vsF fv cnt) (us := usF fv fs cnt rm) cnt (fun j hj => by have := hS.vs hj; omega) s).1
                have hTBe : TB cnt fv fs rm s = tb (vsF fv cnt) (usF fv fs cnt rm) cnt s := rfl
                refine g_ws (w' := (((((wZ h2 sa rm lt tk ov nw1 bs1 x1 y1) ++ (wG sa cG cnt (rN ra cnt))) ++ (wG q cG cnt (rN (srt ra fv cnt) cnt))) ++ ([(ba, .inl (cI, cnt, .inl (zA g)))])) ++ (wQ ra cI fv fs fd cnt)) ++ (w9)) (st' := [.int (zI z9)]) (by simp only [List.append_assoc]) rfl ?_
                refine g_mods [wZ h2 sa rm lt tk ov nw1 bs1 x1 y1, wG sa cG cnt (rN ra cnt), wG q cG cnt (rN (srt ra fv cnt) cnt), [(ba, .inl (cI, cnt, .inl (zA g)))], wQ ra cI fv fs fd cnt, w9] [wZ h2 sa rm lt tk ov nw1 bs1 x1 y1, wG sa cG cnt (rN ra cnt), wG q cG cnt (rN (srt ra fv cnt) cnt), [(ba, .inl (cI, cnt, .inl (zA g)))], w9, wQ ra cI fv fs fd cnt] [0, 1, 2, 3, 5, 4] (by decide) rfl ?_
                refine g_ws (w' := (((((wZ h2 sa rm lt tk ov nw1 bs1 x1 y1) ++ (wG sa cG cnt (rN ra cnt))) ++ (wG q cG cnt (rN (srt ra fv cnt) cnt))) ++ ([(ba, .inl (cI, cnt, .inl (zA g)))])) ++ (w9)) ++ (wQ ra cI fv fs fd cnt)) rfl rfl ?_
                refine g_aload C dX4_isSame_210 0 rfl ?_
                refine g_ifnonnullR 219 C dX4_isSame_212 (by decide) ?_
                refine g_aload_n C dX4_isSame_219 9 rfl ?_
                refine g_aload C dX4_isSame_220 0 rfl ?_
                refine g_mods [wZ h2 sa rm lt tk ov nw1 bs1 x1 y1, wG sa cG cnt (rN ra cnt), wG q cG cnt (rN (srt ra fv cnt) cnt), [(ba, .inl (cI, cnt, .inl (zA g)))], w9, wQ ra cI fv fs fd cnt] [wG q cG cnt (rN (srt ra fv cnt) cnt), w9, wZ h2 sa rm lt tk ov nw1 bs1 x1 y1, wG sa cG cnt (rN ra cnt), [(ba, .inl (cI, cnt, .inl (zA g)))], wQ ra cI fv fs fd cnt] [2, 4, 0, 1, 3, 5] (by decide) rfl ?_
                refine g_ws (w' := (((((wG q cG cnt (rN (srt ra fv cnt) cnt)) ++ (w9)) ++ (wZ h2 sa rm lt tk ov nw1 bs1 x1 y1)) ++ (wG sa cG cnt (rN ra cnt))) ++ ([(ba, .inl (cI, cnt, .inl (zA g)))])) ++ (wQ ra cI fv fs fd cnt)) rfl rfl ?_
                refine g_eqw (w' := ((wG q cG cnt (rN (srt ra fv cnt) cnt)) ++ (w9)) ++ ((((wZ h2 sa rm lt tk ov nw1 bs1 x1 y1) ++ (wG sa cG cnt (rN ra cnt))) ++ ([(ba, .inl (cI, cnt, .inl (zA g)))])) ++ (wQ ra cI fv fs fd cnt))) (by simp only [List.append_assoc]) ?_
                refine g_callV (wr := (wG q cG cnt (rN (srt ra fv cnt) cnt)) ++ (w9)) (st := [.int (zI z9)]) _ _ C cX4_92 (met_X4_sum l D cI cG cJ h2 sa ra cnt hc fv fs fd hS rm lt tk ov nw1 bs1 x1 y1 ba g) gSp_r (ci := 4) (q0 := (((wG q cG cnt (rN (srt ra fv cnt) cnt)) ++ (w9)) : va_W).length) (at_r rfl) rfl (by decide) ⟨by dsimp only [rmX4_sum, rmX4_isSame]; omega, by dsimp only [rmX4_sum, rmX4_isSame]; omega⟩ rfl rfl (Nat.le_of_ble_eq_true rfl) dX4_isSame_222 ?_
                rintro v9 w9 ⟨z8, rfl, rfl, rfl⟩
                refine g_ws (w' := (((((wG q cG cnt (rN (srt ra fv cnt) cnt)) ++ (w9)) ++ (wZ h2 sa rm lt tk ov nw1 bs1 x1 y1)) ++ (wG sa cG cnt (rN ra cnt))) ++ ([(ba, .inl (cI, cnt, .inl (zA g)))])) ++ (wQ ra cI fv fs fd cnt)) (st' := [.int (zI (sumTo (fun r => g r * RV cnt fv r) cnt)), .int (zI z9)]) (by simp only [List.append_assoc]) rfl ?_
                refine g_mods [wG q cG cnt (rN (srt ra fv cnt) cnt), w9, wZ h2 sa rm lt tk ov nw1 bs1 x1 y1, wG sa cG cnt (rN ra cnt), [(ba, .inl (cI, cnt, .inl (zA g)))], wQ ra cI fv fs fd cnt] [wZ h2 sa rm lt tk ov nw1 bs1 x1 y1, wG sa cG cnt (rN ra cnt), wG q cG cnt (rN (srt ra fv cnt) cnt), [(ba, .inl (cI, cnt, .inl (zA g)))], w9, wQ ra cI fv fs fd cnt] [2, 3, 0, 4, 1, 5] (by decide) rfl ?_
                refine g_ws (w' := (((((wZ h2 sa rm lt tk ov nw1 bs1 x1 y1) ++ (wG sa cG cnt (rN ra cnt))) ++ (wG q cG cnt (rN (srt ra fv cnt) cnt))) ++ ([(ba, .inl (cI, cnt, .inl (zA g)))])) ++ (w9)) ++ (wQ ra cI fv fs fd cnt)) rfl rfl ?_
                refine g_top (s : Int) (htot.1) ?_
                refine g_iload_n C dX4_isSame_225 11 rfl ?_
                refine g_isub C dX4_isSame_226 ?_
                refine g_icmp_ne 280 C dX4_isSame_227 (by decide) (zr_i (by omega) (by omega)) (zr_i (by omega) (by omega)) (fun c_227 => ?_) (fun c_227 => ?_)
                · exfalso; omega
                · refine g_aload_n C dX4_isSame_230 10 rfl ?_
                  refine g_iload_n C dX4_isSame_231 11 rfl ?_
                  refine g_mods [wZ h2 sa rm lt tk ov nw1 bs1 x1 y1, wG sa cG cnt (rN ra cnt), wG q cG cnt (rN (srt ra fv cnt) cnt), [(ba, .inl (cI, cnt, .inl (zA g)))], w9, wQ ra cI fv fs fd cnt] [wZ h2 sa rm lt tk ov nw1 bs1 x1 y1, wG sa cG cnt (rN ra cnt), wG q cG cnt (rN (srt ra fv cnt) cnt), [(ba, .inl (cI, cnt, .inl (zA g)))], wQ ra cI fv fs fd cnt, w9] [0, 1, 2, 3, 5, 4] (by decide) rfl ?_
                  refine g_ws (w' := (((((wZ h2 sa rm lt tk ov nw1 bs1 x1 y1) ++ (wG sa cG cnt (rN ra cnt))) ++ (wG q cG cnt (rN (srt ra fv cnt) cnt))) ++ ([(ba, .inl (cI, cnt, .inl (zA g)))])) ++ (wQ ra cI fv fs fd cnt)) ++ (w9)) rfl rfl ?_
                  obtain ⟨c20, gv0, gs0, gd0, tc0, tr0, ft0, tv0, tu0, fc0, M0, fa0, fb0, N0, rfl⟩ := hX
                  refine g_callVX (wr := ((((wZ h2 sa rm lt tk ov nw1 bs1 x1 y1) ++ (wG sa cG cnt (rN ra cnt))) ++ (wG q cG cnt (rN (srt ra fv cnt) cnt))) ++ ([(ba, .inl (cI, cnt, .inl (zA g)))])) ++ (wQ ra cI fv fs fd cnt)) (st := []) _ _ C cX4_96 (met_X3_stampsFor l hl9 D cI cG cJ hm ad a2 bd pd cnt fv fs fd rm lt tk ov hI c20 gv0 gs0 gd0 tc0 tr0 ft0 tv0 tu0 fc0 M0 fa0 fb0 N0 (p : Int) (zr_i (by omega) (by omega))) gSp_r (ci := 3) (q0 := ((((((wZ h2 sa rm lt tk ov nw1 bs1 x1 y1) ++ (wG sa cG cnt (rN ra cnt))) ++ (wG q cG cnt (rN (srt ra fv cnt) cnt))) ++ ([(ba, .inl (cI, cnt, .inl (zA g)))])) ++ (wQ ra cI fv fs fd cnt)) : va_W).length) (at_r rfl) rfl (by decide) ⟨by dsimp only [rmX3_stampsFor, rmX4_isSame]; omega, by dsimp only [rmX3_stampsFor, rmX4_isSame]; omega⟩ rfl rfl (Nat.le_of_ble_eq_true rfl) dX4_isSame_232 (fun nm9 w9 h9 => ?_) ?_
                  · exfalso
                    rcases h9 with ⟨_, h8, _⟩
                    exact h8 ⟨by omega, by omega⟩
                  rintro v9 w9 ⟨z9, rfl, hz9, hX⟩
                  have hs9 : z9 = TB cnt fv fs rm s := hz9.2.trans ((if_neg (show ¬ LSm cnt fv fs rm p = -1 by omega)).trans (by show TB cnt fv fs rm (LSm cnt fv fs rm p).toNat = _; rw [g1, Int.toNat_natCast]))
                  refine g_ws (w' := (((((wZ h2 sa rm lt tk ov nw1 bs1 x1 y1) ++ (wG sa cG cnt (rN ra cnt))) ++ (wG q cG cnt (rN (srt ra fv cnt) cnt))) ++ ([(ba, .inl (cI, cnt, .inl (zA g)))])) ++ (wQ ra cI fv fs fd cnt)) ++ (w9)) (st' := [.int (zI z9)]) (by simp only [List.append_assoc]) rfl ?_
                  refine g_mods [wZ h2 sa rm lt tk ov nw1 bs1 x1 y1, wG sa cG cnt (rN ra cnt), wG q cG cnt (rN (srt ra fv cnt) cnt), [(ba, .inl (cI, cnt, .inl (zA g)))], wQ ra cI fv fs fd cnt, w9] [wZ h2 sa rm lt tk ov nw1 bs1 x1 y1, wG sa cG cnt (rN ra cnt), wG q cG cnt (rN (srt ra fv cnt) cnt), [(ba, .inl (cI, cnt, .inl (zA g)))], w9, wQ ra cI fv fs fd cnt] [0, 1, 2, 3, 5, 4] (by decide) rfl ?_
                  refine g_ws (w' := (((((wZ h2 sa rm lt tk ov nw1 bs1 x1 y1) ++ (wG sa cG cnt (rN ra cnt))) ++ (wG q cG cnt (rN (srt ra fv cnt) cnt))) ++ ([(ba, .inl (cI, cnt, .inl (zA g)))])) ++ (w9)) ++ (wQ ra cI fv fs fd cnt)) rfl rfl ?_
                  refine g_aload C dX4_isSame_235 0 rfl ?_
                  refine g_ifnonnullR 244 C dX4_isSame_237 (by decide) ?_
                  refine g_aload C dX4_isSame_244 0 rfl ?_
                  refine g_mods [wZ h2 sa rm lt tk ov nw1 bs1 x1 y1, wG sa cG cnt (rN ra cnt), wG q cG cnt (rN (srt ra fv cnt) cnt), [(ba, .inl (cI, cnt, .inl (zA g)))], w9, wQ ra cI fv fs fd cnt] [wZ h2 sa rm lt tk ov nw1 bs1 x1 y1, wG sa cG cnt (rN ra cnt), wG q cG cnt (rN (srt ra fv cnt) cnt), w9, wQ ra cI fv fs fd cnt, [(ba, .inl (cI, cnt, .inl (zA g)))]] [0, 1, 2, 4, 5, 3] (by decide) rfl ?_
                  refine g_ws (w' := (((((wZ h2 sa rm lt tk ov nw1 bs1 x1 y1) ++ (wG sa cG cnt (rN ra cnt))) ++ (wG q cG cnt (rN (srt ra fv cnt) cnt))) ++ (w9)) ++ (wQ ra cI fv fs fd cnt)) ++ ([(ba, .inl (cI, cnt, .inl (zA g)))])) rfl rfl ?_
                  refine g_callS (wr := ((((wZ h2 sa rm lt tk ov nw1 bs1 x1 y1) ++ (wG sa cG cnt (rN ra cnt))) ++ (wG q cG cnt (rN (srt ra fv cnt) cnt))) ++ (w9)) ++ (wQ ra cI fv fs fd cnt)) (st := [.int (zI z9)]) _ _ C cX4_99 (met_X4_many l D cI cG cJ ba cnt hc g) gSp_r (by decide) ⟨by dsimp only [rmX4_many, rmX4_isSame]; omega, by dsimp only [rmX4_many, rmX4_isSame]; omega⟩ rfl rfl (Nat.le_of_ble_eq_true rfl) dX4_isSame_246 ?_
                  rintro v9 w9 ⟨z8, rfl, rfl, rfl⟩
                  refine g_ws (w' := (((((wZ h2 sa rm lt tk ov nw1 bs1 x1 y1) ++ (wG sa cG cnt (rN ra cnt))) ++ (wG q cG cnt (rN (srt ra fv cnt) cnt))) ++ (w9)) ++ (wQ ra cI fv fs fd cnt)) ++ ([(ba, .inl (cI, cnt, .inl (zA g)))])) (st' := [.int (zI (sumTo g cnt)), .int (zI z9)]) (by simp only [List.append_assoc]) rfl ?_
                  refine g_mods [wZ h2 sa rm lt tk ov nw1 bs1 x1 y1, wG sa cG cnt (rN ra cnt), wG q cG cnt (rN (srt ra fv cnt) cnt), w9, wQ ra cI fv fs fd cnt, [(ba, .inl (cI, cnt, .inl (zA g)))]] [wZ h2 sa rm lt tk ov nw1 bs1 x1 y1, wG sa cG cnt (rN ra cnt), wG q cG cnt (rN (srt ra fv cnt) cnt), [(ba, .inl (cI, cnt, .inl (zA g)))], w9, wQ ra cI fv fs fd cnt] [0, 1, 2, 5, 3, 4] (by decide) rfl ?_
                  refine g_ws (w' := (((((wZ h2 sa rm lt tk ov nw1 bs1 x1 y1) ++ (wG sa cG cnt (rN ra cnt))) ++ (wG q cG cnt (rN (srt ra fv cnt) cnt))) ++ ([(ba, .inl (cI, cnt, .inl (zA g)))])) ++ (w9)) ++ (wQ ra cI fv fs fd cnt)) rfl rfl ?_
                  refine g_top (TB cnt fv fs rm s) (htot.2) ?_
                  refine g_icmp_ne 280 C dX4_isSame_249 (by decide) (zr_i (by omega) (by omega)) (zr_i (by omega) (by omega)) (fun c_249 => ?_) (fun c_249 => ?_)
                  · exfalso; omega
                  · refine g_aload_n C dX4_isSame_252 10 rfl ?_
                    refine g_iload_n C dX4_isSame_253 11 rfl ?_
                    refine g_mods [wZ h2 sa rm lt tk ov nw1 bs1 x1 y1, wG sa cG cnt (rN ra cnt), wG q cG cnt (rN (srt ra fv cnt) cnt), [(ba, .inl (cI, cnt, .inl (zA g)))], w9, wQ ra cI fv fs fd cnt] [wZ h2 sa rm lt tk ov nw1 bs1 x1 y1, wG sa cG cnt (rN ra cnt), wG q cG cnt (rN (srt ra fv cnt) cnt), [(ba, .inl (cI, cnt, .inl (zA g)))], wQ ra cI fv fs fd cnt, w9] [0, 1, 2, 3, 5, 4] (by decide) rfl ?_
                    refine g_ws (w' := (((((wZ h2 sa rm lt tk ov nw1 bs1 x1 y1) ++ (wG sa cG cnt (rN ra cnt))) ++ (wG q cG cnt (rN (srt ra fv cnt) cnt))) ++ ([(ba, .inl (cI, cnt, .inl (zA g)))])) ++ (wQ ra cI fv fs fd cnt)) ++ (w9)) rfl rfl ?_
                    obtain ⟨c20, gv0, gs0, gd0, tc0, tr0, ft0, tv0, tu0, fc0, M0, fa0, fb0, N0, rfl⟩ := hX
                    refine g_callVX (wr := ((((wZ h2 sa rm lt tk ov nw1 bs1 x1 y1) ++ (wG sa cG cnt (rN ra cnt))) ++ (wG q cG cnt (rN (srt ra fv cnt) cnt))) ++ ([(ba, .inl (cI, cnt, .inl (zA g)))])) ++ (wQ ra cI fv fs fd cnt)) (st := []) _ _ C cX4_102 (met_X3_canPay l hl9 D cI cG cJ hm ad a2 bd pd cnt fv fs fd rm lt tk ov hI c20 gv0 gs0 gd0 tc0 tr0 ft0 tv0 tu0 fc0 M0 fa0 fb0 N0 (p : Int) (zr_i (by omega) (by omega))) gSp_r (ci := 3) (q0 := ((((((wZ h2 sa rm lt tk ov nw1 bs1 x1 y1) ++ (wG sa cG cnt (rN ra cnt))) ++ (wG q cG cnt (rN (srt ra fv cnt) cnt))) ++ ([(ba, .inl (cI, cnt, .inl (zA g)))])) ++ (wQ ra cI fv fs fd cnt)) : va_W).length) (at_r rfl) rfl (by decide) ⟨by dsimp only [rmX3_canPay, rmX4_isSame]; omega, by dsimp only [rmX3_canPay, rmX4_isSame]; omega⟩ rfl rfl (Nat.le_of_ble_eq_true rfl) dX4_isSame_254 (fun nm9 w9 h9 => ?_) ?_
                    · exfalso
                      rcases h9 with ⟨_, h8, _⟩
                      exact h8 ⟨by omega, by omega⟩
                    rintro v9 w9 ⟨z9, rfl, hz9, hX⟩
                    have hcan := f_can (cnt := cnt) (fv := fv) (fs := fs) (rm := rm) (p := p) (by omega)
                    have hcz : (TB cnt fv fs rm p ≤ rm ∧ z9 = 1) ∨ (¬ TB cnt fv fs rm p ≤ rm ∧ z9 = 0) := by
                      by_cases h9 : TB cnt fv fs rm p ≤ rm
                      · exact Or.inl ⟨h9, hz9.2.trans (if_pos h9)⟩
                      · exact Or.inr ⟨h9, hz9.2.trans (if_neg h9)⟩
                    refine g_ws (w' := (((((wZ h2 sa rm lt tk ov nw1 bs1 x1 y1) ++ (wG sa cG cnt (rN ra cnt))) ++ (wG q cG cnt (rN (srt ra fv cnt) cnt))) ++ ([(ba, .inl (cI, cnt, .inl (zA g)))])) ++ (wQ ra cI fv fs fd cnt)) ++ (w9)) (st' := [.int (zI z9)]) (by simp only [List.append_assoc]) rfl ?_
                    refine g_mods [wZ h2 sa rm lt tk ov nw1 bs1 x1 y1, wG sa cG cnt (rN ra cnt), wG q cG cnt (rN (srt ra fv cnt) cnt), [(ba, .inl (cI, cnt, .inl (zA g)))], wQ ra cI fv fs fd cnt, w9] [wZ h2 sa rm lt tk ov nw1 bs1 x1 y1, wG sa cG cnt (rN ra cnt), wG q cG cnt (rN (srt ra fv cnt) cnt), [(ba, .inl (cI, cnt, .inl (zA g)))], w9, wQ ra cI fv fs fd cnt] [0, 1, 2, 3, 5, 4] (by decide) rfl ?_
                    refine g_ws (w' := (((((wZ h2 sa rm lt tk ov nw1 bs1 x1 y1) ++ (wG sa cG cnt (rN ra cnt))) ++ (wG q cG cnt (rN (srt ra fv cnt) cnt))) ++ ([(ba, .inl (cI, cnt, .inl (zA g)))])) ++ (w9)) ++ (wQ ra cI fv fs fd cnt)) rfl rfl ?_
                    refine g_aload C dX4_isSame_257 0 rfl ?_
                    refine g_ifnullR C dX4_isSame_259 ?_
                    refine g_aload_n C dX4_isSame_262 9 rfl ?_
                    refine g_aload C dX4_isSame_263 0 rfl ?_
                    refine g_mods [wZ h2 sa rm lt tk ov nw1 bs1 x1 y1, wG sa cG cnt (rN ra cnt), wG q cG cnt (rN (srt ra fv cnt) cnt), [(ba, .inl (cI, cnt, .inl (zA g)))], w9, wQ ra cI fv fs fd cnt] [wG q cG cnt (rN (srt ra fv cnt) cnt), w9, wZ h2 sa rm lt tk ov nw1 bs1 x1 y1, wG sa cG cnt (rN ra cnt), [(ba, .inl (cI, cnt, .inl (zA g)))], wQ ra cI fv fs fd cnt] [2, 4, 0, 1, 3, 5] (by decide) rfl ?_
                    refine g_ws (w' := (((((wG q cG cnt (rN (srt ra fv cnt) cnt)) ++ (w9)) ++ (wZ h2 sa rm lt tk ov nw1 bs1 x1 y1)) ++ (wG sa cG cnt (rN ra cnt))) ++ ([(ba, .inl (cI, cnt, .inl (zA g)))])) ++ (wQ ra cI fv fs fd cnt)) rfl rfl ?_
                    refine g_eqw (w' := ((wG q cG cnt (rN (srt ra fv cnt) cnt)) ++ (w9)) ++ ((((wZ h2 sa rm lt tk ov nw1 bs1 x1 y1) ++ (wG sa cG cnt (rN ra cnt))) ++ ([(ba, .inl (cI, cnt, .inl (zA g)))])) ++ (wQ ra cI fv fs fd cnt))) (by simp only [List.append_assoc]) ?_
                    refine g_callV (wr := (wG q cG cnt (rN (srt ra fv cnt) cnt)) ++ (w9)) (st := [.int (zI z9)]) _ _ C cX4_92 (met_X4_sum l D cI cG cJ h2 sa ra cnt hc fv fs fd hS rm lt tk ov nw1 bs1 x1 y1 ba g) gSp_r (ci := 4) (q0 := (((wG q cG cnt (rN (srt ra fv cnt) cnt)) ++ (w9)) : va_W).length) (at_r rfl) rfl (by decide) ⟨by dsimp only [rmX4_sum, rmX4_isSame]; omega, by dsimp only [rmX4_sum, rmX4_isSame]; omega⟩ rfl rfl (Nat.le_of_ble_eq_true rfl) dX4_isSame_265 ?_
                    rintro v9 w9 ⟨z8, rfl, rfl, rfl⟩
                    refine g_ws (w' := (((((wG q cG cnt (rN (srt ra fv cnt) cnt)) ++ (w9)) ++ (wZ h2 sa rm lt tk ov nw1 bs1 x1 y1)) ++ (wG sa cG cnt (rN ra cnt))) ++ ([(ba, .inl (cI, cnt, .inl (zA g)))])) ++ (wQ ra cI fv fs fd cnt)) (st' := [.int (zI (sumTo (fun r => g r * RV cnt fv r) cnt)), .int (zI z9)]) (by simp only [List.append_assoc]) rfl ?_
                    refine g_mods [wG q cG cnt (rN (srt ra fv cnt) cnt), w9, wZ h2 sa rm lt tk ov nw1 bs1 x1 y1, wG sa cG cnt (rN ra cnt), [(ba, .inl (cI, cnt, .inl (zA g)))], wQ ra cI fv fs fd cnt] [wZ h2 sa rm lt tk ov nw1 bs1 x1 y1, wG sa cG cnt (rN ra cnt), wG q cG cnt (rN (srt ra fv cnt) cnt), [(ba, .inl (cI, cnt, .inl (zA g)))], w9, wQ ra cI fv fs fd cnt] [2, 3, 0, 4, 1, 5] (by decide) rfl ?_
                    refine g_ws (w' := (((((wZ h2 sa rm lt tk ov nw1 bs1 x1 y1) ++ (wG sa cG cnt (rN ra cnt))) ++ (wG q cG cnt (rN (srt ra fv cnt) cnt))) ++ ([(ba, .inl (cI, cnt, .inl (zA g)))])) ++ (w9)) ++ (wQ ra cI fv fs fd cnt)) rfl rfl ?_
                    refine g_top (s : Int) (htot.1) ?_
                    refine g_iload_n C dX4_isSame_268 11 rfl ?_
                    refine g_icmp_ne 276 C dX4_isSame_269 (by decide) (zr_i (by omega) (by omega)) (zr_i (by omega) (by omega)) (fun c_269 => ?_) (fun c_269 => ?_)
                    · refine g_iconst C dX4_isSame_276 ?_
                      refine g_icmp_eq 282 C dX4_isSame_277 (by decide) (zr_i (by omega) (by omega)) (zr_i (by omega) (by omega)) (fun c_277 => ?_) (fun c_277 => ?_)
                      · refine g_apart (fun hap => ?_)
                        have hinj := wQ_inj hap
                        refine g_iconst C dX4_isSame_282 ?_
                        refine g_istore (L' := [(10, .int (zI 0)), (9, .ref ba), (11, .int (zI (cnt : Int))), (8, .int (zI (((gsm (RV cnt fv) (RU cnt fv fs rm) rm cnt)).2))), (7, .int (zI (((gsm (RV cnt fv) (RU cnt fv fs rm) rm cnt)).1))), (6, .ref q), (5, .int (zI v5)), (4, .int (zI sc)), (3, .int (zI (cnt : Int))), (0, .ref h2), (1, .ref hm), (2, .int (zI (p : Int)))]) C dX4_isSame_283 (by decide) rfl ?_
                        have loop_285 : ∀ (fu : Nat) (k : Nat) (w1 : va_W), (hk : k ≤ cnt) → (hX : XW hm ad a2 bd pd cI cG cnt fv fs fd rm lt tk ov w1) → cnt - k < fu → gW E (840 + 2 * k) (6800 + 12 * k) ((((((wZ h2 sa rm lt tk ov nw1 bs1 x1 y1) ++ (wG sa cG cnt (rN ra cnt))) ++ (wG q cG cnt (rN (srt ra fv cnt) cnt))) ++ ([(ba, .inl (cI, cnt, .inl (zA g)))])) ++ (w1)) ++ (wQ ra cI fv fs fd cnt)) 285 [(10, .int (zI (k : Int))), (9, .ref ba), (8, .int (zI (((gsm (RV cnt fv) (RU cnt fv fs rm) rm cnt)).2))), (6, .ref q), (5, .int (zI v5)), (4, .int (zI sc)), (3, .int (zI (cnt : Int))), (0, .ref h2), (1, .ref hm), (2, .int (zI (p : Int)))] [] := by
                          intro fu
                          induction fu with
                          | zero => intro k w1 hk hX h9; exact absurd h9 (Nat.not_lt_zero _)
                          | succ fu ih_285 =>
                            intro k w1 hk hX hmu_285
                            refine g_iload C dX4_isSame_285 0 rfl ?_
                            refine g_iload_n C dX4_isSame_287 6 rfl ?_
                            refine g_icmp_ge 347 C dX4_isSame_288 (by decide) (zr_i (by omega) (by omega)) (zr_i (by omega) (by omega)) (fun c_288 => ?_) (fun c_288 => ?_)
                            · have hv6 : v5 = vsum fv cnt := by rw [hv5]; show vsum fv cnt - 0 = _; omega
                              have hGS : GS cnt fv fs rm = (gsm (RV cnt fv) (RU cnt fv fs rm) rm cnt).2 := rfl
                              obtain ⟨q1, q2, q3, q4, q5, q6⟩ := id hY
                              have hgb2 := f_gs hI
                              have hRC := rch_bd (f := TB cnt fv fs rm) (rm := rm) 300 0
                              have hRC2 : RC cnt fv fs rm ≤ 300 := by show rch _ _ 300 0 ≤ 300; omega
                              have hvb := vsum_bd cnt hS.1
                              have hscb : -1 ≤ sc ∧ sc ≤ 8 := by
                                rcases hsc with ⟨e, _⟩ | ⟨i, e, _, e2, _⟩ <;> omega
                              refine g_aload_n C dX4_isSame_347 8 rfl ?_
                              refine g_mods [wZ h2 sa rm lt tk ov nw1 bs1 x1 y1, wG sa cG cnt (rN ra cnt), wG q cG cnt (rN (srt ra fv cnt) cnt), [(ba, .inl (cI, cnt, .inl (zA g)))], w1, wQ ra cI fv fs fd cnt] [wZ h2 sa rm lt tk ov nw1 bs1 x1 y1, wG sa cG cnt (rN ra cnt), wG q cG cnt (rN (srt ra fv cnt) cnt), [(ba, .inl (cI, cnt, .inl (zA g)))], wQ ra cI fv fs fd cnt, w1] [0, 1, 2, 3, 5, 4] (by decide) rfl ?_
                              refine g_ws (w' := (((((wZ h2 sa rm lt tk ov nw1 bs1 x1 y1) ++ (wG sa cG cnt (rN ra cnt))) ++ (wG q cG cnt (rN (srt ra fv cnt) cnt))) ++ ([(ba, .inl (cI, cnt, .inl (zA g)))])) ++ (wQ ra cI fv fs fd cnt)) ++ (w1)) rfl rfl ?_
                              obtain ⟨c20, gv0, gs0, gd0, tc0, tr0, ft0, tv0, tu0, fc0, M0, fa0, fb0, N0, rfl⟩ := hX
                              refine g_callV (wr := ((((wZ h2 sa rm lt tk ov nw1 bs1 x1 y1) ++ (wG sa cG cnt (rN ra cnt))) ++ (wG q cG cnt (rN (srt ra fv cnt) cnt))) ++ ([(ba, .inl (cI, cnt, .inl (zA g)))])) ++ (wQ ra cI fv fs fd cnt)) (st := []) _ _ C cX4_109 (met_X3_stamps l D cI cG cJ hm ad a2 bd pd cnt fv fs fd rm lt tk ov hI c20 gv0 gs0 gd0 tc0 tr0 ft0 tv0 tu0 fc0 M0 fa0 fb0 N0 ) gSp_r (ci := 3) (q0 := ((((((wZ h2 sa rm lt tk ov nw1 bs1 x1 y1) ++ (wG sa cG cnt (rN ra cnt))) ++ (wG q cG cnt (rN (srt ra fv cnt) cnt))) ++ ([(ba, .inl (cI, cnt, .inl (zA g)))])) ++ (wQ ra cI fv fs fd cnt)) : va_W).length) (at_r rfl) rfl (by decide) ⟨by dsimp only [rmX3_stamps, rmX4_isSame]; omega, by dsimp only [rmX3_stamps, rmX4_isSame]; omega⟩ rfl rfl (Nat.le_of_ble_eq_true rfl) dX4_isSame_348 ?_
                              rintro v9 w9 ⟨z9, rfl, hz9, hX⟩
                              have hz8 : z9 = (cnt : Int) := hz9
                              refine g_ws (w' := (((((wZ h2 sa rm lt tk ov nw1 bs1 x1 y1) ++ (wG sa cG cnt (rN ra cnt))) ++ (wG q cG cnt (rN (srt ra fv cnt) cnt))) ++ ([(ba, .inl (cI, cnt, .inl (zA g)))])) ++ (wQ ra cI fv fs fd cnt)) ++ (w9)) (st' := [.int (zI z9)]) (by simp only [List.append_assoc]) rfl ?_
                              refine g_mods [wZ h2 sa rm lt tk ov nw1 bs1 x1 y1, wG sa cG cnt (rN ra cnt), wG q cG cnt (rN (srt ra fv cnt) cnt), [(ba, .inl (cI, cnt, .inl (zA g)))], wQ ra cI fv fs fd cnt, w9] [wZ h2 sa rm lt tk ov nw1 bs1 x1 y1, wG sa cG cnt (rN ra cnt), wG q cG cnt (rN (srt ra fv cnt) cnt), [(ba, .inl (cI, cnt, .inl (zA g)))], w9, wQ ra cI fv fs fd cnt] [0, 1, 2, 3, 5, 4] (by decide) rfl ?_
                              refine g_ws (w' := (((((wZ h2 sa rm lt tk ov nw1 bs1 x1 y1) ++ (wG sa cG cnt (rN ra cnt))) ++ (wG q cG cnt (rN (srt ra fv cnt) cnt))) ++ ([(ba, .inl (cI, cnt, .inl (zA g)))])) ++ (w9)) ++ (wQ ra cI fv fs fd cnt)) rfl rfl ?_
                              refine g_iload_n C dX4_isSame_351 6 rfl ?_
                              refine g_icmp_ne 454 C dX4_isSame_352 (by decide) (zr_i (by omega) (by omega)) (zr_i (by omega) (by omega)) (fun c_352 => ?_) (fun c_352 => ?_)
                              · exfalso; omega
                              · refine g_aload_n C dX4_isSame_355 8 rfl ?_
                                refine g_mods [wZ h2 sa rm lt tk ov nw1 bs1 x1 y1, wG sa cG cnt (rN ra cnt), wG q cG cnt (rN (srt ra fv cnt) cnt), [(ba, .inl (cI, cnt, .inl (zA g)))], w9, wQ ra cI fv fs fd cnt] [wZ h2 sa rm lt tk ov nw1 bs1 x1 y1, wG sa cG cnt (rN ra cnt), wG q cG cnt (rN (srt ra fv cnt) cnt), [(ba, .inl (cI, cnt, .inl (zA g)))], wQ ra cI fv fs fd cnt, w9] [0, 1, 2, 3, 5, 4] (by decide) rfl ?_
                                refine g_ws (w' := (((((wZ h2 sa rm lt tk ov nw1 bs1 x1 y1) ++ (wG sa cG cnt (rN ra cnt))) ++ (wG q cG cnt (rN (srt ra fv cnt) cnt))) ++ ([(ba, .inl (cI, cnt, .inl (zA g)))])) ++ (wQ ra cI fv fs fd cnt)) ++ (w9)) rfl rfl ?_
                                obtain ⟨c20, gv0, gs0, gd0, tc0, tr0, ft0, tv0, tu0, fc0, M0, fa0, fb0, N0, rfl⟩ := hX
                                refine g_callV (wr := ((((wZ h2 sa rm lt tk ov nw1 bs1 x1 y1) ++ (wG sa cG cnt (rN ra cnt))) ++ (wG q cG cnt (rN (srt ra fv cnt) cnt))) ++ ([(ba, .inl (cI, cnt, .inl (zA g)))])) ++ (wQ ra cI fv fs fd cnt)) (st := []) _ _ C cX4_112 (met_X3_room l D cI cG cJ hm ad a2 bd pd cnt fv fs fd rm lt tk ov hI c20 gv0 gs0 gd0 tc0 tr0 ft0 tv0 tu0 fc0 M0 fa0 fb0 N0 ) gSp_r (ci := 3) (q0 := ((((((wZ h2 sa rm lt tk ov nw1 bs1 x1 y1) ++ (wG sa cG cnt (rN ra cnt))) ++ (wG q cG cnt (rN (srt ra fv cnt) cnt))) ++ ([(ba, .inl (cI, cnt, .inl (zA g)))])) ++ (wQ ra cI fv fs fd cnt)) : va_W).length) (at_r rfl) rfl (by decide) ⟨by dsimp only [rmX3_room, rmX4_isSame]; omega, by dsimp only [rmX3_room, rmX4_isSame]; omega⟩ rfl rfl (Nat.le_of_ble_eq_true rfl) dX4_isSame_356 ?_
                                rintro v9 w9 ⟨z9, rfl, hz9, hX⟩
                                have hz8 : z9 = rm := hz9
                                refine g_ws (w' := (((((wZ h2 sa rm lt tk ov nw1 bs1 x1 y1) ++ (wG sa cG cnt (rN ra cnt))) ++ (wG q cG cnt (rN (srt ra fv cnt) cnt))) ++ ([(ba, .inl (cI, cnt, .inl (zA g)))])) ++ (wQ ra cI fv fs fd cnt)) ++ (w9)) (st' := [.int (zI z9)]) (by simp only [List.append_assoc]) rfl ?_
                                refine g_mods [wZ h2 sa rm lt tk ov nw1 bs1 x1 y1, wG sa cG cnt (rN ra cnt), wG q cG cnt (rN (srt ra fv cnt) cnt), [(ba, .inl (cI, cnt, .inl (zA g)))], wQ ra cI fv fs fd cnt, w9] [wZ h2 sa rm lt tk ov nw1 bs1 x1 y1, wG sa cG cnt (rN ra cnt), wG q cG cnt (rN (srt ra fv cnt) cnt), [(ba, .inl (cI, cnt, .inl (zA g)))], w9, wQ ra cI fv fs fd cnt] [0, 1, 2, 3, 5, 4] (by decide) rfl ?_
                                refine g_ws (w' := (((((wZ h2 sa rm lt tk ov nw1 bs1 x1 y1) ++ (wG sa cG cnt (rN ra cnt))) ++ (wG q cG cnt (rN (srt ra fv cnt) cnt))) ++ ([(ba, .inl (cI, cnt, .inl (zA g)))])) ++ (w9)) ++ (wQ ra cI fv fs fd cnt)) rfl rfl ?_
                                refine g_aload_n C dX4_isSame_359 7 rfl ?_
                                refine g_getf C fX4_7 0 rfl rfl dX4_isSame_360 ?_
                                refine g_icmp_ne 454 C dX4_isSame_363 (by decide) (zr_i (by omega) (by omega)) (zr_i (by omega) (by omega)) (fun c_363 => ?_) (fun c_363 => ?_)
                                · exfalso; omega
                                · refine g_aload_n C dX4_isSame_366 8 rfl ?_
                                  refine g_mods [wZ h2 sa rm lt tk ov nw1 bs1 x1 y1, wG sa cG cnt (rN ra cnt), wG q cG cnt (rN (srt ra fv cnt) cnt), [(ba, .inl (cI, cnt, .inl (zA g)))], w9, wQ ra cI fv fs fd cnt] [wZ h2 sa rm lt tk ov nw1 bs1 x1 y1, wG sa cG cnt (rN ra cnt), wG q cG cnt (rN (srt ra fv cnt) cnt), [(ba, .inl (cI, cnt, .inl (zA g)))], wQ ra cI fv fs fd cnt, w9] [0, 1, 2, 3, 5, 4] (by decide) rfl ?_
                                  refine g_ws (w' := (((((wZ h2 sa rm lt tk ov nw1 bs1 x1 y1) ++ (wG sa cG cnt (rN ra cnt))) ++ (wG q cG cnt (rN (srt ra fv cnt) cnt))) ++ ([(ba, .inl (cI, cnt, .inl (zA g)))])) ++ (wQ ra cI fv fs fd cnt)) ++ (w9)) rfl rfl ?_
                                  obtain ⟨c20, gv0, gs0, gd0, tc0, tr0, ft0, tv0, tu0, fc0, M0, fa0, fb0, N0, rfl⟩ := hX
                                  refine g_callV (wr := ((((wZ h2 sa rm lt tk ov nw1 bs1 x1 y1) ++ (wG sa cG cnt (rN ra cnt))) ++ (wG q cG cnt (rN (srt ra fv cnt) cnt))) ++ ([(ba, .inl (cI, cnt, .inl (zA g)))])) ++ (wQ ra cI fv fs fd cnt)) (st := []) _ _ C cX4_114 (met_X3_letters l D cI cG cJ hm ad a2 bd pd cnt fv fs fd rm lt tk ov hI c20 gv0 gs0 gd0 tc0 tr0 ft0 tv0 tu0 fc0 M0 fa0 fb0 N0 ) gSp_r (ci := 3) (q0 := ((((((wZ h2 sa rm lt tk ov nw1 bs1 x1 y1) ++ (wG sa cG cnt (rN ra cnt))) ++ (wG q cG cnt (rN (srt ra fv cnt) cnt))) ++ ([(ba, .inl (cI, cnt, .inl (zA g)))])) ++ (wQ ra cI fv fs fd cnt)) : va_W).length) (at_r rfl) rfl (by decide) ⟨by dsimp only [rmX3_letters, rmX4_isSame]; omega, by dsimp only [rmX3_letters, rmX4_isSame]; omega⟩ rfl rfl (Nat.le_of_ble_eq_true rfl) dX4_isSame_367 ?_
                                  rintro v9 w9 ⟨z9, rfl, hz9, hX⟩
                                  have hz8 : z9 = lt := hz9
                                  refine g_ws (w' := (((((wZ h2 sa rm lt tk ov nw1 bs1 x1 y1) ++ (wG sa cG cnt (rN ra cnt))) ++ (wG q cG cnt (rN (srt ra fv cnt) cnt))) ++ ([(ba, .inl (cI, cnt, .inl (zA g)))])) ++ (wQ ra cI fv fs fd cnt)) ++ (w9)) (st' := [.int (zI z9)]) (by simp only [List.append_assoc]) rfl ?_
                                  refine g_mods [wZ h2 sa rm lt tk ov nw1 bs1 x1 y1, wG sa cG cnt (rN ra cnt), wG q cG cnt (rN (srt ra fv cnt) cnt), [(ba, .inl (cI, cnt, .inl (zA g)))], wQ ra cI fv fs fd cnt, w9] [wZ h2 sa rm lt tk ov nw1 bs1 x1 y1, wG sa cG cnt (rN ra cnt), wG q cG cnt (rN (srt ra fv cnt) cnt), [(ba, .inl (cI, cnt, .inl (zA g)))], w9, wQ ra cI fv fs fd cnt] [0, 1, 2, 3, 5, 4] (by decide) rfl ?_
                                  refine g_ws (w' := (((((wZ h2 sa rm lt tk ov nw1 bs1 x1 y1) ++ (wG sa cG cnt (rN ra cnt))) ++ (wG q cG cnt (rN (srt ra fv cnt) cnt))) ++ ([(ba, .inl (cI, cnt, .inl (zA g)))])) ++ (w9)) ++ (wQ ra cI fv fs fd cnt)) rfl rfl ?_
                                  refine g_aload_n C dX4_isSame_370 7 rfl ?_
                                  refine g_getf C fX4_24 0 rfl rfl dX4_isSame_371 ?_
                                  refine g_icmp_ne 454 C dX4_isSame_374 (by decide) (zr_i (by omega) (by omega)) (zr_i (by omega) (by omega)) (fun c_374 => ?_) (fun c_374 => ?_)
                                  · exfalso; omega
                                  · refine g_aload_n C dX4_isSame_377 8 rfl ?_
                                    refine g_mods [wZ h2 sa rm lt tk ov nw1 bs1 x1 y1, wG sa cG cnt (rN ra cnt), wG q cG cnt (rN (srt ra fv cnt) cnt), [(ba, .inl (cI, cnt, .inl (zA g)))], w9, wQ ra cI fv fs fd cnt] [wZ h2 sa rm lt tk ov nw1 bs1 x1 y1, wG sa cG cnt (rN ra cnt), wG q cG cnt (rN (srt ra fv cnt) cnt), [(ba, .inl (cI, cnt, .inl (zA g)))], wQ ra cI fv fs fd cnt, w9] [0, 1, 2, 3, 5, 4] (by decide) rfl ?_
                                    refine g_ws (w' := (((((wZ h2 sa rm lt tk ov nw1 bs1 x1 y1) ++ (wG sa cG cnt (rN ra cnt))) ++ (wG q cG cnt (rN (srt ra fv cnt) cnt))) ++ ([(ba, .inl (cI, cnt, .inl (zA g)))])) ++ (wQ ra cI fv fs fd cnt)) ++ (w9)) rfl rfl ?_
                                    obtain ⟨c20, gv0, gs0, gd0, tc0, tr0, ft0, tv0, tu0, fc0, M0, fa0, fb0, N0, rfl⟩ := hX
                                    refine g_callV (wr := ((((wZ h2 sa rm lt tk ov nw1 bs1 x1 y1) ++ (wG sa cG cnt (rN ra cnt))) ++ (wG q cG cnt (rN (srt ra fv cnt) cnt))) ++ ([(ba, .inl (cI, cnt, .inl (zA g)))])) ++ (wQ ra cI fv fs fd cnt)) (st := []) _ _ C cX4_116 (met_X3_taken l D cI cG cJ hm ad a2 bd pd cnt fv fs fd rm lt tk ov hI c20 gv0 gs0 gd0 tc0 tr0 ft0 tv0 tu0 fc0 M0 fa0 fb0 N0 ) gSp_r (ci := 3) (q0 := ((((((wZ h2 sa rm lt tk ov nw1 bs1 x1 y1) ++ (wG sa cG cnt (rN ra cnt))) ++ (wG q cG cnt (rN (srt ra fv cnt) cnt))) ++ ([(ba, .inl (cI, cnt, .inl (zA g)))])) ++ (wQ ra cI fv fs fd cnt)) : va_W).length) (at_r rfl) rfl (by decide) ⟨by dsimp only [rmX3_taken, rmX4_isSame]; omega, by dsimp only [rmX3_taken, rmX4_isSame]; omega⟩ rfl rfl (Nat.le_of_ble_eq_true rfl) dX4_isSame_378 ?_
                                    rintro v9 w9 ⟨z9, rfl, hz9, hX⟩
                                    have hz8 : z9 = tk := hz9
                                    refine g_ws (w' := (((((wZ h2 sa rm lt tk ov nw1 bs1 x1 y1) ++ (wG sa cG cnt (rN ra cnt))) ++ (wG q cG cnt (rN (srt ra fv cnt) cnt))) ++ ([(ba, .inl (cI, cnt, .inl (zA g)))])) ++ (wQ ra cI fv fs fd cnt)) ++ (w9)) (st' := [.int (zI z9)]) (by simp only [List.append_assoc]) rfl ?_
                                    refine g_mods [wZ h2 sa rm lt tk ov nw1 bs1 x1 y1, wG sa cG cnt (rN ra cnt), wG q cG cnt (rN (srt ra fv cnt) cnt), [(ba, .inl (cI, cnt, .inl (zA g)))], wQ ra cI fv fs fd cnt, w9] [wZ h2 sa rm lt tk ov nw1 bs1 x1 y1, wG sa cG cnt (rN ra cnt), wG q cG cnt (rN (srt ra fv cnt) cnt), [(ba, .inl (cI, cnt, .inl (zA g)))], w9, wQ ra cI fv fs fd cnt] [0, 1, 2, 3, 5, 4] (by decide) rfl ?_
                                    refine g_ws (w' := (((((wZ h2 sa rm lt tk ov nw1 bs1 x1 y1) ++ (wG sa cG cnt (rN ra cnt))) ++ (wG q cG cnt (rN (srt ra fv cnt) cnt))) ++ ([(ba, .inl (cI, cnt, .inl (zA g)))])) ++ (w9)) ++ (wQ ra cI fv fs fd cnt)) rfl rfl ?_
                                    refine g_aload_n C dX4_isSame_381 7 rfl ?_
                                    refine g_getf C fX4_27 0 rfl rfl dX4_isSame_382 ?_
                                    refine g_icmp_ne 454 C dX4_isSame_385 (by decide) (zr_i (by omega) (by omega)) (zr_i (by omega) (by omega)) (fun c_385 => ?_) (fun c_385 => ?_)
                                    · exfalso; omega
                                    · refine g_aload_n C dX4_isSame_388 8 rfl ?_
                                      refine g_mods [wZ h2 sa rm lt tk ov nw1 bs1 x1 y1, wG sa cG cnt (rN ra cnt), wG q cG cnt (rN (srt ra fv cnt) cnt), [(ba, .inl (cI, cnt, .inl (zA g)))], w9, wQ ra cI fv fs fd cnt] [wZ h2 sa rm lt tk ov nw1 bs1 x1 y1, wG sa cG cnt (rN ra cnt), wG q cG cnt (rN (srt ra fv cnt) cnt), [(ba, .inl (cI, cnt, .inl (zA g)))], wQ ra cI fv fs fd cnt, w9] [0, 1, 2, 3, 5, 4] (by decide) rfl ?_
                                      refine g_ws (w' := (((((wZ h2 sa rm lt tk ov nw1 bs1 x1 y1) ++ (wG sa cG cnt (rN ra cnt))) ++ (wG q cG cnt (rN (srt ra fv cnt) cnt))) ++ ([(ba, .inl (cI, cnt, .inl (zA g)))])) ++ (wQ ra cI fv fs fd cnt)) ++ (w9)) rfl rfl ?_
                                      obtain ⟨c20, gv0, gs0, gd0, tc0, tr0, ft0, tv0, tu0, fc0, M0, fa0, fb0, N0, rfl⟩ := hX
                                      refine g_callV (wr := ((((wZ h2 sa rm lt tk ov nw1 bs1 x1 y1) ++ (wG sa cG cnt (rN ra cnt))) ++ (wG q cG cnt (rN (srt ra fv cnt) cnt))) ++ ([(ba, .inl (cI, cnt, .inl (zA g)))])) ++ (wQ ra cI fv fs fd cnt)) (st := []) _ _ C cX4_118 (met_X3_overpaid l D cI cG cJ hm ad a2 bd pd cnt fv fs fd rm lt tk ov hI c20 gv0 gs0 gd0 tc0 tr0 ft0 tv0 tu0 fc0 M0 fa0 fb0 N0 ) gSp_r (ci := 3) (q0 := ((((((wZ h2 sa rm lt tk ov nw1 bs1 x1 y1) ++ (wG sa cG cnt (rN ra cnt))) ++ (wG q cG cnt (rN (srt ra fv cnt) cnt))) ++ ([(ba, .inl (cI, cnt, .inl (zA g)))])) ++ (wQ ra cI fv fs fd cnt)) : va_W).length) (at_r rfl) rfl (by decide) ⟨by dsimp only [rmX3_overpaid, rmX4_isSame]; omega, by dsimp only [rmX3_overpaid, rmX4_isSame]; omega⟩ rfl rfl (Nat.le_of_ble_eq_true rfl) dX4_isSame_389 ?_
                                      rintro v9 w9 ⟨z9, rfl, hz9, hX⟩
                                      have hz8 : z9 = ov := hz9
                                      refine g_ws (w' := (((((wZ h2 sa rm lt tk ov nw1 bs1 x1 y1) ++ (wG sa cG cnt (rN ra cnt))) ++ (wG q cG cnt (rN (srt ra fv cnt) cnt))) ++ ([(ba, .inl (cI, cnt, .inl (zA g)))])) ++ (wQ ra cI fv fs fd cnt)) ++ (w9)) (st' := [.int (zI z9)]) (by simp only [List.append_assoc]) rfl ?_
                                      refine g_mods [wZ h2 sa rm lt tk ov nw1 bs1 x1 y1, wG sa cG cnt (rN ra cnt), wG q cG cnt (rN (srt ra fv cnt) cnt), [(ba, .inl (cI, cnt, .inl (zA g)))], wQ ra cI fv fs fd cnt, w9] [wZ h2 sa rm lt tk ov nw1 bs1 x1 y1, wG sa cG cnt (rN ra cnt), wG q cG cnt (rN (srt ra fv cnt) cnt), [(ba, .inl (cI, cnt, .inl (zA g)))], w9, wQ ra cI fv fs fd cnt] [0, 1, 2, 3, 5, 4] (by decide) rfl ?_
                                      refine g_ws (w' := (((((wZ h2 sa rm lt tk ov nw1 bs1 x1 y1) ++ (wG sa cG cnt (rN ra cnt))) ++ (wG q cG cnt (rN (srt ra fv cnt) cnt))) ++ ([(ba, .inl (cI, cnt, .inl (zA g)))])) ++ (w9)) ++ (wQ ra cI fv fs fd cnt)) rfl rfl ?_
                                      refine g_aload_n C dX4_isSame_392 7 rfl ?_
                                      refine g_getf C fX4_30 0 rfl rfl dX4_isSame_393 ?_
                                      refine g_icmp_ne 454 C dX4_isSame_396 (by decide) (zr_i (by omega) (by omega)) (zr_i (by omega) (by omega)) (fun c_396 => ?_) (fun c_396 => ?_)
                                      · exfalso; omega
                                      · refine g_aload_n C dX4_isSame_399 8 rfl ?_
                                        refine g_mods [wZ h2 sa rm lt tk ov nw1 bs1 x1 y1, wG sa cG cnt (rN ra cnt), wG q cG cnt (rN (srt ra fv cnt) cnt), [(ba, .inl (cI, cnt, .inl (zA g)))], w9, wQ ra cI fv fs fd cnt] [wZ h2 sa rm lt tk ov nw1 bs1 x1 y1, wG sa cG cnt (rN ra cnt), wG q cG cnt (rN (srt ra fv cnt) cnt), [(ba, .inl (cI, cnt, .inl (zA g)))], wQ ra cI fv fs fd cnt, w9] [0, 1, 2, 3, 5, 4] (by decide) rfl ?_
                                        refine g_ws (w' := (((((wZ h2 sa rm lt tk ov nw1 bs1 x1 y1) ++ (wG sa cG cnt (rN ra cnt))) ++ (wG q cG cnt (rN (srt ra fv cnt) cnt))) ++ ([(ba, .inl (cI, cnt, .inl (zA g)))])) ++ (wQ ra cI fv fs fd cnt)) ++ (w9)) rfl rfl ?_
                                        obtain ⟨c20, gv0, gs0, gd0, tc0, tr0, ft0, tv0, tu0, fc0, M0, fa0, fb0, N0, rfl⟩ := hX
                                        refine g_callV (wr := ((((wZ h2 sa rm lt tk ov nw1 bs1 x1 y1) ++ (wG sa cG cnt (rN ra cnt))) ++ (wG q cG cnt (rN (srt ra fv cnt) cnt))) ++ ([(ba, .inl (cI, cnt, .inl (zA g)))])) ++ (wQ ra cI fv fs fd cnt)) (st := []) _ _ C cX4_120 (met_X3_scarcest l D cI cG cJ hm ad a2 bd pd cnt fv fs fd rm lt tk ov hI c20 gv0 gs0 gd0 tc0 tr0 ft0 tv0 tu0 fc0 M0 fa0 fb0 N0 ) gSp_r (ci := 3) (q0 := ((((((wZ h2 sa rm lt tk ov nw1 bs1 x1 y1) ++ (wG sa cG cnt (rN ra cnt))) ++ (wG q cG cnt (rN (srt ra fv cnt) cnt))) ++ ([(ba, .inl (cI, cnt, .inl (zA g)))])) ++ (wQ ra cI fv fs fd cnt)) : va_W).length) (at_r rfl) rfl (by decide) ⟨by dsimp only [rmX3_scarcest, rmX4_isSame]; omega, by dsimp only [rmX3_scarcest, rmX4_isSame]; omega⟩ rfl rfl (Nat.le_of_ble_eq_true rfl) dX4_isSame_400 ?_
                                        rintro v9 w9 ⟨z9, rfl, hz9, hX⟩
                                        have hz8 : z9 = (scF fs cnt).1 := hz9
                                        refine g_ws (w' := (((((wZ h2 sa rm lt tk ov nw1 bs1 x1 y1) ++ (wG sa cG cnt (rN ra cnt))) ++ (wG q cG cnt (rN (srt ra fv cnt) cnt))) ++ ([(ba, .inl (cI, cnt, .inl (zA g)))])) ++ (wQ ra cI fv fs fd cnt)) ++ (w9)) (st' := [.int (zI z9)]) (by simp only [List.append_assoc]) rfl ?_
                                        refine g_mods [wZ h2 sa rm lt tk ov nw1 bs1 x1 y1, wG sa cG cnt (rN ra cnt), wG q cG cnt (rN (srt ra fv cnt) cnt), [(ba, .inl (cI, cnt, .inl (zA g)))], wQ ra cI fv fs fd cnt, w9] [wZ h2 sa rm lt tk ov nw1 bs1 x1 y1, wG sa cG cnt (rN ra cnt), wG q cG cnt (rN (srt ra fv cnt) cnt), [(ba, .inl (cI, cnt, .inl (zA g)))], w9, wQ ra cI fv fs fd cnt] [0, 1, 2, 3, 5, 4] (by decide) rfl ?_
                                        refine g_ws (w' := (((((wZ h2 sa rm lt tk ov nw1 bs1 x1 y1) ++ (wG sa cG cnt (rN ra cnt))) ++ (wG q cG cnt (rN (srt ra fv cnt) cnt))) ++ ([(ba, .inl (cI, cnt, .inl (zA g)))])) ++ (w9)) ++ (wQ ra cI fv fs fd cnt)) rfl rfl ?_
                                        refine g_iload C dX4_isSame_403 5 rfl ?_
                                        refine g_icmp_ne 454 C dX4_isSame_405 (by decide) (zr_i (by omega) (by omega)) (zr_i (by omega) (by omega)) (fun c_405 => ?_) (fun c_405 => ?_)
                                        · exfalso; omega
                                        · refine g_aload_n C dX4_isSame_408 8 rfl ?_
                                          refine g_mods [wZ h2 sa rm lt tk ov nw1 bs1 x1 y1, wG sa cG cnt (rN ra cnt), wG q cG cnt (rN (srt ra fv cnt) cnt), [(ba, .inl (cI, cnt, .inl (zA g)))], w9, wQ ra cI fv fs fd cnt] [wZ h2 sa rm lt tk ov nw1 bs1 x1 y1, wG sa cG cnt (rN ra cnt), wG q cG cnt (rN (srt ra fv cnt) cnt), [(ba, .inl (cI, cnt, .inl (zA g)))], wQ ra cI fv fs fd cnt, w9] [0, 1, 2, 3, 5, 4] (by decide) rfl ?_
                                          refine g_ws (w' := (((((wZ h2 sa rm lt tk ov nw1 bs1 x1 y1) ++ (wG sa cG cnt (rN ra cnt))) ++ (wG q cG cnt (rN (srt ra fv cnt) cnt))) ++ ([(ba, .inl (cI, cnt, .inl (zA g)))])) ++ (wQ ra cI fv fs fd cnt)) ++ (w9)) rfl rfl ?_
                                          obtain ⟨c20, gv0, gs0, gd0, tc0, tr0, ft0, tv0, tu0, fc0, M0, fa0, fb0, N0, rfl⟩ := hX
                                          refine g_callV (wr := ((((wZ h2 sa rm lt tk ov nw1 bs1 x1 y1) ++ (wG sa cG cnt (rN ra cnt))) ++ (wG q cG cnt (rN (srt ra fv cnt) cnt))) ++ ([(ba, .inl (cI, cnt, .inl (zA g)))])) ++ (wQ ra cI fv fs fd cnt)) (st := []) _ _ C cX4_123 (met_X3_most l D cI cG cJ hm ad a2 bd pd cnt fv fs fd rm lt tk ov hI c20 gv0 gs0 gd0 tc0 tr0 ft0 tv0 tu0 fc0 M0 fa0 fb0 N0 ) gSp_r (ci := 3) (q0 := ((((((wZ h2 sa rm lt tk ov nw1 bs1 x1 y1) ++ (wG sa cG cnt (rN ra cnt))) ++ (wG q cG cnt (rN (srt ra fv cnt) cnt))) ++ ([(ba, .inl (cI, cnt, .inl (zA g)))])) ++ (wQ ra cI fv fs fd cnt)) : va_W).length) (at_r rfl) rfl (by decide) ⟨by dsimp only [rmX3_most, rmX4_isSame]; omega, by dsimp only [rmX3_most, rmX4_isSame]; omega⟩ rfl rfl (Nat.le_of_ble_eq_true rfl) dX4_isSame_409 ?_
                                          rintro v9 w9 ⟨z9, rfl, hz9, hX⟩
                                          have hz8 : z9 = GS cnt fv fs rm := hz9
                                          refine g_ws (w' := (((((wZ h2 sa rm lt tk ov nw1 bs1 x1 y1) ++ (wG sa cG cnt (rN ra cnt))) ++ (wG q cG cnt (rN (srt ra fv cnt) cnt))) ++ ([(ba, .inl (cI, cnt, .inl (zA g)))])) ++ (wQ ra cI fv fs fd cnt)) ++ (w9)) (st' := [.int (zI z9)]) (by simp only [List.append_assoc]) rfl ?_
                                          refine g_mods [wZ h2 sa rm lt tk ov nw1 bs1 x1 y1, wG sa cG cnt (rN ra cnt), wG q cG cnt (rN (srt ra fv cnt) cnt), [(ba, .inl (cI, cnt, .inl (zA g)))], wQ ra cI fv fs fd cnt, w9] [wZ h2 sa rm lt tk ov nw1 bs1 x1 y1, wG sa cG cnt (rN ra cnt), wG q cG cnt (rN (srt ra fv cnt) cnt), [(ba, .inl (cI, cnt, .inl (zA g)))], w9, wQ ra cI fv fs fd cnt] [0, 1, 2, 3, 5, 4] (by decide) rfl ?_
                                          refine g_ws (w' := (((((wZ h2 sa rm lt tk ov nw1 bs1 x1 y1) ++ (wG sa cG cnt (rN ra cnt))) ++ (wG q cG cnt (rN (srt ra fv cnt) cnt))) ++ ([(ba, .inl (cI, cnt, .inl (zA g)))])) ++ (w9)) ++ (wQ ra cI fv fs fd cnt)) rfl rfl ?_
                                          refine g_iload C dX4_isSame_412 2 rfl ?_
                                          refine g_icmp_ne 454 C dX4_isSame_414 (by decide) (zr_i (by omega) (by omega)) (zr_i (by omega) (by omega)) (fun c_414 => ?_) (fun c_414 => ?_)
                                          · exfalso; omega
                                          · refine g_aload_n C dX4_isSame_417 8 rfl ?_
                                            refine g_mods [wZ h2 sa rm lt tk ov nw1 bs1 x1 y1, wG sa cG cnt (rN ra cnt), wG q cG cnt (rN (srt ra fv cnt) cnt), [(ba, .inl (cI, cnt, .inl (zA g)))], w9, wQ ra cI fv fs fd cnt] [wZ h2 sa rm lt tk ov nw1 bs1 x1 y1, wG sa cG cnt (rN ra cnt), wG q cG cnt (rN (srt ra fv cnt) cnt), [(ba, .inl (cI, cnt, .inl (zA g)))], wQ ra cI fv fs fd cnt, w9] [0, 1, 2, 3, 5, 4] (by decide) rfl ?_
                                            refine g_ws (w' := (((((wZ h2 sa rm lt tk ov nw1 bs1 x1 y1) ++ (wG sa cG cnt (rN ra cnt))) ++ (wG q cG cnt (rN (srt ra fv cnt) cnt))) ++ ([(ba, .inl (cI, cnt, .inl (zA g)))])) ++ (wQ ra cI fv fs fd cnt)) ++ (w9)) rfl rfl ?_
                                            obtain ⟨c20, gv0, gs0, gd0, tc0, tr0, ft0, tv0, tu0, fc0, M0, fa0, fb0, N0, rfl⟩ := hX
                                            refine g_callV (wr := ((((wZ h2 sa rm lt tk ov nw1 bs1 x1 y1) ++ (wG sa cG cnt (rN ra cnt))) ++ (wG q cG cnt (rN (srt ra fv cnt) cnt))) ++ ([(ba, .inl (cI, cnt, .inl (zA g)))])) ++ (wQ ra cI fv fs fd cnt)) (st := []) _ _ C cX4_126 (met_X3_reachNow l D cI cG cJ hm ad a2 bd pd cnt fv fs fd rm lt tk ov hI c20 gv0 gs0 gd0 tc0 tr0 ft0 tv0 tu0 fc0 M0 fa0 fb0 N0 ) gSp_r (ci := 3) (q0 := ((((((wZ h2 sa rm lt tk ov nw1 bs1 x1 y1) ++ (wG sa cG cnt (rN ra cnt))) ++ (wG q cG cnt (rN (srt ra fv cnt) cnt))) ++ ([(ba, .inl (cI, cnt, .inl (zA g)))])) ++ (wQ ra cI fv fs fd cnt)) : va_W).length) (at_r rfl) rfl (by decide) ⟨by dsimp only [rmX3_reachNow, rmX4_isSame]; omega, by dsimp only [rmX3_reachNow, rmX4_isSame]; omega⟩ rfl rfl (Nat.le_of_ble_eq_true rfl) dX4_isSame_418 ?_
                                            rintro v9 w9 ⟨z9, rfl, hz9, hX⟩
                                            have hz8 : z9 = (RC cnt fv fs rm : Int) := hz9
                                            refine g_ws (w' := (((((wZ h2 sa rm lt tk ov nw1 bs1 x1 y1) ++ (wG sa cG cnt (rN ra cnt))) ++ (wG q cG cnt (rN (srt ra fv cnt) cnt))) ++ ([(ba, .inl (cI, cnt, .inl (zA g)))])) ++ (wQ ra cI fv fs fd cnt)) ++ (w9)) (st' := [.int (zI z9)]) (by simp only [List.append_assoc]) rfl ?_
                                            refine g_mods [wZ h2 sa rm lt tk ov nw1 bs1 x1 y1, wG sa cG cnt (rN ra cnt), wG q cG cnt (rN (srt ra fv cnt) cnt), [(ba, .inl (cI, cnt, .inl (zA g)))], wQ ra cI fv fs fd cnt, w9] [wZ h2 sa rm lt tk ov nw1 bs1 x1 y1, wG sa cG cnt (rN ra cnt), wG q cG cnt (rN (srt ra fv cnt) cnt), [(ba, .inl (cI, cnt, .inl (zA g)))], w9, wQ ra cI fv fs fd cnt] [0, 1, 2, 3, 5, 4] (by decide) rfl ?_
                                            refine g_ws (w' := (((((wZ h2 sa rm lt tk ov nw1 bs1 x1 y1) ++ (wG sa cG cnt (rN ra cnt))) ++ (wG q cG cnt (rN (srt ra fv cnt) cnt))) ++ ([(ba, .inl (cI, cnt, .inl (zA g)))])) ++ (w9)) ++ (wQ ra cI fv fs fd cnt)) rfl rfl ?_
                                            refine g_aload_n C dX4_isSame_421 7 rfl ?_
                                            refine g_mods [wZ h2 sa rm lt tk ov nw1 bs1 x1 y1, wG sa cG cnt (rN ra cnt), wG q cG cnt (rN (srt ra fv cnt) cnt), [(ba, .inl (cI, cnt, .inl (zA g)))], w9, wQ ra cI fv fs fd cnt] [wG q cG cnt (rN (srt ra fv cnt) cnt), [(ba, .inl (cI, cnt, .inl (zA g)))], w9, wZ h2 sa rm lt tk ov nw1 bs1 x1 y1, wG sa cG cnt (rN ra cnt), wQ ra cI fv fs fd cnt] [2, 3, 4, 0, 1, 5] (by decide) rfl ?_
                                            refine g_ws (w' := (((((wG q cG cnt (rN (srt ra fv cnt) cnt)) ++ ([(ba, .inl (cI, cnt, .inl (zA g)))])) ++ (w9)) ++ (wZ h2 sa rm lt tk ov nw1 bs1 x1 y1)) ++ (wG sa cG cnt (rN ra cnt))) ++ (wQ ra cI fv fs fd cnt)) rfl rfl ?_
                                            refine g_eqw (w' := (((wG q cG cnt (rN (srt ra fv cnt) cnt)) ++ ([(ba, .inl (cI, cnt, .inl (zA g)))])) ++ (w9)) ++ (((wZ h2 sa rm lt tk ov nw1 bs1 x1 y1) ++ (wG sa cG cnt (rN ra cnt))) ++ (wQ ra cI fv fs fd cnt))) (by simp only [List.append_assoc]) ?_
                                            refine g_callV (wr := ((wG q cG cnt (rN (srt ra fv cnt) cnt)) ++ ([(ba, .inl (cI, cnt, .inl (zA g)))])) ++ (w9)) (st := [.int (zI z9)]) _ _ C cX4_129 (met_X4_reachNow l D cI cG cJ h2 sa ra cnt hc fv fs fd hS rm lt tk ov hr nw1 bs1 x1 y1) gSp_r (ci := 4) (q0 := ((((wG q cG cnt (rN (srt ra fv cnt) cnt)) ++ ([(ba, .inl (cI, cnt, .inl (zA g)))])) ++ (w9)) : va_W).length) (at_r rfl) rfl (by decide) ⟨by dsimp only [rmX4_reachNow, rmX4_isSame]; omega, by dsimp only [rmX4_reachNow, rmX4_isSame]; omega⟩ rfl rfl (Nat.le_of_ble_eq_true rfl) dX4_isSame_422 ?_
                                            rintro v9 w9 ⟨z8, rfl, rfl, rfl⟩
                                            refine g_ws (w' := (((((wG q cG cnt (rN (srt ra fv cnt) cnt)) ++ ([(ba, .inl (cI, cnt, .inl (zA g)))])) ++ (w9)) ++ (wZ h2 sa rm lt tk ov nw1 bs1 x1 y1)) ++ (wG sa cG cnt (rN ra cnt))) ++ (wQ ra cI fv fs fd cnt)) (st' := [.int (zI (RC cnt fv fs rm : Int)), .int (zI z9)]) (by simp only [List.append_assoc]) rfl ?_
                                            refine g_mods [wG q cG cnt (rN (srt ra fv cnt) cnt), [(ba, .inl (cI, cnt, .inl (zA g)))], w9, wZ h2 sa rm lt tk ov nw1 bs1 x1 y1, wG sa cG cnt (rN ra cnt), wQ ra cI fv fs fd cnt] [wZ h2 sa rm lt tk ov nw1 bs1 x1 y1, wG sa cG cnt (rN ra cnt), wG q cG cnt (rN (srt ra fv cnt) cnt), [(ba, .inl (cI, cnt, .inl (zA g)))], w9, wQ ra cI fv fs fd cnt] [3, 4, 0, 1, 2, 5] (by decide) rfl ?_
                                            refine g_ws (w' := (((((wZ h2 sa rm lt tk ov nw1 bs1 x1 y1) ++ (wG sa cG cnt (rN ra cnt))) ++ (wG q cG cnt (rN (srt ra fv cnt) cnt))) ++ ([(ba, .inl (cI, cnt, .inl (zA g)))])) ++ (w9)) ++ (wQ ra cI fv fs fd cnt)) rfl rfl ?_
                                            refine g_icmp_ne 454 C dX4_isSame_425 (by decide) (zr_i (by omega) (by omega)) (zr_i (by omega) (by omega)) (fun c_425 => ?_) (fun c_425 => ?_)
                                            · exfalso; omega
                                            · refine g_aload_n C dX4_isSame_428 8 rfl ?_
                                              refine g_mods [wZ h2 sa rm lt tk ov nw1 bs1 x1 y1, wG sa cG cnt (rN ra cnt), wG q cG cnt (rN (srt ra fv cnt) cnt), [(ba, .inl (cI, cnt, .inl (zA g)))], w9, wQ ra cI fv fs fd cnt] [wZ h2 sa rm lt tk ov nw1 bs1 x1 y1, wG sa cG cnt (rN ra cnt), wG q cG cnt (rN (srt ra fv cnt) cnt), [(ba, .inl (cI, cnt, .inl (zA g)))], wQ ra cI fv fs fd cnt, w9] [0, 1, 2, 3, 5, 4] (by decide) rfl ?_
                                              refine g_ws (w' := (((((wZ h2 sa rm lt tk ov nw1 bs1 x1 y1) ++ (wG sa cG cnt (rN ra cnt))) ++ (wG q cG cnt (rN (srt ra fv cnt) cnt))) ++ ([(ba, .inl (cI, cnt, .inl (zA g)))])) ++ (wQ ra cI fv fs fd cnt)) ++ (w9)) rfl rfl ?_
                                              obtain ⟨c20, gv0, gs0, gd0, tc0, tr0, ft0, tv0, tu0, fc0, M0, fa0, fb0, N0, rfl⟩ := hX
                                              refine g_callV (wr := ((((wZ h2 sa rm lt tk ov nw1 bs1 x1 y1) ++ (wG sa cG cnt (rN ra cnt))) ++ (wG q cG cnt (rN (srt ra fv cnt) cnt))) ++ ([(ba, .inl (cI, cnt, .inl (zA g)))])) ++ (wQ ra cI fv fs fd cnt)) (st := []) _ _ C cX4_130 (met_X3_meanValue l D cI cG cJ hm ad a2 bd pd cnt fv fs fd rm lt tk ov hI c20 gv0 gs0 gd0 tc0 tr0 ft0 tv0 tu0 fc0 M0 fa0 fb0 N0 ) gSp_r (ci := 3) (q0 := ((((((wZ h2 sa rm lt tk ov nw1 bs1 x1 y1) ++ (wG sa cG cnt (rN ra cnt))) ++ (wG q cG cnt (rN (srt ra fv cnt) cnt))) ++ ([(ba, .inl (cI, cnt, .inl (zA g)))])) ++ (wQ ra cI fv fs fd cnt)) : va_W).length) (at_r rfl) rfl (by decide) ⟨by dsimp only [rmX3_meanValue, rmX4_isSame]; omega, by dsimp only [rmX3_meanValue, rmX4_isSame]; omega⟩ rfl rfl (Nat.le_of_ble_eq_true rfl) dX4_isSame_429 ?_
                                              rintro v9 w9 ⟨z9, rfl, hz9, hX⟩
                                              refine g_ws (w' := (((((wZ h2 sa rm lt tk ov nw1 bs1 x1 y1) ++ (wG sa cG cnt (rN ra cnt))) ++ (wG q cG cnt (rN (srt ra fv cnt) cnt))) ++ ([(ba, .inl (cI, cnt, .inl (zA g)))])) ++ (wQ ra cI fv fs fd cnt)) ++ (w9)) (st' := [.double z9]) (by simp only [List.append_assoc]) rfl ?_
                                              refine g_mods [wZ h2 sa rm lt tk ov nw1 bs1 x1 y1, wG sa cG cnt (rN ra cnt), wG q cG cnt (rN (srt ra fv cnt) cnt), [(ba, .inl (cI, cnt, .inl (zA g)))], wQ ra cI fv fs fd cnt, w9] [wZ h2 sa rm lt tk ov nw1 bs1 x1 y1, wG sa cG cnt (rN ra cnt), wG q cG cnt (rN (srt ra fv cnt) cnt), [(ba, .inl (cI, cnt, .inl (zA g)))], w9, wQ ra cI fv fs fd cnt] [0, 1, 2, 3, 5, 4] (by decide) rfl ?_
                                              refine g_ws (w' := (((((wZ h2 sa rm lt tk ov nw1 bs1 x1 y1) ++ (wG sa cG cnt (rN ra cnt))) ++ (wG q cG cnt (rN (srt ra fv cnt) cnt))) ++ ([(ba, .inl (cI, cnt, .inl (zA g)))])) ++ (w9)) ++ (wQ ra cI fv fs fd cnt)) rfl rfl ?_
                                              refine g_iload_n C dX4_isSame_432 6 rfl ?_
                                              refine g_if_ne 440 C dX4_isSame_433 (by decide) (zr_i (by omega) (by omega)) (fun c_433 => ?_) (fun c_433 => ?_)
                                              · refine g_iload C dX4_isSame_440 4 rfl ?_
                                                refine g_i2d C dX4_isSame_442 ?_
                                                refine g_iload_n C dX4_isSame_443 6 rfl ?_
                                                refine g_i2d C dX4_isSame_444 ?_
                                                refine g_ddiv C dX4_isSame_445 (by rw [hv6]; exact mean_ok hc (by omega) hS.1) ?_
                                                refine g_dcmp C dX4_isSame_446 ?_
                                                refine g_eqs (st' := [.int (zI 0)]) (by rw [show z9 = mnD (vsum fv cnt) (cnt : Int) from hz9.trans (if_neg (by omega)), show FP.ddiv (FP.i2d (zI v5)) (FP.i2d (zI (cnt : Int))) = mnD (vsum fv cnt) (cnt : Int) by rw [hv6]; rfl, dc_ok hc (by omega) hS.1]) ?_
                                                refine g_if_ne 454 C dX4_isSame_447 (by decide) (zr_i (by omega) (by omega)) (fun c_447 => ?_) (fun c_447 => ?_)
                                                · exfalso; omega
                                                · refine g_iconst C dX4_isSame_450 ?_
                                                  refine g_goto 455 C dX4_isSame_451 (by decide) ?_
                                                  exact ret _ _ _ _ _ _ (by first | omega | (dsimp only [rmX4_isSame, rmX4_reachNow, rmX3_stamps, rmX3_room, rmX3_letters, rmX3_taken, rmX3_overpaid, rmX3_scarcest, rmX3_most, rmX3_reachNow, rmX3_meanValue]; omega)) (by first | omega | (dsimp only [rmX4_isSame, rmX4_reachNow, rmX3_stamps, rmX3_room, rmX3_letters, rmX3_taken, rmX3_overpaid, rmX3_scarcest, rmX3_most, rmX3_reachNow, rmX3_meanValue]; omega)) dX4_isSame_455 (Or.inr rfl) (rfl)
                                              · refine g_dconst0 C dX4_isSame_436 ?_
                                                refine g_goto 446 C dX4_isSame_437 (by decide) ?_
                                                refine g_dcmp C dX4_isSame_446 ?_
                                                refine g_eqs (st' := [.int (zI 0)]) (by rw [show z9 = FP.dconst0 from hz9.trans (if_pos (by omega)), dc_0]) ?_
                                                refine g_if_ne 454 C dX4_isSame_447 (by decide) (zr_i (by omega) (by omega)) (fun c_447 => ?_) (fun c_447 => ?_)
                                                · exfalso; omega
                                                · refine g_iconst C dX4_isSame_450 ?_
                                                  refine g_goto 455 C dX4_isSame_451 (by decide) ?_
                                                  exact ret _ _ _ _ _ _ (by first | omega | (dsimp only [rmX4_isSame, rmX4_reachNow, rmX3_stamps, rmX3_room, rmX3_letters, rmX3_taken, rmX3_overpaid, rmX3_scarcest, rmX3_most, rmX3_reachNow, rmX3_meanValue]; omega)) (by first | omega | (dsimp only [rmX4_isSame, rmX4_reachNow, rmX3_stamps, rmX3_room, rmX3_letters, rmX3_taken, rmX3_overpaid, rmX3_scarcest, rmX3_most, rmX3_reachNow, rmX3_meanValue]; omega)) dX4_isSame_455 (Or.inr rfl) (rfl)
                            · have hk0 : k < cnt := by omega
                              have hcl := cab_lt (fv := fv) (s := k) cnt hk0
                              have hrk : ∀ a, a = cab fv (fv k) cnt → ordF fv cnt (cnt - 1 - a) = k := fun a e9 => by
                                obtain ⟨j, j1, j2⟩ := ordF_sur fv cnt k hk0
                                have h1 := rank_ord hS.2.2 j1
                                rw [j2] at h1
                                rw [e9, h1, show cnt - 1 - (cnt - 1 - j) = j by omega, j2]
                              refine g_iconst C dX4_isSame_291 ?_
                              refine g_istore (L' := [(11, .int (zI 0)), (10, .int (zI (k : Int))), (9, .ref ba), (8, .int (zI (((gsm (RV cnt fv) (RU cnt fv fs rm) rm cnt)).2))), (6, .ref q), (5, .int (zI v5)), (4, .int (zI sc)), (3, .int (zI (cnt : Int))), (0, .ref h2), (1, .ref hm), (2, .int (zI (p : Int)))]) C dX4_isSame_292 (by decide) rfl ?_
                              have loop_294 : ∀ (fu : Nat) (a : Nat), (ha0 : a ≤ cab fv (fv k) cnt) → cnt - a < fu → gW E (840 + 2 * k) (6800 + 12 * k) ((((((wZ h2 sa rm lt tk ov nw1 bs1 x1 y1) ++ (wG sa cG cnt (rN ra cnt))) ++ (wG q cG cnt (rN (srt ra fv cnt) cnt))) ++ ([(ba, .inl (cI, cnt, .inl (zA g)))])) ++ (w1)) ++ (wQ ra cI fv fs fd cnt)) 294 [(11, .int (zI (a : Int))), (10, .int (zI (k : Int))), (9, .ref ba), (8, .int (zI (((gsm (RV cnt fv) (RU cnt fv fs rm) rm cnt)).2))), (6, .ref q), (5, .int (zI v5)), (4, .int (zI sc)), (3, .int (zI (cnt : Int))), (0, .ref h2), (1, .ref hm), (2, .int (zI (p : Int)))] [] := by
                                intro fu
                                induction fu with
                                | zero => intro a ha0 h9; exact absurd h9 (Nat.not_lt_zero _)
                                | succ fu ih_294 =>
                                  intro a ha0 hmu_294
                                  refine g_aload C dX4_isSame_294 4 rfl ?_
                                  refine g_iload C dX4_isSame_296 0 rfl ?_
                                  refine g_aald (y := ra (ordF fv cnt (cnt - 1 - a))) C 2 rfl (by omega) (by omega) (by omega) (rN_at (by omega)) dX4_isSame_298 ?_
                                  refine g_aload_n C dX4_isSame_299 8 rfl ?_
                                  refine g_getf C fX4_15 0 rfl rfl dX4_isSame_300 ?_
                                  refine g_iload C dX4_isSame_303 1 rfl ?_
                                  refine g_aald (y := ra k) C 1 rfl (by omega) (by omega) (by omega) (rN_at (by omega)) dX4_isSame_305 ?_
                                  refine g_acmp_eq 315 C dX4_isSame_306 (by decide) (fun c_306 => ?_) (fun c_306 => ?_)
                                  · have ha : a < cnt := by omega
                                    have hk9 : ordF fv cnt (cnt - 1 - a) = k := hinj _ _ (ordF_lt fv cnt _ (by omega)) hk0 c_306
                                    refine g_aload_n C dX4_isSame_315 9 rfl ?_
                                    refine g_iload_n C dX4_isSame_316 10 rfl ?_
                                    refine g_iload C dX4_isSame_317 1 rfl ?_
                                    refine g_mods [wZ h2 sa rm lt tk ov nw1 bs1 x1 y1, wG sa cG cnt (rN ra cnt), wG q cG cnt (rN (srt ra fv cnt) cnt), [(ba, .inl (cI, cnt, .inl (zA g)))], w1, wQ ra cI fv fs fd cnt] [wZ h2 sa rm lt tk ov nw1 bs1 x1 y1, wG sa cG cnt (rN ra cnt), wG q cG cnt (rN (srt ra fv cnt) cnt), [(ba, .inl (cI, cnt, .inl (zA g)))], wQ ra cI fv fs fd cnt, w1] [0, 1, 2, 3, 5, 4] (by decide) rfl ?_
                                    refine g_ws (w' := (((((wZ h2 sa rm lt tk ov nw1 bs1 x1 y1) ++ (wG sa cG cnt (rN ra cnt))) ++ (wG q cG cnt (rN (srt ra fv cnt) cnt))) ++ ([(ba, .inl (cI, cnt, .inl (zA g)))])) ++ (wQ ra cI fv fs fd cnt)) ++ (w1)) rfl rfl ?_
                                    obtain ⟨c20, gv0, gs0, gd0, tc0, tr0, ft0, tv0, tu0, fc0, M0, fa0, fb0, N0, rfl⟩ := hX
                                    refine g_callVX (wr := ((((wZ h2 sa rm lt tk ov nw1 bs1 x1 y1) ++ (wG sa cG cnt (rN ra cnt))) ++ (wG q cG cnt (rN (srt ra fv cnt) cnt))) ++ ([(ba, .inl (cI, cnt, .inl (zA g)))])) ++ (wQ ra cI fv fs fd cnt)) (st := []) _ _ C cX4_106 (met_X3_ofStampFor l hl9 D cI cG cJ hm ad a2 bd pd cnt fv fs fd rm lt tk ov hI c20 gv0 gs0 gd0 tc0 tr0 ft0 tv0 tu0 fc0 M0 fa0 fb0 N0 (p : Int) (k : Int) (zr_i (by omega) (by omega)) (zr_i (by omega) (by omega))) gSp_r (ci := 3) (q0 := ((((((wZ h2 sa rm lt tk ov nw1 bs1 x1 y1) ++ (wG sa cG cnt (rN ra cnt))) ++ (wG q cG cnt (rN (srt ra fv cnt) cnt))) ++ ([(ba, .inl (cI, cnt, .inl (zA g)))])) ++ (wQ ra cI fv fs fd cnt)) : va_W).length) (at_r rfl) rfl (by decide) ⟨by dsimp only [rmX3_ofStampFor, rmX4_isSame]; omega, by dsimp only [rmX3_ofStampFor, rmX4_isSame]; omega⟩ rfl rfl (Nat.le_of_ble_eq_true rfl) dX4_isSame_319 (fun nm9 w9 h9 => ?_) ?_
                                    · exfalso
                                      rcases h9 with ⟨_, h8, _⟩ | ⟨_, _, h8, _⟩
                                      · exact h8 ⟨by omega, by omega⟩
                                      · exact h8 ⟨by omega, by omega⟩
                                    rintro v9 w9 ⟨z9, rfl, hz9, hX⟩
                                    have hf9 : z9 = CHR cnt fv fs rm s a := hz9.2.2.trans ((if_neg (show ¬ LSm cnt fv fs rm p = -1 by omega)).trans (by show CH cnt fv fs rm (LSm cnt fv fs rm p).toNat k = _; rw [g1, Int.toNat_natCast]; exact CH_k hS ha hk9))
                                    have hga := g5 a ha
                                    have hgb := CH_le (s := s) hS hr hk0
                                    rw [CH_k hS ha hk9] at hgb
                                    refine g_ws (w' := (((((wZ h2 sa rm lt tk ov nw1 bs1 x1 y1) ++ (wG sa cG cnt (rN ra cnt))) ++ (wG q cG cnt (rN (srt ra fv cnt) cnt))) ++ ([(ba, .inl (cI, cnt, .inl (zA g)))])) ++ (wQ ra cI fv fs fd cnt)) ++ (w9)) (st' := [.int (zI z9)]) (by simp only [List.append_assoc]) rfl ?_
                                    refine g_mods [wZ h2 sa rm lt tk ov nw1 bs1 x1 y1, wG sa cG cnt (rN ra cnt), wG q cG cnt (rN (srt ra fv cnt) cnt), [(ba, .inl (cI, cnt, .inl (zA g)))], wQ ra cI fv fs fd cnt, w9] [wZ h2 sa rm lt tk ov nw1 bs1 x1 y1, wG sa cG cnt (rN ra cnt), wG q cG cnt (rN (srt ra fv cnt) cnt), [(ba, .inl (cI, cnt, .inl (zA g)))], w9, wQ ra cI fv fs fd cnt] [0, 1, 2, 3, 5, 4] (by decide) rfl ?_
                                    refine g_ws (w' := (((((wZ h2 sa rm lt tk ov nw1 bs1 x1 y1) ++ (wG sa cG cnt (rN ra cnt))) ++ (wG q cG cnt (rN (srt ra fv cnt) cnt))) ++ ([(ba, .inl (cI, cnt, .inl (zA g)))])) ++ (w9)) ++ (wQ ra cI fv fs fd cnt)) rfl rfl ?_
                                    refine g_aload C dX4_isSame_322 2 rfl ?_
                                    refine g_ifnonnullR 331 C dX4_isSame_324 (by decide) ?_
                                    refine g_aload C dX4_isSame_331 2 rfl ?_
                                    refine g_iload C dX4_isSame_333 0 rfl ?_
                                    refine g_iald C 3 rfl (by omega) (by omega) (by omega) (v := (g a)) rfl dX4_isSame_335 ?_
                                    refine g_icmp_eq 341 C dX4_isSame_336 (by decide) (zr_i (by omega) (by omega)) (zr_i (by omega) (by omega)) (fun c_336 => ?_) (fun c_336 => ?_)
                                    · refine g_iinc (L' := [(10, .int (zI ((k : Int) + 1))), (11, .int (zI (a : Int))), (9, .ref ba), (8, .int (zI (((gsm (RV cnt fv) (RU cnt fv fs rm) rm cnt)).2))), (6, .ref q), (5, .int (zI v5)), (4, .int (zI sc)), (3, .int (zI (cnt : Int))), (0, .ref h2), (1, .ref hm), (2, .int (zI (p : Int)))]) C dX4_isSame_341 1 rfl (by decide) rfl ?_
                                      refine g_goto 285 C dX4_isSame_344 (by decide) ?_
                                      refine g_loc (L' := [(10, .int (zI ((k : Int) + 1))), (9, .ref ba), (8, .int (zI (((gsm (RV cnt fv) (RU cnt fv fs rm) rm cnt)).2))), (6, .ref q), (5, .int (zI v5)), (4, .int (zI sc)), (3, .int (zI (cnt : Int))), (0, .ref h2), (1, .ref hm), (2, .int (zI (p : Int)))]) [0, 2, 3, 4, 5, 6, 7, 8, 9, 10] rfl ?_
                                      exact ih_285 (k + 1) w9 (by omega) hX (by omega)
                                    · exfalso; omega
                                  · refine g_iinc (L' := [(11, .int (zI ((a : Int) + 1))), (10, .int (zI (k : Int))), (9, .ref ba), (8, .int (zI (((gsm (RV cnt fv) (RU cnt fv fs rm) rm cnt)).2))), (6, .ref q), (5, .int (zI v5)), (4, .int (zI sc)), (3, .int (zI (cnt : Int))), (0, .ref h2), (1, .ref hm), (2, .int (zI (p : Int)))]) C dX4_isSame_309 0 rfl (by decide) rfl ?_
                                    refine g_goto 294 C dX4_isSame_312 (by decide) ?_
                                    refine g_loc (L' := [(11, .int (zI ((a : Int) + 1))), (10, .int (zI (k : Int))), (9, .ref ba), (8, .int (zI (((gsm (RV cnt fv) (RU cnt fv fs rm) rm cnt)).2))), (6, .ref q), (5, .int (zI v5)), (4, .int (zI sc)), (3, .int (zI (cnt : Int))), (0, .ref h2), (1, .ref hm), (2, .int (zI (p : Int)))]) [0, 1, 2, 3, 4, 5, 6, 7, 8, 9, 10] rfl ?_
                                    exact ih_294 (a + 1) (by
                                     have : a ≠ cab fv (fv k) cnt := fun e9 => c_306 (by rw [hrk a e9])
                                     omega) (by omega)
                              refine g_loc (L' := [(11, .int (zI 0)), (10, .int (zI (k : Int))), (9, .ref ba), (8, .int (zI (((gsm (RV cnt fv) (RU cnt fv fs rm) rm cnt)).2))), (6, .ref q), (5, .int (zI v5)), (4, .int (zI sc)), (3, .int (zI (cnt : Int))), (0, .ref h2), (1, .ref hm), (2, .int (zI (p : Int)))]) [0, 1, 2, 3, 4, 5, 6, 7, 8, 9, 10] rfl ?_
                              exact loop_294 _ 0 (Nat.zero_le _) (Nat.lt_succ_self _)
                        refine g_loc (L' := [(10, .int (zI 0)), (9, .ref ba), (8, .int (zI (((gsm (RV cnt fv) (RU cnt fv fs rm) rm cnt)).2))), (6, .ref q), (5, .int (zI v5)), (4, .int (zI sc)), (3, .int (zI (cnt : Int))), (0, .ref h2), (1, .ref hm), (2, .int (zI (p : Int)))]) [0, 1, 3, 5, 6, 7, 8, 9, 10, 11] rfl ?_
                        refine g_widen (k' := 840) (n' := 6800) (by dsimp only [rmX4_sorted, rmX4_gets, rmX4_sum, rmX4_many, rmX3_overpay, rmX3_stampsFor, rmX3_canPay]; omega) (by dsimp only [rmX4_sorted, rmX4_gets, rmX4_sum, rmX4_many, rmX3_overpay, rmX3_stampsFor, rmX3_canPay]; omega) ?_
                        exact loop_285 _ 0 w9 (Nat.zero_le _) hX (Nat.lt_succ_self _)
                      · exfalso; omega
                    · refine g_iconst C dX4_isSame_272 ?_
                      refine g_goto 277 C dX4_isSame_273 (by decide) ?_
                      refine g_icmp_eq 282 C dX4_isSame_277 (by decide) (zr_i (by omega) (by omega)) (zr_i (by omega) (by omega)) (fun c_277 => ?_) (fun c_277 => ?_)
                      · refine g_apart (fun hap => ?_)
                        have hinj := wQ_inj hap
                        refine g_iconst C dX4_isSame_282 ?_
                        refine g_istore (L' := [(10, .int (zI 0)), (9, .ref ba), (11, .int (zI (cnt : Int))), (8, .int (zI (((gsm (RV cnt fv) (RU cnt fv fs rm) rm cnt)).2))), (7, .int (zI (((gsm (RV cnt fv) (RU cnt fv fs rm) rm cnt)).1))), (6, .ref q), (5, .int (zI v5)), (4, .int (zI sc)), (3, .int (zI (cnt : Int))), (0, .ref h2), (1, .ref hm), (2, .int (zI (p : Int)))]) C dX4_isSame_283 (by decide) rfl ?_
                        have loop_285 : ∀ (fu : Nat) (k : Nat) (w1 : va_W), (hk : k ≤ cnt) → (hX : XW hm ad a2 bd pd cI cG cnt fv fs fd rm lt tk ov w1) → cnt - k < fu → gW E (840 + 2 * k) (6800 + 12 * k) ((((((wZ h2 sa rm lt tk ov nw1 bs1 x1 y1) ++ (wG sa cG cnt (rN ra cnt))) ++ (wG q cG cnt (rN (srt ra fv cnt) cnt))) ++ ([(ba, .inl (cI, cnt, .inl (zA g)))])) ++ (w1)) ++ (wQ ra cI fv fs fd cnt)) 285 [(10, .int (zI (k : Int))), (9, .ref ba), (8, .int (zI (((gsm (RV cnt fv) (RU cnt fv fs rm) rm cnt)).2))), (6, .ref q), (5, .int (zI v5)), (4, .int (zI sc)), (3, .int (zI (cnt : Int))), (0, .ref h2), (1, .ref hm), (2, .int (zI (p : Int)))] [] := by
                          intro fu
                          induction fu with
                          | zero => intro k w1 hk hX h9; exact absurd h9 (Nat.not_lt_zero _)
                          | succ fu ih_285 =>
                            intro k w1 hk hX hmu_285
                            refine g_iload C dX4_isSame_285 0 rfl ?_
                            refine g_iload_n C dX4_isSame_287 6 rfl ?_
                            refine g_icmp_ge 347 C dX4_isSame_288 (by decide) (zr_i (by omega) (by omega)) (zr_i (by omega) (by omega)) (fun c_288 => ?_) (fun c_288 => ?_)
                            · have hv6 : v5 = vsum fv cnt := by rw [hv5]; show vsum fv cnt - 0 = _; omega
                              have hGS : GS cnt fv fs rm = (gsm (RV cnt fv) (RU cnt fv fs rm) rm cnt).2 := rfl
                              obtain ⟨q1, q2, q3, q4, q5, q6⟩ := id hY
                              have hgb2 := f_gs hI
                              have hRC := rch_bd (f := TB cnt fv fs rm) (rm := rm) 300 0
                              have hRC2 : RC cnt fv fs rm ≤ 300 := by show rch _ _ 300 0 ≤ 300; omega
                              have hvb := vsum_bd cnt hS.1
                              have hscb : -1 ≤ sc ∧ sc ≤ 8 := by
                                rcases hsc with ⟨e, _⟩ | ⟨i, e, _, e2, _⟩ <;> omega
                              refine g_aload_n C dX4_isSame_347 8 rfl ?_
                              refine g_mods [wZ h2 sa rm lt tk ov nw1 bs1 x1 y1, wG sa cG cnt (rN ra cnt), wG q cG cnt (rN (srt ra fv cnt) cnt), [(ba, .inl (cI, cnt, .inl (zA g)))], w1, wQ ra cI fv fs fd cnt] [wZ h2 sa rm lt tk ov nw1 bs1 x1 y1, wG sa cG cnt (rN ra cnt), wG q cG cnt (rN (srt ra fv cnt) cnt), [(ba, .inl (cI, cnt, .inl (zA g)))], wQ ra cI fv fs fd cnt, w1] [0, 1, 2, 3, 5, 4] (by decide) rfl ?_
                              refine g_ws (w' := (((((wZ h2 sa rm lt tk ov nw1 bs1 x1 y1) ++ (wG sa cG cnt (rN ra cnt))) ++ (wG q cG cnt (rN (srt ra fv cnt) cnt))) ++ ([(ba, .inl (cI, cnt, .inl (zA g)))])) ++ (wQ ra cI fv fs fd cnt)) ++ (w1)) rfl rfl ?_
                              obtain ⟨c20, gv0, gs0, gd0, tc0, tr0, ft0, tv0, tu0, fc0, M0, fa0, fb0, N0, rfl⟩ := hX
                              refine g_callV (wr := ((((wZ h2 sa rm lt tk ov nw1 bs1 x1 y1) ++ (wG sa cG cnt (rN ra cnt))) ++ (wG q cG cnt (rN (srt ra fv cnt) cnt))) ++ ([(ba, .inl (cI, cnt, .inl (zA g)))])) ++ (wQ ra cI fv fs fd cnt)) (st := []) _ _ C cX4_109 (met_X3_stamps l D cI cG cJ hm ad a2 bd pd cnt fv fs fd rm lt tk ov hI c20 gv0 gs0 gd0 tc0 tr0 ft0 tv0 tu0 fc0 M0 fa0 fb0 N0 ) gSp_r (ci := 3) (q0 := ((((((wZ h2 sa rm lt tk ov nw1 bs1 x1 y1) ++ (wG sa cG cnt (rN ra cnt))) ++ (wG q cG cnt (rN (srt ra fv cnt) cnt))) ++ ([(ba, .inl (cI, cnt, .inl (zA g)))])) ++ (wQ ra cI fv fs fd cnt)) : va_W).length) (at_r rfl) rfl (by decide) ⟨by dsimp only [rmX3_stamps, rmX4_isSame]; omega, by dsimp only [rmX3_stamps, rmX4_isSame]; omega⟩ rfl rfl (Nat.le_of_ble_eq_true rfl) dX4_isSame_348 ?_
                              rintro v9 w9 ⟨z9, rfl, hz9, hX⟩
                              have hz8 : z9 = (cnt : Int) := hz9
                              refine g_ws (w' := (((((wZ h2 sa rm lt tk ov nw1 bs1 x1 y1) ++ (wG sa cG cnt (rN ra cnt))) ++ (wG q cG cnt (rN (srt ra fv cnt) cnt))) ++ ([(ba, .inl (cI, cnt, .inl (zA g)))])) ++ (wQ ra cI fv fs fd cnt)) ++ (w9)) (st' := [.int (zI z9)]) (by simp only [List.append_assoc]) rfl ?_
                              refine g_mods [wZ h2 sa rm lt tk ov nw1 bs1 x1 y1, wG sa cG cnt (rN ra cnt), wG q cG cnt (rN (srt ra fv cnt) cnt), [(ba, .inl (cI, cnt, .inl (zA g)))], wQ ra cI fv fs fd cnt, w9] [wZ h2 sa rm lt tk ov nw1 bs1 x1 y1, wG sa cG cnt (rN ra cnt), wG q cG cnt (rN (srt ra fv cnt) cnt), [(ba, .inl (cI, cnt, .inl (zA g)))], w9, wQ ra cI fv fs fd cnt] [0, 1, 2, 3, 5, 4] (by decide) rfl ?_
                              refine g_ws (w' := (((((wZ h2 sa rm lt tk ov nw1 bs1 x1 y1) ++ (wG sa cG cnt (rN ra cnt))) ++ (wG q cG cnt (rN (srt ra fv cnt) cnt))) ++ ([(ba, .inl (cI, cnt, .inl (zA g)))])) ++ (w9)) ++ (wQ ra cI fv fs fd cnt)) rfl rfl ?_
                              refine g_iload_n C dX4_isSame_351 6 rfl ?_
                              refine g_icmp_ne 454 C dX4_isSame_352 (by decide) (zr_i (by omega) (by omega)) (zr_i (by omega) (by omega)) (fun c_352 => ?_) (fun c_352 => ?_)
                              · exfalso; omega
                              · refine g_aload_n C dX4_isSame_355 8 rfl ?_
                                refine g_mods [wZ h2 sa rm lt tk ov nw1 bs1 x1 y1, wG sa cG cnt (rN ra cnt), wG q cG cnt (rN (srt ra fv cnt) cnt), [(ba, .inl (cI, cnt, .inl (zA g)))], w9, wQ ra cI fv fs fd cnt] [wZ h2 sa rm lt tk ov nw1 bs1 x1 y1, wG sa cG cnt (rN ra cnt), wG q cG cnt (rN (srt ra fv cnt) cnt), [(ba, .inl (cI, cnt, .inl (zA g)))], wQ ra cI fv fs fd cnt, w9] [0, 1, 2, 3, 5, 4] (by decide) rfl ?_
                                refine g_ws (w' := (((((wZ h2 sa rm lt tk ov nw1 bs1 x1 y1) ++ (wG sa cG cnt (rN ra cnt))) ++ (wG q cG cnt (rN (srt ra fv cnt) cnt))) ++ ([(ba, .inl (cI, cnt, .inl (zA g)))])) ++ (wQ ra cI fv fs fd cnt)) ++ (w9)) rfl rfl ?_
                                obtain ⟨c20, gv0, gs0, gd0, tc0, tr0, ft0, tv0, tu0, fc0, M0, fa0, fb0, N0, rfl⟩ := hX
                                refine g_callV (wr := ((((wZ h2 sa rm lt tk ov nw1 bs1 x1 y1) ++ (wG sa cG cnt (rN ra cnt))) ++ (wG q cG cnt (rN (srt ra fv cnt) cnt))) ++ ([(ba, .inl (cI, cnt, .inl (zA g)))])) ++ (wQ ra cI fv fs fd cnt)) (st := []) _ _ C cX4_112 (met_X3_room l D cI cG cJ hm ad a2 bd pd cnt fv fs fd rm lt tk ov hI c20 gv0 gs0 gd0 tc0 tr0 ft0 tv0 tu0 fc0 M0 fa0 fb0 N0 ) gSp_r (ci := 3) (q0 := ((((((wZ h2 sa rm lt tk ov nw1 bs1 x1 y1) ++ (wG sa cG cnt (rN ra cnt))) ++ (wG q cG cnt (rN (srt ra fv cnt) cnt))) ++ ([(ba, .inl (cI, cnt, .inl (zA g)))])) ++ (wQ ra cI fv fs fd cnt)) : va_W).length) (at_r rfl) rfl (by decide) ⟨by dsimp only [rmX3_room, rmX4_isSame]; omega, by dsimp only [rmX3_room, rmX4_isSame]; omega⟩ rfl rfl (Nat.le_of_ble_eq_true rfl) dX4_isSame_356 ?_
                                rintro v9 w9 ⟨z9, rfl, hz9, hX⟩
                                have hz8 : z9 = rm := hz9
                                refine g_ws (w' := (((((wZ h2 sa rm lt tk ov nw1 bs1 x1 y1) ++ (wG sa cG cnt (rN ra cnt))) ++ (wG q cG cnt (rN (srt ra fv cnt) cnt))) ++ ([(ba, .inl (cI, cnt, .inl (zA g)))])) ++ (wQ ra cI fv fs fd cnt)) ++ (w9)) (st' := [.int (zI z9)]) (by simp only [List.append_assoc]) rfl ?_
                                refine g_mods [wZ h2 sa rm lt tk ov nw1 bs1 x1 y1, wG sa cG cnt (rN ra cnt), wG q cG cnt (rN (srt ra fv cnt) cnt), [(ba, .inl (cI, cnt, .inl (zA g)))], wQ ra cI fv fs fd cnt, w9] [wZ h2 sa rm lt tk ov nw1 bs1 x1 y1, wG sa cG cnt (rN ra cnt), wG q cG cnt (rN (srt ra fv cnt) cnt), [(ba, .inl (cI, cnt, .inl (zA g)))], w9, wQ ra cI fv fs fd cnt] [0, 1, 2, 3, 5, 4] (by decide) rfl ?_
                                refine g_ws (w' := (((((wZ h2 sa rm lt tk ov nw1 bs1 x1 y1) ++ (wG sa cG cnt (rN ra cnt))) ++ (wG q cG cnt (rN (srt ra fv cnt) cnt))) ++ ([(ba, .inl (cI, cnt, .inl (zA g)))])) ++ (w9)) ++ (wQ ra cI fv fs fd cnt)) rfl rfl ?_
                                refine g_aload_n C dX4_isSame_359 7 rfl ?_
                                refine g_getf C fX4_7 0 rfl rfl dX4_isSame_360 ?_
                                refine g_icmp_ne 454 C dX4_isSame_363 (by decide) (zr_i (by omega) (by omega)) (zr_i (by omega) (by omega)) (fun c_363 => ?_) (fun c_363 => ?_)
                                · exfalso; omega
                                · refine g_aload_n C dX4_isSame_366 8 rfl ?_
                                  refine g_mods [wZ h2 sa rm lt tk ov nw1 bs1 x1 y1, wG sa cG cnt (rN ra cnt), wG q cG cnt (rN (srt ra fv cnt) cnt), [(ba, .inl (cI, cnt, .inl (zA g)))], w9, wQ ra cI fv fs fd cnt] [wZ h2 sa rm lt tk ov nw1 bs1 x1 y1, wG sa cG cnt (rN ra cnt), wG q cG cnt (rN (srt ra fv cnt) cnt), [(ba, .inl (cI, cnt, .inl (zA g)))], wQ ra cI fv fs fd cnt, w9] [0, 1, 2, 3, 5, 4] (by decide) rfl ?_
                                  refine g_ws (w' := (((((wZ h2 sa rm lt tk ov nw1 bs1 x1 y1) ++ (wG sa cG cnt (rN ra cnt))) ++ (wG q cG cnt (rN (srt ra fv cnt) cnt))) ++ ([(ba, .inl (cI, cnt, .inl (zA g)))])) ++ (wQ ra cI fv fs fd cnt)) ++ (w9)) rfl rfl ?_
                                  obtain ⟨c20, gv0, gs0, gd0, tc0, tr0, ft0, tv0, tu0, fc0, M0, fa0, fb0, N0, rfl⟩ := hX
                                  refine g_callV (wr := ((((wZ h2 sa rm lt tk ov nw1 bs1 x1 y1) ++ (wG sa cG cnt (rN ra cnt))) ++ (wG q cG cnt (rN (srt ra fv cnt) cnt))) ++ ([(ba, .inl (cI, cnt, .inl (zA g)))])) ++ (wQ ra cI fv fs fd cnt)) (st := []) _ _ C cX4_114 (met_X3_letters l D cI cG cJ hm ad a2 bd pd cnt fv fs fd rm lt tk ov hI c20 gv0 gs0 gd0 tc0 tr0 ft0 tv0 tu0 fc0 M0 fa0 fb0 N0 ) gSp_r (ci := 3) (q0 := ((((((wZ h2 sa rm lt tk ov nw1 bs1 x1 y1) ++ (wG sa cG cnt (rN ra cnt))) ++ (wG q cG cnt (rN (srt ra fv cnt) cnt))) ++ ([(ba, .inl (cI, cnt, .inl (zA g)))])) ++ (wQ ra cI fv fs fd cnt)) : va_W).length) (at_r rfl) rfl (by decide) ⟨by dsimp only [rmX3_letters, rmX4_isSame]; omega, by dsimp only [rmX3_letters, rmX4_isSame]; omega⟩ rfl rfl (Nat.le_of_ble_eq_true rfl) dX4_isSame_367 ?_
                                  rintro v9 w9 ⟨z9, rfl, hz9, hX⟩
                                  have hz8 : z9 = lt := hz9
                                  refine g_ws (w' := (((((wZ h2 sa rm lt tk ov nw1 bs1 x1 y1) ++ (wG sa cG cnt (rN ra cnt))) ++ (wG q cG cnt (rN (srt ra fv cnt) cnt))) ++ ([(ba, .inl (cI, cnt, .inl (zA g)))])) ++ (wQ ra cI fv fs fd cnt)) ++ (w9)) (st' := [.int (zI z9)]) (by simp only [List.append_assoc]) rfl ?_
                                  refine g_mods [wZ h2 sa rm lt tk ov nw1 bs1 x1 y1, wG sa cG cnt (rN ra cnt), wG q cG cnt (rN (srt ra fv cnt) cnt), [(ba, .inl (cI, cnt, .inl (zA g)))], wQ ra cI fv fs fd cnt, w9] [wZ h2 sa rm lt tk ov nw1 bs1 x1 y1, wG sa cG cnt (rN ra cnt), wG q cG cnt (rN (srt ra fv cnt) cnt), [(ba, .inl (cI, cnt, .inl (zA g)))], w9, wQ ra cI fv fs fd cnt] [0, 1, 2, 3, 5, 4] (by decide) rfl ?_
                                  refine g_ws (w' := (((((wZ h2 sa rm lt tk ov nw1 bs1 x1 y1) ++ (wG sa cG cnt (rN ra cnt))) ++ (wG q cG cnt (rN (srt ra fv cnt) cnt))) ++ ([(ba, .inl (cI, cnt, .inl (zA g)))])) ++ (w9)) ++ (wQ ra cI fv fs fd cnt)) rfl rfl ?_
                                  refine g_aload_n C dX4_isSame_370 7 rfl ?_
                                  refine g_getf C fX4_24 0 rfl rfl dX4_isSame_371 ?_
                                  refine g_icmp_ne 454 C dX4_isSame_374 (by decide) (zr_i (by omega) (by omega)) (zr_i (by omega) (by omega)) (fun c_374 => ?_) (fun c_374 => ?_)
                                  · exfalso; omega
                                  · refine g_aload_n C dX4_isSame_377 8 rfl ?_
                                    refine g_mods [wZ h2 sa rm lt tk ov nw1 bs1 x1 y1, wG sa cG cnt (rN ra cnt), wG q cG cnt (rN (srt ra fv cnt) cnt), [(ba, .inl (cI, cnt, .inl (zA g)))], w9, wQ ra cI fv fs fd cnt] [wZ h2 sa rm lt tk ov nw1 bs1 x1 y1, wG sa cG cnt (rN ra cnt), wG q cG cnt (rN (srt ra fv cnt) cnt), [(ba, .inl (cI, cnt, .inl (zA g)))], wQ ra cI fv fs fd cnt, w9] [0, 1, 2, 3, 5, 4] (by decide) rfl ?_
                                    refine g_ws (w' := (((((wZ h2 sa rm lt tk ov nw1 bs1 x1 y1) ++ (wG sa cG cnt (rN ra cnt))) ++ (wG q cG cnt (rN (srt ra fv cnt) cnt))) ++ ([(ba, .inl (cI, cnt, .inl (zA g)))])) ++ (wQ ra cI fv fs fd cnt)) ++ (w9)) rfl rfl ?_
                                    obtain ⟨c20, gv0, gs0, gd0, tc0, tr0, ft0, tv0, tu0, fc0, M0, fa0, fb0, N0, rfl⟩ := hX
                                    refine g_callV (wr := ((((wZ h2 sa rm lt tk ov nw1 bs1 x1 y1) ++ (wG sa cG cnt (rN ra cnt))) ++ (wG q cG cnt (rN (srt ra fv cnt) cnt))) ++ ([(ba, .inl (cI, cnt, .inl (zA g)))])) ++ (wQ ra cI fv fs fd cnt)) (st := []) _ _ C cX4_116 (met_X3_taken l D cI cG cJ hm ad a2 bd pd cnt fv fs fd rm lt tk ov hI c20 gv0 gs0 gd0 tc0 tr0 ft0 tv0 tu0 fc0 M0 fa0 fb0 N0 ) gSp_r (ci := 3) (q0 := ((((((wZ h2 sa rm lt tk ov nw1 bs1 x1 y1) ++ (wG sa cG cnt (rN ra cnt))) ++ (wG q cG cnt (rN (srt ra fv cnt) cnt))) ++ ([(ba, .inl (cI, cnt, .inl (zA g)))])) ++ (wQ ra cI fv fs fd cnt)) : va_W).length) (at_r rfl) rfl (by decide) ⟨by dsimp only [rmX3_taken, rmX4_isSame]; omega, by dsimp only [rmX3_taken, rmX4_isSame]; omega⟩ rfl rfl (Nat.le_of_ble_eq_true rfl) dX4_isSame_378 ?_
                                    rintro v9 w9 ⟨z9, rfl, hz9, hX⟩
                                    have hz8 : z9 = tk := hz9
                                    refine g_ws (w' := (((((wZ h2 sa rm lt tk ov nw1 bs1 x1 y1) ++ (wG sa cG cnt (rN ra cnt))) ++ (wG q cG cnt (rN (srt ra fv cnt) cnt))) ++ ([(ba, .inl (cI, cnt, .inl (zA g)))])) ++ (wQ ra cI fv fs fd cnt)) ++ (w9)) (st' := [.int (zI z9)]) (by simp only [List.append_assoc]) rfl ?_
                                    refine g_mods [wZ h2 sa rm lt tk ov nw1 bs1 x1 y1, wG sa cG cnt (rN ra cnt), wG q cG cnt (rN (srt ra fv cnt) cnt), [(ba, .inl (cI, cnt, .inl (zA g)))], wQ ra cI fv fs fd cnt, w9] [wZ h2 sa rm lt tk ov nw1 bs1 x1 y1, wG sa cG cnt (rN ra cnt), wG q cG cnt (rN (srt ra fv cnt) cnt), [(ba, .inl (cI, cnt, .inl (zA g)))], w9, wQ ra cI fv fs fd cnt] [0, 1, 2, 3, 5, 4] (by decide) rfl ?_
                                    refine g_ws (w' := (((((wZ h2 sa rm lt tk ov nw1 bs1 x1 y1) ++ (wG sa cG cnt (rN ra cnt))) ++ (wG q cG cnt (rN (srt ra fv cnt) cnt))) ++ ([(ba, .inl (cI, cnt, .inl (zA g)))])) ++ (w9)) ++ (wQ ra cI fv fs fd cnt)) rfl rfl ?_
                                    refine g_aload_n C dX4_isSame_381 7 rfl ?_
                                    refine g_getf C fX4_27 0 rfl rfl dX4_isSame_382 ?_
                                    refine g_icmp_ne 454 C dX4_isSame_385 (by decide) (zr_i (by omega) (by omega)) (zr_i (by omega) (by omega)) (fun c_385 => ?_) (fun c_385 => ?_)
                                    · exfalso; omega
                                    · refine g_aload_n C dX4_isSame_388 8 rfl ?_
                                      refine g_mods [wZ h2 sa rm lt tk ov nw1 bs1 x1 y1, wG sa cG cnt (rN ra cnt), wG q cG cnt (rN (srt ra fv cnt) cnt), [(ba, .inl (cI, cnt, .inl (zA g)))], w9, wQ ra cI fv fs fd cnt] [wZ h2 sa rm lt tk ov nw1 bs1 x1 y1, wG sa cG cnt (rN ra cnt), wG q cG cnt (rN (srt ra fv cnt) cnt), [(ba, .inl (cI, cnt, .inl (zA g)))], wQ ra cI fv fs fd cnt, w9] [0, 1, 2, 3, 5, 4] (by decide) rfl ?_
                                      refine g_ws (w' := (((((wZ h2 sa rm lt tk ov nw1 bs1 x1 y1) ++ (wG sa cG cnt (rN ra cnt))) ++ (wG q cG cnt (rN (srt ra fv cnt) cnt))) ++ ([(ba, .inl (cI, cnt, .inl (zA g)))])) ++ (wQ ra cI fv fs fd cnt)) ++ (w9)) rfl rfl ?_
                                      obtain ⟨c20, gv0, gs0, gd0, tc0, tr0, ft0, tv0, tu0, fc0, M0, fa0, fb0, N0, rfl⟩ := hX
                                      refine g_callV (wr := ((((wZ h2 sa rm lt tk ov nw1 bs1 x1 y1) ++ (wG sa cG cnt (rN ra cnt))) ++ (wG q cG cnt (rN (srt ra fv cnt) cnt))) ++ ([(ba, .inl (cI, cnt, .inl (zA g)))])) ++ (wQ ra cI fv fs fd cnt)) (st := []) _ _ C cX4_118 (met_X3_overpaid l D cI cG cJ hm ad a2 bd pd cnt fv fs fd rm lt tk ov hI c20 gv0 gs0 gd0 tc0 tr0 ft0 tv0 tu0 fc0 M0 fa0 fb0 N0 ) gSp_r (ci := 3) (q0 := ((((((wZ h2 sa rm lt tk ov nw1 bs1 x1 y1) ++ (wG sa cG cnt (rN ra cnt))) ++ (wG q cG cnt (rN (srt ra fv cnt) cnt))) ++ ([(ba, .inl (cI, cnt, .inl (zA g)))])) ++ (wQ ra cI fv fs fd cnt)) : va_W).length) (at_r rfl) rfl (by decide) ⟨by dsimp only [rmX3_overpaid, rmX4_isSame]; omega, by dsimp only [rmX3_overpaid, rmX4_isSame]; omega⟩ rfl rfl (Nat.le_of_ble_eq_true rfl) dX4_isSame_389 ?_
                                      rintro v9 w9 ⟨z9, rfl, hz9, hX⟩
                                      have hz8 : z9 = ov := hz9
                                      refine g_ws (w' := (((((wZ h2 sa rm lt tk ov nw1 bs1 x1 y1) ++ (wG sa cG cnt (rN ra cnt))) ++ (wG q cG cnt (rN (srt ra fv cnt) cnt))) ++ ([(ba, .inl (cI, cnt, .inl (zA g)))])) ++ (wQ ra cI fv fs fd cnt)) ++ (w9)) (st' := [.int (zI z9)]) (by simp only [List.append_assoc]) rfl ?_
                                      refine g_mods [wZ h2 sa rm lt tk ov nw1 bs1 x1 y1, wG sa cG cnt (rN ra cnt), wG q cG cnt (rN (srt ra fv cnt) cnt), [(ba, .inl (cI, cnt, .inl (zA g)))], wQ ra cI fv fs fd cnt, w9] [wZ h2 sa rm lt tk ov nw1 bs1 x1 y1, wG sa cG cnt (rN ra cnt), wG q cG cnt (rN (srt ra fv cnt) cnt), [(ba, .inl (cI, cnt, .inl (zA g)))], w9, wQ ra cI fv fs fd cnt] [0, 1, 2, 3, 5, 4] (by decide) rfl ?_
                                      refine g_ws (w' := (((((wZ h2 sa rm lt tk ov nw1 bs1 x1 y1) ++ (wG sa cG cnt (rN ra cnt))) ++ (wG q cG cnt (rN (srt ra fv cnt) cnt))) ++ ([(ba, .inl (cI, cnt, .inl (zA g)))])) ++ (w9)) ++ (wQ ra cI fv fs fd cnt)) rfl rfl ?_
                                      refine g_aload_n C dX4_isSame_392 7 rfl ?_
                                      refine g_getf C fX4_30 0 rfl rfl dX4_isSame_393 ?_
                                      refine g_icmp_ne 454 C dX4_isSame_396 (by decide) (zr_i (by omega) (by omega)) (zr_i (by omega) (by omega)) (fun c_396 => ?_) (fun c_396 => ?_)
                                      · exfalso; omega
                                      · refine g_aload_n C dX4_isSame_399 8 rfl ?_
                                        refine g_mods [wZ h2 sa rm lt tk ov nw1 bs1 x1 y1, wG sa cG cnt (rN ra cnt), wG q cG cnt (rN (srt ra fv cnt) cnt), [(ba, .inl (cI, cnt, .inl (zA g)))], w9, wQ ra cI fv fs fd cnt] [wZ h2 sa rm lt tk ov nw1 bs1 x1 y1, wG sa cG cnt (rN ra cnt), wG q cG cnt (rN (srt ra fv cnt) cnt), [(ba, .inl (cI, cnt, .inl (zA g)))], wQ ra cI fv fs fd cnt, w9] [0, 1, 2, 3, 5, 4] (by decide) rfl ?_
                                        refine g_ws (w' := (((((wZ h2 sa rm lt tk ov nw1 bs1 x1 y1) ++ (wG sa cG cnt (rN ra cnt))) ++ (wG q cG cnt (rN (srt ra fv cnt) cnt))) ++ ([(ba, .inl (cI, cnt, .inl (zA g)))])) ++ (wQ ra cI fv fs fd cnt)) ++ (w9)) rfl rfl ?_
                                        obtain ⟨c20, gv0, gs0, gd0, tc0, tr0, ft0, tv0, tu0, fc0, M0, fa0, fb0, N0, rfl⟩ := hX
                                        refine g_callV (wr := ((((wZ h2 sa rm lt tk ov nw1 bs1 x1 y1) ++ (wG sa cG cnt (rN ra cnt))) ++ (wG q cG cnt (rN (srt ra fv cnt) cnt))) ++ ([(ba, .inl (cI, cnt, .inl (zA g)))])) ++ (wQ ra cI fv fs fd cnt)) (st := []) _ _ C cX4_120 (met_X3_scarcest l D cI cG cJ hm ad a2 bd pd cnt fv fs fd rm lt tk ov hI c20 gv0 gs0 gd0 tc0 tr0 ft0 tv0 tu0 fc0 M0 fa0 fb0 N0 ) gSp_r (ci := 3) (q0 := ((((((wZ h2 sa rm lt tk ov nw1 bs1 x1 y1) ++ (wG sa cG cnt (rN ra cnt))) ++ (wG q cG cnt (rN (srt ra fv cnt) cnt))) ++ ([(ba, .inl (cI, cnt, .inl (zA g)))])) ++ (wQ ra cI fv fs fd cnt)) : va_W).length) (at_r rfl) rfl (by decide) ⟨by dsimp only [rmX3_scarcest, rmX4_isSame]; omega, by dsimp only [rmX3_scarcest, rmX4_isSame]; omega⟩ rfl rfl (Nat.le_of_ble_eq_true rfl) dX4_isSame_400 ?_
                                        rintro v9 w9 ⟨z9, rfl, hz9, hX⟩
                                        have hz8 : z9 = (scF fs cnt).1 := hz9
                                        refine g_ws (w' := (((((wZ h2 sa rm lt tk ov nw1 bs1 x1 y1) ++ (wG sa cG cnt (rN ra cnt))) ++ (wG q cG cnt (rN (srt ra fv cnt) cnt))) ++ ([(ba, .inl (cI, cnt, .inl (zA g)))])) ++ (wQ ra cI fv fs fd cnt)) ++ (w9)) (st' := [.int (zI z9)]) (by simp only [List.append_assoc]) rfl ?_
                                        refine g_mods [wZ h2 sa rm lt tk ov nw1 bs1 x1 y1, wG sa cG cnt (rN ra cnt), wG q cG cnt (rN (srt ra fv cnt) cnt), [(ba, .inl (cI, cnt, .inl (zA g)))], wQ ra cI fv fs fd cnt, w9] [wZ h2 sa rm lt tk ov nw1 bs1 x1 y1, wG sa cG cnt (rN ra cnt), wG q cG cnt (rN (srt ra fv cnt) cnt), [(ba, .inl (cI, cnt, .inl (zA g)))], w9, wQ ra cI fv fs fd cnt] [0, 1, 2, 3, 5, 4] (by decide) rfl ?_
                                        refine g_ws (w' := (((((wZ h2 sa rm lt tk ov nw1 bs1 x1 y1) ++ (wG sa cG cnt (rN ra cnt))) ++ (wG q cG cnt (rN (srt ra fv cnt) cnt))) ++ ([(ba, .inl (cI, cnt, .inl (zA g)))])) ++ (w9)) ++ (wQ ra cI fv fs fd cnt)) rfl rfl ?_
                                        refine g_iload C dX4_isSame_403 5 rfl ?_
                                        refine g_icmp_ne 454 C dX4_isSame_405 (by decide) (zr_i (by omega) (by omega)) (zr_i (by omega) (by omega)) (fun c_405 => ?_) (fun c_405 => ?_)
                                        · exfalso; omega
                                        · refine g_aload_n C dX4_isSame_408 8 rfl ?_
                                          refine g_mods [wZ h2 sa rm lt tk ov nw1 bs1 x1 y1, wG sa cG cnt (rN ra cnt), wG q cG cnt (rN (srt ra fv cnt) cnt), [(ba, .inl (cI, cnt, .inl (zA g)))], w9, wQ ra cI fv fs fd cnt] [wZ h2 sa rm lt tk ov nw1 bs1 x1 y1, wG sa cG cnt (rN ra cnt), wG q cG cnt (rN (srt ra fv cnt) cnt), [(ba, .inl (cI, cnt, .inl (zA g)))], wQ ra cI fv fs fd cnt, w9] [0, 1, 2, 3, 5, 4] (by decide) rfl ?_
                                          refine g_ws (w' := (((((wZ h2 sa rm lt tk ov nw1 bs1 x1 y1) ++ (wG sa cG cnt (rN ra cnt))) ++ (wG q cG cnt (rN (srt ra fv cnt) cnt))) ++ ([(ba, .inl (cI, cnt, .inl (zA g)))])) ++ (wQ ra cI fv fs fd cnt)) ++ (w9)) rfl rfl ?_
                                          obtain ⟨c20, gv0, gs0, gd0, tc0, tr0, ft0, tv0, tu0, fc0, M0, fa0, fb0, N0, rfl⟩ := hX
                                          refine g_callV (wr := ((((wZ h2 sa rm lt tk ov nw1 bs1 x1 y1) ++ (wG sa cG cnt (rN ra cnt))) ++ (wG q cG cnt (rN (srt ra fv cnt) cnt))) ++ ([(ba, .inl (cI, cnt, .inl (zA g)))])) ++ (wQ ra cI fv fs fd cnt)) (st := []) _ _ C cX4_123 (met_X3_most l D cI cG cJ hm ad a2 bd pd cnt fv fs fd rm lt tk ov hI c20 gv0 gs0 gd0 tc0 tr0 ft0 tv0 tu0 fc0 M0 fa0 fb0 N0 ) gSp_r (ci := 3) (q0 := ((((((wZ h2 sa rm lt tk ov nw1 bs1 x1 y1) ++ (wG sa cG cnt (rN ra cnt))) ++ (wG q cG cnt (rN (srt ra fv cnt) cnt))) ++ ([(ba, .inl (cI, cnt, .inl (zA g)))])) ++ (wQ ra cI fv fs fd cnt)) : va_W).length) (at_r rfl) rfl (by decide) ⟨by dsimp only [rmX3_most, rmX4_isSame]; omega, by dsimp only [rmX3_most, rmX4_isSame]; omega⟩ rfl rfl (Nat.le_of_ble_eq_true rfl) dX4_isSame_409 ?_
                                          rintro v9 w9 ⟨z9, rfl, hz9, hX⟩
                                          have hz8 : z9 = GS cnt fv fs rm := hz9
                                          refine g_ws (w' := (((((wZ h2 sa rm lt tk ov nw1 bs1 x1 y1) ++ (wG sa cG cnt (rN ra cnt))) ++ (wG q cG cnt (rN (srt ra fv cnt) cnt))) ++ ([(ba, .inl (cI, cnt, .inl (zA g)))])) ++ (wQ ra cI fv fs fd cnt)) ++ (w9)) (st' := [.int (zI z9)]) (by simp only [List.append_assoc]) rfl ?_
                                          refine g_mods [wZ h2 sa rm lt tk ov nw1 bs1 x1 y1, wG sa cG cnt (rN ra cnt), wG q cG cnt (rN (srt ra fv cnt) cnt), [(ba, .inl (cI, cnt, .inl (zA g)))], wQ ra cI fv fs fd cnt, w9] [wZ h2 sa rm lt tk ov nw1 bs1 x1 y1, wG sa cG cnt (rN ra cnt), wG q cG cnt (rN (srt ra fv cnt) cnt), [(ba, .inl (cI, cnt, .inl (zA g)))], w9, wQ ra cI fv fs fd cnt] [0, 1, 2, 3, 5, 4] (by decide) rfl ?_
                                          refine g_ws (w' := (((((wZ h2 sa rm lt tk ov nw1 bs1 x1 y1) ++ (wG sa cG cnt (rN ra cnt))) ++ (wG q cG cnt (rN (srt ra fv cnt) cnt))) ++ ([(ba, .inl (cI, cnt, .inl (zA g)))])) ++ (w9)) ++ (wQ ra cI fv fs fd cnt)) rfl rfl ?_
                                          refine g_iload C dX4_isSame_412 2 rfl ?_
                                          refine g_icmp_ne 454 C dX4_isSame_414 (by decide) (zr_i (by omega) (by omega)) (zr_i (by omega) (by omega)) (fun c_414 => ?_) (fun c_414 => ?_)
                                          · exfalso; omega
                                          · refine g_aload_n C dX4_isSame_417 8 rfl ?_
                                            refine g_mods [wZ h2 sa rm lt tk ov nw1 bs1 x1 y1, wG sa cG cnt (rN ra cnt), wG q cG cnt (rN (srt ra fv cnt) cnt), [(ba, .inl (cI, cnt, .inl (zA g)))], w9, wQ ra cI fv fs fd cnt] [wZ h2 sa rm lt tk ov nw1 bs1 x1 y1, wG sa cG cnt (rN ra cnt), wG q cG cnt (rN (srt ra fv cnt) cnt), [(ba, .inl (cI, cnt, .inl (zA g)))], wQ ra cI fv fs fd cnt, w9] [0, 1, 2, 3, 5, 4] (by decide) rfl ?_
                                            refine g_ws (w' := (((((wZ h2 sa rm lt tk ov nw1 bs1 x1 y1) ++ (wG sa cG cnt (rN ra cnt))) ++ (wG q cG cnt (rN (srt ra fv cnt) cnt))) ++ ([(ba, .inl (cI, cnt, .inl (zA g)))])) ++ (wQ ra cI fv fs fd cnt)) ++ (w9)) rfl rfl ?_
                                            obtain ⟨c20, gv0, gs0, gd0, tc0, tr0, ft0, tv0, tu0, fc0, M0, fa0, fb0, N0, rfl⟩ := hX
                                            refine g_callV (wr := ((((wZ h2 sa rm lt tk ov nw1 bs1 x1 y1) ++ (wG sa cG cnt (rN ra cnt))) ++ (wG q cG cnt (rN (srt ra fv cnt) cnt))) ++ ([(ba, .inl (cI, cnt, .inl (zA g)))])) ++ (wQ ra cI fv fs fd cnt)) (st := []) _ _ C cX4_126 (met_X3_reachNow l D cI cG cJ hm ad a2 bd pd cnt fv fs fd rm lt tk ov hI c20 gv0 gs0 gd0 tc0 tr0 ft0 tv0 tu0 fc0 M0 fa0 fb0 N0 ) gSp_r (ci := 3) (q0 := ((((((wZ h2 sa rm lt tk ov nw1 bs1 x1 y1) ++ (wG sa cG cnt (rN ra cnt))) ++ (wG q cG cnt (rN (srt ra fv cnt) cnt))) ++ ([(ba, .inl (cI, cnt, .inl (zA g)))])) ++ (wQ ra cI fv fs fd cnt)) : va_W).length) (at_r rfl) rfl (by decide) ⟨by dsimp only [rmX3_reachNow, rmX4_isSame]; omega, by dsimp only [rmX3_reachNow, rmX4_isSame]; omega⟩ rfl rfl (Nat.le_of_ble_eq_true rfl) dX4_isSame_418 ?_
                                            rintro v9 w9 ⟨z9, rfl, hz9, hX⟩
                                            have hz8 : z9 = (RC cnt fv fs rm : Int) := hz9
                                            refine g_ws (w' := (((((wZ h2 sa rm lt tk ov nw1 bs1 x1 y1) ++ (wG sa cG cnt (rN ra cnt))) ++ (wG q cG cnt (rN (srt ra fv cnt) cnt))) ++ ([(ba, .inl (cI, cnt, .inl (zA g)))])) ++ (wQ ra cI fv fs fd cnt)) ++ (w9)) (st' := [.int (zI z9)]) (by simp only [List.append_assoc]) rfl ?_
                                            refine g_mods [wZ h2 sa rm lt tk ov nw1 bs1 x1 y1, wG sa cG cnt (rN ra cnt), wG q cG cnt (rN (srt ra fv cnt) cnt), [(ba, .inl (cI, cnt, .inl (zA g)))], wQ ra cI fv fs fd cnt, w9] [wZ h2 sa rm lt tk ov nw1 bs1 x1 y1, wG sa cG cnt (rN ra cnt), wG q cG cnt (rN (srt ra fv cnt) cnt), [(ba, .inl (cI, cnt, .inl (zA g)))], w9, wQ ra cI fv fs fd cnt] [0, 1, 2, 3, 5, 4] (by decide) rfl ?_
                                            refine g_ws (w' := (((((wZ h2 sa rm lt tk ov nw1 bs1 x1 y1) ++ (wG sa cG cnt (rN ra cnt))) ++ (wG q cG cnt (rN (srt ra fv cnt) cnt))) ++ ([(ba, .inl (cI, cnt, .inl (zA g)))])) ++ (w9)) ++ (wQ ra cI fv fs fd cnt)) rfl rfl ?_
                                            refine g_aload_n C dX4_isSame_421 7 rfl ?_
                                            refine g_mods [wZ h2 sa rm lt tk ov nw1 bs1 x1 y1, wG sa cG cnt (rN ra cnt), wG q cG cnt (rN (srt ra fv cnt) cnt), [(ba, .inl (cI, cnt, .inl (zA g)))], w9, wQ ra cI fv fs fd cnt] [wG q cG cnt (rN (srt ra fv cnt) cnt), [(ba, .inl (cI, cnt, .inl (zA g)))], w9, wZ h2 sa rm lt tk ov nw1 bs1 x1 y1, wG sa cG cnt (rN ra cnt), wQ ra cI fv fs fd cnt] [2, 3, 4, 0, 1, 5] (by decide) rfl ?_
                                            refine g_ws (w' := (((((wG q cG cnt (rN (srt ra fv cnt) cnt)) ++ ([(ba, .inl (cI, cnt, .inl (zA g)))])) ++ (w9)) ++ (wZ h2 sa rm lt tk ov nw1 bs1 x1 y1)) ++ (wG sa cG cnt (rN ra cnt))) ++ (wQ ra cI fv fs fd cnt)) rfl rfl ?_
                                            refine g_eqw (w' := (((wG q cG cnt (rN (srt ra fv cnt) cnt)) ++ ([(ba, .inl (cI, cnt, .inl (zA g)))])) ++ (w9)) ++ (((wZ h2 sa rm lt tk ov nw1 bs1 x1 y1) ++ (wG sa cG cnt (rN ra cnt))) ++ (wQ ra cI fv fs fd cnt))) (by simp only [List.append_assoc]) ?_
                                            refine g_callV (wr := ((wG q cG cnt (rN (srt ra fv cnt) cnt)) ++ ([(ba, .inl (cI, cnt, .inl (zA g)))])) ++ (w9)) (st := [.int (zI z9)]) _ _ C cX4_129 (met_X4_reachNow l D cI cG cJ h2 sa ra cnt hc fv fs fd hS rm lt tk ov hr nw1 bs1 x1 y1) gSp_r (ci := 4) (q0 := ((((wG q cG cnt (rN (srt ra fv cnt) cnt)) ++ ([(ba, .inl (cI, cnt, .inl (zA g)))])) ++ (w9)) : va_W).length) (at_r rfl) rfl (by decide) ⟨by dsimp only [rmX4_reachNow, rmX4_isSame]; omega, by dsimp only [rmX4_reachNow, rmX4_isSame]; omega⟩ rfl rfl (Nat.le_of_ble_eq_true rfl) dX4_isSame_422 ?_
                                            rintro v9 w9 ⟨z8, rfl, rfl, rfl⟩
                                            refine g_ws (w' := (((((wG q cG cnt (rN (srt ra fv cnt) cnt)) ++ ([(ba, .inl (cI, cnt, .inl (zA g)))])) ++ (w9)) ++ (wZ h2 sa rm lt tk ov nw1 bs1 x1 y1)) ++ (wG sa cG cnt (rN ra cnt))) ++ (wQ ra cI fv fs fd cnt)) (st' := [.int (zI (RC cnt fv fs rm : Int)), .int (zI z9)]) (by simp only [List.append_assoc]) rfl ?_
                                            refine g_mods [wG q cG cnt (rN (srt ra fv cnt) cnt), [(ba, .inl (cI, cnt, .inl (zA g)))], w9, wZ h2 sa rm lt tk ov nw1 bs1 x1 y1, wG sa cG cnt (rN ra cnt), wQ ra cI fv fs fd cnt] [wZ h2 sa rm lt tk ov nw1 bs1 x1 y1, wG sa cG cnt (rN ra cnt), wG q cG cnt (rN (srt ra fv cnt) cnt), [(ba, .inl (cI, cnt, .inl (zA g)))], w9, wQ ra cI fv fs fd cnt] [3, 4, 0, 1, 2, 5] (by decide) rfl ?_
                                            refine g_ws (w' := (((((wZ h2 sa rm lt tk ov nw1 bs1 x1 y1) ++ (wG sa cG cnt (rN ra cnt))) ++ (wG q cG cnt (rN (srt ra fv cnt) cnt))) ++ ([(ba, .inl (cI, cnt, .inl (zA g)))])) ++ (w9)) ++ (wQ ra cI fv fs fd cnt)) rfl rfl ?_
                                            refine g_icmp_ne 454 C dX4_isSame_425 (by decide) (zr_i (by omega) (by omega)) (zr_i (by omega) (by omega)) (fun c_425 => ?_) (fun c_425 => ?_)
                                            · exfalso; omega
                                            · refine g_aload_n C dX4_isSame_428 8 rfl ?_
                                              refine g_mods [wZ h2 sa rm lt tk ov nw1 bs1 x1 y1, wG sa cG cnt (rN ra cnt), wG q cG cnt (rN (srt ra fv cnt) cnt), [(ba, .inl (cI, cnt, .inl (zA g)))], w9, wQ ra cI fv fs fd cnt] [wZ h2 sa rm lt tk ov nw1 bs1 x1 y1, wG sa cG cnt (rN ra cnt), wG q cG cnt (rN (srt ra fv cnt) cnt), [(ba, .inl (cI, cnt, .inl (zA g)))], wQ ra cI fv fs fd cnt, w9] [0, 1, 2, 3, 5, 4] (by decide) rfl ?_
                                              refine g_ws (w' := (((((wZ h2 sa rm lt tk ov nw1 bs1 x1 y1) ++ (wG sa cG cnt (rN ra cnt))) ++ (wG q cG cnt (rN (srt ra fv cnt) cnt))) ++ ([(ba, .inl (cI, cnt, .inl (zA g)))])) ++ (wQ ra cI fv fs fd cnt)) ++ (w9)) rfl rfl ?_
                                              obtain ⟨c20, gv0, gs0, gd0, tc0, tr0, ft0, tv0, tu0, fc0, M0, fa0, fb0, N0, rfl⟩ := hX
                                              refine g_callV (wr := ((((wZ h2 sa rm lt tk ov nw1 bs1 x1 y1) ++ (wG sa cG cnt (rN ra cnt))) ++ (wG q cG cnt (rN (srt ra fv cnt) cnt))) ++ ([(ba, .inl (cI, cnt, .inl (zA g)))])) ++ (wQ ra cI fv fs fd cnt)) (st := []) _ _ C cX4_130 (met_X3_meanValue l D cI cG cJ hm ad a2 bd pd cnt fv fs fd rm lt tk ov hI c20 gv0 gs0 gd0 tc0 tr0 ft0 tv0 tu0 fc0 M0 fa0 fb0 N0 ) gSp_r (ci := 3) (q0 := ((((((wZ h2 sa rm lt tk ov nw1 bs1 x1 y1) ++ (wG sa cG cnt (rN ra cnt))) ++ (wG q cG cnt (rN (srt ra fv cnt) cnt))) ++ ([(ba, .inl (cI, cnt, .inl (zA g)))])) ++ (wQ ra cI fv fs fd cnt)) : va_W).length) (at_r rfl) rfl (by decide) ⟨by dsimp only [rmX3_meanValue, rmX4_isSame]; omega, by dsimp only [rmX3_meanValue, rmX4_isSame]; omega⟩ rfl rfl (Nat.le_of_ble_eq_true rfl) dX4_isSame_429 ?_
                                              rintro v9 w9 ⟨z9, rfl, hz9, hX⟩
                                              refine g_ws (w' := (((((wZ h2 sa rm lt tk ov nw1 bs1 x1 y1) ++ (wG sa cG cnt (rN ra cnt))) ++ (wG q cG cnt (rN (srt ra fv cnt) cnt))) ++ ([(ba, .inl (cI, cnt, .inl (zA g)))])) ++ (wQ ra cI fv fs fd cnt)) ++ (w9)) (st' := [.double z9]) (by simp only [List.append_assoc]) rfl ?_
                                              refine g_mods [wZ h2 sa rm lt tk ov nw1 bs1 x1 y1, wG sa cG cnt (rN ra cnt), wG q cG cnt (rN (srt ra fv cnt) cnt), [(ba, .inl (cI, cnt, .inl (zA g)))], wQ ra cI fv fs fd cnt, w9] [wZ h2 sa rm lt tk ov nw1 bs1 x1 y1, wG sa cG cnt (rN ra cnt), wG q cG cnt (rN (srt ra fv cnt) cnt), [(ba, .inl (cI, cnt, .inl (zA g)))], w9, wQ ra cI fv fs fd cnt] [0, 1, 2, 3, 5, 4] (by decide) rfl ?_
                                              refine g_ws (w' := (((((wZ h2 sa rm lt tk ov nw1 bs1 x1 y1) ++ (wG sa cG cnt (rN ra cnt))) ++ (wG q cG cnt (rN (srt ra fv cnt) cnt))) ++ ([(ba, .inl (cI, cnt, .inl (zA g)))])) ++ (w9)) ++ (wQ ra cI fv fs fd cnt)) rfl rfl ?_
                                              refine g_iload_n C dX4_isSame_432 6 rfl ?_
                                              refine g_if_ne 440 C dX4_isSame_433 (by decide) (zr_i (by omega) (by omega)) (fun c_433 => ?_) (fun c_433 => ?_)
                                              · refine g_iload C dX4_isSame_440 4 rfl ?_
                                                refine g_i2d C dX4_isSame_442 ?_
                                                refine g_iload_n C dX4_isSame_443 6 rfl ?_
                                                refine g_i2d C dX4_isSame_444 ?_
                                                refine g_ddiv C dX4_isSame_445 (by rw [hv6]; exact mean_ok hc (by omega) hS.1) ?_
                                                refine g_dcmp C dX4_isSame_446 ?_
                                                refine g_eqs (st' := [.int (zI 0)]) (by rw [show z9 = mnD (vsum fv cnt) (cnt : Int) from hz9.trans (if_neg (by omega)), show FP.ddiv (FP.i2d (zI v5)) (FP.i2d (zI (cnt : Int))) = mnD (vsum fv cnt) (cnt : Int) by rw [hv6]; rfl, dc_ok hc (by omega) hS.1]) ?_
                                                refine g_if_ne 454 C dX4_isSame_447 (by decide) (zr_i (by omega) (by omega)) (fun c_447 => ?_) (fun c_447 => ?_)
                                                · exfalso; omega
                                                · refine g_iconst C dX4_isSame_450 ?_
                                                  refine g_goto 455 C dX4_isSame_451 (by decide) ?_
                                                  exact ret _ _ _ _ _ _ (by first | omega | (dsimp only [rmX4_isSame, rmX4_reachNow, rmX3_stamps, rmX3_room, rmX3_letters, rmX3_taken, rmX3_overpaid, rmX3_scarcest, rmX3_most, rmX3_reachNow, rmX3_meanValue]; omega)) (by first | omega | (dsimp only [rmX4_isSame, rmX4_reachNow, rmX3_stamps, rmX3_room, rmX3_letters, rmX3_taken, rmX3_overpaid, rmX3_scarcest, rmX3_most, rmX3_reachNow, rmX3_meanValue]; omega)) dX4_isSame_455 (Or.inr rfl) (rfl)
                                              · refine g_dconst0 C dX4_isSame_436 ?_
                                                refine g_goto 446 C dX4_isSame_437 (by decide) ?_
                                                refine g_dcmp C dX4_isSame_446 ?_
                                                refine g_eqs (st' := [.int (zI 0)]) (by rw [show z9 = FP.dconst0 from hz9.trans (if_pos (by omega)), dc_0]) ?_
                                                refine g_if_ne 454 C dX4_isSame_447 (by decide) (zr_i (by omega) (by omega)) (fun c_447 => ?_) (fun c_447 => ?_)
                                                · exfalso; omega
                                                · refine g_iconst C dX4_isSame_450 ?_
                                                  refine g_goto 455 C dX4_isSame_451 (by decide) ?_
                                                  exact ret _ _ _ _ _ _ (by first | omega | (dsimp only [rmX4_isSame, rmX4_reachNow, rmX3_stamps, rmX3_room, rmX3_letters, rmX3_taken, rmX3_overpaid, rmX3_scarcest, rmX3_most, rmX3_reachNow, rmX3_meanValue]; omega)) (by first | omega | (dsimp only [rmX4_isSame, rmX4_reachNow, rmX3_stamps, rmX3_room, rmX3_letters, rmX3_taken, rmX3_overpaid, rmX3_scarcest, rmX3_most, rmX3_reachNow, rmX3_meanValue]; omega)) dX4_isSame_455 (Or.inr rfl) (rfl)
                            · have hk0 : k < cnt := by omega
                              have hcl := cab_lt (fv := fv) (s := k) cnt hk0
                              have hrk : ∀ a, a = cab fv (fv k) cnt → ordF fv cnt (cnt - 1 - a) = k := fun a e9 => by
                                obtain ⟨j, j1, j2⟩ := ordF_sur fv cnt k hk0
                                have h1 := rank_ord hS.2.2 j1
                                rw [j2] at h1
                                rw [e9, h1, show cnt - 1 - (cnt - 1 - j) = j by omega, j2]
                              refine g_iconst C dX4_isSame_291 ?_
                              refine g_istore (L' := [(11, .int (zI 0)), (10, .int (zI (k : Int))), (9, .ref ba), (8, .int (zI (((gsm (RV cnt fv) (RU cnt fv fs rm) rm cnt)).2))), (6, .ref q), (5, .int (zI v5)), (4, .int (zI sc)), (3, .int (zI (cnt : Int))), (0, .ref h2), (1, .ref hm), (2, .int (zI (p : Int)))]) C dX4_isSame_292 (by decide) rfl ?_
                              have loop_294 : ∀ (fu : Nat) (a : Nat), (ha0 : a ≤ cab fv (fv k) cnt) → cnt - a < fu → gW E (840 + 2 * k) (6800 + 12 * k) ((((((wZ h2 sa rm lt tk ov nw1 bs1 x1 y1) ++ (wG sa cG cnt (rN ra cnt))) ++ (wG q cG cnt (rN (srt ra fv cnt) cnt))) ++ ([(ba, .inl (cI, cnt, .inl (zA g)))])) ++ (w1)) ++ (wQ ra cI fv fs fd cnt)) 294 [(11, .int (zI (a : Int))), (10, .int (zI (k : Int))), (9, .ref ba), (8, .int (zI (((gsm (RV cnt fv) (RU cnt fv fs rm) rm cnt)).2))), (6, .ref q), (5, .int (zI v5)), (4, .int (zI sc)), (3, .int (zI (cnt : Int))), (0, .ref h2), (1, .ref hm), (2, .int (zI (p : Int)))] [] := by
                                intro fu
                                induction fu with
                                | zero => intro a ha0 h9; exact absurd h9 (Nat.not_lt_zero _)
                                | succ fu ih_294 =>
                                  intro a ha0 hmu_294
                                  refine g_aload C dX4_isSame_294 4 rfl ?_
                                  refine g_iload C dX4_isSame_296 0 rfl ?_
                                  refine g_aald (y := ra (ordF fv cnt (cnt - 1 - a))) C 2 rfl (by omega) (by omega) (by omega) (rN_at (by omega)) dX4_isSame_298 ?_
                                  refine g_aload_n C dX4_isSame_299 8 rfl ?_
                                  refine g_getf C fX4_15 0 rfl rfl dX4_isSame_300 ?_
                                  refine g_iload C dX4_isSame_303 1 rfl ?_
                                  refine g_aald (y := ra k) C 1 rfl (by omega) (by omega) (by omega) (rN_at (by omega)) dX4_isSame_305 ?_
                                  refine g_acmp_eq 315 C dX4_isSame_306 (by decide) (fun c_306 => ?_) (fun c_306 => ?_)
                                  · have ha : a < cnt := by omega
                                    have hk9 : ordF fv cnt (cnt - 1 - a) = k := hinj _ _ (ordF_lt fv cnt _ (by omega)) hk0 c_306
                                    refine g_aload_n C dX4_isSame_315 9 rfl ?_
                                    refine g_iload_n C dX4_isSame_316 10 rfl ?_
                                    refine g_iload C dX4_isSame_317 1 rfl ?_
                                    refine g_mods [wZ h2 sa rm lt tk ov nw1 bs1 x1 y1, wG sa cG cnt (rN ra cnt), wG q cG cnt (rN (srt ra fv cnt) cnt), [(ba, .inl (cI, cnt, .inl (zA g)))], w1, wQ ra cI fv fs fd cnt] [wZ h2 sa rm lt tk ov nw1 bs1 x1 y1, wG sa cG cnt (rN ra cnt), wG q cG cnt (rN (srt ra fv cnt) cnt), [(ba, .inl (cI, cnt, .inl (zA g)))], wQ ra cI fv fs fd cnt, w1] [0, 1, 2, 3, 5, 4] (by decide) rfl ?_
                                    refine g_ws (w' := (((((wZ h2 sa rm lt tk ov nw1 bs1 x1 y1) ++ (wG sa cG cnt (rN ra cnt))) ++ (wG q cG cnt (rN (srt ra fv cnt) cnt))) ++ ([(ba, .inl (cI, cnt, .inl (zA g)))])) ++ (wQ ra cI fv fs fd cnt)) ++ (w1)) rfl rfl ?_
                                    obtain ⟨c20, gv0, gs0, gd0, tc0, tr0, ft0, tv0, tu0, fc0, M0, fa0, fb0, N0, rfl⟩ := hX
                                    refine g_callVX (wr := ((((wZ h2 sa rm lt tk ov nw1 bs1 x1 y1) ++ (wG sa cG cnt (rN ra cnt))) ++ (wG q cG cnt (rN (srt ra fv cnt) cnt))) ++ ([(ba, .inl (cI, cnt, .inl (zA g)))])) ++ (wQ ra cI fv fs fd cnt)) (st := []) _ _ C cX4_106 (met_X3_ofStampFor l hl9 D cI cG cJ hm ad a2 bd pd cnt fv fs fd rm lt tk ov hI c20 gv0 gs0 gd0 tc0 tr0 ft0 tv0 tu0 fc0 M0 fa0 fb0 N0 (p : Int) (k : Int) (zr_i (by omega) (by omega)) (zr_i (by omega) (by omega))) gSp_r (ci := 3) (q0 := ((((((wZ h2 sa rm lt tk ov nw1 bs1 x1 y1) ++ (wG sa cG cnt (rN ra cnt))) ++ (wG q cG cnt (rN (srt ra fv cnt) cnt))) ++ ([(ba, .inl (cI, cnt, .inl (zA g)))])) ++ (wQ ra cI fv fs fd cnt)) : va_W).length) (at_r rfl) rfl (by decide) ⟨by dsimp only [rmX3_ofStampFor, rmX4_isSame]; omega, by dsimp only [rmX3_ofStampFor, rmX4_isSame]; omega⟩ rfl rfl (Nat.le_of_ble_eq_true rfl) dX4_isSame_319 (fun nm9 w9 h9 => ?_) ?_
                                    · exfalso
                                      rcases h9 with ⟨_, h8, _⟩ | ⟨_, _, h8, _⟩
                                      · exact h8 ⟨by omega, by omega⟩
                                      · exact h8 ⟨by omega, by omega⟩
                                    rintro v9 w9 ⟨z9, rfl, hz9, hX⟩
                                    have hf9 : z9 = CHR cnt fv fs rm s a := hz9.2.2.trans ((if_neg (show ¬ LSm cnt fv fs rm p = -1 by omega)).trans (by show CH cnt fv fs rm (LSm cnt fv fs rm p).toNat k = _; rw [g1, Int.toNat_natCast]; exact CH_k hS ha hk9))
                                    have hga := g5 a ha
                                    have hgb := CH_le (s := s) hS hr hk0
                                    rw [CH_k hS ha hk9] at hgb
                                    refine g_ws (w' := (((((wZ h2 sa rm lt tk ov nw1 bs1 x1 y1) ++ (wG sa cG cnt (rN ra cnt))) ++ (wG q cG cnt (rN (srt ra fv cnt) cnt))) ++ ([(ba, .inl (cI, cnt, .inl (zA g)))])) ++ (wQ ra cI fv fs fd cnt)) ++ (w9)) (st' := [.int (zI z9)]) (by simp only [List.append_assoc]) rfl ?_
                                    refine g_mods [wZ h2 sa rm lt tk ov nw1 bs1 x1 y1, wG sa cG cnt (rN ra cnt), wG q cG cnt (rN (srt ra fv cnt) cnt), [(ba, .inl (cI, cnt, .inl (zA g)))], wQ ra cI fv fs fd cnt, w9] [wZ h2 sa rm lt tk ov nw1 bs1 x1 y1, wG sa cG cnt (rN ra cnt), wG q cG cnt (rN (srt ra fv cnt) cnt), [(ba, .inl (cI, cnt, .inl (zA g)))], w9, wQ ra cI fv fs fd cnt] [0, 1, 2, 3, 5, 4] (by decide) rfl ?_
                                    refine g_ws (w' := (((((wZ h2 sa rm lt tk ov nw1 bs1 x1 y1) ++ (wG sa cG cnt (rN ra cnt))) ++ (wG q cG cnt (rN (srt ra fv cnt) cnt))) ++ ([(ba, .inl (cI, cnt, .inl (zA g)))])) ++ (w9)) ++ (wQ ra cI fv fs fd cnt)) rfl rfl ?_
                                    refine g_aload C dX4_isSame_322 2 rfl ?_
                                    refine g_ifnonnullR 331 C dX4_isSame_324 (by decide) ?_
                                    refine g_aload C dX4_isSame_331 2 rfl ?_
                                    refine g_iload C dX4_isSame_333 0 rfl ?_
                                    refine g_iald C 3 rfl (by omega) (by omega) (by omega) (v := (g a)) rfl dX4_isSame_335 ?_
                                    refine g_icmp_eq 341 C dX4_isSame_336 (by decide) (zr_i (by omega) (by omega)) (zr_i (by omega) (by omega)) (fun c_336 => ?_) (fun c_336 => ?_)
                                    · refine g_iinc (L' := [(10, .int (zI ((k : Int) + 1))), (11, .int (zI (a : Int))), (9, .ref ba), (8, .int (zI (((gsm (RV cnt fv) (RU cnt fv fs rm) rm cnt)).2))), (6, .ref q), (5, .int (zI v5)), (4, .int (zI sc)), (3, .int (zI (cnt : Int))), (0, .ref h2), (1, .ref hm), (2, .int (zI (p : Int)))]) C dX4_isSame_341 1 rfl (by decide) rfl ?_
                                      refine g_goto 285 C dX4_isSame_344 (by decide) ?_
                                      refine g_loc (L' := [(10, .int (zI ((k : Int) + 1))), (9, .ref ba), (8, .int (zI (((gsm (RV cnt fv) (RU cnt fv fs rm) rm cnt)).2))), (6, .ref q), (5, .int (zI v5)), (4, .int (zI sc)), (3, .int (zI (cnt : Int))), (0, .ref h2), (1, .ref hm), (2, .int (zI (p : Int)))]) [0, 2, 3, 4, 5, 6, 7, 8, 9, 10] rfl ?_
                                      exact ih_285 (k + 1) w9 (by omega) hX (by omega)
                                    · exfalso; omega
                                  · refine g_iinc (L' := [(11, .int (zI ((a : Int) + 1))), (10, .int (zI (k : Int))), (9, .ref ba), (8, .int (zI (((gsm (RV cnt fv) (RU cnt fv fs rm) rm cnt)).2))), (6, .ref q), (5, .int (zI v5)), (4, .int (zI sc)), (3, .int (zI (cnt : Int))), (0, .ref h2), (1, .ref hm), (2, .int (zI (p : Int)))]) C dX4_isSame_309 0 rfl (by decide) rfl ?_
                                    refine g_goto 294 C dX4_isSame_312 (by decide) ?_
                                    refine g_loc (L' := [(11, .int (zI ((a : Int) + 1))), (10, .int (zI (k : Int))), (9, .ref ba), (8, .int (zI (((gsm (RV cnt fv) (RU cnt fv fs rm) rm cnt)).2))), (6, .ref q), (5, .int (zI v5)), (4, .int (zI sc)), (3, .int (zI (cnt : Int))), (0, .ref h2), (1, .ref hm), (2, .int (zI (p : Int)))]) [0, 1, 2, 3, 4, 5, 6, 7, 8, 9, 10] rfl ?_
                                    exact ih_294 (a + 1) (by
                                     have : a ≠ cab fv (fv k) cnt := fun e9 => c_306 (by rw [hrk a e9])
                                     omega) (by omega)
                              refine g_loc (L' := [(11, .int (zI 0)), (10, .int (zI (k : Int))), (9, .ref ba), (8, .int (zI (((gsm (RV cnt fv) (RU cnt fv fs rm) rm cnt)).2))), (6, .ref q), (5, .int (zI v5)), (4, .int (zI sc)), (3, .int (zI (cnt : Int))), (0, .ref h2), (1, .ref hm), (2, .int (zI (p : Int)))]) [0, 1, 2, 3, 4, 5, 6, 7, 8, 9, 10] rfl ?_
                              exact loop_294 _ 0 (Nat.zero_le _) (Nat.lt_succ_self _)
                        refine g_loc (L' := [(10, .int (zI 0)), (9, .ref ba), (8, .int (zI (((gsm (RV cnt fv) (RU cnt fv fs rm) rm cnt)).2))), (6, .ref q), (5, .int (zI v5)), (4, .int (zI sc)), (3, .int (zI (cnt : Int))), (0, .ref h2), (1, .ref hm), (2, .int (zI (p : Int)))]) [0, 1, 3, 5, 6, 7, 8, 9, 10, 11] rfl ?_
                        refine g_widen (k' := 840) (n' := 6800) (by dsimp only [rmX4_sorted, rmX4_gets, rmX4_sum, rmX4_many, rmX3_overpay, rmX3_stampsFor, rmX3_canPay]; omega) (by dsimp only [rmX4_sorted, rmX4_gets, rmX4_sum, rmX4_many, rmX3_overpay, rmX3_stampsFor, rmX3_canPay]; omega) ?_
                        exact loop_285 _ 0 w9 (Nat.zero_le _) hX (Nat.lt_succ_self _)
                      · exfalso; omega
            · have hRU : RU cnt fv fs rm i = min (fs (ordF fv cnt (cnt - 1 - i))) rm := rfl
              have hgb := gsm_bd (tv := RV cnt fv) (tu := RU cnt fv fs rm) (rm := rm) hr.1 i (fun j hj => (RU_bd hS hr (by omega)).1)
              have hso := hS.2.1 _ (ordF_lt fv cnt (cnt - 1 - i) (by omega))
              refine g_aload C dX4_isSame_146 2 rfl ?_
              refine g_iload C dX4_isSame_148 0 rfl ?_
              refine g_aald (y := ra (ordF fv cnt (cnt - 1 - i))) C 2 rfl (by omega) (by omega) (by omega) (rN_at (by omega)) dX4_isSame_150 ?_
              refine g_astore (L' := [(12, .ref (ra (ordF fv cnt (cnt - 1 - i)))), (11, .int (zI (i : Int))), (10, .int (zI (cnt : Int))), (9, .ref q), (8, .int (zI (((gsm (RV cnt fv) (RU cnt fv fs rm) rm i)).2))), (7, .int (zI (((gsm (RV cnt fv) (RU cnt fv fs rm) rm i)).1))), (6, .ref q), (5, .int (zI v5)), (4, .int (zI sc)), (3, .int (zI (cnt : Int))), (0, .ref h2), (1, .ref hm), (2, .int (zI (p : Int)))]) C dX4_isSame_151 (by decide) rfl ?_
              refine g_iload C dX4_isSame_153 5 rfl ?_
              refine g_aload C dX4_isSame_155 0 rfl ?_
              refine g_iconst C dX4_isSame_157 ?_
              refine g_iald C _ (wQ_at (j := ordF fv cnt (cnt - 1 - i)) (ordF_lt fv cnt _ (by omega))) (by decide) (by decide) (by decide) (v := (fs (ordF fv cnt (cnt - 1 - i)))) rfl dX4_isSame_158 ?_
              refine g_icmp_ge 167 C dX4_isSame_159 (by decide) (zr_i (by omega) (by omega)) (zr_i (by omega) (by omega)) (fun c_159 => ?_) (fun c_159 => ?_)
              · refine g_aload C dX4_isSame_167 0 rfl ?_
                refine g_iconst C dX4_isSame_169 ?_
                refine g_iald C _ (wQ_at (j := ordF fv cnt (cnt - 1 - i)) (ordF_lt fv cnt _ (by omega))) (by decide) (by decide) (by decide) (v := (fs (ordF fv cnt (cnt - 1 - i)))) rfl dX4_isSame_170 ?_
                refine g_top (min (RU cnt fv fs rm i) ((gsm (RV cnt fv) (RU cnt fv fs rm) rm i)).1) (by omega) ?_
                refine g_istore (L' := [(13, .int (zI (min (RU cnt fv fs rm i) ((gsm (RV cnt fv) (RU cnt fv fs rm) rm i)).1))), (12, .ref (ra (ordF fv cnt (cnt - 1 - i)))), (11, .int (zI (i : Int))), (10, .int (zI (cnt : Int))), (9, .ref q), (8, .int (zI (((gsm (RV cnt fv) (RU cnt fv fs rm) rm i)).2))), (7, .int (zI (((gsm (RV cnt fv) (RU cnt fv fs rm) rm i)).1))), (6, .ref q), (5, .int (zI v5)), (4, .int (zI sc)), (3, .int (zI (cnt : Int))), (0, .ref h2), (1, .ref hm), (2, .int (zI (p : Int)))]) C dX4_isSame_171 (by decide) rfl ?_
                refine g_iload C dX4_isSame_173 5 rfl ?_
                refine g_iload C dX4_isSame_175 0 rfl ?_
                refine g_aload C dX4_isSame_177 1 rfl ?_
                refine g_iconst C dX4_isSame_179 ?_
                refine g_iald C _ (wQ_at (j := ordF fv cnt (cnt - 1 - i)) (ordF_lt fv cnt _ (by omega))) (by decide) (by decide) (by decide) (v := (fv (ordF fv cnt (cnt - 1 - i)))) rfl dX4_isSame_180 ?_
                refine g_imul C dX4_isSame_181 ?_
                refine g_iadd C dX4_isSame_182 ?_
                refine g_istore (L' := [(8, .int (zI (((gsm (RV cnt fv) (RU cnt fv fs rm) rm i)).2 + ((min (RU cnt fv fs rm i) ((gsm (RV cnt fv) (RU cnt fv fs rm) rm i)).1) * (fv (ordF fv cnt (cnt - 1 - i))))))), (13, .int (zI (min (RU cnt fv fs rm i) ((gsm (RV cnt fv) (RU cnt fv fs rm) rm i)).1))), (12, .ref (ra (ordF fv cnt (cnt - 1 - i)))), (11, .int (zI (i : Int))), (10, .int (zI (cnt : Int))), (9, .ref q), (7, .int (zI (((gsm (RV cnt fv) (RU cnt fv fs rm) rm i)).1))), (6, .ref q), (5, .int (zI v5)), (4, .int (zI sc)), (3, .int (zI (cnt : Int))), (0, .ref h2), (1, .ref hm), (2, .int (zI (p : Int)))]) C dX4_isSame_183 (by decide) rfl ?_
                refine g_iload C dX4_isSame_185 6 rfl ?_
                refine g_iload C dX4_isSame_187 1 rfl ?_
                refine g_isub C dX4_isSame_189 ?_
                refine g_istore (L' := [(7, .int (zI (((gsm (RV cnt fv) (RU cnt fv fs rm) rm i)).1 - (min (RU cnt fv fs rm i) ((gsm (RV cnt fv) (RU cnt fv fs rm) rm i)).1)))), (8, .int (zI (((gsm (RV cnt fv) (RU cnt fv fs rm) rm i)).2 + ((min (RU cnt fv fs rm i) ((gsm (RV cnt fv) (RU cnt fv fs rm) rm i)).1) * (fv (ordF fv cnt (cnt - 1 - i))))))), (13, .int (zI (min (RU cnt fv fs rm i) ((gsm (RV cnt fv) (RU cnt fv fs rm) rm i)).1))), (12, .ref (ra (ordF fv cnt (cnt - 1 - i)))), (11, .int (zI (i : Int))), (10, .int (zI (cnt : Int))), (9, .ref q), (6, .ref q), (5, .int (zI v5)), (4, .int (zI sc)), (3, .int (zI (cnt : Int))), (0, .ref h2), (1, .ref hm), (2, .int (zI (p : Int)))]) C dX4_isSame_190 (by decide) rfl ?_
                refine g_iinc (L' := [(11, .int (zI ((i : Int) + 1))), (7, .int (zI (((gsm (RV cnt fv) (RU cnt fv fs rm) rm i)).1 - (min (RU cnt fv fs rm i) ((gsm (RV cnt fv) (RU cnt fv fs rm) rm i)).1)))), (8, .int (zI (((gsm (RV cnt fv) (RU cnt fv fs rm) rm i)).2 + ((min (RU cnt fv fs rm i) ((gsm (RV cnt fv) (RU cnt fv fs rm) rm i)).1) * (fv (ordF fv cnt (cnt - 1 - i))))))), (13, .int (zI (min (RU cnt fv fs rm i) ((gsm (RV cnt fv) (RU cnt fv fs rm) rm i)).1))), (12, .ref (ra (ordF fv cnt (cnt - 1 - i)))), (10, .int (zI (cnt : Int))), (9, .ref q), (6, .ref q), (5, .int (zI v5)), (4, .int (zI sc)), (3, .int (zI (cnt : Int))), (0, .ref h2), (1, .ref hm), (2, .int (zI (p : Int)))]) C dX4_isSame_192 4 rfl (by decide) rfl ?_
                refine g_goto 139 C dX4_isSame_195 (by decide) ?_
                refine g_loc (L' := [(11, .int (zI ((i : Int) + 1))), (10, .int (zI (cnt : Int))), (9, .ref q), (8, .int (zI (((gsm (RV cnt fv) (RU cnt fv fs rm) rm i)).2 + ((min (RU cnt fv fs rm i) ((gsm (RV cnt fv) (RU cnt fv fs rm) rm i)).1) * (fv (ordF fv cnt (cnt - 1 - i))))))), (7, .int (zI (((gsm (RV cnt fv) (RU cnt fv fs rm) rm i)).1 - (min (RU cnt fv fs rm i) ((gsm (RV cnt fv) (RU cnt fv fs rm) rm i)).1)))), (6, .ref q), (5, .int (zI v5)), (4, .int (zI sc)), (3, .int (zI (cnt : Int))), (0, .ref h2), (1, .ref hm), (2, .int (zI (p : Int)))]) [0, 5, 6, 2, 1, 7, 8, 9, 10, 11, 12, 13] rfl ?_
                refine g_lw (w' := ((((wZ h2 sa rm lt tk ov nw bs bS bM) ++ (wG sa cG cnt (rN ra cnt))) ++ (wG q cG cnt (rN (srt ra fv cnt) cnt))) ++ (w1)) ++ (wQ ra cI fv fs fd cnt)) (L' := [(11, .int (zI (((i + 1) : Nat) : Int))), (10, .int (zI (cnt : Int))), (9, .ref q), (8, .int (zI (((gsm (RV cnt fv) (RU cnt fv fs rm) rm (i + 1))).2))), (7, .int (zI (((gsm (RV cnt fv) (RU cnt fv fs rm) rm (i + 1))).1))), (6, .ref q), (5, .int (zI v5)), (4, .int (zI sc)), (3, .int (zI (cnt : Int))), (0, .ref h2), (1, .ref hm), (2, .int (zI (p : Int)))]) rfl (rfl) ?_
                exact ih_139 (i + 1) (by omega) (by omega)
              · refine g_iload C dX4_isSame_162 5 rfl ?_
                refine g_goto 171 C dX4_isSame_164 (by decide) ?_
                refine g_top (min (RU cnt fv fs rm i) ((gsm (RV cnt fv) (RU cnt fv fs rm) rm i)).1) (by omega) ?_
                refine g_istore (L' := [(13, .int (zI (min (RU cnt fv fs rm i) ((gsm (RV cnt fv) (RU cnt fv fs rm) rm i)).1))), (12, .ref (ra (ordF fv cnt (cnt - 1 - i)))), (11, .int (zI (i : Int))), (10, .int (zI (cnt : Int))), (9, .ref q), (8, .int (zI (((gsm (RV cnt fv) (RU cnt fv fs rm) rm i)).2))), (7, .int (zI (((gsm (RV cnt fv) (RU cnt fv fs rm) rm i)).1))), (6, .ref q), (5, .int (zI v5)), (4, .int (zI sc)), (3, .int (zI (cnt : Int))), (0, .ref h2), (1, .ref hm), (2, .int (zI (p : Int)))]) C dX4_isSame_171 (by decide) rfl ?_
                refine g_iload C dX4_isSame_173 5 rfl ?_
                refine g_iload C dX4_isSame_175 0 rfl ?_
                refine g_aload C dX4_isSame_177 1 rfl ?_
                refine g_iconst C dX4_isSame_179 ?_
                refine g_iald C _ (wQ_at (j := ordF fv cnt (cnt - 1 - i)) (ordF_lt fv cnt _ (by omega))) (by decide) (by decide) (by decide) (v := (fv (ordF fv cnt (cnt - 1 - i)))) rfl dX4_isSame_180 ?_
                refine g_imul C dX4_isSame_181 ?_
                refine g_iadd C dX4_isSame_182 ?_
                refine g_istore (L' := [(8, .int (zI (((gsm (RV cnt fv) (RU cnt fv fs rm) rm i)).2 + ((min (RU cnt fv fs rm i) ((gsm (RV cnt fv) (RU cnt fv fs rm) rm i)).1) * (fv (ordF fv cnt (cnt - 1 - i))))))), (13, .int (zI (min (RU cnt fv fs rm i) ((gsm (RV cnt fv) (RU cnt fv fs rm) rm i)).1))), (12, .ref (ra (ordF fv cnt (cnt - 1 - i)))), (11, .int (zI (i : Int))), (10, .int (zI (cnt : Int))), (9, .ref q), (7, .int (zI (((gsm (RV cnt fv) (RU cnt fv fs rm) rm i)).1))), (6, .ref q), (5, .int (zI v5)), (4, .int (zI sc)), (3, .int (zI (cnt : Int))), (0, .ref h2), (1, .ref hm), (2, .int (zI (p : Int)))]) C dX4_isSame_183 (by decide) rfl ?_
                refine g_iload C dX4_isSame_185 6 rfl ?_
                refine g_iload C dX4_isSame_187 1 rfl ?_
                refine g_isub C dX4_isSame_189 ?_
                refine g_istore (L' := [(7, .int (zI (((gsm (RV cnt fv) (RU cnt fv fs rm) rm i)).1 - (min (RU cnt fv fs rm i) ((gsm (RV cnt fv) (RU cnt fv fs rm) rm i)).1)))), (8, .int (zI (((gsm (RV cnt fv) (RU cnt fv fs rm) rm i)).2 + ((min (RU cnt fv fs rm i) ((gsm (RV cnt fv) (RU cnt fv fs rm) rm i)).1) * (fv (ordF fv cnt (cnt - 1 - i))))))), (13, .int (zI (min (RU cnt fv fs rm i) ((gsm (RV cnt fv) (RU cnt fv fs rm) rm i)).1))), (12, .ref (ra (ordF fv cnt (cnt - 1 - i)))), (11, .int (zI (i : Int))), (10, .int (zI (cnt : Int))), (9, .ref q), (6, .ref q), (5, .int (zI v5)), (4, .int (zI sc)), (3, .int (zI (cnt : Int))), (0, .ref h2), (1, .ref hm), (2, .int (zI (p : Int)))]) C dX4_isSame_190 (by decide) rfl ?_
                refine g_iinc (L' := [(11, .int (zI ((i : Int) + 1))), (7, .int (zI (((gsm (RV cnt fv) (RU cnt fv fs rm) rm i)).1 - (min (RU cnt fv fs rm i) ((gsm (RV cnt fv) (RU cnt fv fs rm) rm i)).1)))), (8, .int (zI (((gsm (RV cnt fv) (RU cnt fv fs rm) rm i)).2 + ((min (RU cnt fv fs rm i) ((gsm (RV cnt fv) (RU cnt fv fs rm) rm i)).1) * (fv (ordF fv cnt (cnt - 1 - i))))))), (13, .int (zI (min (RU cnt fv fs rm i) ((gsm (RV cnt fv) (RU cnt fv fs rm) rm i)).1))), (12, .ref (ra (ordF fv cnt (cnt - 1 - i)))), (10, .int (zI (cnt : Int))), (9, .ref q), (6, .ref q), (5, .int (zI v5)), (4, .int (zI sc)), (3, .int (zI (cnt : Int))), (0, .ref h2), (1, .ref hm), (2, .int (zI (p : Int)))]) C dX4_isSame_192 4 rfl (by decide) rfl ?_
                refine g_goto 139 C dX4_isSame_195 (by decide) ?_
                refine g_loc (L' := [(11, .int (zI ((i : Int) + 1))), (10, .int (zI (cnt : Int))), (9, .ref q), (8, .int (zI (((gsm (RV cnt fv) (RU cnt fv fs rm) rm i)).2 + ((min (RU cnt fv fs rm i) ((gsm (RV cnt fv) (RU cnt fv fs rm) rm i)).1) * (fv (ordF fv cnt (cnt - 1 - i))))))), (7, .int (zI (((gsm (RV cnt fv) (RU cnt fv fs rm) rm i)).1 - (min (RU cnt fv fs rm i) ((gsm (RV cnt fv) (RU cnt fv fs rm) rm i)).1)))), (6, .ref q), (5, .int (zI v5)), (4, .int (zI sc)), (3, .int (zI (cnt : Int))), (0, .ref h2), (1, .ref hm), (2, .int (zI (p : Int)))]) [0, 5, 6, 2, 1, 7, 8, 9, 10, 11, 12, 13] rfl ?_
                refine g_lw (w' := ((((wZ h2 sa rm lt tk ov nw bs bS bM) ++ (wG sa cG cnt (rN ra cnt))) ++ (wG q cG cnt (rN (srt ra fv cnt) cnt))) ++ (w1)) ++ (wQ ra cI fv fs fd cnt)) (L' := [(11, .int (zI (((i + 1) : Nat) : Int))), (10, .int (zI (cnt : Int))), (9, .ref q), (8, .int (zI (((gsm (RV cnt fv) (RU cnt fv fs rm) rm (i + 1))).2))), (7, .int (zI (((gsm (RV cnt fv) (RU cnt fv fs rm) rm (i + 1))).1))), (6, .ref q), (5, .int (zI v5)), (4, .int (zI sc)), (3, .int (zI (cnt : Int))), (0, .ref h2), (1, .ref hm), (2, .int (zI (p : Int)))]) rfl (rfl) ?_
                exact ih_139 (i + 1) (by omega) (by omega)
        refine g_loc (L' := [(11, .int (zI 0)), (10, .int (zI ((cnt : Nat) : Int))), (9, .ref q), (8, .int (zI 0)), (7, .int (zI rm)), (6, .ref q), (5, .int (zI v5)), (4, .int (zI sc)), (3, .int (zI (cnt : Int))), (0, .ref h2), (1, .ref hm), (2, .int (zI (p : Int)))]) [0, 1, 2, 3, 4, 5, 6, 7, 8, 9, 10, 11] rfl ?_
        refine g_lw (w' := ((((wZ h2 sa rm lt tk ov nw bs bS bM) ++ (wG sa cG cnt (rN ra cnt))) ++ (wG q cG cnt (rN (srt ra fv cnt) cnt))) ++ (w1)) ++ (wQ ra cI fv fs fd cnt)) (L' := [(11, .int (zI 0)), (10, .int (zI (cnt : Int))), (9, .ref q), (8, .int (zI (((gsm (RV cnt fv) (RU cnt fv fs rm) rm 0)).2))), (7, .int (zI (((gsm (RV cnt fv) (RU cnt fv fs rm) rm 0)).1))), (6, .ref q), (5, .int (zI v5)), (4, .int (zI sc)), (3, .int (zI (cnt : Int))), (0, .ref h2), (1, .ref hm), (2, .int (zI (p : Int)))]) rfl (rfl) ?_
        exact loop_139 _ 0 (Nat.zero_le _) (Nat.lt_succ_self _)
      · obtain ⟨u, rfl⟩ : ∃ u : Nat, t = u + 1 := ⟨t - 1, by omega⟩
        have hscb0 : -1 ≤ sc ∧ sc ≤ 8 := by
          rcases hsc with ⟨e, _⟩ | ⟨i, e, _, e2, _⟩ <;> omega
        have hvu := hS.1 u (by omega)
        have hsu := hS.2.1 u (by omega)
        have hdu := hY.2.2.2.2.2 u (by omega)
        have hl0 := hY.1
        have hl1 := hY.2.1
        refine g_lw (w' := (((wZ h2 sa rm lt tk ov nw bs bS bM) ++ (wG sa cG cnt (rN ra cnt))) ++ (w1)) ++ (wQ ra cI fv fs fd cnt)) (L' := [(6, .int (zI (u : Int))), (5, .int (zI v5)), (4, .int (zI sc)), (3, .int (zI (cnt : Int))), (0, .ref h2), (1, .ref hm), (2, .int (zI (p : Int)))]) rfl (by rw [show (((u + 1) : Nat) : Int) - 1 = (u : Int) by omega]) ?_
        refine g_aload_n C dX4_isSame_22 4 rfl ?_
        refine g_getf C fX4_15 0 rfl rfl dX4_isSame_23 ?_
        refine g_iload C dX4_isSame_26 0 rfl ?_
        refine g_aald (y := ra u) C 1 rfl (by omega) (by omega) (by omega) (rN_at (by omega)) dX4_isSame_28 ?_
        refine g_astore (L' := [(7, .ref (ra u)), (6, .int (zI (u : Int))), (5, .int (zI v5)), (4, .int (zI sc)), (3, .int (zI (cnt : Int))), (0, .ref h2), (1, .ref hm), (2, .int (zI (p : Int)))]) C dX4_isSame_29 (by decide) rfl ?_
        refine g_iload C dX4_isSame_31 2 rfl ?_
        refine g_aload C dX4_isSame_33 0 rfl ?_
        refine g_iconst C dX4_isSame_35 ?_
        refine g_iald C _ (wQ_at (j := u) (by omega)) (by decide) (by decide) (by decide) (v := (fv u)) rfl dX4_isSame_36 ?_
        refine g_iadd C dX4_isSame_37 ?_
        refine g_istore (L' := [(5, .int (zI (v5 + (fv u)))), (7, .ref (ra u)), (6, .int (zI (u : Int))), (4, .int (zI sc)), (3, .int (zI (cnt : Int))), (0, .ref h2), (1, .ref hm), (2, .int (zI (p : Int)))]) C dX4_isSame_38 (by decide) rfl ?_
        refine g_iload C dX4_isSame_40 3 rfl ?_
        refine g_if_lt 61 C dX4_isSame_42 (by decide) (zr_i (by omega) (by omega)) (fun c_42 => ?_) (fun c_42 => ?_)
        · have hmin : ∀ j, u < j → j < cnt → fs u ≤ fs j := by
            intro j h1 h2
            rcases hsc with ⟨_, e⟩ | ⟨i, e, _⟩
            · omega
            · omega
          refine g_iload C dX4_isSame_61 2 rfl ?_
          refine g_istore (L' := [(4, .int (zI (u : Int))), (5, .int (zI (v5 + (fv u)))), (7, .ref (ra u)), (6, .int (zI (u : Int))), (3, .int (zI (cnt : Int))), (0, .ref h2), (1, .ref hm), (2, .int (zI (p : Int)))]) C dX4_isSame_63 (by decide) rfl ?_
          refine g_aload_n C dX4_isSame_65 6 rfl ?_
          refine g_iload C dX4_isSame_66 3 rfl ?_
          refine g_mods [wZ h2 sa rm lt tk ov nw bs bS bM, wG sa cG cnt (rN ra cnt), w1, wQ ra cI fv fs fd cnt] [wZ h2 sa rm lt tk ov nw bs bS bM, wG sa cG cnt (rN ra cnt), wQ ra cI fv fs fd cnt, w1] [0, 1, 3, 2] (by decide) rfl ?_
          refine g_ws (w' := (((wZ h2 sa rm lt tk ov nw bs bS bM) ++ (wG sa cG cnt (rN ra cnt))) ++ (wQ ra cI fv fs fd cnt)) ++ (w1)) rfl rfl ?_
          obtain ⟨c20, gv0, gs0, gd0, tc0, tr0, ft0, tv0, tu0, fc0, M0, fa0, fb0, N0, rfl⟩ := hX
          refine g_callVX (wr := ((wZ h2 sa rm lt tk ov nw bs bS bM) ++ (wG sa cG cnt (rN ra cnt))) ++ (wQ ra cI fv fs fd cnt)) (st := []) _ _ C cX4_77 (met_X3_valueOf l hl9 D cI cG cJ hm ad a2 bd pd cnt fv fs fd rm lt tk ov hI c20 gv0 gs0 gd0 tc0 tr0 ft0 tv0 tu0 fc0 M0 fa0 fb0 N0 (u : Int) (zr_i (by omega) (by omega))) gSp_r (ci := 3) (q0 := ((((wZ h2 sa rm lt tk ov nw bs bS bM) ++ (wG sa cG cnt (rN ra cnt))) ++ (wQ ra cI fv fs fd cnt)) : va_W).length) (at_r rfl) rfl (by decide) ⟨by dsimp only [rmX3_valueOf, rmX4_isSame]; omega, by dsimp only [rmX3_valueOf, rmX4_isSame]; omega⟩ rfl rfl (Nat.le_of_ble_eq_true rfl) dX4_isSame_68 (fun nm9 w9 h9 => ?_) ?_
          · exfalso
            rcases h9 with ⟨_, h8, _⟩
            exact h8 ⟨by omega, by omega⟩
          rintro v9 w9 ⟨z9, rfl, hz9, hX⟩
          have hz8 : z9 = fv u := hz9.2
          refine g_ws (w' := (((wZ h2 sa rm lt tk ov nw bs bS bM) ++ (wG sa cG cnt (rN ra cnt))) ++ (wQ ra cI fv fs fd cnt)) ++ (w9)) (st' := [.int (zI z9)]) (by simp only [List.append_assoc]) rfl ?_
          refine g_mods [wZ h2 sa rm lt tk ov nw bs bS bM, wG sa cG cnt (rN ra cnt), wQ ra cI fv fs fd cnt, w9] [wZ h2 sa rm lt tk ov nw bs bS bM, wG sa cG cnt (rN ra cnt), w9, wQ ra cI fv fs fd cnt] [0, 1, 3, 2] (by decide) rfl ?_
          refine g_ws (w' := (((wZ h2 sa rm lt tk ov nw bs bS bM) ++ (wG sa cG cnt (rN ra cnt))) ++ (w9)) ++ (wQ ra cI fv fs fd cnt)) rfl rfl ?_
          refine g_aload C dX4_isSame_71 2 rfl ?_
          refine g_iconst C dX4_isSame_73 ?_
          refine g_iald C _ (wQ_at (j := u) (by omega)) (by decide) (by decide) (by decide) (v := (fv u)) rfl dX4_isSame_74 ?_
          refine g_icmp_ne 104 C dX4_isSame_75 (by decide) (zr_i (by omega) (by omega)) (zr_i (by omega) (by omega)) (fun c_75 => ?_) (fun c_75 => ?_)
          · exfalso; omega
          · refine g_aload_n C dX4_isSame_78 6 rfl ?_
            refine g_iload C dX4_isSame_79 3 rfl ?_
            refine g_mods [wZ h2 sa rm lt tk ov nw bs bS bM, wG sa cG cnt (rN ra cnt), w9, wQ ra cI fv fs fd cnt] [wZ h2 sa rm lt tk ov nw bs bS bM, wG sa cG cnt (rN ra cnt), wQ ra cI fv fs fd cnt, w9] [0, 1, 3, 2] (by decide) rfl ?_
            refine g_ws (w' := (((wZ h2 sa rm lt tk ov nw bs bS bM) ++ (wG sa cG cnt (rN ra cnt))) ++ (wQ ra cI fv fs fd cnt)) ++ (w9)) rfl rfl ?_
            obtain ⟨c20, gv0, gs0, gd0, tc0, tr0, ft0, tv0, tu0, fc0, M0, fa0, fb0, N0, rfl⟩ := hX
            refine g_callVX (wr := ((wZ h2 sa rm lt tk ov nw bs bS bM) ++ (wG sa cG cnt (rN ra cnt))) ++ (wQ ra cI fv fs fd cnt)) (st := []) _ _ C cX4_83 (met_X3_stockOf l hl9 D cI cG cJ hm ad a2 bd pd cnt fv fs fd rm lt tk ov hI c20 gv0 gs0 gd0 tc0 tr0 ft0 tv0 tu0 fc0 M0 fa0 fb0 N0 (u : Int) (zr_i (by omega) (by omega))) gSp_r (ci := 3) (q0 := ((((wZ h2 sa rm lt tk ov nw bs bS bM) ++ (wG sa cG cnt (rN ra cnt))) ++ (wQ ra cI fv fs fd cnt)) : va_W).length) (at_r rfl) rfl (by decide) ⟨by dsimp only [rmX3_stockOf, rmX4_isSame]; omega, by dsimp only [rmX3_stockOf, rmX4_isSame]; omega⟩ rfl rfl (Nat.le_of_ble_eq_true rfl) dX4_isSame_81 (fun nm9 w9 h9 => ?_) ?_
            · exfalso
              rcases h9 with ⟨_, h8, _⟩
              exact h8 ⟨by omega, by omega⟩
            rintro v9 w9 ⟨z9, rfl, hz9, hX⟩
            have hz8 : z9 = fs u := hz9.2
            refine g_ws (w' := (((wZ h2 sa rm lt tk ov nw bs bS bM) ++ (wG sa cG cnt (rN ra cnt))) ++ (wQ ra cI fv fs fd cnt)) ++ (w9)) (st' := [.int (zI z9)]) (by simp only [List.append_assoc]) rfl ?_
            refine g_mods [wZ h2 sa rm lt tk ov nw bs bS bM, wG sa cG cnt (rN ra cnt), wQ ra cI fv fs fd cnt, w9] [wZ h2 sa rm lt tk ov nw bs bS bM, wG sa cG cnt (rN ra cnt), w9, wQ ra cI fv fs fd cnt] [0, 1, 3, 2] (by decide) rfl ?_
            refine g_ws (w' := (((wZ h2 sa rm lt tk ov nw bs bS bM) ++ (wG sa cG cnt (rN ra cnt))) ++ (w9)) ++ (wQ ra cI fv fs fd cnt)) rfl rfl ?_
            refine g_aload C dX4_isSame_84 2 rfl ?_
            refine g_iconst C dX4_isSame_86 ?_
            refine g_iald C _ (wQ_at (j := u) (by omega)) (by decide) (by decide) (by decide) (v := (fs u)) rfl dX4_isSame_87 ?_
            refine g_icmp_ne 104 C dX4_isSame_88 (by decide) (zr_i (by omega) (by omega)) (zr_i (by omega) (by omega)) (fun c_88 => ?_) (fun c_88 => ?_)
            · exfalso; omega
            · refine g_aload_n C dX4_isSame_91 6 rfl ?_
              refine g_iload C dX4_isSame_92 3 rfl ?_
              refine g_mods [wZ h2 sa rm lt tk ov nw bs bS bM, wG sa cG cnt (rN ra cnt), w9, wQ ra cI fv fs fd cnt] [wZ h2 sa rm lt tk ov nw bs bS bM, wG sa cG cnt (rN ra cnt), wQ ra cI fv fs fd cnt, w9] [0, 1, 3, 2] (by decide) rfl ?_
              refine g_ws (w' := (((wZ h2 sa rm lt tk ov nw bs bS bM) ++ (wG sa cG cnt (rN ra cnt))) ++ (wQ ra cI fv fs fd cnt)) ++ (w9)) rfl rfl ?_
              obtain ⟨c20, gv0, gs0, gd0, tc0, tr0, ft0, tv0, tu0, fc0, M0, fa0, fb0, N0, rfl⟩ := hX
              refine g_callVX (wr := ((wZ h2 sa rm lt tk ov nw bs bS bM) ++ (wG sa cG cnt (rN ra cnt))) ++ (wQ ra cI fv fs fd cnt)) (st := []) _ _ C cX4_86 (met_X3_vendedOf l hl9 D cI cG cJ hm ad a2 bd pd cnt fv fs fd rm lt tk ov hI c20 gv0 gs0 gd0 tc0 tr0 ft0 tv0 tu0 fc0 M0 fa0 fb0 N0 (u : Int) (zr_i (by omega) (by omega))) gSp_r (ci := 3) (q0 := ((((wZ h2 sa rm lt tk ov nw bs bS bM) ++ (wG sa cG cnt (rN ra cnt))) ++ (wQ ra cI fv fs fd cnt)) : va_W).length) (at_r rfl) rfl (by decide) ⟨by dsimp only [rmX3_vendedOf, rmX4_isSame]; omega, by dsimp only [rmX3_vendedOf, rmX4_isSame]; omega⟩ rfl rfl (Nat.le_of_ble_eq_true rfl) dX4_isSame_94 (fun nm9 w9 h9 => ?_) ?_
              · exfalso
                rcases h9 with ⟨_, h8, _⟩
                exact h8 ⟨by omega, by omega⟩
              rintro v9 w9 ⟨z9, rfl, hz9, hX⟩
              have hz8 : z9 = fd u := hz9.2
              refine g_ws (w' := (((wZ h2 sa rm lt tk ov nw bs bS bM) ++ (wG sa cG cnt (rN ra cnt))) ++ (wQ ra cI fv fs fd cnt)) ++ (w9)) (st' := [.int (zI z9)]) (by simp only [List.append_assoc]) rfl ?_
              refine g_mods [wZ h2 sa rm lt tk ov nw bs bS bM, wG sa cG cnt (rN ra cnt), wQ ra cI fv fs fd cnt, w9] [wZ h2 sa rm lt tk ov nw bs bS bM, wG sa cG cnt (rN ra cnt), w9, wQ ra cI fv fs fd cnt] [0, 1, 3, 2] (by decide) rfl ?_
              refine g_ws (w' := (((wZ h2 sa rm lt tk ov nw bs bS bM) ++ (wG sa cG cnt (rN ra cnt))) ++ (w9)) ++ (wQ ra cI fv fs fd cnt)) rfl rfl ?_
              refine g_aload C dX4_isSame_97 2 rfl ?_
              refine g_iconst C dX4_isSame_99 ?_
              refine g_iald C _ (wQ_at (j := u) (by omega)) (by decide) (by decide) (by decide) (v := (fd u)) rfl dX4_isSame_100 ?_
              refine g_icmp_eq 106 C dX4_isSame_101 (by decide) (zr_i (by omega) (by omega)) (zr_i (by omega) (by omega)) (fun c_101 => ?_) (fun c_101 => ?_)
              · refine g_iinc (L' := [(6, .int (zI ((u : Int) + (-1)))), (4, .int (zI (u : Int))), (5, .int (zI (v5 + (fv u)))), (7, .ref (ra u)), (3, .int (zI (cnt : Int))), (0, .ref h2), (1, .ref hm), (2, .int (zI (p : Int)))]) C dX4_isSame_106 3 rfl (by decide) rfl ?_
                refine g_goto 17 C dX4_isSame_109 (by decide) ?_
                refine g_loc (L' := [(6, .int (zI ((u : Int) + (-1)))), (5, .int (zI (v5 + (fv u)))), (4, .int (zI (u : Int))), (3, .int (zI (cnt : Int))), (0, .ref h2), (1, .ref hm), (2, .int (zI (p : Int)))]) [0, 2, 1, 4, 5, 6, 7] rfl ?_
                refine g_widen (k' := 30 - 3 * u) (n' := 200 - 18 * u) (by dsimp only [rmX3_valueOf, rmX3_stockOf, rmX3_vendedOf]; omega) (by dsimp only [rmX3_valueOf, rmX3_stockOf, rmX3_vendedOf]; omega) ?_
                refine g_lw (w' := (((wZ h2 sa rm lt tk ov nw bs bS bM) ++ (wG sa cG cnt (rN ra cnt))) ++ (w9)) ++ (wQ ra cI fv fs fd cnt)) (L' := [(6, .int (zI ((u : Int) - 1))), (5, .int (zI (v5 + (fv u)))), (4, .int (zI (u : Int))), (3, .int (zI (cnt : Int))), (0, .ref h2), (1, .ref hm), (2, .int (zI (p : Int)))]) rfl (by rw [show (u : Int) + (-1) = (u : Int) - 1 by omega]) ?_
                exact ih_17 u (u : Int) (v5 + (fv u)) w9 (by omega) (scP_new (by omega) hmin) (by rw [hv5]; show vsum fv cnt - (vsum fv u + fv u) + fv u = _; omega) hX (by omega)
              · exfalso; omega
        · obtain ⟨i, hi1, hi2, hi3, hi4, hi5⟩ : ∃ i : Nat, sc = (i : Int) ∧ u + 1 ≤ i ∧ i < cnt ∧ (∀ j, u + 1 ≤ j → j < cnt → fs i ≤ fs j) ∧ ∀ j, u + 1 ≤ j → j < i → fs i < fs j := by
            rcases hsc with ⟨e1, _⟩ | h
            · omega
            · exact h
          subst hi1
          refine g_aload C dX4_isSame_45 1 rfl ?_
          refine g_iconst C dX4_isSame_47 ?_
          refine g_iald C _ (wQ_at (j := u) (by omega)) (by decide) (by decide) (by decide) (v := (fs u)) rfl dX4_isSame_48 ?_
          refine g_aload_n C dX4_isSame_49 5 rfl ?_
          refine g_getf C fX4_15 0 rfl rfl dX4_isSame_50 ?_
          refine g_iload C dX4_isSame_53 3 rfl ?_
          refine g_aald (y := ra i) C 1 rfl (by omega) (by omega) (by omega) (rN_at (by omega)) dX4_isSame_55 ?_
          refine g_iconst C dX4_isSame_56 ?_
          refine g_iald C _ (wQ_at (j := i) (by omega)) (by decide) (by decide) (by decide) (v := (fs i)) rfl dX4_isSame_57 ?_
          refine g_icmp_gt 65 C dX4_isSame_58 (by decide) (zr_i (by omega) (by omega)) (hS.zs (by omega)) (fun c_58 => ?_) (fun c_58 => ?_)
          · refine g_aload_n C dX4_isSame_65 6 rfl ?_
            refine g_iload C dX4_isSame_66 2 rfl ?_
            refine g_mods [wZ h2 sa rm lt tk ov nw bs bS bM, wG sa cG cnt (rN ra cnt), w1, wQ ra cI fv fs fd cnt] [wZ h2 sa rm lt tk ov nw bs bS bM, wG sa cG cnt (rN ra cnt), wQ ra cI fv fs fd cnt, w1] [0, 1, 3, 2] (by decide) rfl ?_
            refine g_ws (w' := (((wZ h2 sa rm lt tk ov nw bs bS bM) ++ (wG sa cG cnt (rN ra cnt))) ++ (wQ ra cI fv fs fd cnt)) ++ (w1)) rfl rfl ?_
            obtain ⟨c20, gv0, gs0, gd0, tc0, tr0, ft0, tv0, tu0, fc0, M0, fa0, fb0, N0, rfl⟩ := hX
            refine g_callVX (wr := ((wZ h2 sa rm lt tk ov nw bs bS bM) ++ (wG sa cG cnt (rN ra cnt))) ++ (wQ ra cI fv fs fd cnt)) (st := []) _ _ C cX4_77 (met_X3_valueOf l hl9 D cI cG cJ hm ad a2 bd pd cnt fv fs fd rm lt tk ov hI c20 gv0 gs0 gd0 tc0 tr0 ft0 tv0 tu0 fc0 M0 fa0 fb0 N0 (u : Int) (zr_i (by omega) (by omega))) gSp_r (ci := 3) (q0 := ((((wZ h2 sa rm lt tk ov nw bs bS bM) ++ (wG sa cG cnt (rN ra cnt))) ++ (wQ ra cI fv fs fd cnt)) : va_W).length) (at_r rfl) rfl (by decide) ⟨by dsimp only [rmX3_valueOf, rmX4_isSame]; omega, by dsimp only [rmX3_valueOf, rmX4_isSame]; omega⟩ rfl rfl (Nat.le_of_ble_eq_true rfl) dX4_isSame_68 (fun nm9 w9 h9 => ?_) ?_
            · exfalso
              rcases h9 with ⟨_, h8, _⟩
              exact h8 ⟨by omega, by omega⟩
            rintro v9 w9 ⟨z9, rfl, hz9, hX⟩
            have hz8 : z9 = fv u := hz9.2
            refine g_ws (w' := (((wZ h2 sa rm lt tk ov nw bs bS bM) ++ (wG sa cG cnt (rN ra cnt))) ++ (wQ ra cI fv fs fd cnt)) ++ (w9)) (st' := [.int (zI z9)]) (by simp only [List.append_assoc]) rfl ?_
            refine g_mods [wZ h2 sa rm lt tk ov nw bs bS bM, wG sa cG cnt (rN ra cnt), wQ ra cI fv fs fd cnt, w9] [wZ h2 sa rm lt tk ov nw bs bS bM, wG sa cG cnt (rN ra cnt), w9, wQ ra cI fv fs fd cnt] [0, 1, 3, 2] (by decide) rfl ?_
            refine g_ws (w' := (((wZ h2 sa rm lt tk ov nw bs bS bM) ++ (wG sa cG cnt (rN ra cnt))) ++ (w9)) ++ (wQ ra cI fv fs fd cnt)) rfl rfl ?_
            refine g_aload C dX4_isSame_71 1 rfl ?_
            refine g_iconst C dX4_isSame_73 ?_
            refine g_iald C _ (wQ_at (j := u) (by omega)) (by decide) (by decide) (by decide) (v := (fv u)) rfl dX4_isSame_74 ?_
            refine g_icmp_ne 104 C dX4_isSame_75 (by decide) (zr_i (by omega) (by omega)) (zr_i (by omega) (by omega)) (fun c_75 => ?_) (fun c_75 => ?_)
            · exfalso; omega
            · refine g_aload_n C dX4_isSame_78 6 rfl ?_
              refine g_iload C dX4_isSame_79 2 rfl ?_
              refine g_mods [wZ h2 sa rm lt tk ov nw bs bS bM, wG sa cG cnt (rN ra cnt), w9, wQ ra cI fv fs fd cnt] [wZ h2 sa rm lt tk ov nw bs bS bM, wG sa cG cnt (rN ra cnt), wQ ra cI fv fs fd cnt, w9] [0, 1, 3, 2] (by decide) rfl ?_
              refine g_ws (w' := (((wZ h2 sa rm lt tk ov nw bs bS bM) ++ (wG sa cG cnt (rN ra cnt))) ++ (wQ ra cI fv fs fd cnt)) ++ (w9)) rfl rfl ?_
              obtain ⟨c20, gv0, gs0, gd0, tc0, tr0, ft0, tv0, tu0, fc0, M0, fa0, fb0, N0, rfl⟩ := hX
              refine g_callVX (wr := ((wZ h2 sa rm lt tk ov nw bs bS bM) ++ (wG sa cG cnt (rN ra cnt))) ++ (wQ ra cI fv fs fd cnt)) (st := []) _ _ C cX4_83 (met_X3_stockOf l hl9 D cI cG cJ hm ad a2 bd pd cnt fv fs fd rm lt tk ov hI c20 gv0 gs0 gd0 tc0 tr0 ft0 tv0 tu0 fc0 M0 fa0 fb0 N0 (u : Int) (zr_i (by omega) (by omega))) gSp_r (ci := 3) (q0 := ((((wZ h2 sa rm lt tk ov nw bs bS bM) ++ (wG sa cG cnt (rN ra cnt))) ++ (wQ ra cI fv fs fd cnt)) : va_W).length) (at_r rfl) rfl (by decide) ⟨by dsimp only [rmX3_stockOf, rmX4_isSame]; omega, by dsimp only [rmX3_stockOf, rmX4_isSame]; omega⟩ rfl rfl (Nat.le_of_ble_eq_true rfl) dX4_isSame_81 (fun nm9 w9 h9 => ?_) ?_
              · exfalso
                rcases h9 with ⟨_, h8, _⟩
                exact h8 ⟨by omega, by omega⟩
              rintro v9 w9 ⟨z9, rfl, hz9, hX⟩
              have hz8 : z9 = fs u := hz9.2
              refine g_ws (w' := (((wZ h2 sa rm lt tk ov nw bs bS bM) ++ (wG sa cG cnt (rN ra cnt))) ++ (wQ ra cI fv fs fd cnt)) ++ (w9)) (st' := [.int (zI z9)]) (by simp only [List.append_assoc]) rfl ?_
              refine g_mods [wZ h2 sa rm lt tk ov nw bs bS bM, wG sa cG cnt (rN ra cnt), wQ ra cI fv fs fd cnt, w9] [wZ h2 sa rm lt tk ov nw bs bS bM, wG sa cG cnt (rN ra cnt), w9, wQ ra cI fv fs fd cnt] [0, 1, 3, 2] (by decide) rfl ?_
              refine g_ws (w' := (((wZ h2 sa rm lt tk ov nw bs bS bM) ++ (wG sa cG cnt (rN ra cnt))) ++ (w9)) ++ (wQ ra cI fv fs fd cnt)) rfl rfl ?_
              refine g_aload C dX4_isSame_84 1 rfl ?_
              refine g_iconst C dX4_isSame_86 ?_
              refine g_iald C _ (wQ_at (j := u) (by omega)) (by decide) (by decide) (by decide) (v := (fs u)) rfl dX4_isSame_87 ?_
              refine g_icmp_ne 104 C dX4_isSame_88 (by decide) (zr_i (by omega) (by omega)) (zr_i (by omega) (by omega)) (fun c_88 => ?_) (fun c_88 => ?_)
              · exfalso; omega
              · refine g_aload_n C dX4_isSame_91 6 rfl ?_
                refine g_iload C dX4_isSame_92 2 rfl ?_
                refine g_mods [wZ h2 sa rm lt tk ov nw bs bS bM, wG sa cG cnt (rN ra cnt), w9, wQ ra cI fv fs fd cnt] [wZ h2 sa rm lt tk ov nw bs bS bM, wG sa cG cnt (rN ra cnt), wQ ra cI fv fs fd cnt, w9] [0, 1, 3, 2] (by decide) rfl ?_
                refine g_ws (w' := (((wZ h2 sa rm lt tk ov nw bs bS bM) ++ (wG sa cG cnt (rN ra cnt))) ++ (wQ ra cI fv fs fd cnt)) ++ (w9)) rfl rfl ?_
                obtain ⟨c20, gv0, gs0, gd0, tc0, tr0, ft0, tv0, tu0, fc0, M0, fa0, fb0, N0, rfl⟩ := hX
                refine g_callVX (wr := ((wZ h2 sa rm lt tk ov nw bs bS bM) ++ (wG sa cG cnt (rN ra cnt))) ++ (wQ ra cI fv fs fd cnt)) (st := []) _ _ C cX4_86 (met_X3_vendedOf l hl9 D cI cG cJ hm ad a2 bd pd cnt fv fs fd rm lt tk ov hI c20 gv0 gs0 gd0 tc0 tr0 ft0 tv0 tu0 fc0 M0 fa0 fb0 N0 (u : Int) (zr_i (by omega) (by omega))) gSp_r (ci := 3) (q0 := ((((wZ h2 sa rm lt tk ov nw bs bS bM) ++ (wG sa cG cnt (rN ra cnt))) ++ (wQ ra cI fv fs fd cnt)) : va_W).length) (at_r rfl) rfl (by decide) ⟨by dsimp only [rmX3_vendedOf, rmX4_isSame]; omega, by dsimp only [rmX3_vendedOf, rmX4_isSame]; omega⟩ rfl rfl (Nat.le_of_ble_eq_true rfl) dX4_isSame_94 (fun nm9 w9 h9 => ?_) ?_
                · exfalso
                  rcases h9 with ⟨_, h8, _⟩
                  exact h8 ⟨by omega, by omega⟩
                rintro v9 w9 ⟨z9, rfl, hz9, hX⟩
                have hz8 : z9 = fd u := hz9.2
                refine g_ws (w' := (((wZ h2 sa rm lt tk ov nw bs bS bM) ++ (wG sa cG cnt (rN ra cnt))) ++ (wQ ra cI fv fs fd cnt)) ++ (w9)) (st' := [.int (zI z9)]) (by simp only [List.append_assoc]) rfl ?_
                refine g_mods [wZ h2 sa rm lt tk ov nw bs bS bM, wG sa cG cnt (rN ra cnt), wQ ra cI fv fs fd cnt, w9] [wZ h2 sa rm lt tk ov nw bs bS bM, wG sa cG cnt (rN ra cnt), w9, wQ ra cI fv fs fd cnt] [0, 1, 3, 2] (by decide) rfl ?_
                refine g_ws (w' := (((wZ h2 sa rm lt tk ov nw bs bS bM) ++ (wG sa cG cnt (rN ra cnt))) ++ (w9)) ++ (wQ ra cI fv fs fd cnt)) rfl rfl ?_
                refine g_aload C dX4_isSame_97 1 rfl ?_
                refine g_iconst C dX4_isSame_99 ?_
                refine g_iald C _ (wQ_at (j := u) (by omega)) (by decide) (by decide) (by decide) (v := (fd u)) rfl dX4_isSame_100 ?_
                refine g_icmp_eq 106 C dX4_isSame_101 (by decide) (zr_i (by omega) (by omega)) (zr_i (by omega) (by omega)) (fun c_101 => ?_) (fun c_101 => ?_)
                · refine g_iinc (L' := [(6, .int (zI ((u : Int) + (-1)))), (5, .int (zI (v5 + (fv u)))), (7, .ref (ra u)), (4, .int (zI (i : Int))), (3, .int (zI (cnt : Int))), (0, .ref h2), (1, .ref hm), (2, .int (zI (p : Int)))]) C dX4_isSame_106 2 rfl (by decide) rfl ?_
                  refine g_goto 17 C dX4_isSame_109 (by decide) ?_
                  refine g_loc (L' := [(6, .int (zI ((u : Int) + (-1)))), (5, .int (zI (v5 + (fv u)))), (4, .int (zI (i : Int))), (3, .int (zI (cnt : Int))), (0, .ref h2), (1, .ref hm), (2, .int (zI (p : Int)))]) [0, 1, 3, 4, 5, 6, 7] rfl ?_
                  refine g_widen (k' := 30 - 3 * u) (n' := 200 - 18 * u) (by dsimp only [rmX3_valueOf, rmX3_stockOf, rmX3_vendedOf]; omega) (by dsimp only [rmX3_valueOf, rmX3_stockOf, rmX3_vendedOf]; omega) ?_
                  refine g_lw (w' := (((wZ h2 sa rm lt tk ov nw bs bS bM) ++ (wG sa cG cnt (rN ra cnt))) ++ (w9)) ++ (wQ ra cI fv fs fd cnt)) (L' := [(6, .int (zI ((u : Int) - 1))), (5, .int (zI (v5 + (fv u)))), (4, .int (zI (i : Int))), (3, .int (zI (cnt : Int))), (0, .ref h2), (1, .ref hm), (2, .int (zI (p : Int)))]) rfl (by rw [show (u : Int) + (-1) = (u : Int) - 1 by omega]) ?_
                  exact ih_17 u (i : Int) (v5 + (fv u)) w9 (by omega) (scP_keep hi2 hi3 hi4 hi5 (by omega)) (by rw [hv5]; show vsum fv cnt - (vsum fv u + fv u) + fv u = _; omega) hX (by omega)
                · exfalso; omega
          · have hmin : ∀ j, u < j → j < cnt → fs u ≤ fs j := fun j h1 h2 => by
              have := hi4 j (by omega) h2
              omega
            refine g_iload C dX4_isSame_61 2 rfl ?_
            refine g_istore (L' := [(4, .int (zI (u : Int))), (5, .int (zI (v5 + (fv u)))), (7, .ref (ra u)), (6, .int (zI (u : Int))), (3, .int (zI (cnt : Int))), (0, .ref h2), (1, .ref hm), (2, .int (zI (p : Int)))]) C dX4_isSame_63 (by decide) rfl ?_
            refine g_aload_n C dX4_isSame_65 6 rfl ?_
            refine g_iload C dX4_isSame_66 3 rfl ?_
            refine g_mods [wZ h2 sa rm lt tk ov nw bs bS bM, wG sa cG cnt (rN ra cnt), w1, wQ ra cI fv fs fd cnt] [wZ h2 sa rm lt tk ov nw bs bS bM, wG sa cG cnt (rN ra cnt), wQ ra cI fv fs fd cnt, w1] [0, 1, 3, 2] (by decide) rfl ?_
            refine g_ws (w' := (((wZ h2 sa rm lt tk ov nw bs bS bM) ++ (wG sa cG cnt (rN ra cnt))) ++ (wQ ra cI fv fs fd cnt)) ++ (w1)) rfl rfl ?_
            obtain ⟨c20, gv0, gs0, gd0, tc0, tr0, ft0, tv0, tu0, fc0, M0, fa0, fb0, N0, rfl⟩ := hX
            refine g_callVX (wr := ((wZ h2 sa rm lt tk ov nw bs bS bM) ++ (wG sa cG cnt (rN ra cnt))) ++ (wQ ra cI fv fs fd cnt)) (st := []) _ _ C cX4_77 (met_X3_valueOf l hl9 D cI cG cJ hm ad a2 bd pd cnt fv fs fd rm lt tk ov hI c20 gv0 gs0 gd0 tc0 tr0 ft0 tv0 tu0 fc0 M0 fa0 fb0 N0 (u : Int) (zr_i (by omega) (by omega))) gSp_r (ci := 3) (q0 := ((((wZ h2 sa rm lt tk ov nw bs bS bM) ++ (wG sa cG cnt (rN ra cnt))) ++ (wQ ra cI fv fs fd cnt)) : va_W).length) (at_r rfl) rfl (by decide) ⟨by dsimp only [rmX3_valueOf, rmX4_isSame]; omega, by dsimp only [rmX3_valueOf, rmX4_isSame]; omega⟩ rfl rfl (Nat.le_of_ble_eq_true rfl) dX4_isSame_68 (fun nm9 w9 h9 => ?_) ?_
            · exfalso
              rcases h9 with ⟨_, h8, _⟩
              exact h8 ⟨by omega, by omega⟩
            rintro v9 w9 ⟨z9, rfl, hz9, hX⟩
            have hz8 : z9 = fv u := hz9.2
            refine g_ws (w' := (((wZ h2 sa rm lt tk ov nw bs bS bM) ++ (wG sa cG cnt (rN ra cnt))) ++ (wQ ra cI fv fs fd cnt)) ++ (w9)) (st' := [.int (zI z9)]) (by simp only [List.append_assoc]) rfl ?_
            refine g_mods [wZ h2 sa rm lt tk ov nw bs bS bM, wG sa cG cnt (rN ra cnt), wQ ra cI fv fs fd cnt, w9] [wZ h2 sa rm lt tk ov nw bs bS bM, wG sa cG cnt (rN ra cnt), w9, wQ ra cI fv fs fd cnt] [0, 1, 3, 2] (by decide) rfl ?_
            refine g_ws (w' := (((wZ h2 sa rm lt tk ov nw bs bS bM) ++ (wG sa cG cnt (rN ra cnt))) ++ (w9)) ++ (wQ ra cI fv fs fd cnt)) rfl rfl ?_
            refine g_aload C dX4_isSame_71 2 rfl ?_
            refine g_iconst C dX4_isSame_73 ?_
            refine g_iald C _ (wQ_at (j := u) (by omega)) (by decide) (by decide) (by decide) (v := (fv u)) rfl dX4_isSame_74 ?_
            refine g_icmp_ne 104 C dX4_isSame_75 (by decide) (zr_i (by omega) (by omega)) (zr_i (by omega) (by omega)) (fun c_75 => ?_) (fun c_75 => ?_)
            · exfalso; omega
            · refine g_aload_n C dX4_isSame_78 6 rfl ?_
              refine g_iload C dX4_isSame_79 3 rfl ?_
              refine g_mods [wZ h2 sa rm lt tk ov nw bs bS bM, wG sa cG cnt (rN ra cnt), w9, wQ ra cI fv fs fd cnt] [wZ h2 sa rm lt tk ov nw bs bS bM, wG sa cG cnt (rN ra cnt), wQ ra cI fv fs fd cnt, w9] [0, 1, 3, 2] (by decide) rfl ?_
              refine g_ws (w' := (((wZ h2 sa rm lt tk ov nw bs bS bM) ++ (wG sa cG cnt (rN ra cnt))) ++ (wQ ra cI fv fs fd cnt)) ++ (w9)) rfl rfl ?_
              obtain ⟨c20, gv0, gs0, gd0, tc0, tr0, ft0, tv0, tu0, fc0, M0, fa0, fb0, N0, rfl⟩ := hX
              refine g_callVX (wr := ((wZ h2 sa rm lt tk ov nw bs bS bM) ++ (wG sa cG cnt (rN ra cnt))) ++ (wQ ra cI fv fs fd cnt)) (st := []) _ _ C cX4_83 (met_X3_stockOf l hl9 D cI cG cJ hm ad a2 bd pd cnt fv fs fd rm lt tk ov hI c20 gv0 gs0 gd0 tc0 tr0 ft0 tv0 tu0 fc0 M0 fa0 fb0 N0 (u : Int) (zr_i (by omega) (by omega))) gSp_r (ci := 3) (q0 := ((((wZ h2 sa rm lt tk ov nw bs bS bM) ++ (wG sa cG cnt (rN ra cnt))) ++ (wQ ra cI fv fs fd cnt)) : va_W).length) (at_r rfl) rfl (by decide) ⟨by dsimp only [rmX3_stockOf, rmX4_isSame]; omega, by dsimp only [rmX3_stockOf, rmX4_isSame]; omega⟩ rfl rfl (Nat.le_of_ble_eq_true rfl) dX4_isSame_81 (fun nm9 w9 h9 => ?_) ?_
              · exfalso
                rcases h9 with ⟨_, h8, _⟩
                exact h8 ⟨by omega, by omega⟩
              rintro v9 w9 ⟨z9, rfl, hz9, hX⟩
              have hz8 : z9 = fs u := hz9.2
              refine g_ws (w' := (((wZ h2 sa rm lt tk ov nw bs bS bM) ++ (wG sa cG cnt (rN ra cnt))) ++ (wQ ra cI fv fs fd cnt)) ++ (w9)) (st' := [.int (zI z9)]) (by simp only [List.append_assoc]) rfl ?_
              refine g_mods [wZ h2 sa rm lt tk ov nw bs bS bM, wG sa cG cnt (rN ra cnt), wQ ra cI fv fs fd cnt, w9] [wZ h2 sa rm lt tk ov nw bs bS bM, wG sa cG cnt (rN ra cnt), w9, wQ ra cI fv fs fd cnt] [0, 1, 3, 2] (by decide) rfl ?_
              refine g_ws (w' := (((wZ h2 sa rm lt tk ov nw bs bS bM) ++ (wG sa cG cnt (rN ra cnt))) ++ (w9)) ++ (wQ ra cI fv fs fd cnt)) rfl rfl ?_
              refine g_aload C dX4_isSame_84 2 rfl ?_
              refine g_iconst C dX4_isSame_86 ?_
              refine g_iald C _ (wQ_at (j := u) (by omega)) (by decide) (by decide) (by decide) (v := (fs u)) rfl dX4_isSame_87 ?_
              refine g_icmp_ne 104 C dX4_isSame_88 (by decide) (zr_i (by omega) (by omega)) (zr_i (by omega) (by omega)) (fun c_88 => ?_) (fun c_88 => ?_)
              · exfalso; omega
              · refine g_aload_n C dX4_isSame_91 6 rfl ?_
                refine g_iload C dX4_isSame_92 3 rfl ?_
                refine g_mods [wZ h2 sa rm lt tk ov nw bs bS bM, wG sa cG cnt (rN ra cnt), w9, wQ ra cI fv fs fd cnt] [wZ h2 sa rm lt tk ov nw bs bS bM, wG sa cG cnt (rN ra cnt), wQ ra cI fv fs fd cnt, w9] [0, 1, 3, 2] (by decide) rfl ?_
                refine g_ws (w' := (((wZ h2 sa rm lt tk ov nw bs bS bM) ++ (wG sa cG cnt (rN ra cnt))) ++ (wQ ra cI fv fs fd cnt)) ++ (w9)) rfl rfl ?_
                obtain ⟨c20, gv0, gs0, gd0, tc0, tr0, ft0, tv0, tu0, fc0, M0, fa0, fb0, N0, rfl⟩ := hX
                refine g_callVX (wr := ((wZ h2 sa rm lt tk ov nw bs bS bM) ++ (wG sa cG cnt (rN ra cnt))) ++ (wQ ra cI fv fs fd cnt)) (st := []) _ _ C cX4_86 (met_X3_vendedOf l hl9 D cI cG cJ hm ad a2 bd pd cnt fv fs fd rm lt tk ov hI c20 gv0 gs0 gd0 tc0 tr0 ft0 tv0 tu0 fc0 M0 fa0 fb0 N0 (u : Int) (zr_i (by omega) (by omega))) gSp_r (ci := 3) (q0 := ((((wZ h2 sa rm lt tk ov nw bs bS bM) ++ (wG sa cG cnt (rN ra cnt))) ++ (wQ ra cI fv fs fd cnt)) : va_W).length) (at_r rfl) rfl (by decide) ⟨by dsimp only [rmX3_vendedOf, rmX4_isSame]; omega, by dsimp only [rmX3_vendedOf, rmX4_isSame]; omega⟩ rfl rfl (Nat.le_of_ble_eq_true rfl) dX4_isSame_94 (fun nm9 w9 h9 => ?_) ?_
                · exfalso
                  rcases h9 with ⟨_, h8, _⟩
                  exact h8 ⟨by omega, by omega⟩
                rintro v9 w9 ⟨z9, rfl, hz9, hX⟩
                have hz8 : z9 = fd u := hz9.2
                refine g_ws (w' := (((wZ h2 sa rm lt tk ov nw bs bS bM) ++ (wG sa cG cnt (rN ra cnt))) ++ (wQ ra cI fv fs fd cnt)) ++ (w9)) (st' := [.int (zI z9)]) (by simp only [List.append_assoc]) rfl ?_
                refine g_mods [wZ h2 sa rm lt tk ov nw bs bS bM, wG sa cG cnt (rN ra cnt), wQ ra cI fv fs fd cnt, w9] [wZ h2 sa rm lt tk ov nw bs bS bM, wG sa cG cnt (rN ra cnt), w9, wQ ra cI fv fs fd cnt] [0, 1, 3, 2] (by decide) rfl ?_
                refine g_ws (w' := (((wZ h2 sa rm lt tk ov nw bs bS bM) ++ (wG sa cG cnt (rN ra cnt))) ++ (w9)) ++ (wQ ra cI fv fs fd cnt)) rfl rfl ?_
                refine g_aload C dX4_isSame_97 2 rfl ?_
                refine g_iconst C dX4_isSame_99 ?_
                refine g_iald C _ (wQ_at (j := u) (by omega)) (by decide) (by decide) (by decide) (v := (fd u)) rfl dX4_isSame_100 ?_
                refine g_icmp_eq 106 C dX4_isSame_101 (by decide) (zr_i (by omega) (by omega)) (zr_i (by omega) (by omega)) (fun c_101 => ?_) (fun c_101 => ?_)
                · refine g_iinc (L' := [(6, .int (zI ((u : Int) + (-1)))), (4, .int (zI (u : Int))), (5, .int (zI (v5 + (fv u)))), (7, .ref (ra u)), (3, .int (zI (cnt : Int))), (0, .ref h2), (1, .ref hm), (2, .int (zI (p : Int)))]) C dX4_isSame_106 3 rfl (by decide) rfl ?_
                  refine g_goto 17 C dX4_isSame_109 (by decide) ?_
                  refine g_loc (L' := [(6, .int (zI ((u : Int) + (-1)))), (5, .int (zI (v5 + (fv u)))), (4, .int (zI (u : Int))), (3, .int (zI (cnt : Int))), (0, .ref h2), (1, .ref hm), (2, .int (zI (p : Int)))]) [0, 2, 1, 4, 5, 6, 7] rfl ?_
                  refine g_widen (k' := 30 - 3 * u) (n' := 200 - 18 * u) (by dsimp only [rmX3_valueOf, rmX3_stockOf, rmX3_vendedOf]; omega) (by dsimp only [rmX3_valueOf, rmX3_stockOf, rmX3_vendedOf]; omega) ?_
                  refine g_lw (w' := (((wZ h2 sa rm lt tk ov nw bs bS bM) ++ (wG sa cG cnt (rN ra cnt))) ++ (w9)) ++ (wQ ra cI fv fs fd cnt)) (L' := [(6, .int (zI ((u : Int) - 1))), (5, .int (zI (v5 + (fv u)))), (4, .int (zI (u : Int))), (3, .int (zI (cnt : Int))), (0, .ref h2), (1, .ref hm), (2, .int (zI (p : Int)))]) rfl (by rw [show (u : Int) + (-1) = (u : Int) - 1 by omega]) ?_
                  exact ih_17 u (u : Int) (v5 + (fv u)) w9 (by omega) (scP_new (by omega) hmin) (by rw [hv5]; show vsum fv cnt - (vsum fv u + fv u) + fv u = _; omega) hX (by omega)
                · exfalso; omega
  refine g_loc (L' := [(6, .int (zI (((cnt : Nat) : Int) - 1))), (5, .int (zI 0)), (4, .int (zI (-1))), (3, .int (zI ((cnt : Nat) : Int))), (0, .ref h2), (1, .ref hm), (2, .int (zI (p : Int)))]) [0, 1, 2, 3, 4, 5, 6] rfl ?_
  refine g_widen (k' := 30 - 3 * cnt) (n' := 200 - 18 * cnt) (Nat.zero_le _) (Nat.zero_le _) ?_
  exact loop_17 _ cnt (-1) 0 w1 (Nat.le_refl _) (Or.inl ⟨rfl, rfl⟩) (by omega) hX (Nat.lt_succ_self _)
