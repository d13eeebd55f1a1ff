/-! smaller stocks that still hold the choice: the same letter -/
theorem tb_mono {vs us us' : Nat → Int} : ∀ k, (∀ j, j < k → us' j ≤ us j) → ∀ s, tb vs us k s ≤ tb vs us' k s
  | 0, _, _ => Int.le_refl _
  | k + 1, h, s => tIn_mono (h k (Nat.lt_succ_self k)) (tb_mono k (fun j hj => h j (Nat.lt_succ_of_lt hj))) 12
theorem RM_s {cnt : Nat} {fv fs : Nat → Int} {rm : Int} {r : Nat} (hr : r < cnt) : RM cnt fv fs rm r = tRow (RM cnt fv fs rm (r + 1)) (RV cnt fv r) (RU cnt fv fs rm r) := by
  show tb (vsF fv cnt) (usF fv fs cnt rm) (cnt - r) = tRow (tb (vsF fv cnt) (usF fv fs cnt rm) (cnt - (r + 1))) (vsF fv cnt (cnt - 1 - r)) (usF fv fs cnt rm (cnt - 1 - r))
  rw [show cnt - r = (cnt - 1 - r) + 1 by omega, show cnt - (r + 1) = cnt - 1 - r by omega]
  rfl
theorem CH_ord {cnt : Nat} {fv fs : Nat → Int} {rm : Int} {s j : Nat} (hd : ∀ a b, a < cnt → b < cnt → fv a = fv b → a = b) (hj : j < cnt) : CH cnt fv fs rm s (ordF fv cnt j) = ((chm (RM cnt fv fs rm) (RV cnt fv) (RU cnt fv fs rm) s (cnt - 1 - j) : Nat) : Int) := by
  simp only [CH]
  rw [rank_ord hd hj]
theorem CH_le {cnt : Nat} {fv fs : Nat → Int} {rm : Int} {s x : Nat} (hS : Sok cnt fv fs) (hr : 0 ≤ rm ∧ rm ≤ 12) (hx : x < cnt) : 0 ≤ CH cnt fv fs rm s x ∧ CH cnt fv fs rm s x ≤ fs x ∧ CH cnt fv fs rm s x ≤ rm := by
  obtain ⟨j, hj, rfl⟩ := ordF_sur fv cnt x hx
  rw [CH_ord hS.2.2 hj]
  have h1 := (mo_le (g := RM cnt fv fs rm (cnt - 1 - j + 1)) (v := RV cnt fv (cnt - 1 - j)) (nd := RM cnt fv fs rm (cnt - 1 - j) (rst (RM cnt fv fs rm) (RV cnt fv) (RU cnt fv fs rm) s (cnt - 1 - j))) (s := rst (RM cnt fv fs rm) (RV cnt fv) (RU cnt fv fs rm) s (cnt - 1 - j)) (RU cnt fv fs rm (cnt - 1 - j)).toNat).1
  have h2 : RU cnt fv fs rm (cnt - 1 - j) = min (fs (ordF fv cnt j)) rm := by
    show usF fv fs cnt rm (cnt - 1 - (cnt - 1 - j)) = _
    rw [show cnt - 1 - (cnt - 1 - j) = j by omega]
    rfl
  have h3 := hS.2.1 _ (ordF_lt fv cnt j hj)
  have h4 : chm (RM cnt fv fs rm) (RV cnt fv) (RU cnt fv fs rm) s (cnt - 1 - j) ≤ (RU cnt fv fs rm (cnt - 1 - j)).toNat := h1
  omega
theorem stab {cnt : Nat} {fv fs gs : Nat → Int} {rm : Int} {s : Nat} (hS : Sok cnt fv fs) (hr : 0 ≤ rm ∧ rm ≤ 12) (hg : ∀ j, j < cnt → 0 ≤ gs j ∧ gs j ≤ fs j) (hc : ∀ j, j < cnt → CH cnt fv fs rm s j ≤ gs j) :
    (∀ r, r ≤ cnt → RM cnt fv gs rm (cnt - r) (rst (RM cnt fv fs rm) (RV cnt fv) (RU cnt fv fs rm) s (cnt - r)) = RM cnt fv fs rm (cnt - r) (rst (RM cnt fv fs rm) (RV cnt fv) (RU cnt fv fs rm) s (cnt - r))) := by
  intro r
  induction r with
  | zero =>
    intro _
    show tb _ _ (cnt - (cnt - 0)) _ = tb _ _ (cnt - (cnt - 0)) _
    rw [show cnt - (cnt - 0) = 0 by omega]
    rfl
  | succ k ih =>
    intro hk
    have ih := ih (by omega)
    obtain ⟨r, hr1⟩ : ∃ r, r = cnt - (k + 1) := ⟨_, rfl⟩
    have hr2 : cnt - k = r + 1 := by omega
    rw [hr2] at ih
    rw [← hr1]
    have hrc : r < cnt := by omega
    generalize hR : rst (RM cnt fv fs rm) (RV cnt fv) (RU cnt fv fs rm) s r = R
    have hle : (chm (RM cnt fv fs rm) (RV cnt fv) (RU cnt fv fs rm) s r : Int) * RV cnt fv r ≤ (R : Int) := by rw [← hR]; exact chm_bd
    have hrs := rst_s (M := RM cnt fv fs rm) (tv := RV cnt fv) (tu := RU cnt fv fs rm) (s := s) (r := r)
    rw [hR] at hrs
    have huF : 0 ≤ RU cnt fv fs rm r ∧ RU cnt fv fs rm r ≤ 12 := hS.us hr (by omega)
    have hat := mo_at (f := RM cnt fv fs rm (r + 1)) (v := RV cnt fv r) (s := R) huF
    rw [← RM_s hrc] at hat
    have hmo : mo (RM cnt fv fs rm (r + 1)) (RV cnt fv r) (RM cnt fv fs rm r R) R (RU cnt fv fs rm r).toNat = chm (RM cnt fv fs rm) (RV cnt fv) (RU cnt fv fs rm) s r := by
      simp only [chm]
      rw [hR]
    rw [hmo] at hat
    have hrest : ((R : Int) - (chm (RM cnt fv fs rm) (RV cnt fv) (RU cnt fv fs rm) s r : Int) * RV cnt fv r).toNat = rst (RM cnt fv fs rm) (RV cnt fv) (RU cnt fv fs rm) s (r + 1) := by omega
    rw [hrest, ← ih] at hat
    have hx : ordF fv cnt (cnt - 1 - r) < cnt := ordF_lt fv cnt _ (by omega)
    have hcx := hc _ hx
    rw [CH_ord hS.2.2 (by omega), show cnt - 1 - (cnt - 1 - r) = r by omega] at hcx
    have hcr := (CH_le (rm := rm) (s := s) hS hr hx).2.2
    rw [CH_ord hS.2.2 (by omega), show cnt - 1 - (cnt - 1 - r) = r by omega] at hcr
    have huG : RU cnt fv gs rm r = min (gs (ordF fv cnt (cnt - 1 - r))) rm := rfl
    have hlow := tRow_le (f := RM cnt fv gs rm (r + 1)) (v := RV cnt fv r) (u := RU cnt fv gs rm r) (s := R) (j := chm (RM cnt fv fs rm) (RV cnt fv) (RU cnt fv fs rm) s r) (by omega) (by omega) hle
    rw [← RM_s hrc, hrest, hat] at hlow
    have hmono := tb_mono (vs := vsF fv cnt) (us := usF fv fs cnt rm) (us' := usF fv gs cnt rm) (cnt - r) (fun j hj => by
      have := hg _ (ordF_lt fv cnt j (by omega))
      show min (gs (ordF fv cnt j)) rm ≤ min (fs (ordF fv cnt j)) rm
      omega) R
    have hm2 : RM cnt fv fs rm r R ≤ RM cnt fv gs rm r R := hmono
    omega
theorem stab_rst {cnt : Nat} {fv fs gs : Nat → Int} {rm : Int} {s : Nat} (hS : Sok cnt fv fs) (hr : 0 ≤ rm ∧ rm ≤ 12) (hg : ∀ j, j < cnt → 0 ≤ gs j ∧ gs j ≤ fs j) (hc : ∀ j, j < cnt → CH cnt fv fs rm s j ≤ gs j) :
    ∀ r, r ≤ cnt → rst (RM cnt fv gs rm) (RV cnt fv) (RU cnt fv gs rm) s r = rst (RM cnt fv fs rm) (RV cnt fv) (RU cnt fv fs rm) s r ∧ (r < cnt → chm (RM cnt fv gs rm) (RV cnt fv) (RU cnt fv gs rm) s r = chm (RM cnt fv fs rm) (RV cnt fv) (RU cnt fv fs rm) s r) := by
  have hst := stab (s := s) hS hr hg hc
  have key : ∀ r, r < cnt → rst (RM cnt fv gs rm) (RV cnt fv) (RU cnt fv gs rm) s r = rst (RM cnt fv fs rm) (RV cnt fv) (RU cnt fv fs rm) s r → chm (RM cnt fv gs rm) (RV cnt fv) (RU cnt fv gs rm) s r = chm (RM cnt fv fs rm) (RV cnt fv) (RU cnt fv fs rm) s r := by
    intro r hrc he
    generalize hR : rst (RM cnt fv fs rm) (RV cnt fv) (RU cnt fv fs rm) s r = R at he
    have h0 := hst (cnt - r) (by omega)
    rw [show cnt - (cnt - r) = r by omega, hR] at h0
    have h1 := hst (cnt - (r + 1)) (by omega)
    rw [show cnt - (cnt - (r + 1)) = r + 1 by omega] at h1
    have hle : (chm (RM cnt fv fs rm) (RV cnt fv) (RU cnt fv fs rm) s r : Int) * RV cnt fv r ≤ (R : Int) := by rw [← hR]; exact chm_bd
    have hrs := rst_s (M := RM cnt fv fs rm) (tv := RV cnt fv) (tu := RU cnt fv fs rm) (s := s) (r := r)
    rw [hR] at hrs
    have huF : 0 ≤ RU cnt fv fs rm r ∧ RU cnt fv fs rm r ≤ 12 := hS.us hr (by omega)
    have hx : ordF fv cnt (cnt - 1 - r) < cnt := ordF_lt fv cnt _ (by omega)
    have hgx := hg _ hx
    have huG : RU cnt fv gs rm r = min (gs (ordF fv cnt (cnt - 1 - r))) rm := rfl
    have huF2 : RU cnt fv fs rm r = min (fs (ordF fv cnt (cnt - 1 - r))) rm := rfl
    have hcx := hc _ hx
    rw [CH_ord hS.2.2 (by omega), show cnt - 1 - (cnt - 1 - r) = r by omega] at hcx
    have hcr := (CH_le (rm := rm) (s := s) hS hr hx).2.2
    rw [CH_ord hS.2.2 (by omega), show cnt - 1 - (cnt - 1 - r) = r by omega] at hcr
    have hat := mo_at (f := RM cnt fv fs rm (r + 1)) (v := RV cnt fv r) (s := R) huF
    rw [← RM_s hrc] at hat
    have hmo : mo (RM cnt fv fs rm (r + 1)) (RV cnt fv r) (RM cnt fv fs rm r R) R (RU cnt fv fs rm r).toNat = chm (RM cnt fv fs rm) (RV cnt fv) (RU cnt fv fs rm) s r := by
      simp only [chm]
      rw [hR]
    rw [hmo] at hat
    have hrest : ((R : Int) - (chm (RM cnt fv fs rm) (RV cnt fv) (RU cnt fv fs rm) s r : Int) * RV cnt fv r).toNat = rst (RM cnt fv fs rm) (RV cnt fv) (RU cnt fv fs rm) s (r + 1) := by omega
    show mo (RM cnt fv gs rm (r + 1)) (RV cnt fv r) (RM cnt fv gs rm r (rst (RM cnt fv gs rm) (RV cnt fv) (RU cnt fv gs rm) s r)) (rst (RM cnt fv gs rm) (RV cnt fv) (RU cnt fv gs rm) s r) (RU cnt fv gs rm r).toNat = _
    rw [he, h0]
    refine mo_is (fun _ => ⟨hle, ?_⟩) _ (by omega) (fun j h2 h3 h4 => ?_)
    · rw [hrest, h1, ← hrest]
      exact hat
    · have hnot := mo_max (g := RM cnt fv fs rm (r + 1)) (v := RV cnt fv r) (nd := RM cnt fv fs rm r R) (s := R) (RU cnt fv fs rm r).toNat j (by rw [hmo]; exact h2) (by omega)
      have hlow := tRow_le (f := RM cnt fv fs rm (r + 1)) (v := RV cnt fv r) (u := RU cnt fv fs rm r) (s := R) (j := j) huF.2 (by omega) h4.1
      rw [← RM_s hrc] at hlow
      have hmono := tb_mono (vs := vsF fv cnt) (us := usF fv fs cnt rm) (us' := usF fv gs cnt rm) (cnt - (r + 1)) (fun j hj => by
        have := hg _ (ordF_lt fv cnt j (by omega))
        show min (gs (ordF fv cnt j)) rm ≤ min (fs (ordF fv cnt j)) rm
        omega) ((R : Int) - (j : Int) * RV cnt fv r).toNat
      have hm2 : RM cnt fv fs rm (r + 1) ((R : Int) - (j : Int) * RV cnt fv r).toNat ≤ RM cnt fv gs rm (r + 1) ((R : Int) - (j : Int) * RV cnt fv r).toNat := hmono
      have h5 := h4.2
      exact hnot ⟨h4.1, by omega⟩
  intro r
  induction r with
  | zero => exact fun h => ⟨rfl, fun h2 => key 0 h2 rfl⟩
  | succ r ih =>
    intro h
    obtain ⟨h1, h2⟩ := ih (by omega)
    have h3 : rst (RM cnt fv gs rm) (RV cnt fv) (RU cnt fv gs rm) s (r + 1) = rst (RM cnt fv fs rm) (RV cnt fv) (RU cnt fv fs rm) s (r + 1) := by
      have e1 := rst_s (M := RM cnt fv gs rm) (tv := RV cnt fv) (tu := RU cnt fv gs rm) (s := s) (r := r)
      have e2 := rst_s (M := RM cnt fv fs rm) (tv := RV cnt fv) (tu := RU cnt fv fs rm) (s := s) (r := r)
      rw [h1, h2 (by omega)] at e1
      omega
    exact ⟨h3, fun h4 => key (r + 1) h4 h3⟩
theorem stab_CH {cnt : Nat} {fv fs gs : Nat → Int} {rm : Int} {s : Nat} (hS : Sok cnt fv fs) (hr : 0 ≤ rm ∧ rm ≤ 12) (hg : ∀ j, j < cnt → 0 ≤ gs j ∧ gs j ≤ fs j) (hc : ∀ j, j < cnt → CH cnt fv fs rm s j ≤ gs j) (x : Nat) (hx : x < cnt) : CH cnt fv gs rm s x = CH cnt fv fs rm s x := by
  obtain ⟨j, hj, rfl⟩ := ordF_sur fv cnt x hx
  rw [CH_ord hS.2.2 hj, CH_ord hS.2.2 hj, (stab_rst (s := s) hS hr hg hc (cnt - 1 - j) (by omega)).2 (by omega)]
theorem stab_LS {cnt : Nat} {fv fs gs : Nat → Int} {rm : Int} {p s : Nat} (hS : Sok cnt fv fs) (hr : 0 ≤ rm ∧ rm ≤ 12) (hp : p ≤ 360) (hs : LSm cnt fv fs rm p = (s : Int)) (hg : ∀ j, j < cnt → 0 ≤ gs j ∧ gs j ≤ fs j) (hc : ∀ j, j < cnt → CH cnt fv fs rm s j ≤ gs j) : LSm cnt fv gs rm p = (s : Int) := by
  have h0 := stab (s := s) hS hr hg hc cnt (Nat.le_refl _)
  rw [Nat.sub_self] at h0
  have h0' : TB cnt fv gs rm s = TB cnt fv fs rm s := h0
  have hmono := tb_mono (vs := vsF fv cnt) (us := usF fv fs cnt rm) (us' := usF fv gs cnt rm) cnt (fun j hj => by
    have := hg _ (ordF_lt fv cnt j hj)
    show min (gs (ordF fv cnt j)) rm ≤ min (fs (ordF fv cnt j)) rm
    omega)
  rcases LSm_bd (cnt := cnt) (fv := fv) (fs := fs) (rm := rm) hp with h | ⟨j, h1, h2, h3, h4⟩
  · omega
  · have e : j = s := by omega
    subst e
    exact fsm_is (360 - p) p j h1 (by omega) (by rw [h0']; exact h4) (fun i h5 h6 => by
      have := fsm_lt (360 - p) p j h3 i h5 h6
      have h7 : TB cnt fv fs rm i ≤ TB cnt fv gs rm i := hmono i
      omega)
theorem cab_congr2 {fv gv : Nat → Int} {cnt x : Nat} (h : ∀ j, j < cnt → fv j = gv j) (hx : x < cnt) : cab fv (fv x) cnt = cab gv (gv x) cnt := by
  rw [h x hx]
  exact cab_congr cnt h
theorem CHc {cnt : Nat} {fv fs gv gs : Nat → Int} {rm : Int} {s x : Nat} (hS : Sok cnt fv fs) (hs : s < 360) (h1 : ∀ j, j < cnt → fv j = gv j) (h2 : ∀ j, j < cnt → min (fs j) rm = min (gs j) rm) (hx : x < cnt) : CH cnt fv fs rm s x = CH cnt gv gs rm s x := by
  simp only [CH]
  rw [cab_congr2 h1 hx]
  have hlt : cab gv (gv x) cnt < cnt := cab_lt cnt hx
  rw [chm_congr (M := RM cnt fv fs rm) (N := RM cnt gv gs rm) (tv := RV cnt fv) (tu := RU cnt fv fs rm) (tv' := RV cnt gv) (tu' := RU cnt gv gs rm) (n := cnt) hs (fun r hr => by have := hS.vs (j := cnt - 1 - r) (by omega); show 0 ≤ vsF fv cnt (cnt - 1 - r); omega) (fun r hr => ⟨vs_congr h1 (by omega), us_congr h1 h2 (by omega)⟩) (fun r j hr hj => by show tb _ _ (cnt - r) j = tb _ _ (cnt - r) j; rw [tbk_congr h1 h2 (cnt - r) (by omega)]) _ hlt]
theorem ltr_c {cnt : Nat} {rm : Int} {p : Nat} (hr : 0 ≤ rm ∧ rm ≤ 12) (hp : p ≤ 360) : ∀ (n : Nat) (fv gv fs gs : Nat → Int), Sok cnt fv fs → (∀ j, j < cnt → fv j = gv j) → (∀ j, j < cnt → fs j = gs j) → ltr cnt fv rm p n fs = ltr cnt gv rm p n gs
  | 0, _, _, _, _, _, _, _ => rfl
  | n + 1, fv, gv, fs, gs, hS, h1, h2 => by
    have h3 : ∀ j, j < cnt → min (fs j) rm = min (gs j) rm := fun j hj => by rw [h2 j hj]
    have e := LSmc (p := p) h1 h3
    simp only [ltr]
    rw [e]
    by_cases hL : LSm cnt gv gs rm p = -1
    · rw [if_pos hL, if_pos hL]
    · rw [if_neg hL, if_neg hL]
      have hrg := LSm_rg (cnt := cnt) (fv := gv) (fs := gs) (rm := rm) hp
      have hs : (LSm cnt gv gs rm p).toNat < 360 := by omega
      have hC : ∀ j, j < cnt → CH cnt fv fs rm (LSm cnt gv gs rm p).toNat j = CH cnt gv gs rm (LSm cnt gv gs rm p).toNat j := fun j hj => CHc hS hs h1 h3 hj
      have hS' : Sok cnt fv (sbS cnt fs (CH cnt fv fs rm (LSm cnt gv gs rm p).toNat)) := ⟨hS.1, fun j hj => by
        have h5 := CH_le (rm := rm) (s := (LSm cnt gv gs rm p).toNat) hS hr hj
        have h6 := hS.2.1 j hj
        show 0 ≤ cpy fs _ cnt j ∧ cpy fs _ cnt j ≤ 119
        rw [cpy_l hj]
        omega, hS.2.2⟩
      rw [ltr_c hr hp n fv gv _ (sbS cnt gs (CH cnt gv gs rm (LSm cnt gv gs rm p).toNat)) hS' h1 (fun j hj => by
        show cpy fs _ cnt j = cpy gs _ cnt j
        rw [cpy_l hj, cpy_l hj, h2 j hj, hC j hj])]
theorem ltr_s {cnt : Nat} {fv : Nat → Int} {rm : Int} {p n : Nat} {fs : Nat → Int} (h : LSm cnt fv fs rm p ≠ -1) : ltr cnt fv rm p (n + 1) fs = ltr cnt fv rm p n (sbS cnt fs (CH cnt fv fs rm (LSm cnt fv fs rm p).toNat)) + 1 := if_neg h
theorem ltr_0 {cnt : Nat} {fv : Nat → Int} {rm : Int} {p n : Nat} {fs : Nat → Int} (h : LSm cnt fv fs rm p = -1) : ltr cnt fv rm p n fs = 0 := by
  cases n with
  | zero => rfl
  | succ n => exact if_pos h
/-- one more letter of the same kind -/
theorem ltr_more {cnt : Nat} {fv F G c : Nat → Int} {rm : Int} {p n : Nat} (hS : Sok cnt fv F) (hr : 0 ≤ rm ∧ rm ≤ 12) (hp : p ≤ 360) (hL : LSm cnt fv F rm p ≠ -1) (hG : ∀ j, j < cnt → 0 ≤ G j ∧ G j ≤ F j) (hcc : ∀ j, j < cnt → c j = CH cnt fv F rm (LSm cnt fv F rm p).toNat j) (hc : ∀ j, j < cnt → c j ≤ G j) : ltr cnt fv rm p (n + 1) G = ltr cnt fv rm p n (sbS cnt G c) + 1 := by
  have hrg := LSm_rg (cnt := cnt) (fv := fv) (fs := F) (rm := rm) hp
  have hc' : ∀ j, j < cnt → CH cnt fv F rm (LSm cnt fv F rm p).toNat j ≤ G j := fun j hj => by rw [← hcc j hj]; exact hc j hj
  have e1 := stab_LS (p := p) (s := (LSm cnt fv F rm p).toNat) hS hr hp (by omega) hG hc'
  have hSG : Sok cnt fv G := ⟨hS.1, fun j hj => by have := hG j hj; have := hS.2.1 j hj; omega, hS.2.2⟩
  rw [ltr_s (by omega), e1]
  have hCG : ∀ j, j < cnt → CH cnt fv G rm (LSm cnt fv F rm p).toNat j = c j := fun j hj => by rw [hcc j hj]; exact stab_CH hS hr hG hc' j hj
  rw [show ((((LSm cnt fv F rm p).toNat : Nat) : Int)).toNat = (LSm cnt fv F rm p).toNat by omega]
  have e2 : sbS cnt G (CH cnt fv G rm (LSm cnt fv F rm p).toNat) = sbS cnt G c := cpy_c (fun j hj => by rw [hCG j hj])
  rw [e2]
