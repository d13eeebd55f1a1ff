/-! the reference's table goes to 720: nothing more is paid first -/
theorem tb_red {vs us : Nat → Int} : ∀ k, (∀ j, j < k → 1 ≤ vs j ∧ vs j ≤ 60) → (∀ j, j < k → us j ≤ 12) → ∀ s : Nat, 1 ≤ s → tb vs us k s < 1000 → ∃ v : Nat, 1 ≤ v ∧ v ≤ 60 ∧ v ≤ s ∧ tb vs us k (s - v) ≤ tb vs us k s - 1
  | 0, _, _, s, h1, h2 => by
    exfalso
    have : tb vs us 0 s = 1000 := if_neg (by omega)
    omega
  | k + 1, hv, hu, s, h1, h2 => by
    have hvk := hv k (Nat.lt_succ_self k)
    have huk := hu k (Nat.lt_succ_self k)
    have e : tb vs us (k + 1) s = tIn (tb vs us k) (vs k) (us k) s 12 := rfl
    rcases tIn_at (f := tb vs us k) (v := vs k) (u := us k) (s := s) 12 with h | ⟨j, h3, h4, h5, h6, h7⟩
    · obtain ⟨v, g1, g2, g3, g4⟩ := tb_red k (fun j hj => hv j (Nat.lt_succ_of_lt hj)) (fun j hj => hu j (Nat.lt_succ_of_lt hj)) s h1 (by omega)
      refine ⟨v, g1, g2, g3, ?_⟩
      have h8 := (tIn_le (f := tb vs us k) (v := vs k) (u := us k) (s := s - v) 12).1
      have e2 : tb vs us (k + 1) (s - v) = tIn (tb vs us k) (vs k) (us k) (s - v) 12 := rfl
      omega
    · obtain ⟨v, hvv⟩ : ∃ v : Nat, (v : Int) = vs k := ⟨(vs k).toNat, by omega⟩
      have hj1 : ((j - 1 : Nat) : Int) = (j : Int) - 1 := by omega
      have hmul : ((j - 1 : Nat) : Int) * vs k = (j : Int) * vs k - vs k := by rw [hj1, Int.sub_mul, Int.one_mul]
      have hnn : 0 ≤ ((j - 1 : Nat) : Int) * vs k := Int.mul_nonneg (by omega) (by omega)
      refine ⟨v, by omega, by omega, by omega, ?_⟩
      have hsv : ((s - v : Nat) : Int) = (s : Int) - vs k := by omega
      have h8 := tRow_le (f := tb vs us k) (v := vs k) (u := us k) (s := s - v) (j := j - 1) huk (by omega) (by omega)
      have e2 : tb vs us (k + 1) (s - v) = tRow (tb vs us k) (vs k) (us k) (s - v) := rfl
      rw [show ((s - v : Nat) : Int) - ((j - 1 : Nat) : Int) * vs k = (s : Int) - (j : Int) * vs k by omega] at h8
      omega
theorem fsm_ext {f : Nat → Int} {rm : Int} : ∀ (n d s : Nat), fsm f rm n s ≠ -1 → fsm f rm (n + d) s = fsm f rm n s
  | 0, d, s, h => absurd rfl h
  | n + 1, d, s, h => by
    rw [show n + 1 + d = (n + d) + 1 by omega]
    by_cases h1 : f s ≤ rm
    · rw [fsm_t h1, fsm_t h1]
    · rw [fsm_f h1, fsm_f h1]
      rw [fsm_f h1] at h
      exact fsm_ext n d (s + 1) h
theorem fsm_no {f : Nat → Int} {rm : Int} : ∀ (n s : Nat), (∀ j, s ≤ j → j < s + n → rm < f j) → fsm f rm n s = -1
  | 0, _, _ => rfl
  | n + 1, s, h => by
    have := h s (Nat.le_refl _) (by omega)
    rw [fsm_f (by omega)]
    exact fsm_no n (s + 1) (fun j h1 h2 => h j (by omega) (by omega))
theorem cov_LS {cnt : Nat} {fv fs : Nat → Int} {rm : Int} {p : Nat} (hS : Sok cnt fv fs) (hr : 0 ≤ rm ∧ rm ≤ 12) (hp : p ≤ 300) : fsm (TB cnt fv fs rm) rm (721 - p) p = LSm cnt fv fs rm p := by
  by_cases h : LSm cnt fv fs rm p = -1
  · rw [h]
    have hno : ∀ j, p ≤ j → rm < TB cnt fv fs rm j := by
      intro j
      induction j using Nat.strongRecOn with
      | _ j ih =>
        intro hj
        by_cases h1 : j < 360
        · rcases Int.lt_or_le rm (TB cnt fv fs rm j) with h2 | h2
          · exact h2
          · exfalso
            have h3 : fsm (TB cnt fv fs rm) rm (360 - p) p ≠ -1 := by
              intro h4
              have key : ∀ (n s : Nat), fsm (TB cnt fv fs rm) rm n s = -1 → ∀ i, s ≤ i → i < s + n → rm < TB cnt fv fs rm i := by
                intro n
                induction n with
                | zero => intro s _ i h5 h6; omega
                | succ n ihn =>
                  intro s h7 i h5 h6
                  by_cases h8 : TB cnt fv fs rm s ≤ rm
                  · rw [fsm_t h8] at h7
                    omega
                  · rw [fsm_f h8] at h7
                    by_cases e : i = s
                    · subst e; omega
                    · exact ihn (s + 1) h7 i (by omega) (by omega)
              have := key (360 - p) p h4 j hj (by omega)
              omega
            exact h3 h
        · rcases Int.lt_or_le rm (TB cnt fv fs rm j) with h2 | h2
          · exact h2
          · exfalso
            obtain ⟨v, g1, g2, g3, g4⟩ := tb_red cnt (fun i hi => hS.vs hi) (fun i hi => (hS.us hr hi).2) j (by omega) (by have : TB cnt fv fs rm j = tb (fun i => vsF fv cnt i) (usF fv fs cnt rm) cnt j := rfl; omega)
            have h5 := ih (j - v) (by omega) (by omega)
            have h6 : TB cnt fv fs rm (j - v) ≤ TB cnt fv fs rm j - 1 := g4
            omega
    exact fsm_no (721 - p) p (fun j h1 _ => hno j h1)
  · have h1 := fsm_ext (f := TB cnt fv fs rm) (rm := rm) (360 - p) 361 p h
    rw [show 721 - p = 360 - p + 361 by omega]
    exact h1
def Fok (fv fs : Nat → Int) (cnt : Nat) (rm : Int) (F : Nat → Nat → Int) (n : Nat) : Prop := ∀ k, k ≤ n → ∀ s, s < 721 → F k s = tb (vsF fv cnt) (usF fv fs cnt rm) k s
def Ook (fv : Nat → Int) (cnt : Nat) (fo : Nat → Int) : Prop := ∀ j, j < cnt → fo j = ((ordF fv cnt j : Nat) : Int)
theorem Fok.bd {fv fs : Nat → Int} {cnt : Nat} {rm : Int} {F : Nat → Nat → Int} {n k j : Nat} (h : Fok fv fs cnt rm F n) (hS : Sok cnt fv fs) (hn : n ≤ cnt) (hk : k ≤ n) (hj : j < 721) : 0 ≤ F k j ∧ F k j ≤ 1000 := by
  rw [h k hk j hj]
  exact tb_bd k (fun i hi => by have := hS.vs (j := i) (by omega); omega) j
theorem Fok.step {fv fs : Nat → Int} {cnt k : Nat} {rm : Int} {F : Nat → Nat → Int} (h : Fok fv fs cnt rm F k) (hS : Sok cnt fv fs) (hk : k < cnt) : Fok fv fs cnt rm (gR F (k + 1) (tRow (F k) (vsF fv cnt k) (usF fv fs cnt rm k)) 721) (k + 1) := by
  intro a ha s hs
  by_cases e : a = k + 1
  · subst e
    rw [gR_eq hs]
    have hv := hS.vs hk
    exact tRow_congr (by omega) (fun j hj => h k (Nat.le_refl _) j (by omega))
  · rw [gR_ne e]
    exact h a (by omega) s hs
theorem Fok.tb0 {fv fs : Nat → Int} {cnt : Nat} {rm : Int} {F : Nat → Nat → Int} (h : Fok fv fs cnt rm F cnt) {s : Nat} (hs : s < 721) : F cnt s = TB cnt fv fs rm s := h cnt (Nat.le_refl _) s hs
theorem Fok.ls {fv fs : Nat → Int} {cnt : Nat} {rm : Int} {F : Nat → Nat → Int} (h : Fok fv fs cnt rm F cnt) (hS : Sok cnt fv fs) (hr : 0 ≤ rm ∧ rm ≤ 12) {p : Nat} (hp : p ≤ 300) : fsm (F cnt) rm (721 - p) p = LSm cnt fv fs rm p := by
  rw [← cov_LS hS hr hp]
  exact fsm_congr _ _ (fun j h1 h2 => h.tb0 (by omega))
theorem Fok.rc {fv fs : Nat → Int} {cnt : Nat} {rm : Int} {F : Nat → Nat → Int} (h : Fok fv fs cnt rm F cnt) : rch (F cnt) rm 300 0 = RC cnt fv fs rm := rch_congr _ _ (fun j h1 h2 => h.tb0 (by omega))
/-- what is read back is CH -/
def gtU (cnt : Nat) (fv fs : Nat → Int) (rm : Int) (s : Nat) (fg : Nat → Int) (n : Nat) : Nat → Int := rkU (fun r => ordF fv cnt (cnt - 1 - r)) (fun r => ((chm (RM cnt fv fs rm) (RV cnt fv) (RU cnt fv fs rm) s r : Nat) : Int)) fg n
theorem gtU_CH {cnt : Nat} {fv fs fg : Nat → Int} {rm : Int} {s : Nat} (hS : Sok cnt fv fs) (x : Nat) (hx : x < cnt) : gtU cnt fv fs rm s fg cnt x = CH cnt fv fs rm s x := by
  obtain ⟨j, hj, rfl⟩ := ordF_sur fv cnt x hx
  have h1 := rkU_at (k := fun r => ordF fv cnt (cnt - 1 - r)) (g := fun r => ((chm (RM cnt fv fs rm) (RV cnt fv) (RU cnt fv fs rm) s r : Nat) : Int)) (f := fg) cnt (fun a b ha hb h => by
    have h2 := rank_ord hS.2.2 (j := cnt - 1 - a) (by omega)
    have h3 := rank_ord hS.2.2 (j := cnt - 1 - b) (by omega)
    rw [h, h3] at h2
    omega) (cnt - 1 - j) (by omega)
  rw [show cnt - 1 - (cnt - 1 - j) = j by omega] at h1
  rw [CH_ord hS.2.2 hj]
  exact h1
