/-! the answers as functions of values, stocks and room -/
theorem ordF_lt (fv : Nat → Int) : ∀ n j, j < n → ordF fv n j < n
  | 0, _, h => absurd h (Nat.not_lt_zero _)
  | n + 1, j, hj => by
    have hp := ptI_le (fv := fv) (o := ordF fv n) (x := fv n) n
    simp only [ordF, insA]
    split
    · exact Nat.lt_succ_of_lt (ordF_lt fv n j (by omega))
    · split
      · exact Nat.lt_succ_self n
      · exact Nat.lt_succ_of_lt (ordF_lt fv n (j - 1) (by omega))
theorem ordF_sur (fv : Nat → Int) : ∀ n x, x < n → ∃ j, j < n ∧ ordF fv n j = x
  | 0, _, h => absurd h (Nat.not_lt_zero _)
  | n + 1, x, hx => by
    have hp := ptI_le (fv := fv) (o := ordF fv n) (x := fv n) n
    by_cases e : x = n
    · refine ⟨ptI fv (ordF fv n) (fv n) n, by omega, ?_⟩
      simp only [ordF, insA]
      rw [if_neg (by omega)]
      simp [e]
    · obtain ⟨j, h1, h2⟩ := ordF_sur fv n x (by omega)
      by_cases h3 : j < ptI fv (ordF fv n) (fv n) n
      · refine ⟨j, by omega, ?_⟩
        simp only [ordF, insA]
        rw [if_pos h3, h2]
      · refine ⟨j + 1, by omega, ?_⟩
        simp only [ordF, insA]
        rw [if_neg (by omega), if_neg (by omega)]
        exact h2
theorem ptI_congr {fv gv : Nat → Int} {o : Nat → Nat} {x : Int} : ∀ n, (∀ j, j < n → fv (o j) = gv (o j)) → ptI fv o x n = ptI gv o x n
  | 0, _ => rfl
  | n + 1, h => by
    simp only [ptI]
    rw [ptI_congr n (fun j hj => h j (Nat.lt_succ_of_lt hj)), h n (Nat.lt_succ_self n)]
theorem ordF_congr {fv gv : Nat → Int} : ∀ n, (∀ j, j < n → fv j = gv j) → ordF fv n = ordF gv n
  | 0, _ => rfl
  | n + 1, h => by
    simp only [ordF]
    rw [ordF_congr n (fun j hj => h j (Nat.lt_succ_of_lt hj)), h n (Nat.lt_succ_self n), ptI_congr n (fun j hj => h _ (Nat.lt_succ_of_lt (ordF_lt gv n j hj)))]
def TB (cnt : Nat) (fv fs : Nat → Int) (rm : Int) : Nat → Int := tb (vsF fv cnt) (usF fv fs cnt rm) cnt
def RM (cnt : Nat) (fv fs : Nat → Int) (rm : Int) : Nat → Nat → Int := fun r => tb (vsF fv cnt) (usF fv fs cnt rm) (cnt - r)
def RV (cnt : Nat) (fv : Nat → Int) : Nat → Int := fun r => vsF fv cnt (cnt - 1 - r)
def RU (cnt : Nat) (fv fs : Nat → Int) (rm : Int) : Nat → Int := fun r => usF fv fs cnt rm (cnt - 1 - r)
def LSm (cnt : Nat) (fv fs : Nat → Int) (rm : Int) (p : Nat) : Int := fsm (TB cnt fv fs rm) rm (360 - p) p
def CH (cnt : Nat) (fv fs : Nat → Int) (rm : Int) (s : Nat) : Nat → Int := fun x => ((chm (RM cnt fv fs rm) (RV cnt fv) (RU cnt fv fs rm) s (cab fv (fv x) cnt) : Nat) : Int)
def RC (cnt : Nat) (fv fs : Nat → Int) (rm : Int) : Nat := rch (TB cnt fv fs rm) rm 300 0

theorem vs_congr {cnt : Nat} {fv gv : Nat → Int} (h1 : ∀ j, j < cnt → fv j = gv j) {j : Nat} (hj : j < cnt) : vsF fv cnt j = vsF gv cnt j := by
  simp only [vsF]
  rw [ordF_congr cnt h1]
  exact h1 _ (ordF_lt gv cnt j hj)
theorem us_congr {cnt : Nat} {fv fs gv gs : Nat → Int} {rm : Int} (h1 : ∀ j, j < cnt → fv j = gv j) (h2 : ∀ j, j < cnt → min (fs j) rm = min (gs j) rm) {j : Nat} (hj : j < cnt) : usF fv fs cnt rm j = usF gv gs cnt rm j := by
  simp only [usF]
  rw [ordF_congr cnt h1]
  exact h2 _ (ordF_lt gv cnt j hj)
theorem tbk_congr {cnt : Nat} {fv fs gv gs : Nat → Int} {rm : Int} (h1 : ∀ j, j < cnt → fv j = gv j) (h2 : ∀ j, j < cnt → min (fs j) rm = min (gs j) rm) (k : Nat) (hk : k ≤ cnt) : tb (vsF fv cnt) (usF fv fs cnt rm) k = tb (vsF gv cnt) (usF gv gs cnt rm) k := tb_congr k (fun _ hj => ⟨vs_congr h1 (by omega), us_congr h1 h2 (by omega)⟩)
theorem TBc {cnt : Nat} {fv fs gv gs : Nat → Int} {rm : Int} (h1 : ∀ j, j < cnt → fv j = gv j) (h2 : ∀ j, j < cnt → min (fs j) rm = min (gs j) rm) : TB cnt fv fs rm = TB cnt gv gs rm := tbk_congr h1 h2 cnt (Nat.le_refl _)
theorem LSmc {cnt : Nat} {fv fs gv gs : Nat → Int} {rm : Int} {p : Nat} (h1 : ∀ j, j < cnt → fv j = gv j) (h2 : ∀ j, j < cnt → min (fs j) rm = min (gs j) rm) : LSm cnt fv fs rm p = LSm cnt gv gs rm p := by
  simp only [LSm]
  rw [TBc h1 h2]
theorem RCc {cnt : Nat} {fv fs gv gs : Nat → Int} {rm : Int} (h1 : ∀ j, j < cnt → fv j = gv j) (h2 : ∀ j, j < cnt → min (fs j) rm = min (gs j) rm) : RC cnt fv fs rm = RC cnt gv gs rm := by
  simp only [RC]
  rw [TBc h1 h2]
theorem mo_congr {g g' : Nat → Int} {v nd : Int} {s : Nat} (hv : 0 ≤ v) (h : ∀ j, j ≤ s → g j = g' j) : ∀ m, mo g v nd s m = mo g' v nd s m
  | 0 => rfl
  | m + 1 => by
    have h4 : (0 : Int) ≤ ((m + 1 : Nat) : Int) * v := Int.mul_nonneg (by omega) hv
    simp only [mo]
    rw [mo_congr hv h m]
    by_cases h5 : ((m + 1 : Nat) : Int) * v ≤ (s : Int)
    · rw [h ((s : Int) - ((m + 1 : Nat) : Int) * v).toNat (by omega)]
    · rw [if_neg (fun q => h5 q.1), if_neg (fun q => h5 q.1)]
/-- what is taken hangs on the table below 360 alone -/
theorem rst_congr {M N : Nat → Nat → Int} {tv tu tv' tu' : Nat → Int} {s n : Nat} (hs : s < 360) (hv : ∀ r, r < n → 0 ≤ tv r) (h1 : ∀ r, r < n → tv r = tv' r ∧ tu r = tu' r) (h2 : ∀ r j, r ≤ n → j < 360 → M r j = N r j) : ∀ r, r ≤ n → rst M tv tu s r = rst N tv' tu' s r
  | 0, _ => rfl
  | r + 1, hr => by
    have ih := rst_congr hs hv h1 h2 r (by omega)
    have hle := rst_le (M := M) (tv := tv) (tu := tu) (s := s) r (fun j hj => hv j (by omega))
    show ((rst M tv tu s r : Int) - ((mo (M (r + 1)) (tv r) (M r (rst M tv tu s r)) (rst M tv tu s r) (tu r).toNat : Nat) : Int) * tv r).toNat = ((rst N tv' tu' s r : Int) - ((mo (N (r + 1)) (tv' r) (N r (rst N tv' tu' s r)) (rst N tv' tu' s r) (tu' r).toNat : Nat) : Int) * tv' r).toNat
    rw [← ih, h2 r (rst M tv tu s r) (by omega) (by omega), ← (h1 r (by omega)).1, ← (h1 r (by omega)).2, mo_congr (hv r (by omega)) (fun j hj => h2 (r + 1) j hr (by omega))]
theorem chm_congr {M N : Nat → Nat → Int} {tv tu tv' tu' : Nat → Int} {s n : Nat} (hs : s < 360) (hv : ∀ r, r < n → 0 ≤ tv r) (h1 : ∀ r, r < n → tv r = tv' r ∧ tu r = tu' r) (h2 : ∀ r j, r ≤ n → j < 360 → M r j = N r j) (r : Nat) (hr : r < n) : chm M tv tu s r = chm N tv' tu' s r := by
  have ih := rst_congr hs hv h1 h2 r (by omega)
  have hle := rst_le (M := M) (tv := tv) (tu := tu) (s := s) r (fun j hj => hv j (by omega))
  simp only [chm]
  rw [← ih, h2 r (rst M tv tu s r) (by omega) (by omega), ← (h1 r hr).1, ← (h1 r hr).2, mo_congr (hv r hr) (fun j hj => h2 (r + 1) j hr (by omega))]
theorem chU_rkU {M : Nat → Nat → Int} {ft tv tu fc : Nat → Int} {s : Nat} : ∀ n, chU M ft tv tu fc s n = rkU (fun r => (ft r).toNat) (fun r => ((chm M tv tu s r : Nat) : Int)) fc n
  | 0 => rfl
  | n + 1 => by
    simp only [chU, rkU]
    rw [chU_rkU n]
/-- the class's choice is CH -/
theorem chU_CH {cnt : Nat} {fv fs ft tv tu fc : Nat → Int} {rm : Int} {M : Nat → Nat → Int} {s : Nat} (hs : s < 360) (hS : Sok cnt fv fs) (hR : Rok fv fs cnt rm ft tv tu) (hM : Mok fv fs cnt rm M 0) (x : Nat) (hx : x < cnt) : chU M ft tv tu fc s cnt x = CH cnt fv fs rm s x := by
  obtain ⟨j, hj, rfl⟩ := ordF_sur fv cnt x hx
  have hk : ∀ r, r < cnt → (ft r).toNat = ordF fv cnt (cnt - 1 - r) := fun r hr => by rw [(hR r hr).1]; rfl
  have hinj : ∀ a b, a < cnt → b < cnt → (ft a).toNat = (ft b).toNat → a = b := fun a b ha hb h => by
    rw [hk a ha, hk b hb] at h
    have h1 := rank_ord hS.2.2 (j := cnt - 1 - a) (by omega)
    have h2 := rank_ord hS.2.2 (j := cnt - 1 - b) (by omega)
    rw [h, h2] at h1
    omega
  have h1 := rkU_at (k := fun r => (ft r).toNat) (g := fun r => ((chm M tv tu s r : Nat) : Int)) (f := fc) cnt hinj (cnt - 1 - j) (by omega)
  rw [hk (cnt - 1 - j) (by omega), show cnt - 1 - (cnt - 1 - j) = j by omega] at h1
  rw [chU_rkU, h1]
  simp only [CH]
  rw [rank_ord hS.2.2 hj]
  have h2 := chm_congr (M := M) (N := RM cnt fv fs rm) (tv := tv) (tu := tu) (tv' := RV cnt fv) (tu' := RU cnt fv fs rm) (n := cnt) hs (fun r hr => by have := hR.tv hS r hr; omega) (fun r hr => ⟨(hR r hr).2.1, (hR r hr).2.2⟩) (fun r j hr hj => hM r (Nat.zero_le _) hr j hj) (cnt - 1 - j) (by omega)
  rw [h2]
theorem fsm_congr {f g : Nat → Int} {rm : Int} : ∀ (n s : Nat), (∀ j, s ≤ j → j < s + n → f j = g j) → fsm f rm n s = fsm g rm n s
  | 0, _, _ => rfl
  | n + 1, s, h => by
    simp only [fsm]
    rw [h s (Nat.le_refl _) (by omega), fsm_congr n (s + 1) (fun j h1 h2 => h j (by omega) (by omega))]
theorem rch_congr {f g : Nat → Int} {rm : Int} : ∀ (n p : Nat), (∀ j, p < j → j ≤ p + n → f j = g j) → rch f rm n p = rch g rm n p
  | 0, _, _ => rfl
  | n + 1, p, h => by
    simp only [rch]
    rw [h (p + 1) (by omega) (by omega), rch_congr n (p + 1) (fun j h1 h2 => h j (by omega) (by omega))]
theorem Mok.tb0 {cnt : Nat} {fv fs : Nat → Int} {rm : Int} {M : Nat → Nat → Int} (h : Mok fv fs cnt rm M 0) {s : Nat} (hs : s < 360) : M 0 s = TB cnt fv fs rm s := h 0 (Nat.le_refl _) (Nat.zero_le _) s hs
theorem Mok.ls {cnt : Nat} {fv fs : Nat → Int} {rm : Int} {M : Nat → Nat → Int} (h : Mok fv fs cnt rm M 0) {p : Nat} (hp : p ≤ 360) : fsm (M 0) rm (360 - p) p = LSm cnt fv fs rm p := fsm_congr _ _ (fun j h1 h2 => h.tb0 (by omega))
theorem Mok.rc {cnt : Nat} {fv fs : Nat → Int} {rm : Int} {M : Nat → Nat → Int} (h : Mok fv fs cnt rm M 0) : rch (M 0) rm 300 0 = RC cnt fv fs rm := rch_congr _ _ (fun j h1 h2 => h.tb0 (by omega))
/-- the greatest sum -/
def GS (cnt : Nat) (fv fs : Nat → Int) (rm : Int) : Int := (gsm (RV cnt fv) (RU cnt fv fs rm) rm cnt).2
theorem gsm_congr {tv tu tv' tu' : Nat → Int} {rm : Int} : ∀ n, (∀ r, r < n → tv r = tv' r ∧ tu r = tu' r) → gsm tv tu rm n = gsm tv' tu' rm n
  | 0, _ => rfl
  | n + 1, h => by
    simp only [gsm]
    rw [gsm_congr n (fun r hr => h r (Nat.lt_succ_of_lt hr)), (h n (Nat.lt_succ_self n)).1, (h n (Nat.lt_succ_self n)).2]
/-- the print's table as a function -/
def PFt (fv : Nat → Int) (cnt : Nat) (more : Int) : Nat → Nat → Int
  | 0 => fun _ => 0
  | n + 1 => zU (PFt fv cnt more n) (n + 1) (pMin (PFt fv cnt more n) fv (n + 1) (stM (PFt fv cnt more n) more (n + 1)) cnt)
def PF (fv : Nat → Int) (cnt : Nat) (more : Int) : Nat → Int := PFt fv cnt more 300
theorem PFt_ok {fv : Nat → Int} {cnt : Nat} {more : Int} (hv : ∀ j, j < cnt → 1 ≤ fv j) : ∀ n, Pk fv cnt more (PFt fv cnt more n) (n + 1)
  | 0 => ⟨rfl, fun q h1 h2 => absurd h2 (by omega)⟩
  | n + 1 => (PFt_ok hv n).step (by omega) hv rfl
theorem PF_ok {fv : Nat → Int} {cnt : Nat} {more : Int} (hv : ∀ j, j < cnt → 1 ≤ fv j) : Pk fv cnt more (PF fv cnt more) 301 := PFt_ok hv 300
def RP (fv : Nat → Int) (cnt : Nat) (more rm : Int) : Nat := rch (PF fv cnt more) rm 300 0
theorem Pk.eq {fv f : Nat → Int} {cnt : Nat} {more : Int} (h : Pk fv cnt more f 301) (hv : ∀ j, j < cnt → 1 ≤ fv j) {q : Nat} (hq : q < 301) : f q = PF fv cnt more q := h.uniq (PF_ok hv) hv (fun _ _ => rfl) q hq
theorem fgp_rch {f : Nat → Int} {rm : Int} : ∀ (n p : Nat), (if fgp f rm n (p + 1) = -1 then ((p + n : Nat) : Int) else fgp f rm n (p + 1) - 1) = (rch f rm n p : Int)
  | 0, p => rfl
  | n + 1, p => by
    by_cases h : rm < f (p + 1)
    · rw [fgp_t h, rch_f (by omega)]
      rw [if_neg (by omega)]
      omega
    · rw [fgp_f h, rch_t (by omega), ← fgp_rch n (p + 1), show p + 1 + n = p + (n + 1) by omega]
theorem fgp_congr {f g : Nat → Int} {rm : Int} : ∀ (n s : Nat), (∀ j, s ≤ j → j < s + n → f j = g j) → fgp f rm n s = fgp g rm n s
  | 0, _, _ => rfl
  | n + 1, s, h => by
    simp only [fgp]
    rw [h s (Nat.le_refl _) (by omega), fgp_congr n (s + 1) (fun j h1 h2 => h j (by omega) (by omega))]
theorem cgp_congr {f g : Nat → Int} {rm : Int} : ∀ n, (∀ j, 1 ≤ j → j ≤ n → f j = g j) → cgp f rm n = cgp g rm n
  | 0, _ => rfl
  | n + 1, h => by
    simp only [cgp]
    rw [h (n + 1) (by omega) (Nat.le_refl _), cgp_congr n (fun j h1 h2 => h j h1 (by omega))]
def hasB (fv : Nat → Int) (x : Int) : Nat → Bool
  | 0 => false
  | n + 1 => hasB fv x n || decide (fv n = x)
theorem hasB_iff {fv : Nat → Int} {x : Int} : ∀ n, hasB fv x n = true ↔ ∃ j, j < n ∧ fv j = x
  | 0 => ⟨fun h => absurd h (by simp [hasB]), fun ⟨j, h, _⟩ => absurd h (Nat.not_lt_zero _)⟩
  | n + 1 => by
    simp only [hasB, Bool.or_eq_true, decide_eq_true_eq, hasB_iff n]
    constructor
    · rintro (⟨j, h1, h2⟩ | h)
      · exact ⟨j, Nat.lt_succ_of_lt h1, h2⟩
      · exact ⟨n, Nat.lt_succ_self n, h⟩
    · rintro ⟨j, h1, h2⟩
      by_cases e : j = n
      · exact Or.inr (e ▸ h2)
      · exact Or.inl ⟨j, by omega, h2⟩
/-- the best new value, the best stamp to print again, the scarcest: best and how far -/
def bvF (fv : Nat → Int) (cnt : Nat) (rm : Int) : Nat → Int × Int
  | 0 => (-1, -1)
  | n + 1 => if hasB fv ((n + 1 : Nat) : Int) cnt = true then bvF fv cnt rm n else if (bvF fv cnt rm n).2 < (RP fv cnt ((n + 1 : Nat) : Int) rm : Int) then (((n + 1 : Nat) : Int), (RP fv cnt ((n + 1 : Nat) : Int) rm : Int)) else bvF fv cnt rm n
def bpF (cnt : Nat) (fv fs : Nat → Int) (rm : Int) : Nat → Int × Int
  | 0 => (-1, -1)
  | n + 1 => if (bpF cnt fv fs rm n).2 < (RC cnt fv (zU fs n (fs n + 20)) rm : Int) then ((n : Int), (RC cnt fv (zU fs n (fs n + 20)) rm : Int)) else bpF cnt fv fs rm n
def scF (fs : Nat → Int) : Nat → Int × Int
  | 0 => (-1, 100)
  | n + 1 => if fs n < (scF fs n).2 then ((n : Int), fs n) else scF fs n
/-- letters one behind the other -/
def sbS (cnt : Nat) (fs c : Nat → Int) : Nat → Int := cpy fs (fun j => fs j - c j) cnt
def ltr (cnt : Nat) (fv : Nat → Int) (rm : Int) (p : Nat) : Nat → (Nat → Int) → Nat
  | 0, _ => 0
  | n + 1, fs => if LSm cnt fv fs rm p = -1 then 0 else ltr cnt fv rm p n (sbS cnt fs (CH cnt fv fs rm (LSm cnt fv fs rm p).toNat)) + 1
def vsum (fv : Nat → Int) : Nat → Int
  | 0 => 0
  | n + 1 => vsum fv n + fv n
