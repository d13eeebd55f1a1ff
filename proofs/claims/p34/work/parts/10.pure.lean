/-! pure functions: how many are greater; two numbers that are one -/
def cab (fv : Nat → Int) (x : Int) : Nat → Nat
  | 0 => 0
  | n + 1 => cab fv x n + (if x < fv n then 1 else 0)
theorem cab_t {fv : Nat → Int} {x : Int} {n : Nat} (h : x < fv n) : ((cab fv x (n + 1) : Nat) : Int) = (cab fv x n : Int) + 1 := by simp [cab, h]
theorem cab_f {fv : Nat → Int} {x : Int} {n : Nat} (h : ¬ x < fv n) : cab fv x (n + 1) = cab fv x n := by simp [cab, h]
theorem lt_or {j i : Nat} {p : Nat → Prop} (hj : j < i + 1) (h : ∀ j, j < i → p j) (hi : p i) : p j := by
  rcases Nat.lt_or_eq_of_le (Nat.le_of_lt_succ hj) with h1 | h1
  · exact h j h1
  · rw [h1]; exact hi
def rmv (f : Nat → Int) (s i : Nat) : Nat → Int := fun j => if s ≤ j ∧ j < i then f (j + 1) else f j
theorem rmv_0 {f : Nat → Int} {s : Nat} : rmv f s s = f := by
  funext j
  simp only [rmv]
  rw [if_neg (by omega)]
theorem rmv_s {f : Nat → Int} {s i : Nat} (h : s ≤ i) : zU (rmv f s i) i (rmv f s i (i + 1)) = rmv f s (i + 1) := by
  funext j
  simp only [rmv, zU]
  by_cases h1 : j = i
  · subst h1
    rw [if_pos rfl, if_neg (by omega), if_pos (by omega)]
  · rw [if_neg h1]
    by_cases h2 : s ≤ j ∧ j < i
    · rw [if_pos h2, if_pos (by omega)]
    · rw [if_neg h2, if_neg (by omega)]
def cpy (f g : Nat → Int) (i : Nat) : Nat → Int := fun j => if j < i then g j else f j
theorem cpy_0 {f g : Nat → Int} : cpy f g 0 = f := by
  funext j
  simp [cpy]
theorem cpy_s {f g : Nat → Int} {i : Nat} : zU (cpy f g i) i (g i) = cpy f g (i + 1) := by
  funext j
  simp only [cpy, zU]
  by_cases h1 : j = i
  · subst h1
    rw [if_pos rfl, if_pos (by omega)]
  · rw [if_neg h1]
    by_cases h2 : j < i
    · rw [if_pos h2, if_pos (by omega)]
    · rw [if_neg h2, if_neg (by omega)]
theorem cpy_g {f g : Nat → Int} {i j : Nat} (h : i ≤ j) : cpy f g i j = f j := if_neg (by omega)
theorem cpy_l {f g : Nat → Int} {i j : Nat} (h : j < i) : cpy f g i j = g j := if_pos h
/-- numbers written at places k 0, k 1 .. -/
def rkU (k : Nat → Nat) (g f : Nat → Int) : Nat → Nat → Int
  | 0 => f
  | n + 1 => zU (rkU k g f n) (k n) (g n)
theorem rkU_at {k : Nat → Nat} {g f : Nat → Int} : ∀ (n : Nat), (∀ a b, a < n → b < n → k a = k b → a = b) → ∀ s, s < n → rkU k g f n (k s) = g s
  | 0, _, s, hs => absurd hs (Nat.not_lt_zero _)
  | n + 1, hi, s, hs => by
    simp only [rkU, zU]
    by_cases h : k s = k n
    · rw [if_pos h, hi s n hs (Nat.lt_succ_self n) h]
    · rw [if_neg h]
      have hsn : s ≠ n := fun e => h (by rw [e])
      exact rkU_at n (fun a b ha hb => hi a b (Nat.lt_succ_of_lt ha) (Nat.lt_succ_of_lt hb)) s (by omega)
theorem cab_le (fv : Nat → Int) (x : Int) : ∀ n, cab fv x n ≤ n
  | 0 => Nat.le_refl _
  | n + 1 => by
    have := cab_le fv x n
    simp only [cab]
    split <;> omega
theorem cab_lt {fv : Nat → Int} {s : Nat} : ∀ n, s < n → cab fv (fv s) n < n
  | 0, h => absurd h (Nat.not_lt_zero _)
  | n + 1, h => by
    simp only [cab]
    by_cases e : s = n
    · subst e
      have := cab_le fv (fv s) s
      rw [if_neg (by omega)]
      omega
    · have := cab_lt (fv := fv) n (by omega : s < n)
      split <;> omega
theorem cab_mono {fv : Nat → Int} {x y : Int} (h : x ≤ y) : ∀ n, cab fv y n ≤ cab fv x n
  | 0 => Nat.le_refl _
  | n + 1 => by
    have := cab_mono (fv := fv) h n
    simp only [cab]
    split <;> split <;> omega
theorem cab_strict {fv : Nat → Int} {x : Int} {b : Nat} (h : x < fv b) : ∀ n, b < n → cab fv (fv b) n < cab fv x n
  | 0, hb => absurd hb (Nat.not_lt_zero _)
  | n + 1, hb => by
    simp only [cab]
    by_cases e : b = n
    · subst e
      have := cab_mono (fv := fv) (Int.le_of_lt h) b
      rw [if_neg (by omega), if_pos h]
      omega
    · have := cab_strict h n (by omega : b < n)
      split <;> split <;> omega
theorem cab_inj {fv : Nat → Int} {n : Nat} (hd : ∀ a b, a < n → b < n → fv a = fv b → a = b) (a b : Nat) (ha : a < n) (hb : b < n) (h : cab fv (fv a) n = cab fv (fv b) n) : a = b := by
  rcases Int.lt_trichotomy (fv a) (fv b) with h1 | h1 | h1
  · have := cab_strict h1 n hb
    omega
  · exact hd a b ha hb h1
  · have := cab_strict h1 n ha
    omega
/-- one row of the table: the fewest with up to m of one more stamp; all of them -/
def tIn (f : Nat → Int) (v u : Int) (s : Nat) : Nat → Int
  | 0 => f s
  | m + 1 => if ((m + 1 : Nat) : Int) ≤ u ∧ ((m + 1 : Nat) : Int) * v ≤ (s : Int) then min (tIn f v u s m) (f ((s : Int) - ((m + 1 : Nat) : Int) * v).toNat + ((m + 1 : Nat) : Int)) else tIn f v u s m
def tRow (f : Nat → Int) (v u : Int) : Nat → Int := fun s => tIn f v u s 12
theorem tIn_s {f : Nat → Int} {v u : Int} {s m : Nat} (h1 : ¬ u < ((m + 1 : Nat) : Int)) (h2 : ¬ (s : Int) < ((m + 1 : Nat) : Int) * v) : min (tIn f v u s m) (f ((s : Int) - ((m + 1 : Nat) : Int) * v).toNat + ((m + 1 : Nat) : Int)) = tIn f v u s (m + 1) := by
  simp only [tIn]
  rw [if_pos ⟨by omega, by omega⟩]
theorem tIn_k {f : Nat → Int} {v u : Int} {s m : Nat} (hv : 0 ≤ v) (h : u < ((m + 1 : Nat) : Int) ∨ (s : Int) < ((m + 1 : Nat) : Int) * v) : ∀ k, tIn f v u s (m + k) = tIn f v u s m
  | 0 => rfl
  | k + 1 => by
    have hm : ((m + 1 : Nat) : Int) * v ≤ ((m + k + 1 : Nat) : Int) * v := Int.mul_le_mul_of_nonneg_right (by omega) hv
    show tIn f v u s ((m + k) + 1) = _
    simp only [tIn]
    rw [if_neg (by omega)]
    exact tIn_k hv h k
theorem tIn_x {f : Nat → Int} {v u : Int} {s m : Nat} (hv : 0 ≤ v) (hm : m ≤ 12) (h : u < ((m + 1 : Nat) : Int) ∨ (s : Int) < ((m + 1 : Nat) : Int) * v) : tIn f v u s m = tRow f v u s := by
  have h1 := tIn_k (f := f) hv h (12 - m)
  rw [show m + (12 - m) = 12 by omega] at h1
  exact h1.symm
theorem tIn_bd {f : Nat → Int} {v u : Int} {s : Nat} (hv : 0 ≤ v) (hf : ∀ j, j ≤ s → 0 ≤ f j ∧ f j ≤ 1000) : ∀ m, 0 ≤ tIn f v u s m ∧ tIn f v u s m ≤ f s
  | 0 => ⟨(hf s (Nat.le_refl _)).1, Int.le_refl _⟩
  | m + 1 => by
    obtain ⟨h1, h2⟩ := tIn_bd (u := u) hv hf m
    simp only [tIn]
    split
    · have h4 : (0 : Int) ≤ ((m + 1 : Nat) : Int) * v := Int.mul_nonneg (by omega) hv
      have h3 := (hf ((s : Int) - ((m + 1 : Nat) : Int) * v).toNat (by omega)).1
      omega
    · exact ⟨h1, h2⟩
theorem tRow_bd {f : Nat → Int} {v u : Int} {s : Nat} (hv : 0 ≤ v) (hf : ∀ j, j ≤ s → 0 ≤ f j ∧ f j ≤ 1000) : 0 ≤ tRow f v u s ∧ tRow f v u s ≤ 1000 := by
  have h1 := tIn_bd (u := u) hv hf 12
  have h2 := (hf s (Nat.le_refl _)).2
  exact ⟨h1.1, Int.le_trans h1.2 h2⟩
theorem tIn_congr {f g : Nat → Int} {v u : Int} {s : Nat} (hv : 0 ≤ v) (h : ∀ j, j ≤ s → f j = g j) : ∀ m, tIn f v u s m = tIn g v u s m
  | 0 => h s (Nat.le_refl _)
  | m + 1 => by
    have h4 : (0 : Int) ≤ ((m + 1 : Nat) : Int) * v := Int.mul_nonneg (by omega) hv
    simp only [tIn]
    rw [tIn_congr hv h m]
    by_cases hc : ((m + 1 : Nat) : Int) ≤ u ∧ ((m + 1 : Nat) : Int) * v ≤ (s : Int)
    · rw [if_pos hc, if_pos hc, h _ (by omega)]
    · rw [if_neg hc, if_neg hc]
theorem tRow_congr {f g : Nat → Int} {v u : Int} {s : Nat} (hv : 0 ≤ v) (h : ∀ j, j ≤ s → f j = g j) : tRow f v u s = tRow g v u s := tIn_congr hv h 12
/-- row r of a grid, its first n places as g -/
def gR (M : Nat → Nat → Int) (r : Nat) (g : Nat → Int) (n : Nat) : Nat → Nat → Int := fun a s => if a = r ∧ s < n then g s else M a s
theorem gR_0 {M : Nat → Nat → Int} {r : Nat} {g : Nat → Int} : gR M r g 0 = M := by
  funext a s
  simp [gR]
theorem gR_ne {M : Nat → Nat → Int} {r a : Nat} {g : Nat → Int} {n s : Nat} (h : a ≠ r) : gR M r g n a s = M a s := if_neg (by omega)
theorem gR_eq {M : Nat → Nat → Int} {r : Nat} {g : Nat → Int} {n s : Nat} (h : s < n) : gR M r g n r s = g s := if_pos ⟨rfl, h⟩
theorem gR_s {M : Nat → Nat → Int} {r : Nat} {g : Nat → Int} {n : Nat} : gU (gR M r g n) r n (g n) = gR M r g (n + 1) := by
  funext a s
  by_cases h1 : a = r
  · subst h1
    show (if a = a then zU (gR M a g n a) n (g n) else gR M a g n a) s = (if a = a ∧ s < n + 1 then g s else M a s)
    rw [if_pos rfl]
    by_cases h2 : s = n
    · subst h2
      rw [if_pos ⟨rfl, Nat.lt_succ_self _⟩]
      exact if_pos rfl
    · show (if s = n then g n else (if a = a ∧ s < n then g s else M a s)) = _
      rw [if_neg h2]
      by_cases h3 : s < n
      · rw [if_pos ⟨rfl, h3⟩, if_pos ⟨rfl, Nat.lt_succ_of_lt h3⟩]
      · rw [if_neg (fun q => h3 q.2), if_neg (fun q => h2 (by omega))]
  · show (if a = r then zU (gR M r g n a) n (g n) else gR M r g n a) s = (if a = r ∧ s < n + 1 then g s else M a s)
    rw [if_neg h1, if_neg (fun q => h1 q.1)]
    exact if_neg (fun q => h1 q.1)
theorem mul_bd {m : Nat} {v : Int} (hv : 1 ≤ v) (hv2 : v ≤ 60) (hm : m ≤ 12) : 0 ≤ ((m + 1 : Nat) : Int) * v ∧ ((m + 1 : Nat) : Int) * v ≤ 780 := by
  refine ⟨Int.mul_nonneg (by omega) (by omega), ?_⟩
  have h := Int.mul_le_mul (a := ((m + 1 : Nat) : Int)) (c := 13) (b := v) (d := 60) (by omega) hv2 (by omega) (by omega)
  omega
/-- the first sum, from s on, n of them looked at, that the table pays; -1 -/
def fsm (f : Nat → Int) (rm : Int) : Nat → Nat → Int
  | 0, _ => -1
  | n + 1, s => if f s ≤ rm then (s : Int) else fsm f rm n (s + 1)
theorem fsm_t {f : Nat → Int} {rm : Int} {n s : Nat} (h : f s ≤ rm) : fsm f rm (n + 1) s = (s : Int) := if_pos h
theorem fsm_f {f : Nat → Int} {rm : Int} {n s : Nat} (h : ¬ f s ≤ rm) : fsm f rm (n + 1) s = fsm f rm n (s + 1) := if_neg h
theorem fsm_bd {f : Nat → Int} {rm : Int} : ∀ (n s : Nat), fsm f rm n s = -1 ∨ ∃ j : Nat, s ≤ j ∧ j < s + n ∧ fsm f rm n s = (j : Int) ∧ f j ≤ rm
  | 0, _ => Or.inl rfl
  | n + 1, s => by
    by_cases h : f s ≤ rm
    · exact Or.inr ⟨s, Nat.le_refl _, by omega, fsm_t h, h⟩
    · rw [fsm_f h]
      rcases fsm_bd n (s + 1) with h1 | ⟨j, h1, h2, h3, h4⟩
      · exact Or.inl h1
      · exact Or.inr ⟨j, by omega, by omega, h3, h4⟩
/-- how far all is paid, n more looked at -/
def rch (f : Nat → Int) (rm : Int) : Nat → Nat → Nat
  | 0, p => p
  | n + 1, p => if f (p + 1) ≤ rm then rch f rm n (p + 1) else p
theorem rch_t {f : Nat → Int} {rm : Int} {n p : Nat} (h : f (p + 1) ≤ rm) : rch f rm (n + 1) p = rch f rm n (p + 1) := if_pos h
theorem rch_f {f : Nat → Int} {rm : Int} {n p : Nat} (h : ¬ f (p + 1) ≤ rm) : rch f rm n p = p := by
  cases n with
  | zero => rfl
  | succ n => exact if_neg h
theorem rch_bd {f : Nat → Int} {rm : Int} : ∀ n p, rch f rm n p ≤ p + n
  | 0, p => Nat.le_refl _
  | n + 1, p => by
    have := rch_bd (f := f) (rm := rm) n (p + 1)
    simp only [rch]
    split <;> omega
/-- the most of one stamp that still makes the fewest -/
def mo (g : Nat → Int) (v nd : Int) (s : Nat) : Nat → Nat
  | 0 => 0
  | m + 1 => if ((m + 1 : Nat) : Int) * v ≤ (s : Int) ∧ g ((s : Int) - ((m + 1 : Nat) : Int) * v).toNat + ((m + 1 : Nat) : Int) = nd then m + 1 else mo g v nd s m
theorem mo_t {g : Nat → Int} {v nd : Int} {s m : Nat} (h1 : ((m + 1 : Nat) : Int) * v ≤ (s : Int)) (h2 : g ((s : Int) - ((m + 1 : Nat) : Int) * v).toNat + ((m + 1 : Nat) : Int) = nd) : mo g v nd s (m + 1) = m + 1 := if_pos ⟨h1, h2⟩
theorem mo_f {g : Nat → Int} {v nd : Int} {s m : Nat} (h : ¬ (((m + 1 : Nat) : Int) * v ≤ (s : Int) ∧ g ((s : Int) - ((m + 1 : Nat) : Int) * v).toNat + ((m + 1 : Nat) : Int) = nd)) : mo g v nd s (m + 1) = mo g v nd s m := if_neg h
theorem mo_le {g : Nat → Int} {v nd : Int} {s : Nat} : ∀ m, mo g v nd s m ≤ m ∧ ((mo g v nd s m : Nat) : Int) * v ≤ (s : Int)
  | 0 => ⟨Nat.le_refl _, by simp [mo]⟩
  | m + 1 => by
    by_cases h : ((m + 1 : Nat) : Int) * v ≤ (s : Int) ∧ g ((s : Int) - ((m + 1 : Nat) : Int) * v).toNat + ((m + 1 : Nat) : Int) = nd
    · rw [mo_t h.1 h.2]
      exact ⟨Nat.le_refl _, h.1⟩
    · rw [mo_f h]
      exact ⟨Nat.le_succ_of_le (mo_le m).1, (mo_le m).2⟩
theorem mul_bd0 {m : Nat} {v : Int} (hv : 1 ≤ v) (hv2 : v ≤ 60) (hm : m ≤ 13) : 0 ≤ (m : Int) * v ∧ (m : Int) * v ≤ 780 := by
  refine ⟨Int.mul_nonneg (by omega) (by omega), ?_⟩
  have h := Int.mul_le_mul (a := (m : Int)) (c := 13) (b := v) (d := 60) (by omega) hv2 (by omega) (by omega)
  omega
/-- what is left of a sum, and how many of each are taken: by the ranks -/
def rst (M : Nat → Nat → Int) (tv tu : Nat → Int) (s : Nat) : Nat → Nat
  | 0 => s
  | r + 1 => ((rst M tv tu s r : Int) - ((mo (M (r + 1)) (tv r) (M r (rst M tv tu s r)) (rst M tv tu s r) (tu r).toNat : Nat) : Int) * tv r).toNat
def chm (M : Nat → Nat → Int) (tv tu : Nat → Int) (s r : Nat) : Nat := mo (M (r + 1)) (tv r) (M r (rst M tv tu s r)) (rst M tv tu s r) (tu r).toNat
theorem chm_bd {M : Nat → Nat → Int} {tv tu : Nat → Int} {s r : Nat} : ((chm M tv tu s r : Nat) : Int) * tv r ≤ (rst M tv tu s r : Int) := (mo_le _).2
theorem rst_s {M : Nat → Nat → Int} {tv tu : Nat → Int} {s r : Nat} : ((rst M tv tu s (r + 1) : Nat) : Int) = (rst M tv tu s r : Int) - ((chm M tv tu s r : Nat) : Int) * tv r := by
  have := chm_bd (M := M) (tv := tv) (tu := tu) (s := s) (r := r)
  show (((rst M tv tu s r : Int) - ((chm M tv tu s r : Nat) : Int) * tv r).toNat : Int) = _
  omega
theorem rst_le {M : Nat → Nat → Int} {tv tu : Nat → Int} {s : Nat} : ∀ r, (∀ j, j < r → 0 ≤ tv j) → rst M tv tu s r ≤ s
  | 0, _ => Nat.le_refl _
  | r + 1, h => by
    have h1 := rst_le (M := M) (tv := tv) (tu := tu) (s := s) r (fun j hj => h j (Nat.lt_succ_of_lt hj))
    have h2 := rst_s (M := M) (tv := tv) (tu := tu) (s := s) (r := r)
    have h3 : (0 : Int) ≤ ((chm M tv tu s r : Nat) : Int) * tv r := Int.mul_nonneg (by omega) (h r (Nat.lt_succ_self r))
    omega
/-- the greatest sum: room left and sum, by the ranks -/
def gsm (tv tu : Nat → Int) (rm : Int) : Nat → Int × Int
  | 0 => (rm, 0)
  | r + 1 => ((gsm tv tu rm r).1 - min (tu r) (gsm tv tu rm r).1, (gsm tv tu rm r).2 + min (tu r) (gsm tv tu rm r).1 * tv r)
theorem gsm_bd {tv tu : Nat → Int} {rm : Int} (hr : 0 ≤ rm) : ∀ r, (∀ j, j < r → 0 ≤ tu j) → 0 ≤ (gsm tv tu rm r).1 ∧ (gsm tv tu rm r).1 ≤ rm
  | 0, _ => ⟨hr, Int.le_refl _⟩
  | r + 1, h => by
    have h1 := gsm_bd (tv := tv) hr r (fun j hj => h j (Nat.lt_succ_of_lt hj))
    have h2 := h r (Nat.lt_succ_self r)
    show 0 ≤ (gsm tv tu rm r).1 - min (tu r) (gsm tv tu rm r).1 ∧ (gsm tv tu rm r).1 - min (tu r) (gsm tv tu rm r).1 ≤ rm
    omega
/-- the table by the stamps from the smallest value on -/
def tb (vs us : Nat → Int) : Nat → Nat → Int
  | 0 => fun s => if s = 0 then 0 else 1000
  | k + 1 => tRow (tb vs us k) (vs k) (us k)
theorem tb_bd {vs us : Nat → Int} : ∀ k, (∀ j, j < k → 0 ≤ vs j) → ∀ s, 0 ≤ tb vs us k s ∧ tb vs us k s ≤ 1000
  | 0, _, s => by
    show 0 ≤ (if s = 0 then (0 : Int) else 1000) ∧ (if s = 0 then (0 : Int) else 1000) ≤ 1000
    split <;> omega
  | k + 1, h, s => tRow_bd (h k (Nat.lt_succ_self k)) (fun j _ => tb_bd k (fun i hi => h i (Nat.lt_succ_of_lt hi)) j)
theorem tb_congr {vs us vs' us' : Nat → Int} : ∀ k, (∀ j, j < k → vs j = vs' j ∧ us j = us' j) → tb vs us k = tb vs' us' k
  | 0, _ => rfl
  | k + 1, h => by
    show tRow (tb vs us k) (vs k) (us k) = tRow (tb vs' us' k) (vs' k) (us' k)
    rw [tb_congr k (fun j hj => h j (Nat.lt_succ_of_lt hj)), (h k (Nat.lt_succ_self k)).1, (h k (Nat.lt_succ_self k)).2]
theorem mo_p {g : Nat → Int} {v nd : Int} {s m : Nat} (hm : ¬ (m : Int) ≤ 0) (h1 : (m : Int) * v ≤ (s : Int)) (h2 : g ((s : Int) - (m : Int) * v).toNat + (m : Int) = nd) : mo g v nd s m = m := by
  cases m with
  | zero => exact absurd (Int.le_refl _) hm
  | succ m => exact mo_t h1 h2
theorem mo_n {g : Nat → Int} {v nd : Int} {s m : Nat} (hm : ¬ (m : Int) ≤ 0) (h : ¬ ((m : Int) * v ≤ (s : Int) ∧ g ((s : Int) - (m : Int) * v).toNat + (m : Int) = nd)) : mo g v nd s m = mo g v nd s (m - 1) := by
  cases m with
  | zero => exact absurd (Int.le_refl _) hm
  | succ m => exact mo_f h
theorem chU_0 : True := trivial
/-- what is chosen, written at the stamps' own places -/
def chU (M : Nat → Nat → Int) (ft tv tu fc : Nat → Int) (s : Nat) : Nat → Nat → Int
  | 0 => fc
  | r + 1 => zU (chU M ft tv tu fc s r) (ft r).toNat ((chm M tv tu s r : Nat) : Int)
/-! the order of the values, as an insertion makes it -/
def insA (o : Nat → Nat) (p e : Nat) : Nat → Nat := fun j => if j < p then o j else if j = p then e else o (j - 1)
def ptI (fv : Nat → Int) (o : Nat → Nat) (x : Int) : Nat → Nat
  | 0 => 0
  | n + 1 => if x < fv (o n) then ptI fv o x n else n + 1
def ordF (fv : Nat → Int) : Nat → Nat → Nat
  | 0 => fun _ => 0
  | n + 1 => insA (ordF fv n) (ptI fv (ordF fv n) (fv n) n) n
theorem ptI_le {fv : Nat → Int} {o : Nat → Nat} {x : Int} : ∀ n, ptI fv o x n ≤ n
  | 0 => Nat.le_refl _
  | n + 1 => by
    have := ptI_le (fv := fv) (o := o) (x := x) n
    simp only [ptI]
    split <;> omega
theorem ptI_hi {fv : Nat → Int} {o : Nat → Nat} {x : Int} : ∀ n j, ptI fv o x n ≤ j → j < n → x < fv (o j)
  | 0, _, _, h => absurd h (Nat.not_lt_zero _)
  | n + 1, j, h1, h2 => by
    simp only [ptI] at h1
    split at h1
    · by_cases e : j = n
      · subst e; assumption
      · exact ptI_hi n j h1 (by omega)
    · omega
theorem ptI_lo {fv : Nat → Int} {o : Nat → Nat} {x : Int} : ∀ n, (∀ a b, a < b → b < n → fv (o a) < fv (o b)) → (∀ j, j < n → fv (o j) ≠ x) → ∀ j, j < ptI fv o x n → fv (o j) < x
  | 0, _, _, _, h => absurd h (Nat.not_lt_zero _)
  | n + 1, hs, hd, j, h => by
    simp only [ptI] at h
    split at h
    · exact ptI_lo n (fun a b h1 h2 => hs a b h1 (Nat.lt_succ_of_lt h2)) (fun i hi => hd i (Nat.lt_succ_of_lt hi)) j h
    · have h3 := hd n (Nat.lt_succ_self n)
      by_cases e : j = n
      · subst e; omega
      · have := hs j n (by omega) (Nat.lt_succ_self n)
        omega
theorem ordF_ok (fv : Nat → Int) : ∀ n, (∀ a b, a < n → b < n → fv a = fv b → a = b) → (∀ j, j < n → ordF fv n j < n) ∧ ∀ a b, a < b → b < n → fv (ordF fv n a) < fv (ordF fv n b)
  | 0, _ => ⟨fun _ h => absurd h (Nat.not_lt_zero _), fun _ _ _ h => absurd h (Nat.not_lt_zero _)⟩
  | n + 1, hd => by
    obtain ⟨h1, h2⟩ := ordF_ok fv n (fun a b ha hb => hd a b (Nat.lt_succ_of_lt ha) (Nat.lt_succ_of_lt hb))
    have hp := ptI_le (fv := fv) (o := ordF fv n) (x := fv n) n
    have hne : ∀ j, j < n → fv (ordF fv n j) ≠ fv n := fun j hj e => by
      have h3 := h1 j hj
      have := hd _ _ (Nat.lt_succ_of_lt h3) (Nat.lt_succ_self n) e
      omega
    have hlo := ptI_lo (x := fv n) n h2 hne
    have hhi := ptI_hi (fv := fv) (o := ordF fv n) (x := fv n) n
    generalize hq : ptI fv (ordF fv n) (fv n) n = p at hp hlo hhi
    refine ⟨fun j hj => ?_, fun a b hab hb => ?_⟩
    · simp only [ordF, insA, hq]
      split
      · exact Nat.lt_succ_of_lt (h1 j (by omega))
      · split
        · exact Nat.lt_succ_self n
        · exact Nat.lt_succ_of_lt (h1 (j - 1) (by omega))
    · simp only [ordF, insA, hq]
      by_cases ha1 : a < p
      · rw [if_pos ha1]
        by_cases hb1 : b < p
        · rw [if_pos hb1]; exact h2 a b hab (by omega)
        · rw [if_neg hb1]
          by_cases hb2 : b = p
          · rw [if_pos hb2]; exact hlo a ha1
          · rw [if_neg hb2]; exact h2 a (b - 1) (by omega) (by omega)
      · rw [if_neg ha1, if_neg (by omega : ¬ b < p), if_neg (by omega : ¬ b = p)]
        by_cases ha2 : a = p
        · rw [if_pos ha2]; exact hhi (b - 1) (by omega) (by omega)
        · rw [if_neg ha2]; exact h2 (a - 1) (b - 1) (by omega) (by omega)
theorem cab_congr {f g : Nat → Int} {x : Int} : ∀ n, (∀ j, j < n → f j = g j) → cab f x n = cab g x n
  | 0, _ => rfl
  | n + 1, h => by
    simp only [cab]
    rw [cab_congr n (fun j hj => h j (Nat.lt_succ_of_lt hj)), h n (Nat.lt_succ_self n)]
theorem cab_ins {fv : Nat → Int} {o : Nat → Nat} {p e : Nat} {x : Int} : ∀ n, p ≤ n → cab (fun j => fv (insA o p e j)) x (n + 1) = cab (fun j => fv (o j)) x n + (if x < fv e then 1 else 0)
  | 0, h => by
    have : p = 0 := by omega
    subst this
    simp [cab, insA]
  | n + 1, h => by
    by_cases hp : p = n + 1
    · subst hp
      have h1 : cab (fun j => fv (insA o (n + 1) e j)) x (n + 1) = cab (fun j => fv (o j)) x (n + 1) := cab_congr (n + 1) (fun j hj => by simp only [insA]; rw [if_pos hj])
      show cab (fun j => fv (insA o (n + 1) e j)) x (n + 1) + (if x < fv (insA o (n + 1) e (n + 1)) then 1 else 0) = _
      rw [h1]
      have h2 : insA o (n + 1) e (n + 1) = e := by simp [insA]
      rw [h2]
    · have ih := cab_ins (fv := fv) (o := o) (p := p) (e := e) (x := x) n (by omega)
      show cab (fun j => fv (insA o p e j)) x (n + 1) + (if x < fv (insA o p e (n + 1)) then 1 else 0) = _
      rw [ih]
      have h2 : insA o p e (n + 1) = o n := by
        simp only [insA]
        rw [if_neg (by omega), if_neg (by omega)]
        rfl
      rw [h2]
      show _ = cab (fun j => fv (o j)) x n + (if x < fv (o n) then 1 else 0) + (if x < fv e then 1 else 0)
      omega
theorem cab_ord (fv : Nat → Int) (x : Int) : ∀ n, cab fv x n = cab (fun j => fv (ordF fv n j)) x n
  | 0 => rfl
  | n + 1 => by
    show cab fv x n + (if x < fv n then 1 else 0) = cab (fun j => fv (insA (ordF fv n) (ptI fv (ordF fv n) (fv n) n) n j)) x (n + 1)
    rw [cab_ins n (ptI_le n), cab_ord fv x n]
theorem cab_none {w : Nat → Int} {x : Int} : ∀ n, (∀ j, j < n → w j ≤ x) → cab w x n = 0
  | 0, _ => rfl
  | n + 1, h => by
    simp only [cab]
    rw [cab_none n (fun j hj => h j (Nat.lt_succ_of_lt hj)), if_neg (by have := h n (Nat.lt_succ_self n); omega)]
theorem cab_sorted {w : Nat → Int} : ∀ n, (∀ a b, a < b → b < n → w a < w b) → ∀ j, j < n → cab w (w j) n = n - 1 - j
  | 0, _, _, h => absurd h (Nat.not_lt_zero _)
  | n + 1, h, j, hj => by
    simp only [cab]
    by_cases e : j = n
    · subst e
      rw [cab_none j (fun i hi => Int.le_of_lt (h i j hi (Nat.lt_succ_self j))), if_neg (by omega)]
      omega
    · rw [cab_sorted n (fun a b h1 h2 => h a b h1 (Nat.lt_succ_of_lt h2)) j (by omega), if_pos (h j n (by omega) (Nat.lt_succ_self n))]
      omega
theorem rank_ord {fv : Nat → Int} {n : Nat} (hd : ∀ a b, a < n → b < n → fv a = fv b → a = b) {j : Nat} (hj : j < n) : cab fv (fv (ordF fv n j)) n = n - 1 - j := by
  rw [cab_ord fv _ n]
  exact cab_sorted n (ordF_ok fv n hd).2 j hj
theorem rkU_ord {fv g f : Nat → Int} {n r : Nat} (hd : ∀ a b, a < n → b < n → fv a = fv b → a = b) (hr : r < n) : rkU (fun s => cab fv (fv s) n) g f n r = g (ordF fv n (n - 1 - r)) := by
  have h1 := rank_ord hd (j := n - 1 - r) (by omega)
  have h2 := rkU_at (k := fun s => cab fv (fv s) n) (g := g) (f := f) n (fun a b ha hb h => cab_inj hd a b ha hb h) (ordF fv n (n - 1 - r)) ((ordF_ok fv n hd).1 _ (by omega))
  rw [h1, show n - 1 - (n - 1 - r) = r by omega] at h2
  exact h2
theorem gU_eq {M : Nat → Nat → Int} {r j : Nat} {x : Int} : gU M r j x r j = x := by simp [gU, zU]
theorem gU_ne {M : Nat → Nat → Int} {r j a s : Nat} {x : Int} (h : a = r → s ≠ j) : gU M r j x a s = M a s := by
  simp only [gU]
  split
  · rename_i h1
    simp only [zU]
    rw [if_neg (h h1)]
  · rfl
/-- the table's state, filled for these stamps -/
def vsF (fv : Nat → Int) (cnt : Nat) : Nat → Int := fun j => fv (ordF fv cnt j)
def usF (fv fs : Nat → Int) (cnt : Nat) (rm : Int) : Nat → Int := fun j => min (fs (ordF fv cnt j)) rm
def Rok (fv fs : Nat → Int) (cnt : Nat) (rm : Int) (ft tv tu : Nat → Int) : Prop := ∀ r, r < cnt → ft r = (ordF fv cnt (cnt - 1 - r) : Int) ∧ tv r = vsF fv cnt (cnt - 1 - r) ∧ tu r = usF fv fs cnt rm (cnt - 1 - r)
def Mok (fv fs : Nat → Int) (cnt : Nat) (rm : Int) (M : Nat → Nat → Int) (k : Nat) : Prop := ∀ r, k ≤ r → r ≤ cnt → ∀ s, s < 360 → M r s = tb (vsF fv cnt) (usF fv fs cnt rm) (cnt - r) s
/-- stamps as they may stand -/
def Sok (cnt : Nat) (fv fs : Nat → Int) : Prop := (∀ j, j < cnt → 1 ≤ fv j ∧ fv j ≤ 60) ∧ (∀ j, j < cnt → 0 ≤ fs j ∧ fs j ≤ 119) ∧ ∀ a b, a < cnt → b < cnt → fv a = fv b → a = b
theorem Sok.vs {cnt : Nat} {fv fs : Nat → Int} (h : Sok cnt fv fs) {j : Nat} (hj : j < cnt) : 1 ≤ vsF fv cnt j ∧ vsF fv cnt j ≤ 60 := h.1 _ ((ordF_ok fv cnt h.2.2).1 j hj)
theorem Sok.us {cnt : Nat} {fv fs : Nat → Int} (h : Sok cnt fv fs) {rm : Int} (hr : 0 ≤ rm ∧ rm ≤ 12) {j : Nat} (hj : j < cnt) : 0 ≤ usF fv fs cnt rm j ∧ usF fv fs cnt rm j ≤ 12 := by
  have := h.2.1 _ ((ordF_ok fv cnt h.2.2).1 j hj)
  show 0 ≤ min (fs (ordF fv cnt j)) rm ∧ min (fs (ordF fv cnt j)) rm ≤ 12
  omega
theorem Rok.tv {cnt : Nat} {fv fs ft tv tu : Nat → Int} {rm : Int} (h : Rok fv fs cnt rm ft tv tu) (hs : Sok cnt fv fs) : ∀ r, r < cnt → 1 ≤ tv r ∧ tv r ≤ 60 := fun r hr => by
  rw [(h r hr).2.1]; exact hs.vs (by omega)
theorem Rok.tu {cnt : Nat} {fv fs ft tv tu : Nat → Int} {rm : Int} (h : Rok fv fs cnt rm ft tv tu) (hs : Sok cnt fv fs) (hr9 : 0 ≤ rm ∧ rm ≤ 12) : ∀ r, r < cnt → 0 ≤ tu r ∧ tu r ≤ 12 := fun r hr => by
  rw [(h r hr).2.2]; exact hs.us hr9 (by omega)
theorem Rok.ft {cnt : Nat} {fv fs ft tv tu : Nat → Int} {rm : Int} (h : Rok fv fs cnt rm ft tv tu) (hs : Sok cnt fv fs) : ∀ r, r < cnt → 0 ≤ ft r ∧ ft r < cnt := fun r hr => by
  rw [(h r hr).1]
  have := (ordF_ok fv cnt hs.2.2).1 (cnt - 1 - r) (by omega)
  omega
theorem Mok.bd {cnt : Nat} {fv fs : Nat → Int} {rm : Int} {M : Nat → Nat → Int} {k : Nat} (h : Mok fv fs cnt rm M k) (hs : Sok cnt fv fs) {r j : Nat} (h1 : k ≤ r) (h2 : r ≤ cnt) (h3 : j < 360) : 0 ≤ M r j ∧ M r j ≤ 1000 := by
  rw [h r h1 h2 j h3]
  exact tb_bd _ (fun i hi => by have := hs.vs (j := i) (by omega); omega) j
theorem Mok.step {cnt : Nat} {fv fs ft tv tu : Nat → Int} {rm : Int} {M : Nat → Nat → Int} {r : Nat} (h : Mok fv fs cnt rm M (r + 1)) (hR : Rok fv fs cnt rm ft tv tu) (hs : Sok cnt fv fs) (hr : r < cnt) : Mok fv fs cnt rm (gR M r (tRow (M (r + 1)) (tv r) (tu r)) 360) r := by
  intro a h1 h2 s h3
  by_cases e : a = r
  · subst e
    rw [gR_eq h3, (hR a hr).2.1, (hR a hr).2.2]
    have hv := hs.vs (j := cnt - 1 - a) (by omega)
    rw [tRow_congr (g := tb (vsF fv cnt) (usF fv fs cnt rm) (cnt - 1 - a)) (by omega) (fun j hj => by rw [h (a + 1) (Nat.le_refl _) (by omega) j (by omega), show cnt - (a + 1) = cnt - 1 - a by omega])]
    rw [show cnt - a = (cnt - 1 - a) + 1 by omega]
    rfl
  · rw [gR_ne e]
    exact h a (by omega) h2 s h3
