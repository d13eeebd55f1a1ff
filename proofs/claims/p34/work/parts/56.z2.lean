/-! the search by hand, and what a letter gets -/
def vB (ba : Nat) (b : BB) : Value := match b with
  | none => .null
  | some _ => .ref ba
def sB (x : Int) (b : BB) : Int := match b with
  | none => x
  | some q => q.1
def mB (y : Int) (b : BB) : Int := match b with
  | none => y
  | some q => q.2.1
def wB (ba : Nat) (cI : ClassId) (n : Nat) (b : BB) : va_W := match b with
  | none => []
  | some q => [(ba, .inl (cI, n, .inl (zA q.2.2)))]
/-- the search's world -/
def WL (h sa na qa : Nat) (ra : Nat → Nat) (cI cG : ClassId) (n : Nat) (fv fs fd : Nat → Int) (rm lt tk ov : Int) (N : Nat → Int) (ba : Nat) (b : BB) (x y : Int) : va_W := ((((wZ h sa rm lt tk ov (.ref na) (vB ba b) (sB x b) (mB y b)) ++ [(na, .inl (cI, n, .inl (zA N)))]) ++ (wG qa cG n (rN (srt ra fv n) n))) ++ (wB ba cI n b)) ++ (wQ ra cI fv fs fd n)
def rmL (k c n : Nat) : Room := { frames := k, cells := c, slots := n * c, locals := 28 * k }
theorem rN_srt {ra : Nat → Nat} {fv : Nat → Int} {n k : Nat} (h : k + 1 ≤ n) : rN (srt ra fv n) n (n - (k + 1)) = some (ra (ordF fv n k)) := by
  rw [rN_at (by omega)]
  simp only [srt]
  rw [show n - 1 - (n - (k + 1)) = k by omega]
theorem cpy_agree {f N now : Nat → Int} {c : Nat} (h : ∀ i, i < c → N i = now i) : cpy f N c = cpy f now c := by
  funext i
  simp only [cpy]
  by_cases e : i < c
  · rw [if_pos e, if_pos e, h i e]
  · rw [if_neg e, if_neg e]
theorem zU_agree {N now : Nat → Int} {c : Nat} {x : Int} (h : ∀ i, i < c → N i = now i) : ∀ i, i < c + 1 → zU N c x i = zU now c x i := fun i hi => by
  simp only [zU]
  by_cases e : i = c
  · rw [if_pos e, if_pos e]
  · rw [if_neg e, if_neg e]; exact h i (by omega)
theorem mul_le2 {n a b : Nat} (h : a ≤ b) : n * a ≤ n * b := Nat.mul_le_mul_left n h
set_option maxHeartbeats 4000000 in
set_option maxRecDepth 100000 in
theorem look_new {E : gEnv} {l : Launch} {D : va_G} {cI cG cJ : ClassId} {k c : Nat} (h sa na qa : Nat) (ra : Nat → Nat) (n : Nat) (hn : n ≤ 8) (fv fs fd : Nat → Int) (rm lt tk ov : Int) (p : Int) (hp : 1 ≤ p ∧ p ≤ 300) (C : gC E l (rmL k c n) D 9 RX4 cX4_look cI cG cJ) (left sum many : Int) (now N : Nat → Int) (m : Nat) (hm : m ≤ n) (hag : ∀ i, i < m → N i = now i) (hsr : zr sum) (hmr : zr many) (ret : gRN E cX4_look (rmL k c n) (fun w9 => ∃ (ba1 : Nat) (N1 : Nat → Int) (x1 y1 : Int), (∀ i, i < m → N1 i = now i) ∧ w9 = WL h sa na qa ra cI cG n fv fs fd rm lt tk ov N1 ba1 (some (sum, many, cpy (fun _ => 0) now m)) x1 y1)) (hc : 1 ≤ c) (be : Value) (x y : Int) : gW E 0 0 ((((wZ h sa rm lt tk ov (.ref na) be x y) ++ ([(na, .inl (cI, n, .inl (zA N)))])) ++ (wG qa cG n (rN (srt ra fv n) n))) ++ (wQ ra cI fv fs fd n)) 42 [(0, .ref h), (1, .ref qa), (2, .int (zI (m : Int))), (3, .int (zI left)), (4, .int (zI sum)), (5, .int (zI many)), (6, .int (zI p))] [] := by
  refine g_aload_n C dX4_look_42 0 rfl ?_
  refine g_aload_n C dX4_look_43 1 rfl ?_
  refine g_alenG C 2 rfl dX4_look_44 ?_
  refine g_newi (N := n) C arrI (by omega) ⟨by show 0 + 1 ≤ c; omega, by show 0 + n ≤ n * c; have := mul_le2 (n := n) hc; omega⟩ dX4_look_45 (fun b2 => ?_)
  refine g_ws (w' := ((((wZ h sa rm lt tk ov (.ref na) be x y) ++ ([(na, .inl (cI, n, .inl (zA N)))])) ++ (wG qa cG n (rN (srt ra fv n) n))) ++ (wQ ra cI fv fs fd n)) ++ ([(b2, .inl (cI, n, .inl (zA (fun _ => 0))))])) rfl rfl ?_
  refine g_mods [wZ h sa rm lt tk ov (.ref na) be x y, [(na, .inl (cI, n, .inl (zA N)))], wG qa cG n (rN (srt ra fv n) n), wQ ra cI fv fs fd n, [(b2, .inl (cI, n, .inl (zA (fun _ => 0))))]] [wZ h sa rm lt tk ov (.ref na) be x y, [(na, .inl (cI, n, .inl (zA N)))], wG qa cG n (rN (srt ra fv n) n), [(b2, .inl (cI, n, .inl (zA (fun _ => 0))))], wQ ra cI fv fs fd n] [0, 1, 2, 4, 3] (by decide) rfl ?_
  refine g_ws (w' := ((((wZ h sa rm lt tk ov (.ref na) be x y) ++ ([(na, .inl (cI, n, .inl (zA N)))])) ++ (wG qa cG n (rN (srt ra fv n) n))) ++ ([(b2, .inl (cI, n, .inl (zA (fun _ => 0))))])) ++ (wQ ra cI fv fs fd n)) rfl rfl ?_
  refine g_putf (w' := ((((wZ h sa rm lt tk ov (.ref na) (.ref b2) x y) ++ ([(na, .inl (cI, n, .inl (zA N)))])) ++ (wG qa cG n (rN (srt ra fv n) n))) ++ ([(b2, .inl (cI, n, .inl (zA (fun _ => 0))))])) ++ (wQ ra cI fv fs fd n)) C pX4_39 0 rfl rfl rfl (Nat.le_of_ble_eq_true rfl) rfl dX4_look_47 ?_
  refine g_widen (k' := 1) (n' := n) (by omega) (by omega) ?_
  refine g_iconst C dX4_look_50 ?_
  refine g_istore (L' := [(7, .int (zI 0)), (0, .ref h), (1, .ref qa), (2, .int (zI (m : Int))), (3, .int (zI left)), (4, .int (zI sum)), (5, .int (zI many)), (6, .int (zI p))]) C dX4_look_51 (by decide) rfl ?_
  have loop_53 : ∀ (fu : Nat) (i : Nat), (hi : i ≤ m) → m - i < fu → gW E 1 n (((((wZ h sa rm lt tk ov (.ref na) (.ref b2) x y) ++ ([(na, .inl (cI, n, .inl (zA N)))])) ++ (wG qa cG n (rN (srt ra fv n) n))) ++ ([(b2, .inl (cI, n, .inl (zA (cpy (fun _ => 0) N i))))])) ++ (wQ ra cI fv fs fd n)) 53 [(7, .int (zI (i : Int))), (0, .ref h), (1, .ref qa), (2, .int (zI (m : Int))), (3, .int (zI left)), (4, .int (zI sum)), (5, .int (zI many)), (6, .int (zI p))] [] := by
    intro fu
    induction fu with
    | zero => intro i hi h9; exact absurd h9 (Nat.not_lt_zero _)
    | succ fu ih_53 =>
      intro i hi hmu_53
      refine g_iload C dX4_look_53 0 rfl ?_
      refine g_iload_n C dX4_look_55 3 rfl ?_
      refine g_icmp_ge 79 C dX4_look_56 (by decide) (zr_i (by omega) (by omega)) (zr_i (by omega) (by omega)) (fun c_56 => ?_) (fun c_56 => ?_)
      · have e9 : m = i := by omega
        subst e9
        refine g_aload_n C dX4_look_79 1 rfl ?_
        refine g_iload C dX4_look_80 5 rfl ?_
        refine g_putf (w' := ((((wZ h sa rm lt tk ov (.ref na) (.ref b2) sum y) ++ ([(na, .inl (cI, n, .inl (zA N)))])) ++ (wG qa cG n (rN (srt ra fv n) n))) ++ ([(b2, .inl (cI, n, .inl (zA (cpy (fun _ => 0) N m))))])) ++ (wQ ra cI fv fs fd n)) C pX4_42 0 rfl rfl rfl (Nat.le_of_ble_eq_true rfl) rfl dX4_look_82 ?_
        refine g_aload_n C dX4_look_85 1 rfl ?_
        refine g_iload C dX4_look_86 6 rfl ?_
        refine g_putf (w' := ((((wZ h sa rm lt tk ov (.ref na) (.ref b2) sum many) ++ ([(na, .inl (cI, n, .inl (zA N)))])) ++ (wG qa cG n (rN (srt ra fv n) n))) ++ ([(b2, .inl (cI, n, .inl (zA (cpy (fun _ => 0) N m))))])) ++ (wQ ra cI fv fs fd n)) C pX4_45 0 rfl rfl rfl (Nat.le_of_ble_eq_true rfl) rfl dX4_look_88 ?_
        exact ret _ _ _ _ _ (by show 1 ≤ c; omega) (by show n ≤ n * c; have := mul_le2 (n := n) hc; omega) dX4_look_91 (⟨b2, N, 0, 0, hag, by rw [cpy_agree hag]; rfl⟩)
      · refine g_aload_n C dX4_look_59 1 rfl ?_
        refine g_getf C fX4_39 0 rfl rfl dX4_look_60 ?_
        refine g_iload C dX4_look_63 0 rfl ?_
        refine g_aload_n C dX4_look_65 1 rfl ?_
        refine g_getf C fX4_48 0 rfl rfl dX4_look_66 ?_
        refine g_iload C dX4_look_69 0 rfl ?_
        refine g_iald C 1 rfl (by omega) (by omega) (by omega) (v := (N i)) rfl dX4_look_71 ?_
        refine g_iast (w' := ((((wZ h sa rm lt tk ov (.ref na) (.ref b2) x y) ++ ([(na, .inl (cI, n, .inl (zA N)))])) ++ (wG qa cG n (rN (srt ra fv n) n))) ++ ([(b2, .inl (cI, n, .inl (zA (zU (cpy (fun _ => 0) N i) i (N i)))))])) ++ (wQ ra cI fv fs fd n)) C 3 rfl (by omega) (by omega) (by omega) rfl dX4_look_72 ?_
        refine g_iinc (L' := [(7, .int (zI ((i : Int) + 1))), (0, .ref h), (1, .ref qa), (2, .int (zI (m : Int))), (3, .int (zI left)), (4, .int (zI sum)), (5, .int (zI many)), (6, .int (zI p))]) C dX4_look_73 0 rfl (by decide) rfl ?_
        refine g_goto 53 C dX4_look_76 (by decide) ?_
        refine g_loc (L' := [(7, .int (zI ((i : Int) + 1))), (0, .ref h), (1, .ref qa), (2, .int (zI (m : Int))), (3, .int (zI left)), (4, .int (zI sum)), (5, .int (zI many)), (6, .int (zI p))]) [0, 1, 2, 3, 4, 5, 6, 7] rfl ?_
        refine g_ws (w' := ((((wZ h sa rm lt tk ov (.ref na) (.ref b2) x y) ++ ([(na, .inl (cI, n, .inl (zA N)))])) ++ (wG qa cG n (rN (srt ra fv n) n))) ++ ([(b2, .inl (cI, n, .inl (zA (cpy (fun _ => 0) N (i + 1)))))])) ++ (wQ ra cI fv fs fd n)) (by rw [cpy_s]) rfl ?_
        exact ih_53 (i + 1) (by omega) (by omega)
  refine g_loc (L' := [(7, .int (zI 0)), (0, .ref h), (1, .ref qa), (2, .int (zI (m : Int))), (3, .int (zI left)), (4, .int (zI sum)), (5, .int (zI many)), (6, .int (zI p))]) [0, 1, 2, 3, 4, 5, 6, 7] rfl ?_
  refine g_ws (w' := ((((wZ h sa rm lt tk ov (.ref na) (.ref b2) x y) ++ ([(na, .inl (cI, n, .inl (zA N)))])) ++ (wG qa cG n (rN (srt ra fv n) n))) ++ ([(b2, .inl (cI, n, .inl (zA (cpy (fun _ => 0) N 0))))])) ++ (wQ ra cI fv fs fd n)) (by rw [cpy_0]) rfl ?_
  exact loop_53 _ 0 (Nat.zero_le _) (Nat.lt_succ_self _)
set_option maxHeartbeats 4000000 in
set_option maxRecDepth 100000 in
theorem look_acc {E : gEnv} {l : Launch} {D : va_G} {cI cG cJ : ClassId} {k c : Nat} (h sa na qa : Nat) (ra : Nat → Nat) (n : Nat) (hn : n ≤ 8) (fv fs fd : Nat → Int) (rm lt tk ov : Int) (p : Int) (hp : 1 ≤ p ∧ p ≤ 300) (C : gC E l (rmL k c n) D 9 RX4 cX4_look cI cG cJ) (left sum many : Int) (now N : Nat → Int) (m : Nat) (hm : m ≤ n) (hag : ∀ i, i < m → N i = now i) (hsr : zr sum) (hmr : zr many) (b : BB) (hb : BBok p b) (hps : p ≤ sum) (hs2 : sum ≤ p + 59) (hm0 : 0 ≤ many) (hm2 : many ≤ 12) (hc : mu p b - mu p (bet b sum many (cpy (fun _ => 0) now m)) ≤ c) (ret : gRN E cX4_look (rmL k c n) (fun w9 => ∃ (ba1 : Nat) (N1 : Nat → Int) (x1 y1 : Int), (∀ i, i < m → N1 i = now i) ∧ w9 = WL h sa na qa ra cI cG n fv fs fd rm lt tk ov N1 ba1 (bet b sum many (cpy (fun _ => 0) now m)) x1 y1)) (ba : Nat) (x y : Int) : gW E 0 0 (WL h sa na qa ra cI cG n fv fs fd rm lt tk ov N ba b x y) 7 [(0, .ref h), (1, .ref qa), (2, .int (zI (m : Int))), (3, .int (zI left)), (4, .int (zI sum)), (5, .int (zI many)), (6, .int (zI p))] [] := by
  cases b with
  | none =>
    have hc9 : 1 ≤ c := by
      have h1 := mu_none (f := cpy (fun _ => 0) now m) hps hs2 hm0 hm2
      have h2 : mu p none - mu p (some (sum, many, cpy (fun _ => 0) now m)) ≤ c := hc
      omega
    have ret9 : gRN E cX4_look (rmL k c n) (fun w9 => ∃ (ba1 : Nat) (N1 : Nat → Int) (x1 y1 : Int), (∀ i, i < m → N1 i = now i) ∧ w9 = WL h sa na qa ra cI cG n fv fs fd rm lt tk ov N1 ba1 (some (sum, many, cpy (fun _ => 0) now m)) x1 y1) := ret
    refine g_ws (w' := (((wZ h sa rm lt tk ov (.ref na) .null x y) ++ ([(na, .inl (cI, n, .inl (zA N)))])) ++ (wG qa cG n (rN (srt ra fv n) n))) ++ (wQ ra cI fv fs fd n)) rfl rfl ?_
    refine g_aload_n C dX4_look_7 0 rfl ?_
    refine g_getf C fX4_39 0 rfl rfl dX4_look_8 ?_
    refine g_ifnullN 42 C dX4_look_11 (by decide) ?_
    exact look_new h sa na qa ra n hn fv fs fd rm lt tk ov p hp C left sum many now N m hm hag hsr hmr ret9 hc9 .null x y
  | some q =>
    have hq1 : zr q.1 := ⟨by have := hb.1; omega, by have := hb.2.1; omega⟩
    have hq2 : zr q.2.1 := ⟨by have := hb.2.2.1; omega, by have := hb.2.2.2; omega⟩
    have key : ¬ (q.1 < sum ∨ (sum = q.1 ∧ q.2.1 ≤ many)) → 1 ≤ c ∧ gRN E cX4_look (rmL k c n) (fun w9 => ∃ (ba1 : Nat) (N1 : Nat → Int) (x1 y1 : Int), (∀ i, i < m → N1 i = now i) ∧ w9 = WL h sa na qa ra cI cG n fv fs fd rm lt tk ov N1 ba1 (some (sum, many, cpy (fun _ => 0) now m)) x1 y1) := fun hk => by
      rw [bet_some hk] at hc ret
      have h1 := mu_some (f := cpy (fun _ => 0) now m) hb hps hm0 hm2 hk
      exact ⟨by omega, ret⟩
    refine g_ws (w' := ((((wZ h sa rm lt tk ov (.ref na) (.ref ba) q.1 q.2.1) ++ ([(na, .inl (cI, n, .inl (zA N)))])) ++ (wG qa cG n (rN (srt ra fv n) n))) ++ ([(ba, .inl (cI, n, .inl (zA q.2.2)))])) ++ (wQ ra cI fv fs fd n)) rfl rfl ?_
    refine g_aload_n C dX4_look_7 0 rfl ?_
    refine g_getf C fX4_39 0 rfl rfl dX4_look_8 ?_
    refine g_ifnullR C dX4_look_11 ?_
    refine g_iload C dX4_look_14 4 rfl ?_
    refine g_aload_n C dX4_look_16 0 rfl ?_
    refine g_getf C fX4_42 0 rfl rfl dX4_look_17 ?_
    refine g_icmp_gt 41 C dX4_look_20 (by decide) hsr hq1 (fun c_20 => ?_) (fun c_20 => ?_)
    · exact ret _ _ _ _ _ (Nat.zero_le _) (Nat.zero_le _) dX4_look_41 (⟨ba, N, x, y, hag, by rw [bet_keep (by omega)]; rfl⟩)
    · refine g_iload C dX4_look_23 4 rfl ?_
      refine g_aload_n C dX4_look_25 0 rfl ?_
      refine g_getf C fX4_42 0 rfl rfl dX4_look_26 ?_
      refine g_icmp_ne 42 C dX4_look_29 (by decide) hsr hq1 (fun c_29 => ?_) (fun c_29 => ?_)
      · obtain ⟨hc9, ret9⟩ := key (by omega)
        refine g_mods [wZ h sa rm lt tk ov (.ref na) (.ref ba) q.1 q.2.1, [(na, .inl (cI, n, .inl (zA N)))], wG qa cG n (rN (srt ra fv n) n), [(ba, .inl (cI, n, .inl (zA q.2.2)))], wQ ra cI fv fs fd n] [wZ h sa rm lt tk ov (.ref na) (.ref ba) q.1 q.2.1, [(na, .inl (cI, n, .inl (zA N)))], wG qa cG n (rN (srt ra fv n) n), wQ ra cI fv fs fd n] [0, 1, 2, 4] (by decide) rfl ?_
        exact look_new h sa na qa ra n hn fv fs fd rm lt tk ov p hp C left sum many now N m hm hag hsr hmr ret9 hc9 (.ref ba) q.1 q.2.1
      · refine g_iload C dX4_look_32 5 rfl ?_
        refine g_aload_n C dX4_look_34 0 rfl ?_
        refine g_getf C fX4_45 0 rfl rfl dX4_look_35 ?_
        refine g_icmp_lt 42 C dX4_look_38 (by decide) hmr hq2 (fun c_38 => ?_) (fun c_38 => ?_)
        · obtain ⟨hc9, ret9⟩ := key (by omega)
          refine g_mods [wZ h sa rm lt tk ov (.ref na) (.ref ba) q.1 q.2.1, [(na, .inl (cI, n, .inl (zA N)))], wG qa cG n (rN (srt ra fv n) n), [(ba, .inl (cI, n, .inl (zA q.2.2)))], wQ ra cI fv fs fd n] [wZ h sa rm lt tk ov (.ref na) (.ref ba) q.1 q.2.1, [(na, .inl (cI, n, .inl (zA N)))], wG qa cG n (rN (srt ra fv n) n), wQ ra cI fv fs fd n] [0, 1, 2, 4] (by decide) rfl ?_
          exact look_new h sa na qa ra n hn fv fs fd rm lt tk ov p hp C left sum many now N m hm hag hsr hmr ret9 hc9 (.ref ba) q.1 q.2.1
        · exact ret _ _ _ _ _ (Nat.zero_le _) (Nat.zero_le _) dX4_look_41 (⟨ba, N, x, y, hag, by rw [bet_keep (by omega)]; rfl⟩)
def FF (vs ss : Nat → Int) (p : Int) (n k : Nat) (left sum many : Int) (now : Nat → Int) : Int → BB → BB := fun j b => if 0 < j ∧ p ≤ sum + (j - 1) * vs k then b else LF vs ss p n k (left - j) (sum + j * vs k) (many + j) (zU now (n - (k + 1)) j) b
theorem FF_ok {vs ss : Nat → Int} {p : Int} {n k : Nat} {left sum many : Int} {now : Nat → Int} (hv : ∀ j, j < k + 1 → 1 ≤ vs j ∧ vs j ≤ 60) (h2 : 0 ≤ many) (h3 : many + left ≤ 12) (hp : ¬ p ≤ sum) {j : Nat} (hj : (j : Int) ≤ left) {b : BB} (hb : BBok p b) : BBok p (FF vs ss p n k left sum many now (j : Int) b) ∧ mu p (FF vs ss p n k left sum many now (j : Int) b) ≤ mu p b := by
  simp only [FF]
  by_cases hs : 0 < (j : Int) ∧ p ≤ sum + ((j : Int) - 1) * vs k
  · rw [if_pos hs]
    exact ⟨hb, Nat.le_refl _⟩
  · rw [if_neg hs]
    have hvk := hv k (Nat.lt_succ_self k)
    have e := jv_split (j := (j : Int)) (v := vs k)
    refine LF_ok k (fun i hi => hv i (Nat.lt_succ_of_lt hi)) _ _ _ _ b (by omega) (by omega) (by omega) ?_ hb
    by_cases hj0 : j = 0
    · subst hj0
      simp only [Int.natCast_zero, Int.zero_mul]
      omega
    · omega
theorem mul12 {a v : Int} (h1 : 0 ≤ a) (h2 : a ≤ 12) (h3 : 1 ≤ v) (h4 : v ≤ 60) : 0 ≤ a * v ∧ a * v ≤ 720 := by
  refine ⟨Int.mul_nonneg h1 (by omega), ?_⟩
  have h := Int.mul_le_mul (a := a) (c := 12) (b := v) (d := 60) h2 h4 (by omega) (by omega)
  omega
set_option maxHeartbeats 4000000 in
set_option maxRecDepth 100000 in
theorem look_loop (l : Launch) (D : va_G) (cI cG cJ : ClassId) (h sa na qa : Nat) (ra : Nat → Nat) (n : Nat) (hn : n ≤ 8) (fv fs fd : Nat → Int) (hS : Sok n fv fs) (rm lt tk ov : Int) (hr : 0 ≤ rm ∧ rm ≤ 12) (p : Int) (hp : 1 ≤ p ∧ p ≤ 300) (k : Nat) (hk : k + 1 ≤ n) (left sum many : Int) (now : Nat → Int) (hl0 : 0 ≤ left) (hlr : left ≤ rm) (hm0 : 0 ≤ many) (hml : many + left ≤ 12) (hs0 : 0 ≤ sum) (hps : ¬ p ≤ sum) (b B1 : BB) (ih : ∀ (left sum many : Int) (now N : Nat → Int) (b : BB) (ba : Nat) (x y : Int), 0 ≤ left → left ≤ rm → 0 ≤ many → many + left ≤ 12 → 0 ≤ sum → sum ≤ p + 59 → BBok p b → (∀ i, i < n - k → N i = now i) → gMet l yX4_look cX4_look 9 none (rmL k (mu p b - mu p (LF (vsF fv n) (soF fv fs n) p n k left sum many now b)) n) D cI cG cJ [.ref h, .ref qa, .int (zI ((n - k : Nat) : Int)), .int (zI left), .int (zI sum), .int (zI many), .int (zI p)] (WL h sa na qa ra cI cG n fv fs fd rm lt tk ov N ba b x y) (gN (fun w9 => ∃ (ba1 : Nat) (N1 : Nat → Int) (x1 y1 : Int), (∀ i, i < n - k → N1 i = now i) ∧ w9 = (WL h sa na qa ra cI cG n fv fs fd rm lt tk ov N1 ba1 (LF (vsF fv n) (soF fv fs n) p n k left sum many now b) x1 y1)))) {E : gEnv} (C : gC E l (rmL (k + 1) (mu p b - mu p B1) n) D 9 RX4 cX4_look cI cG cJ) (ret : gRN E cX4_look (rmL (k + 1) (mu p b - mu p B1) n) (fun w9 => ∃ (ba1 : Nat) (N1 : Nat → Int) (x1 y1 : Int), (∀ i, i < n - (k + 1) → N1 i = now i) ∧ w9 = WL h sa na qa ra cI cG n fv fs fd rm lt tk ov N1 ba1 B1 x1 y1)) : ∀ t : Nat, (t : Int) ≤ left + 1 → ∀ (bc : BB) (Nc : Nat → Int) (ba : Nat) (x y : Int), BBok p bc → mu p bc ≤ mu p b → Lp (FF (vsF fv n) (soF fv fs n) p n k left sum many now) t bc = B1 → (∀ i, i < n - (k + 1) → Nc i = now i) → gW E (mu p b - mu p bc) (n * (mu p b - mu p bc)) (WL h sa na qa ra cI cG n fv fs fd rm lt tk ov Nc ba bc x y) 166 [(8, .int (zI ((t : Int) - 1))), (7, .int (zI (fv (ordF fv n k)))), (0, .ref h), (1, .ref qa), (2, .int (zI (((n - (k + 1)) : Nat) : Int))), (3, .int (zI left)), (4, .int (zI sum)), (5, .int (zI many)), (6, .int (zI p))] [] := by
  have hv9 : ∀ j, j < k + 1 → 1 ≤ vsF fv n j ∧ vsF fv n j ≤ 60 := fun j hj => hS.vs (by omega)
  have hvk : 1 ≤ fv (ordF fv n k) ∧ fv (ordF fv n k) ≤ 60 := hS.vs (by omega)
  intro t
  induction t with
  | zero =>
    intro ht bc Nc ba x y hbc hmu hB hag
    have hB : bc = B1 := hB
    subst hB
    refine g_ws (w' := ((((wZ h sa rm lt tk ov (.ref na) (vB ba bc) (sB x bc) (mB y bc)) ++ ([(na, .inl (cI, n, .inl (zA Nc)))])) ++ (wG qa cG n (rN (srt ra fv n) n))) ++ ((wB ba cI n bc))) ++ (wQ ra cI fv fs fd n)) rfl rfl ?_
    refine g_iload C dX4_look_166 0 rfl ?_
    refine g_if_lt 235 C dX4_look_168 (by decide) (zr_i (by omega) (by omega)) (fun c_168 => ?_) (fun c_168 => ?_)
    · exact ret _ _ _ _ _ (Nat.le_refl _) (Nat.le_refl _) dX4_look_235 (⟨ba, Nc, x, y, hag, rfl⟩)
    · exfalso; omega
  | succ t iht =>
    intro ht bc Nc ba x y hbc hmu hB hag
    have hB : Lp (FF (vsF fv n) (soF fv fs n) p n k left sum many now) t (FF (vsF fv n) (soF fv fs n) p n k left sum many now (t : Int) bc) = B1 := hB
    have hF := FF_ok (n := n) (ss := soF fv fs n) (now := now) hv9 hm0 hml hps (j := t) (by omega) hbc
    have hLp := Lp_ok (p := p) (F := (FF (vsF fv n) (soF fv fs n) p n k left sum many now)) t (fun j b9 hj hb9 => FF_ok hv9 hm0 hml hps (by omega) hb9) (FF (vsF fv n) (soF fv fs n) p n k left sum many now (t : Int) bc) hF.1
    rw [hB] at hLp
    have htv : 0 ≤ (t : Int) * fv (ordF fv n k) ∧ (t : Int) * fv (ordF fv n k) ≤ 720 := mul12 (by omega) (by omega) (by omega) (by omega)
    have ht0 : t = 0 → (t : Int) * fv (ordF fv n k) = 0 := fun e => by rw [e]; simp
    have htv1 : (t : Int) * fv (ordF fv n k) = ((t : Int) - 1) * fv (ordF fv n k) + fv (ordF fv n k) := jv_split
    refine g_ws (w' := ((((wZ h sa rm lt tk ov (.ref na) (vB ba bc) (sB x bc) (mB y bc)) ++ ([(na, .inl (cI, n, .inl (zA Nc)))])) ++ (wG qa cG n (rN (srt ra fv n) n))) ++ ((wB ba cI n bc))) ++ (wQ ra cI fv fs fd n)) rfl rfl ?_
    refine g_lw (w' := ((((wZ h sa rm lt tk ov (.ref na) (vB ba bc) (sB x bc) (mB y bc)) ++ ([(na, .inl (cI, n, .inl (zA Nc)))])) ++ (wG qa cG n (rN (srt ra fv n) n))) ++ ((wB ba cI n bc))) ++ (wQ ra cI fv fs fd n)) (L' := [(8, .int (zI (t : Int))), (7, .int (zI (fv (ordF fv n k)))), (0, .ref h), (1, .ref qa), (2, .int (zI (((n - (k + 1)) : Nat) : Int))), (3, .int (zI left)), (4, .int (zI sum)), (5, .int (zI many)), (6, .int (zI p))]) rfl (by rw [show ((t + 1 : Nat) : Int) - 1 = (t : Int) by omega]) ?_
    refine g_iload C dX4_look_166 0 rfl ?_
    refine g_if_lt 235 C dX4_look_168 (by decide) (zr_i (by omega) (by omega)) (fun c_168 => ?_) (fun c_168 => ?_)
    · exfalso; omega
    · refine g_iload C dX4_look_171 0 rfl ?_
      refine g_if_le 194 C dX4_look_173 (by decide) (zr_i (by omega) (by omega)) (fun c_173 => ?_) (fun c_173 => ?_)
      · have hs9 : sum + (t : Int) * fv (ordF fv n k) ≤ p + 59 := by
          rcases Nat.eq_zero_or_pos t with e | e
          · have := ht0 e; omega
          · omega
        have e1 : (FF (vsF fv n) (soF fv fs n) p n k left sum many now (t : Int) bc) = (LF (vsF fv n) (soF fv fs n) p n k (left - (t : Int)) (sum + (t : Int) * fv (ordF fv n k)) (many + (t : Int)) (zU now (n - (k + 1)) (t : Int)) bc) := if_neg (show ¬ (0 < (t : Int) ∧ p ≤ sum + ((t : Int) - 1) * fv (ordF fv n k)) by omega)
        rw [e1] at hB hF hLp
        have hag2 : ∀ i, i < n - k → zU Nc (n - (k + 1)) (t : Int) i = zU now (n - (k + 1)) (t : Int) i := fun i hi => zU_agree hag i (by omega)
        refine g_aload_n C dX4_look_194 2 rfl ?_
        refine g_getf C fX4_48 0 rfl rfl dX4_look_195 ?_
        refine g_iload_n C dX4_look_198 4 rfl ?_
        refine g_iload C dX4_look_199 0 rfl ?_
        refine g_iast (w' := ((((wZ h sa rm lt tk ov (.ref na) (vB ba bc) (sB x bc) (mB y bc)) ++ ([(na, .inl (cI, n, .inl (zA (zU Nc (n - (k + 1)) (t : Int)))))])) ++ (wG qa cG n (rN (srt ra fv n) n))) ++ ((wB ba cI n bc))) ++ (wQ ra cI fv fs fd n)) C 1 rfl (by omega) (by omega) (by omega) rfl dX4_look_201 ?_
        refine g_aload_n C dX4_look_202 2 rfl ?_
        refine g_aload_n C dX4_look_203 3 rfl ?_
        refine g_iload_n C dX4_look_204 4 rfl ?_
        refine g_iconst C dX4_look_205 ?_
        refine g_iadd C dX4_look_206 ?_
        refine g_top (((n - k) : Nat) : Int) (by omega) ?_
        refine g_iload_n C dX4_look_207 5 rfl ?_
        refine g_iload C dX4_look_208 0 rfl ?_
        refine g_isub C dX4_look_210 ?_
        refine g_iload C dX4_look_211 6 rfl ?_
        refine g_iload C dX4_look_213 0 rfl ?_
        refine g_iload C dX4_look_215 1 rfl ?_
        refine g_imul C dX4_look_217 ?_
        refine g_iadd C dX4_look_218 ?_
        refine g_iload C dX4_look_219 7 rfl ?_
        refine g_iload C dX4_look_221 0 rfl ?_
        refine g_iadd C dX4_look_223 ?_
        refine g_iload C dX4_look_224 8 rfl ?_
        refine g_ws (w' := (WL h sa na qa ra cI cG n fv fs fd rm lt tk ov (zU Nc (n - (k + 1)) (t : Int)) ba bc x y)) (rfl) rfl ?_
        refine g_callV (wr := ([] : va_W)) (st := []) _ _ C cX4_51 (ih (left - (t : Int)) (sum + (t : Int) * fv (ordF fv n k)) (many + (t : Int)) (zU now (n - (k + 1)) (t : Int)) (zU Nc (n - (k + 1)) (t : Int)) bc ba x y (by omega) (by omega) (by omega) (by omega) (by omega) (by omega) hbc hag2) gSp_a (q0 := 0) rfl rfl ⟨by show k + 1 ≤ k + 1; omega, by show 8 + (9 + 11) + 28 * k ≤ 28 * (k + 1); omega⟩ ⟨by show mu p b - mu p bc + (mu p bc - mu p (LF (vsF fv n) (soF fv fs n) p n k (left - (t : Int)) (sum + (t : Int) * fv (ordF fv n k)) (many + (t : Int)) (zU now (n - (k + 1)) (t : Int)) bc)) ≤ mu p b - mu p B1; omega, by show n * (mu p b - mu p bc) + n * (mu p bc - mu p (LF (vsF fv n) (soF fv fs n) p n k (left - (t : Int)) (sum + (t : Int) * fv (ordF fv n k)) (many + (t : Int)) (zU now (n - (k + 1)) (t : Int)) bc)) ≤ n * (mu p b - mu p B1); rw [← Nat.mul_add]; exact mul_le2 (by omega)⟩ rfl rfl (Nat.le_of_ble_eq_true rfl) dX4_look_226 ?_
        rintro v9 w9 ⟨rfl, ba1, N1, x1, y1, hag1, rfl⟩
        refine g_ws (w' := (WL h sa na qa ra cI cG n fv fs fd rm lt tk ov N1 ba1 (LF (vsF fv n) (soF fv fs n) p n k (left - (t : Int)) (sum + (t : Int) * fv (ordF fv n k)) (many + (t : Int)) (zU now (n - (k + 1)) (t : Int)) bc) x1 y1)) (st' := []) (rfl) rfl ?_
        refine g_widen (k' := mu p b - mu p (LF (vsF fv n) (soF fv fs n) p n k (left - (t : Int)) (sum + (t : Int) * fv (ordF fv n k)) (many + (t : Int)) (zU now (n - (k + 1)) (t : Int)) bc)) (n' := n * (mu p b - mu p (LF (vsF fv n) (soF fv fs n) p n k (left - (t : Int)) (sum + (t : Int) * fv (ordF fv n k)) (many + (t : Int)) (zU now (n - (k + 1)) (t : Int)) bc))) (by show mu p b - mu p bc + (mu p bc - mu p (LF (vsF fv n) (soF fv fs n) p n k (left - (t : Int)) (sum + (t : Int) * fv (ordF fv n k)) (many + (t : Int)) (zU now (n - (k + 1)) (t : Int)) bc)) ≤ _; omega) (by show n * (mu p b - mu p bc) + n * (mu p bc - mu p (LF (vsF fv n) (soF fv fs n) p n k (left - (t : Int)) (sum + (t : Int) * fv (ordF fv n k)) (many + (t : Int)) (zU now (n - (k + 1)) (t : Int)) bc)) ≤ _; rw [← Nat.mul_add]; exact mul_le2 (by omega)) ?_
        refine g_iinc (L' := [(8, .int (zI ((t : Int) + (-1)))), (7, .int (zI (fv (ordF fv n k)))), (0, .ref h), (1, .ref qa), (2, .int (zI (((n - (k + 1)) : Nat) : Int))), (3, .int (zI left)), (4, .int (zI sum)), (5, .int (zI many)), (6, .int (zI p))]) C dX4_look_229 0 rfl (by decide) rfl ?_
        refine g_goto 166 C dX4_look_232 (by decide) ?_
        refine g_lw (w' := (WL h sa na qa ra cI cG n fv fs fd rm lt tk ov N1 ba1 (LF (vsF fv n) (soF fv fs n) p n k (left - (t : Int)) (sum + (t : Int) * fv (ordF fv n k)) (many + (t : Int)) (zU now (n - (k + 1)) (t : Int)) bc) x1 y1)) (L' := [(8, .int (zI ((t : Int) - 1))), (7, .int (zI (fv (ordF fv n k)))), (0, .ref h), (1, .ref qa), (2, .int (zI (((n - (k + 1)) : Nat) : Int))), (3, .int (zI left)), (4, .int (zI sum)), (5, .int (zI many)), (6, .int (zI p))]) rfl (by rw [show (t : Int) + (-1) = (t : Int) - 1 by omega]) ?_
        exact iht (by omega) (LF (vsF fv n) (soF fv fs n) p n k (left - (t : Int)) (sum + (t : Int) * fv (ordF fv n k)) (many + (t : Int)) (zU now (n - (k + 1)) (t : Int)) bc) N1 ba1 x1 y1 hF.1 (by omega) hB (fun i hi => (hag1 i (by omega)).trans (if_neg (by omega)))
      · refine g_iload C dX4_look_176 6 rfl ?_
        refine g_iload C dX4_look_178 0 rfl ?_
        refine g_iconst C dX4_look_180 ?_
        refine g_isub C dX4_look_181 ?_
        refine g_iload C dX4_look_182 1 rfl ?_
        refine g_imul C dX4_look_184 ?_
        refine g_iadd C dX4_look_185 ?_
        refine g_iload C dX4_look_186 8 rfl ?_
        refine g_icmp_lt 194 C dX4_look_188 (by decide) (zr_i (by omega) (by omega)) (zr_i (by omega) (by omega)) (fun c_188 => ?_) (fun c_188 => ?_)
        · have hs9 : sum + (t : Int) * fv (ordF fv n k) ≤ p + 59 := by
            rcases Nat.eq_zero_or_pos t with e | e
            · have := ht0 e; omega
            · omega
          have e1 : (FF (vsF fv n) (soF fv fs n) p n k left sum many now (t : Int) bc) = (LF (vsF fv n) (soF fv fs n) p n k (left - (t : Int)) (sum + (t : Int) * fv (ordF fv n k)) (many + (t : Int)) (zU now (n - (k + 1)) (t : Int)) bc) := if_neg (show ¬ (0 < (t : Int) ∧ p ≤ sum + ((t : Int) - 1) * fv (ordF fv n k)) by omega)
          rw [e1] at hB hF hLp
          have hag2 : ∀ i, i < n - k → zU Nc (n - (k + 1)) (t : Int) i = zU now (n - (k + 1)) (t : Int) i := fun i hi => zU_agree hag i (by omega)
          refine g_aload_n C dX4_look_194 2 rfl ?_
          refine g_getf C fX4_48 0 rfl rfl dX4_look_195 ?_
          refine g_iload_n C dX4_look_198 4 rfl ?_
          refine g_iload C dX4_look_199 0 rfl ?_
          refine g_iast (w' := ((((wZ h sa rm lt tk ov (.ref na) (vB ba bc) (sB x bc) (mB y bc)) ++ ([(na, .inl (cI, n, .inl (zA (zU Nc (n - (k + 1)) (t : Int)))))])) ++ (wG qa cG n (rN (srt ra fv n) n))) ++ ((wB ba cI n bc))) ++ (wQ ra cI fv fs fd n)) C 1 rfl (by omega) (by omega) (by omega) rfl dX4_look_201 ?_
          refine g_aload_n C dX4_look_202 2 rfl ?_
          refine g_aload_n C dX4_look_203 3 rfl ?_
          refine g_iload_n C dX4_look_204 4 rfl ?_
          refine g_iconst C dX4_look_205 ?_
          refine g_iadd C dX4_look_206 ?_
          refine g_top (((n - k) : Nat) : Int) (by omega) ?_
          refine g_iload_n C dX4_look_207 5 rfl ?_
          refine g_iload C dX4_look_208 0 rfl ?_
          refine g_isub C dX4_look_210 ?_
          refine g_iload C dX4_look_211 6 rfl ?_
          refine g_iload C dX4_look_213 0 rfl ?_
          refine g_iload C dX4_look_215 1 rfl ?_
          refine g_imul C dX4_look_217 ?_
          refine g_iadd C dX4_look_218 ?_
          refine g_iload C dX4_look_219 7 rfl ?_
          refine g_iload C dX4_look_221 0 rfl ?_
          refine g_iadd C dX4_look_223 ?_
          refine g_iload C dX4_look_224 8 rfl ?_
          refine g_ws (w' := (WL h sa na qa ra cI cG n fv fs fd rm lt tk ov (zU Nc (n - (k + 1)) (t : Int)) ba bc x y)) (rfl) rfl ?_
          refine g_callV (wr := ([] : va_W)) (st := []) _ _ C cX4_51 (ih (left - (t : Int)) (sum + (t : Int) * fv (ordF fv n k)) (many + (t : Int)) (zU now (n - (k + 1)) (t : Int)) (zU Nc (n - (k + 1)) (t : Int)) bc ba x y (by omega) (by omega) (by omega) (by omega) (by omega) (by omega) hbc hag2) gSp_a (q0 := 0) rfl rfl ⟨by show k + 1 ≤ k + 1; omega, by show 8 + (9 + 11) + 28 * k ≤ 28 * (k + 1); omega⟩ ⟨by show mu p b - mu p bc + (mu p bc - mu p (LF (vsF fv n) (soF fv fs n) p n k (left - (t : Int)) (sum + (t : Int) * fv (ordF fv n k)) (many + (t : Int)) (zU now (n - (k + 1)) (t : Int)) bc)) ≤ mu p b - mu p B1; omega, by show n * (mu p b - mu p bc) + n * (mu p bc - mu p (LF (vsF fv n) (soF fv fs n) p n k (left - (t : Int)) (sum + (t : Int) * fv (ordF fv n k)) (many + (t : Int)) (zU now (n - (k + 1)) (t : Int)) bc)) ≤ n * (mu p b - mu p B1); rw [← Nat.mul_add]; exact mul_le2 (by omega)⟩ rfl rfl (Nat.le_of_ble_eq_true rfl) dX4_look_226 ?_
          rintro v9 w9 ⟨rfl, ba1, N1, x1, y1, hag1, rfl⟩
          refine g_ws (w' := (WL h sa na qa ra cI cG n fv fs fd rm lt tk ov N1 ba1 (LF (vsF fv n) (soF fv fs n) p n k (left - (t : Int)) (sum + (t : Int) * fv (ordF fv n k)) (many + (t : Int)) (zU now (n - (k + 1)) (t : Int)) bc) x1 y1)) (st' := []) (rfl) rfl ?_
          refine g_widen (k' := mu p b - mu p (LF (vsF fv n) (soF fv fs n) p n k (left - (t : Int)) (sum + (t : Int) * fv (ordF fv n k)) (many + (t : Int)) (zU now (n - (k + 1)) (t : Int)) bc)) (n' := n * (mu p b - mu p (LF (vsF fv n) (soF fv fs n) p n k (left - (t : Int)) (sum + (t : Int) * fv (ordF fv n k)) (many + (t : Int)) (zU now (n - (k + 1)) (t : Int)) bc))) (by show mu p b - mu p bc + (mu p bc - mu p (LF (vsF fv n) (soF fv fs n) p n k (left - (t : Int)) (sum + (t : Int) * fv (ordF fv n k)) (many + (t : Int)) (zU now (n - (k + 1)) (t : Int)) bc)) ≤ _; omega) (by show n * (mu p b - mu p bc) + n * (mu p bc - mu p (LF (vsF fv n) (soF fv fs n) p n k (left - (t : Int)) (sum + (t : Int) * fv (ordF fv n k)) (many + (t : Int)) (zU now (n - (k + 1)) (t : Int)) bc)) ≤ _; rw [← Nat.mul_add]; exact mul_le2 (by omega)) ?_
          refine g_iinc (L' := [(8, .int (zI ((t : Int) + (-1)))), (7, .int (zI (fv (ordF fv n k)))), (0, .ref h), (1, .ref qa), (2, .int (zI (((n - (k + 1)) : Nat) : Int))), (3, .int (zI left)), (4, .int (zI sum)), (5, .int (zI many)), (6, .int (zI p))]) C dX4_look_229 0 rfl (by decide) rfl ?_
          refine g_goto 166 C dX4_look_232 (by decide) ?_
          refine g_lw (w' := (WL h sa na qa ra cI cG n fv fs fd rm lt tk ov N1 ba1 (LF (vsF fv n) (soF fv fs n) p n k (left - (t : Int)) (sum + (t : Int) * fv (ordF fv n k)) (many + (t : Int)) (zU now (n - (k + 1)) (t : Int)) bc) x1 y1)) (L' := [(8, .int (zI ((t : Int) - 1))), (7, .int (zI (fv (ordF fv n k)))), (0, .ref h), (1, .ref qa), (2, .int (zI (((n - (k + 1)) : Nat) : Int))), (3, .int (zI left)), (4, .int (zI sum)), (5, .int (zI many)), (6, .int (zI p))]) rfl (by rw [show (t : Int) + (-1) = (t : Int) - 1 by omega]) ?_
          exact iht (by omega) (LF (vsF fv n) (soF fv fs n) p n k (left - (t : Int)) (sum + (t : Int) * fv (ordF fv n k)) (many + (t : Int)) (zU now (n - (k + 1)) (t : Int)) bc) N1 ba1 x1 y1 hF.1 (by omega) hB (fun i hi => (hag1 i (by omega)).trans (if_neg (by omega)))
        · refine g_goto 229 C dX4_look_191 (by decide) ?_
          refine g_iinc (L' := [(8, .int (zI ((t : Int) + (-1)))), (7, .int (zI (fv (ordF fv n k)))), (0, .ref h), (1, .ref qa), (2, .int (zI (((n - (k + 1)) : Nat) : Int))), (3, .int (zI left)), (4, .int (zI sum)), (5, .int (zI many)), (6, .int (zI p))]) C dX4_look_229 0 rfl (by decide) rfl ?_
          refine g_goto 166 C dX4_look_232 (by decide) ?_
          have e1 : (FF (vsF fv n) (soF fv fs n) p n k left sum many now (t : Int) bc) = bc := if_pos ⟨by omega, show p ≤ sum + ((t : Int) - 1) * fv (ordF fv n k) by omega⟩
          rw [e1] at hB
          refine g_lw (w' := (WL h sa na qa ra cI cG n fv fs fd rm lt tk ov Nc ba bc x y)) (L' := [(8, .int (zI ((t : Int) - 1))), (7, .int (zI (fv (ordF fv n k)))), (0, .ref h), (1, .ref qa), (2, .int (zI (((n - (k + 1)) : Nat) : Int))), (3, .int (zI left)), (4, .int (zI sum)), (5, .int (zI many)), (6, .int (zI p))]) rfl (by rw [show (t : Int) + (-1) = (t : Int) - 1 by omega]) ?_
          exact iht (by omega) bc Nc ba x y hbc hmu hB hag
set_option maxHeartbeats 4000000 in
set_option maxRecDepth 100000 in
theorem met_X4_look (l : Launch) (D : va_G) (cI cG cJ : ClassId) (h sa na qa : Nat) (ra : Nat → Nat) (n : Nat) (hn : n ≤ 8) (fv fs fd : Nat → Int) (hS : Sok n fv fs) (rm lt tk ov : Int) (hr : 0 ≤ rm ∧ rm ≤ 12) (p : Int) (hp : 1 ≤ p ∧ p ≤ 300) : ∀ k : Nat, k ≤ n → ∀ (left sum many : Int) (now N : Nat → Int) (b : BB) (ba : Nat) (x y : Int), 0 ≤ left → left ≤ rm → 0 ≤ many → many + left ≤ 12 → 0 ≤ sum → sum ≤ p + 59 → BBok p b → (∀ i, i < n - k → N i = now i) → gMet l yX4_look cX4_look 9 none (rmL k (mu p b - mu p (LF (vsF fv n) (soF fv fs n) p n k left sum many now b)) n) D cI cG cJ [.ref h, .ref qa, .int (zI ((n - k : Nat) : Int)), .int (zI left), .int (zI sum), .int (zI many), .int (zI p)] (WL h sa na qa ra cI cG n fv fs fd rm lt tk ov N ba b x y) (gN (fun w9 => ∃ (ba1 : Nat) (N1 : Nat → Int) (x1 y1 : Int), (∀ i, i < n - k → N1 i = now i) ∧ w9 = (WL h sa na qa ra cI cG n fv fs fd rm lt tk ov N1 ba1 (LF (vsF fv n) (soF fv fs n) p n k left sum many now b) x1 y1))) := by
  intro k
  induction k with
  | zero =>
    intro hk left sum many now N b ba x y hl0 hlr hm0 hml hs0 hs2 hb hag
    by_cases hps : p ≤ sum
    · rw [LF_acc (vs := vsF fv n) (ss := soF fv fs n) (n := n) (k := 0) (left := left) (many := many) (now := now) (b := b) hps]
      refine gMet_N (by decide) rfl (Nat.le_of_ble_eq_true rfl) (fun E C ret => ?_)
      refine g_iload C dX4_look_0 4 rfl ?_
      refine g_iload C dX4_look_2 6 rfl ?_
      refine g_icmp_lt 92 C dX4_look_4 (by decide) (zr_i (by omega) (by omega)) (zr_i (by omega) (by omega)) (fun c_4 => ?_) (fun c_4 => ?_)
      · exfalso; omega
      · exact look_acc h sa na qa ra n hn fv fs fd rm lt tk ov p hp C left sum many now N (n - 0) (by omega) hag (zr_i (by omega) (by omega)) (zr_i (by omega) (by omega)) b hb hps hs2 hm0 (by omega) (Nat.le_refl _) ret ba x y
    · rw [show LF (vsF fv n) (soF fv fs n) p n 0 left sum many now b = b from if_neg hps]
      refine gMet_N (by decide) rfl (Nat.le_of_ble_eq_true rfl) (fun E C ret => ?_)
      refine g_ws (w' := ((((wZ h sa rm lt tk ov (.ref na) (vB ba b) (sB x b) (mB y b)) ++ ([(na, .inl (cI, n, .inl (zA N)))])) ++ (wG qa cG n (rN (srt ra fv n) n))) ++ ((wB ba cI n b))) ++ (wQ ra cI fv fs fd n)) rfl rfl ?_
      refine g_iload C dX4_look_0 4 rfl ?_
      refine g_iload C dX4_look_2 6 rfl ?_
      refine g_icmp_lt 92 C dX4_look_4 (by decide) (zr_i (by omega) (by omega)) (zr_i (by omega) (by omega)) (fun c_4 => ?_) (fun c_4 => ?_)
      · refine g_iload_n C dX4_look_92 2 rfl ?_
        refine g_aload_n C dX4_look_93 1 rfl ?_
        refine g_alenG C 2 rfl dX4_look_94 ?_
        refine g_icmp_eq 138 C dX4_look_95 (by decide) (zr_i (by omega) (by omega)) (zr_i (by omega) (by omega)) (fun c_95 => ?_) (fun c_95 => ?_)
        · exact ret _ _ _ _ _ (Nat.zero_le _) (Nat.zero_le _) dX4_look_138 (⟨ba, N, x, y, hag, rfl⟩)
        · exfalso; omega
      · exfalso; omega
  | succ k ih =>
    intro hk left sum many now N b ba x y hl0 hlr hm0 hml hs0 hs2 hb hag
    by_cases hps : p ≤ sum
    · rw [LF_acc (vs := vsF fv n) (ss := soF fv fs n) (n := n) (k := (k + 1)) (left := left) (many := many) (now := now) (b := b) hps]
      refine gMet_N (by decide) rfl (Nat.le_of_ble_eq_true rfl) (fun E C ret => ?_)
      refine g_iload C dX4_look_0 4 rfl ?_
      refine g_iload C dX4_look_2 6 rfl ?_
      refine g_icmp_lt 92 C dX4_look_4 (by decide) (zr_i (by omega) (by omega)) (zr_i (by omega) (by omega)) (fun c_4 => ?_) (fun c_4 => ?_)
      · exfalso; omega
      · exact look_acc h sa na qa ra n hn fv fs fd rm lt tk ov p hp C left sum many now N (n - (k + 1)) (by omega) hag (zr_i (by omega) (by omega)) (zr_i (by omega) (by omega)) b hb hps hs2 hm0 (by omega) (Nat.le_refl _) ret ba x y
    · have hvk : 1 ≤ fv (ordF fv n k) ∧ fv (ordF fv n k) ≤ 60 := hS.vs (by omega)
      have hsk := hS.2.1 _ (ordF_lt fv n k (by omega))
      have hlv : 0 ≤ left * fv (ordF fv n k) ∧ left * fv (ordF fv n k) ≤ 720 := mul12 (by omega) (by omega) (by omega) (by omega)
      by_cases hq : sum + left * fv (ordF fv n k) < p
      · rw [show LF (vsF fv n) (soF fv fs n) p n (k + 1) left sum many now b = b from (if_neg hps).trans (if_pos hq)]
        refine gMet_N (by decide) rfl (Nat.le_of_ble_eq_true rfl) (fun E C ret => ?_)
        refine g_ws (w' := ((((wZ h sa rm lt tk ov (.ref na) (vB ba b) (sB x b) (mB y b)) ++ ([(na, .inl (cI, n, .inl (zA N)))])) ++ (wG qa cG n (rN (srt ra fv n) n))) ++ ((wB ba cI n b))) ++ (wQ ra cI fv fs fd n)) rfl rfl ?_
        refine g_iload C dX4_look_0 4 rfl ?_
        refine g_iload C dX4_look_2 6 rfl ?_
        refine g_icmp_lt 92 C dX4_look_4 (by decide) (zr_i (by omega) (by omega)) (zr_i (by omega) (by omega)) (fun c_4 => ?_) (fun c_4 => ?_)
        · refine g_iload_n C dX4_look_92 2 rfl ?_
          refine g_aload_n C dX4_look_93 1 rfl ?_
          refine g_alenG C 2 rfl dX4_look_94 ?_
          refine g_icmp_eq 138 C dX4_look_95 (by decide) (zr_i (by omega) (by omega)) (zr_i (by omega) (by omega)) (fun c_95 => ?_) (fun c_95 => ?_)
          · exfalso; omega
          · refine g_iload C dX4_look_98 4 rfl ?_
            refine g_iload_n C dX4_look_100 3 rfl ?_
            refine g_aload_n C dX4_look_101 1 rfl ?_
            refine g_iload_n C dX4_look_102 2 rfl ?_
            refine g_aald (y := ra (ordF fv n k)) C 2 rfl (by omega) (by omega) (by omega) (rN_srt (by omega)) dX4_look_103 ?_
            refine g_iconst C dX4_look_104 ?_
            refine g_iald C _ (wQ_at (j := ordF fv n k) (ordF_lt fv n _ (by omega))) (by decide) (by decide) (by decide) (v := (fv (ordF fv n k))) rfl dX4_look_105 ?_
            refine g_imul C dX4_look_106 ?_
            refine g_iadd C dX4_look_107 ?_
            refine g_iload C dX4_look_108 6 rfl ?_
            refine g_icmp_lt 138 C dX4_look_110 (by decide) (zr_i (by omega) (by omega)) (zr_i (by omega) (by omega)) (fun c_110 => ?_) (fun c_110 => ?_)
            · exact ret _ _ _ _ _ (Nat.zero_le _) (Nat.zero_le _) dX4_look_138 (⟨ba, N, x, y, hag, rfl⟩)
            · exfalso; omega
        · exfalso; omega
      · by_cases hprn : prn b many p = true
        · rw [show LF (vsF fv n) (soF fv fs n) p n (k + 1) left sum many now b = b from (if_neg hps).trans ((if_neg hq).trans (if_pos hprn))]
          refine gMet_N (by decide) rfl (Nat.le_of_ble_eq_true rfl) (fun E C ret => ?_)
          cases b with
          | none => cases hprn
          | some q =>
            have hq9 : (decide (q.2.1 < many) && decide (q.1 = p)) = true := hprn
            rw [Bool.and_eq_true, decide_eq_true_eq, decide_eq_true_eq] at hq9
            have hq1 : zr q.1 := ⟨by have := hb.1; omega, by have := hb.2.1; omega⟩
            have hq2 : zr q.2.1 := ⟨by have := hb.2.2.1; omega, by have := hb.2.2.2; omega⟩
            refine g_ws (w' := ((((wZ h sa rm lt tk ov (.ref na) (.ref ba) q.1 q.2.1) ++ ([(na, .inl (cI, n, .inl (zA N)))])) ++ (wG qa cG n (rN (srt ra fv n) n))) ++ ([(ba, .inl (cI, n, .inl (zA q.2.2)))])) ++ (wQ ra cI fv fs fd n)) rfl rfl ?_
            refine g_iload C dX4_look_0 4 rfl ?_
            refine g_iload C dX4_look_2 6 rfl ?_
            refine g_icmp_lt 92 C dX4_look_4 (by decide) (zr_i (by omega) (by omega)) (zr_i (by omega) (by omega)) (fun c_4 => ?_) (fun c_4 => ?_)
            · refine g_iload_n C dX4_look_92 2 rfl ?_
              refine g_aload_n C dX4_look_93 1 rfl ?_
              refine g_alenG C 2 rfl dX4_look_94 ?_
              refine g_icmp_eq 138 C dX4_look_95 (by decide) (zr_i (by omega) (by omega)) (zr_i (by omega) (by omega)) (fun c_95 => ?_) (fun c_95 => ?_)
              · exfalso; omega
              · refine g_iload C dX4_look_98 4 rfl ?_
                refine g_iload_n C dX4_look_100 3 rfl ?_
                refine g_aload_n C dX4_look_101 1 rfl ?_
                refine g_iload_n C dX4_look_102 2 rfl ?_
                refine g_aald (y := ra (ordF fv n k)) C 2 rfl (by omega) (by omega) (by omega) (rN_srt (by omega)) dX4_look_103 ?_
                refine g_iconst C dX4_look_104 ?_
                refine g_iald C _ (wQ_at (j := ordF fv n k) (ordF_lt fv n _ (by omega))) (by decide) (by decide) (by decide) (v := (fv (ordF fv n k))) rfl dX4_look_105 ?_
                refine g_imul C dX4_look_106 ?_
                refine g_iadd C dX4_look_107 ?_
                refine g_iload C dX4_look_108 6 rfl ?_
                refine g_icmp_lt 138 C dX4_look_110 (by decide) (zr_i (by omega) (by omega)) (zr_i (by omega) (by omega)) (fun c_110 => ?_) (fun c_110 => ?_)
                · exfalso; omega
                · refine g_aload_n C dX4_look_113 0 rfl ?_
                  refine g_getf C fX4_39 0 rfl rfl dX4_look_114 ?_
                  refine g_ifnullR C dX4_look_117 ?_
                  refine g_iload C dX4_look_120 5 rfl ?_
                  refine g_aload_n C dX4_look_122 0 rfl ?_
                  refine g_getf C fX4_45 0 rfl rfl dX4_look_123 ?_
                  refine g_icmp_le 139 C dX4_look_126 (by decide) (zr_i (by omega) (by omega)) hq2 (fun c_126 => ?_) (fun c_126 => ?_)
                  · exfalso; omega
                  · refine g_aload_n C dX4_look_129 0 rfl ?_
                    refine g_getf C fX4_42 0 rfl rfl dX4_look_130 ?_
                    refine g_iload C dX4_look_133 6 rfl ?_
                    refine g_icmp_ne 139 C dX4_look_135 (by decide) hq1 (zr_i (by omega) (by omega)) (fun c_135 => ?_) (fun c_135 => ?_)
                    · exfalso; omega
                    · exact ret _ _ _ _ _ (Nat.zero_le _) (Nat.zero_le _) dX4_look_138 (⟨ba, N, x, y, hag, rfl⟩)
            · exfalso; omega
        · have hLF : LF (vsF fv n) (soF fv fs n) p n (k + 1) left sum many now b = Lp (FF (vsF fv n) (soF fv fs n) p n k left sum many now) (min left (fs (ordF fv n k)) + 1).toNat b := (if_neg hps).trans ((if_neg hq).trans (if_neg hprn))
          rw [hLF]
          refine gMet_N (by decide) rfl (Nat.le_of_ble_eq_true rfl) (fun E C ret => ?_)
          obtain ⟨J, hJ⟩ : ∃ J : Nat, (J : Int) = min left (fs (ordF fv n k)) := ⟨(min left (fs (ordF fv n k))).toNat, by omega⟩
          have eJ : (min left (fs (ordF fv n k)) + 1).toNat = J + 1 := by omega
          rw [eJ] at C ret
          cases b with
          | none =>
            refine g_ws (w' := (((wZ h sa rm lt tk ov (.ref na) .null x y) ++ ([(na, .inl (cI, n, .inl (zA N)))])) ++ (wG qa cG n (rN (srt ra fv n) n))) ++ (wQ ra cI fv fs fd n)) rfl rfl ?_
            refine g_iload C dX4_look_0 4 rfl ?_
            refine g_iload C dX4_look_2 6 rfl ?_
            refine g_icmp_lt 92 C dX4_look_4 (by decide) (zr_i (by omega) (by omega)) (zr_i (by omega) (by omega)) (fun c_4 => ?_) (fun c_4 => ?_)
            · refine g_iload_n C dX4_look_92 2 rfl ?_
              refine g_aload_n C dX4_look_93 1 rfl ?_
              refine g_alenG C 2 rfl dX4_look_94 ?_
              refine g_icmp_eq 138 C dX4_look_95 (by decide) (zr_i (by omega) (by omega)) (zr_i (by omega) (by omega)) (fun c_95 => ?_) (fun c_95 => ?_)
              · exfalso; omega
              · refine g_iload C dX4_look_98 4 rfl ?_
                refine g_iload_n C dX4_look_100 3 rfl ?_
                refine g_aload_n C dX4_look_101 1 rfl ?_
                refine g_iload_n C dX4_look_102 2 rfl ?_
                refine g_aald (y := ra (ordF fv n k)) C 2 rfl (by omega) (by omega) (by omega) (rN_srt (by omega)) dX4_look_103 ?_
                refine g_iconst C dX4_look_104 ?_
                refine g_iald C _ (wQ_at (j := ordF fv n k) (ordF_lt fv n _ (by omega))) (by decide) (by decide) (by decide) (v := (fv (ordF fv n k))) rfl dX4_look_105 ?_
                refine g_imul C dX4_look_106 ?_
                refine g_iadd C dX4_look_107 ?_
                refine g_iload C dX4_look_108 6 rfl ?_
                refine g_icmp_lt 138 C dX4_look_110 (by decide) (zr_i (by omega) (by omega)) (zr_i (by omega) (by omega)) (fun c_110 => ?_) (fun c_110 => ?_)
                · exfalso; omega
                · refine g_aload_n C dX4_look_113 0 rfl ?_
                  refine g_getf C fX4_39 0 rfl rfl dX4_look_114 ?_
                  refine g_ifnullN 139 C dX4_look_117 (by decide) ?_
                  refine g_aload_n C dX4_look_139 1 rfl ?_
                  refine g_iload_n C dX4_look_140 2 rfl ?_
                  refine g_aald (y := ra (ordF fv n k)) C 2 rfl (by omega) (by omega) (by omega) (rN_srt (by omega)) dX4_look_141 ?_
                  refine g_iconst C dX4_look_142 ?_
                  refine g_iald C _ (wQ_at (j := ordF fv n k) (ordF_lt fv n _ (by omega))) (by decide) (by decide) (by decide) (v := (fv (ordF fv n k))) rfl dX4_look_143 ?_
                  refine g_istore (L' := [(7, .int (zI (fv (ordF fv n k)))), (0, .ref h), (1, .ref qa), (2, .int (zI (((n - (k + 1)) : Nat) : Int))), (3, .int (zI left)), (4, .int (zI sum)), (5, .int (zI many)), (6, .int (zI p))]) C dX4_look_144 (by decide) rfl ?_
                  refine g_iload_n C dX4_look_146 4 rfl ?_
                  refine g_aload_n C dX4_look_147 2 rfl ?_
                  refine g_iload_n C dX4_look_148 3 rfl ?_
                  refine g_aald (y := ra (ordF fv n k)) C 2 rfl (by omega) (by omega) (by omega) (rN_srt (by omega)) dX4_look_149 ?_
                  refine g_iconst C dX4_look_150 ?_
                  refine g_iald C _ (wQ_at (j := ordF fv n k) (ordF_lt fv n _ (by omega))) (by decide) (by decide) (by decide) (v := (fs (ordF fv n k))) rfl dX4_look_151 ?_
                  refine g_icmp_ge 159 C dX4_look_152 (by decide) (zr_i (by omega) (by omega)) (hS.zs (ordF_lt fv n _ (by omega))) (fun c_152 => ?_) (fun c_152 => ?_)
                  · refine g_aload_n C dX4_look_159 2 rfl ?_
                    refine g_iload_n C dX4_look_160 3 rfl ?_
                    refine g_aald (y := ra (ordF fv n k)) C 2 rfl (by omega) (by omega) (by omega) (rN_srt (by omega)) dX4_look_161 ?_
                    refine g_iconst C dX4_look_162 ?_
                    refine g_iald C _ (wQ_at (j := ordF fv n k) (ordF_lt fv n _ (by omega))) (by decide) (by decide) (by decide) (v := (fs (ordF fv n k))) rfl dX4_look_163 ?_
                    refine g_top (min left (fs (ordF fv n k))) (by omega) ?_
                    refine g_istore (L' := [(8, .int (zI (min left (fs (ordF fv n k))))), (7, .int (zI (fv (ordF fv n k)))), (0, .ref h), (1, .ref qa), (2, .int (zI (((n - (k + 1)) : Nat) : Int))), (3, .int (zI left)), (4, .int (zI sum)), (5, .int (zI many)), (6, .int (zI p))]) C dX4_look_164 (by decide) rfl ?_
                    refine g_loc (L' := [(8, .int (zI (min left (fs (ordF fv n k))))), (7, .int (zI (fv (ordF fv n k)))), (0, .ref h), (1, .ref qa), (2, .int (zI (((n - (k + 1)) : Nat) : Int))), (3, .int (zI left)), (4, .int (zI sum)), (5, .int (zI many)), (6, .int (zI p))]) [0, 1, 2, 3, 4, 5, 6, 7, 8] rfl ?_
                    refine g_widen (k' := mu p none - mu p none) (n' := n * (mu p none - mu p none)) (Nat.zero_le _) (Nat.zero_le _) ?_
                    refine g_ws (w' := (WL h sa na qa ra cI cG n fv fs fd rm lt tk ov N ba none x y)) rfl rfl ?_
                    refine g_lw (w' := (WL h sa na qa ra cI cG n fv fs fd rm lt tk ov N ba none x y)) (L' := [(8, .int (zI (((J + 1 : Nat) : Int) - 1))), (7, .int (zI (fv (ordF fv n k)))), (0, .ref h), (1, .ref qa), (2, .int (zI (((n - (k + 1)) : Nat) : Int))), (3, .int (zI left)), (4, .int (zI sum)), (5, .int (zI many)), (6, .int (zI p))]) rfl (by rw [show min left (fs (ordF fv n k)) = ((J + 1 : Nat) : Int) - 1 by omega]) ?_
                    exact look_loop l D cI cG cJ h sa na qa ra n hn fv fs fd hS rm lt tk ov hr p hp k hk left sum many now hl0 hlr hm0 hml hs0 hps none _ (ih (by omega)) C ret (J + 1) (by omega) none N ba x y hb (Nat.le_refl _) rfl hag
                  · refine g_iload_n C dX4_look_155 4 rfl ?_
                    refine g_goto 164 C dX4_look_156 (by decide) ?_
                    refine g_top (min left (fs (ordF fv n k))) (by omega) ?_
                    refine g_istore (L' := [(8, .int (zI (min left (fs (ordF fv n k))))), (7, .int (zI (fv (ordF fv n k)))), (0, .ref h), (1, .ref qa), (2, .int (zI (((n - (k + 1)) : Nat) : Int))), (3, .int (zI left)), (4, .int (zI sum)), (5, .int (zI many)), (6, .int (zI p))]) C dX4_look_164 (by decide) rfl ?_
                    refine g_loc (L' := [(8, .int (zI (min left (fs (ordF fv n k))))), (7, .int (zI (fv (ordF fv n k)))), (0, .ref h), (1, .ref qa), (2, .int (zI (((n - (k + 1)) : Nat) : Int))), (3, .int (zI left)), (4, .int (zI sum)), (5, .int (zI many)), (6, .int (zI p))]) [0, 1, 2, 3, 4, 5, 6, 7, 8] rfl ?_
                    refine g_widen (k' := mu p none - mu p none) (n' := n * (mu p none - mu p none)) (Nat.zero_le _) (Nat.zero_le _) ?_
                    refine g_ws (w' := (WL h sa na qa ra cI cG n fv fs fd rm lt tk ov N ba none x y)) rfl rfl ?_
                    refine g_lw (w' := (WL h sa na qa ra cI cG n fv fs fd rm lt tk ov N ba none x y)) (L' := [(8, .int (zI (((J + 1 : Nat) : Int) - 1))), (7, .int (zI (fv (ordF fv n k)))), (0, .ref h), (1, .ref qa), (2, .int (zI (((n - (k + 1)) : Nat) : Int))), (3, .int (zI left)), (4, .int (zI sum)), (5, .int (zI many)), (6, .int (zI p))]) rfl (by rw [show min left (fs (ordF fv n k)) = ((J + 1 : Nat) : Int) - 1 by omega]) ?_
                    exact look_loop l D cI cG cJ h sa na qa ra n hn fv fs fd hS rm lt tk ov hr p hp k hk left sum many now hl0 hlr hm0 hml hs0 hps none _ (ih (by omega)) C ret (J + 1) (by omega) none N ba x y hb (Nat.le_refl _) rfl hag
            · exfalso; omega
          | some q =>
            have hq1 : zr q.1 := ⟨by have := hb.1; omega, by have := hb.2.1; omega⟩
            have hq2 : zr q.2.1 := ⟨by have := hb.2.2.1; omega, by have := hb.2.2.2; omega⟩
            have hq9 : ¬ (q.2.1 < many ∧ q.1 = p) := fun q9 => hprn (by show (decide (q.2.1 < many) && decide (q.1 = p)) = true; rw [Bool.and_eq_true, decide_eq_true_eq, decide_eq_true_eq]; exact q9)
            refine g_ws (w' := ((((wZ h sa rm lt tk ov (.ref na) (.ref ba) q.1 q.2.1) ++ ([(na, .inl (cI, n, .inl (zA N)))])) ++ (wG qa cG n (rN (srt ra fv n) n))) ++ ([(ba, .inl (cI, n, .inl (zA q.2.2)))])) ++ (wQ ra cI fv fs fd n)) rfl rfl ?_
            refine g_iload C dX4_look_0 4 rfl ?_
            refine g_iload C dX4_look_2 6 rfl ?_
            refine g_icmp_lt 92 C dX4_look_4 (by decide) (zr_i (by omega) (by omega)) (zr_i (by omega) (by omega)) (fun c_4 => ?_) (fun c_4 => ?_)
            · refine g_iload_n C dX4_look_92 2 rfl ?_
              refine g_aload_n C dX4_look_93 1 rfl ?_
              refine g_alenG C 2 rfl dX4_look_94 ?_
              refine g_icmp_eq 138 C dX4_look_95 (by decide) (zr_i (by omega) (by omega)) (zr_i (by omega) (by omega)) (fun c_95 => ?_) (fun c_95 => ?_)
              · exfalso; omega
              · refine g_iload C dX4_look_98 4 rfl ?_
                refine g_iload_n C dX4_look_100 3 rfl ?_
                refine g_aload_n C dX4_look_101 1 rfl ?_
                refine g_iload_n C dX4_look_102 2 rfl ?_
                refine g_aald (y := ra (ordF fv n k)) C 2 rfl (by omega) (by omega) (by omega) (rN_srt (by omega)) dX4_look_103 ?_
                refine g_iconst C dX4_look_104 ?_
                refine g_iald C _ (wQ_at (j := ordF fv n k) (ordF_lt fv n _ (by omega))) (by decide) (by decide) (by decide) (v := (fv (ordF fv n k))) rfl dX4_look_105 ?_
                refine g_imul C dX4_look_106 ?_
                refine g_iadd C dX4_look_107 ?_
                refine g_iload C dX4_look_108 6 rfl ?_
                refine g_icmp_lt 138 C dX4_look_110 (by decide) (zr_i (by omega) (by omega)) (zr_i (by omega) (by omega)) (fun c_110 => ?_) (fun c_110 => ?_)
                · exfalso; omega
                · refine g_aload_n C dX4_look_113 0 rfl ?_
                  refine g_getf C fX4_39 0 rfl rfl dX4_look_114 ?_
                  refine g_ifnullR C dX4_look_117 ?_
                  refine g_iload C dX4_look_120 5 rfl ?_
                  refine g_aload_n C dX4_look_122 0 rfl ?_
                  refine g_getf C fX4_45 0 rfl rfl dX4_look_123 ?_
                  refine g_icmp_le 139 C dX4_look_126 (by decide) (zr_i (by omega) (by omega)) hq2 (fun c_126 => ?_) (fun c_126 => ?_)
                  · refine g_aload_n C dX4_look_139 1 rfl ?_
                    refine g_iload_n C dX4_look_140 2 rfl ?_
                    refine g_aald (y := ra (ordF fv n k)) C 2 rfl (by omega) (by omega) (by omega) (rN_srt (by omega)) dX4_look_141 ?_
                    refine g_iconst C dX4_look_142 ?_
                    refine g_iald C _ (wQ_at (j := ordF fv n k) (ordF_lt fv n _ (by omega))) (by decide) (by decide) (by decide) (v := (fv (ordF fv n k))) rfl dX4_look_143 ?_
                    refine g_istore (L' := [(7, .int (zI (fv (ordF fv n k)))), (0, .ref h), (1, .ref qa), (2, .int (zI (((n - (k + 1)) : Nat) : Int))), (3, .int (zI left)), (4, .int (zI sum)), (5, .int (zI many)), (6, .int (zI p))]) C dX4_look_144 (by decide) rfl ?_
                    refine g_iload_n C dX4_look_146 4 rfl ?_
                    refine g_aload_n C dX4_look_147 2 rfl ?_
                    refine g_iload_n C dX4_look_148 3 rfl ?_
                    refine g_aald (y := ra (ordF fv n k)) C 2 rfl (by omega) (by omega) (by omega) (rN_srt (by omega)) dX4_look_149 ?_
                    refine g_iconst C dX4_look_150 ?_
                    refine g_iald C _ (wQ_at (j := ordF fv n k) (ordF_lt fv n _ (by omega))) (by decide) (by decide) (by decide) (v := (fs (ordF fv n k))) rfl dX4_look_151 ?_
                    refine g_icmp_ge 159 C dX4_look_152 (by decide) (zr_i (by omega) (by omega)) (hS.zs (ordF_lt fv n _ (by omega))) (fun c_152 => ?_) (fun c_152 => ?_)
                    · refine g_aload_n C dX4_look_159 2 rfl ?_
                      refine g_iload_n C dX4_look_160 3 rfl ?_
                      refine g_aald (y := ra (ordF fv n k)) C 2 rfl (by omega) (by omega) (by omega) (rN_srt (by omega)) dX4_look_161 ?_
                      refine g_iconst C dX4_look_162 ?_
                      refine g_iald C _ (wQ_at (j := ordF fv n k) (ordF_lt fv n _ (by omega))) (by decide) (by decide) (by decide) (v := (fs (ordF fv n k))) rfl dX4_look_163 ?_
                      refine g_top (min left (fs (ordF fv n k))) (by omega) ?_
                      refine g_istore (L' := [(8, .int (zI (min left (fs (ordF fv n k))))), (7, .int (zI (fv (ordF fv n k)))), (0, .ref h), (1, .ref qa), (2, .int (zI (((n - (k + 1)) : Nat) : Int))), (3, .int (zI left)), (4, .int (zI sum)), (5, .int (zI many)), (6, .int (zI p))]) C dX4_look_164 (by decide) rfl ?_
                      refine g_loc (L' := [(8, .int (zI (min left (fs (ordF fv n k))))), (7, .int (zI (fv (ordF fv n k)))), (0, .ref h), (1, .ref qa), (2, .int (zI (((n - (k + 1)) : Nat) : Int))), (3, .int (zI left)), (4, .int (zI sum)), (5, .int (zI many)), (6, .int (zI p))]) [0, 1, 2, 3, 4, 5, 6, 7, 8] rfl ?_
                      refine g_widen (k' := mu p (some q) - mu p (some q)) (n' := n * (mu p (some q) - mu p (some q))) (Nat.zero_le _) (Nat.zero_le _) ?_
                      refine g_ws (w' := (WL h sa na qa ra cI cG n fv fs fd rm lt tk ov N ba (some q) x y)) rfl rfl ?_
                      refine g_lw (w' := (WL h sa na qa ra cI cG n fv fs fd rm lt tk ov N ba (some q) x y)) (L' := [(8, .int (zI (((J + 1 : Nat) : Int) - 1))), (7, .int (zI (fv (ordF fv n k)))), (0, .ref h), (1, .ref qa), (2, .int (zI (((n - (k + 1)) : Nat) : Int))), (3, .int (zI left)), (4, .int (zI sum)), (5, .int (zI many)), (6, .int (zI p))]) rfl (by rw [show min left (fs (ordF fv n k)) = ((J + 1 : Nat) : Int) - 1 by omega]) ?_
                      exact look_loop l D cI cG cJ h sa na qa ra n hn fv fs fd hS rm lt tk ov hr p hp k hk left sum many now hl0 hlr hm0 hml hs0 hps (some q) _ (ih (by omega)) C ret (J + 1) (by omega) (some q) N ba x y hb (Nat.le_refl _) rfl hag
                    · refine g_iload_n C dX4_look_155 4 rfl ?_
                      refine g_goto 164 C dX4_look_156 (by decide) ?_
                      refine g_top (min left (fs (ordF fv n k))) (by omega) ?_
                      refine g_istore (L' := [(8, .int (zI (min left (fs (ordF fv n k))))), (7, .int (zI (fv (ordF fv n k)))), (0, .ref h), (1, .ref qa), (2, .int (zI (((n - (k + 1)) : Nat) : Int))), (3, .int (zI left)), (4, .int (zI sum)), (5, .int (zI many)), (6, .int (zI p))]) C dX4_look_164 (by decide) rfl ?_
                      refine g_loc (L' := [(8, .int (zI (min left (fs (ordF fv n k))))), (7, .int (zI (fv (ordF fv n k)))), (0, .ref h), (1, .ref qa), (2, .int (zI (((n - (k + 1)) : Nat) : Int))), (3, .int (zI left)), (4, .int (zI sum)), (5, .int (zI many)), (6, .int (zI p))]) [0, 1, 2, 3, 4, 5, 6, 7, 8] rfl ?_
                      refine g_widen (k' := mu p (some q) - mu p (some q)) (n' := n * (mu p (some q) - mu p (some q))) (Nat.zero_le _) (Nat.zero_le _) ?_
                      refine g_ws (w' := (WL h sa na qa ra cI cG n fv fs fd rm lt tk ov N ba (some q) x y)) rfl rfl ?_
                      refine g_lw (w' := (WL h sa na qa ra cI cG n fv fs fd rm lt tk ov N ba (some q) x y)) (L' := [(8, .int (zI (((J + 1 : Nat) : Int) - 1))), (7, .int (zI (fv (ordF fv n k)))), (0, .ref h), (1, .ref qa), (2, .int (zI (((n - (k + 1)) : Nat) : Int))), (3, .int (zI left)), (4, .int (zI sum)), (5, .int (zI many)), (6, .int (zI p))]) rfl (by rw [show min left (fs (ordF fv n k)) = ((J + 1 : Nat) : Int) - 1 by omega]) ?_
                      exact look_loop l D cI cG cJ h sa na qa ra n hn fv fs fd hS rm lt tk ov hr p hp k hk left sum many now hl0 hlr hm0 hml hs0 hps (some q) _ (ih (by omega)) C ret (J + 1) (by omega) (some q) N ba x y hb (Nat.le_refl _) rfl hag
                  · refine g_aload_n C dX4_look_129 0 rfl ?_
                    refine g_getf C fX4_42 0 rfl rfl dX4_look_130 ?_
                    refine g_iload C dX4_look_133 6 rfl ?_
                    refine g_icmp_ne 139 C dX4_look_135 (by decide) hq1 (zr_i (by omega) (by omega)) (fun c_135 => ?_) (fun c_135 => ?_)
                    · refine g_aload_n C dX4_look_139 1 rfl ?_
                      refine g_iload_n C dX4_look_140 2 rfl ?_
                      refine g_aald (y := ra (ordF fv n k)) C 2 rfl (by omega) (by omega) (by omega) (rN_srt (by omega)) dX4_look_141 ?_
                      refine g_iconst C dX4_look_142 ?_
                      refine g_iald C _ (wQ_at (j := ordF fv n k) (ordF_lt fv n _ (by omega))) (by decide) (by decide) (by decide) (v := (fv (ordF fv n k))) rfl dX4_look_143 ?_
                      refine g_istore (L' := [(7, .int (zI (fv (ordF fv n k)))), (0, .ref h), (1, .ref qa), (2, .int (zI (((n - (k + 1)) : Nat) : Int))), (3, .int (zI left)), (4, .int (zI sum)), (5, .int (zI many)), (6, .int (zI p))]) C dX4_look_144 (by decide) rfl ?_
                      refine g_iload_n C dX4_look_146 4 rfl ?_
                      refine g_aload_n C dX4_look_147 2 rfl ?_
                      refine g_iload_n C dX4_look_148 3 rfl ?_
                      refine g_aald (y := ra (ordF fv n k)) C 2 rfl (by omega) (by omega) (by omega) (rN_srt (by omega)) dX4_look_149 ?_
                      refine g_iconst C dX4_look_150 ?_
                      refine g_iald C _ (wQ_at (j := ordF fv n k) (ordF_lt fv n _ (by omega))) (by decide) (by decide) (by decide) (v := (fs (ordF fv n k))) rfl dX4_look_151 ?_
                      refine g_icmp_ge 159 C dX4_look_152 (by decide) (zr_i (by omega) (by omega)) (hS.zs (ordF_lt fv n _ (by omega))) (fun c_152 => ?_) (fun c_152 => ?_)
                      · refine g_aload_n C dX4_look_159 2 rfl ?_
                        refine g_iload_n C dX4_look_160 3 rfl ?_
                        refine g_aald (y := ra (ordF fv n k)) C 2 rfl (by omega) (by omega) (by omega) (rN_srt (by omega)) dX4_look_161 ?_
                        refine g_iconst C dX4_look_162 ?_
                        refine g_iald C _ (wQ_at (j := ordF fv n k) (ordF_lt fv n _ (by omega))) (by decide) (by decide) (by decide) (v := (fs (ordF fv n k))) rfl dX4_look_163 ?_
                        refine g_top (min left (fs (ordF fv n k))) (by omega) ?_
                        refine g_istore (L' := [(8, .int (zI (min left (fs (ordF fv n k))))), (7, .int (zI (fv (ordF fv n k)))), (0, .ref h), (1, .ref qa), (2, .int (zI (((n - (k + 1)) : Nat) : Int))), (3, .int (zI left)), (4, .int (zI sum)), (5, .int (zI many)), (6, .int (zI p))]) C dX4_look_164 (by decide) rfl ?_
                        refine g_loc (L' := [(8, .int (zI (min left (fs (ordF fv n k))))), (7, .int (zI (fv (ordF fv n k)))), (0, .ref h), (1, .ref qa), (2, .int (zI (((n - (k + 1)) : Nat) : Int))), (3, .int (zI left)), (4, .int (zI sum)), (5, .int (zI many)), (6, .int (zI p))]) [0, 1, 2, 3, 4, 5, 6, 7, 8] rfl ?_
                        refine g_widen (k' := mu p (some q) - mu p (some q)) (n' := n * (mu p (some q) - mu p (some q))) (Nat.zero_le _) (Nat.zero_le _) ?_
                        refine g_ws (w' := (WL h sa na qa ra cI cG n fv fs fd rm lt tk ov N ba (some q) x y)) rfl rfl ?_
                        refine g_lw (w' := (WL h sa na qa ra cI cG n fv fs fd rm lt tk ov N ba (some q) x y)) (L' := [(8, .int (zI (((J + 1 : Nat) : Int) - 1))), (7, .int (zI (fv (ordF fv n k)))), (0, .ref h), (1, .ref qa), (2, .int (zI (((n - (k + 1)) : Nat) : Int))), (3, .int (zI left)), (4, .int (zI sum)), (5, .int (zI many)), (6, .int (zI p))]) rfl (by rw [show min left (fs (ordF fv n k)) = ((J + 1 : Nat) : Int) - 1 by omega]) ?_
                        exact look_loop l D cI cG cJ h sa na qa ra n hn fv fs fd hS rm lt tk ov hr p hp k hk left sum many now hl0 hlr hm0 hml hs0 hps (some q) _ (ih (by omega)) C ret (J + 1) (by omega) (some q) N ba x y hb (Nat.le_refl _) rfl hag
                      · refine g_iload_n C dX4_look_155 4 rfl ?_
                        refine g_goto 164 C dX4_look_156 (by decide) ?_
                        refine g_top (min left (fs (ordF fv n k))) (by omega) ?_
                        refine g_istore (L' := [(8, .int (zI (min left (fs (ordF fv n k))))), (7, .int (zI (fv (ordF fv n k)))), (0, .ref h), (1, .ref qa), (2, .int (zI (((n - (k + 1)) : Nat) : Int))), (3, .int (zI left)), (4, .int (zI sum)), (5, .int (zI many)), (6, .int (zI p))]) C dX4_look_164 (by decide) rfl ?_
                        refine g_loc (L' := [(8, .int (zI (min left (fs (ordF fv n k))))), (7, .int (zI (fv (ordF fv n k)))), (0, .ref h), (1, .ref qa), (2, .int (zI (((n - (k + 1)) : Nat) : Int))), (3, .int (zI left)), (4, .int (zI sum)), (5, .int (zI many)), (6, .int (zI p))]) [0, 1, 2, 3, 4, 5, 6, 7, 8] rfl ?_
                        refine g_widen (k' := mu p (some q) - mu p (some q)) (n' := n * (mu p (some q) - mu p (some q))) (Nat.zero_le _) (Nat.zero_le _) ?_
                        refine g_ws (w' := (WL h sa na qa ra cI cG n fv fs fd rm lt tk ov N ba (some q) x y)) rfl rfl ?_
                        refine g_lw (w' := (WL h sa na qa ra cI cG n fv fs fd rm lt tk ov N ba (some q) x y)) (L' := [(8, .int (zI (((J + 1 : Nat) : Int) - 1))), (7, .int (zI (fv (ordF fv n k)))), (0, .ref h), (1, .ref qa), (2, .int (zI (((n - (k + 1)) : Nat) : Int))), (3, .int (zI left)), (4, .int (zI sum)), (5, .int (zI many)), (6, .int (zI p))]) rfl (by rw [show min left (fs (ordF fv n k)) = ((J + 1 : Nat) : Int) - 1 by omega]) ?_
                        exact look_loop l D cI cG cJ h sa na qa ra n hn fv fs fd hS rm lt tk ov hr p hp k hk left sum many now hl0 hlr hm0 hml hs0 hps (some q) _ (ih (by omega)) C ret (J + 1) (by omega) (some q) N ba x y hb (Nat.le_refl _) rfl hag
                    · exfalso
                      omega
            · exfalso; omega
