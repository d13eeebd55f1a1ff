/-! raw numbers; arrays of rows; clones; null and not; references that come back; worlds by their modules -/
def gScr (E : gEnv) (b N : Nat) (xs : Nat → Int32) : Prop := match E with
  | (_, _, _, _, s, _, _, _, _, _, A, _, _, _) => va_X b N xs s s.heap ∧ b < s.heap.size ∧ ¬ A b
theorem va_Dpw {A : Nat → Prop} {w : va_W} : va_D A w ↔ w.Pairwise (fun p q => p.1 ≠ q.1) ∧ ∀ q ∈ w, A q.1 := by
  constructor
  · intro h
    refine ⟨List.pairwise_iff_getElem.mpr (fun i j hi hj hij e => ?_), fun q hq => ?_⟩
    · have := h.1 i j _ _ (List.getElem?_eq_getElem hi) (List.getElem?_eq_getElem hj) e
      omega
    · obtain ⟨k, hk⟩ := List.mem_iff_getElem?.mp hq
      exact h.2 k q hk
  · rintro ⟨h1, h2⟩
    refine ⟨fun i j p q hp hq e => ?_, fun k q hk => h2 q (List.mem_of_getElem? hk)⟩
    obtain ⟨hi, ei⟩ := List.getElem?_eq_some_iff.mp hp
    obtain ⟨hj, ej⟩ := List.getElem?_eq_some_iff.mp hq
    rcases Nat.lt_trichotomy i j with h | h | h
    · have := List.pairwise_iff_getElem.mp h1 i j hi hj h
      rw [ei, ej] at this
      exact absurd e this
    · exact h
    · have := List.pairwise_iff_getElem.mp h1 j i hj hi h
      rw [ei, ej] at this
      exact absurd e.symm this
def gJ' : List va_W → va_W
  | [] => []
  | m :: l => l.foldl (fun a b => a ++ b) m
theorem foldl_flat : ∀ (l : List va_W) (a : va_W), l.foldl (fun a b => a ++ b) a = a ++ l.flatten
  | [], a => by simp
  | m :: l, a => by
    rw [List.foldl_cons, foldl_flat l, List.flatten_cons, List.append_assoc]
theorem gJ_flat (ms : List va_W) : gJ' ms = ms.flatten := by
  cases ms with
  | nil => rfl
  | cons m l => exact foldl_flat l m
theorem mods_mem {ms ms' : List va_W} {ks : List Nat} (h : ks.map (fun i => ms[i]?) = ms'.map some) {a : Nat} (ha : a < ms'.length) : ∃ i, ks[a]? = some i ∧ ms[i]? = some ms'[a] := by
  have h1 : (ks.map (fun i => ms[i]?))[a]? = some (some ms'[a]) := by rw [h, List.getElem?_map, List.getElem?_eq_getElem ha]; rfl
  rw [List.getElem?_map] at h1
  cases hk : ks[a]? with
  | none => rw [hk] at h1; cases h1
  | some i => rw [hk] at h1; exact ⟨i, rfl, Option.some.inj h1⟩
theorem va_D_mods {A : Nat → Prop} {ms ms' : List va_W} (ks : List Nat) (hn : va_nd ks = true) (h : ks.map (fun i => ms[i]?) = ms'.map some) (hD : va_D A (gJ' ms)) : va_D A (gJ' ms') := by
  rw [gJ_flat, va_Dpw] at hD ⊢
  obtain ⟨h1, h2⟩ := hD
  obtain ⟨p1, p2⟩ := List.pairwise_flatten.mp h1
  have hin : ∀ a (ha : a < ms'.length), ms'[a] ∈ ms := fun a ha => by
    obtain ⟨i, -, e⟩ := mods_mem h ha
    exact List.mem_of_getElem? e
  refine ⟨List.pairwise_flatten.mpr ⟨fun l hl => ?_, ?_⟩, fun q hq => ?_⟩
  · obtain ⟨a, ha, rfl⟩ := List.mem_iff_getElem.mp hl
    exact p1 _ (hin a ha)
  · refine List.pairwise_iff_getElem.mpr (fun a b ha hb hab x hx y hy => ?_)
    obtain ⟨i, ki, ei⟩ := mods_mem h ha
    obtain ⟨j, kj, ej⟩ := mods_mem h hb
    obtain ⟨hi, ei⟩ := List.getElem?_eq_some_iff.mp ei
    obtain ⟨hj, ej⟩ := List.getElem?_eq_some_iff.mp ej
    have hne : i ≠ j := fun e => by
      subst e
      have := va_nd_inj _ hn _ _ _ ki kj
      omega
    rcases Nat.lt_or_gt_of_ne hne with h9 | h9
    · have := List.pairwise_iff_getElem.mp p2 i j hi hj h9
      rw [ei, ej] at this
      exact this x hx y hy
    · have := List.pairwise_iff_getElem.mp p2 j i hj hi h9
      rw [ei, ej] at this
      exact fun e => this y hy x hx e.symm
  · obtain ⟨l, hl, hq⟩ := List.mem_flatten.mp hq
    obtain ⟨a, ha, rfl⟩ := List.mem_iff_getElem.mp hl
    exact h2 q (List.mem_flatten.mpr ⟨_, hin a ha, hq⟩)
theorem va_P_mods {D : va_G} {cl : List vw_C} {H : Heap} {ms ms' : List va_W} (ks : List Nat) (h : ks.map (fun i => ms[i]?) = ms'.map some) (hP : va_P D cl (gJ' ms) H) : va_P D cl (gJ' ms') H := by
  intro k q hk
  have hq := List.mem_of_getElem? hk
  rw [gJ_flat] at hq
  obtain ⟨l, hl, hq⟩ := List.mem_flatten.mp hq
  obtain ⟨a, ha, rfl⟩ := List.mem_iff_getElem.mp hl
  obtain ⟨i, -, e⟩ := mods_mem h ha
  have h1 : q ∈ gJ' ms := by
    rw [gJ_flat]
    exact List.mem_flatten.mpr ⟨_, List.mem_of_getElem? e, hq⟩
  obtain ⟨k2, h2⟩ := List.mem_iff_getElem?.mp h1
  exact hP k2 q h2
theorem zI_rem {a b : Int} (ha : 0 ≤ a) (ha2 : zr a) (hb : 0 < b) (hb2 : zr b) : ∃ z : Int, 0 ≤ z ∧ z < b ∧ zI a - zI a / zI b * zI b = zI z := by
  have h1 : (zI a % zI b).toInt = a % b := by
    rw [Int32.toInt_mod, zI_toInt ha2, zI_toInt hb2, Int.tmod_eq_emod_of_nonneg ha]
  refine ⟨a % b, Int.emod_nonneg a (by omega), Int.emod_lt_of_pos a hb, ?_⟩
  rw [irem_eq_mod, ← h1, zI_of]
section GK9
variable {E : gEnv} {l : Launch} {R : Room} {D : va_G} {nL : Nat} {own : String} {cc : ByteArray} {cI cG cJ : ClassId} {k n : Nat} {w : va_W} {pc : Nat} {L : List (Nat × Value)} {st : List Value}
/-- other modules of the world, or fewer -/
theorem g_mods (ms ms' : List va_W) (ks : List Nat) (hn : va_nd ks = true) (h : ks.map (fun i => ms[i]?) = ms'.map some) (K : gW E k n (gJ' ms') pc L st) : gW E k n (gJ' ms) pc L st := by
  obtain ⟨p, l, e, R, s, m, args, below, meth, c, A, D, nL, Q⟩ := E
  intro H locs ls hP hD hS hl
  exact K H locs ls (va_P_mods ks h hP) (va_D_mods ks hn h hD) hS hl
theorem gx_mods {nm : String} (ms ms' : List va_W) (ks : List Nat) (hn : va_nd ks = true) (h : ks.map (fun i => ms[i]?) = ms'.map some) (K : gWx E k n (gJ' ms') pc L nm) : gWx E k n (gJ' ms) pc L nm := by
  obtain ⟨p, l, e, R, s, m, args, below, meth, c, A, D, nL, Q⟩ := E
  intro H locs ls q ce st hP hD hS hl hc hv hcl
  exact K H locs ls q ce st (va_P_mods ks h hP) (va_D_mods ks hn h hD) hS hl hc hv hcl
/-- addresses of a world are apart -/
theorem g_apart (K : w.Pairwise (fun p q => p.1 ≠ q.1) → gW E k n w pc L st) : gW E k n w pc L st := by
  obtain ⟨p, l, e, R, s, m, args, below, meth, c, A, D, nL, Q⟩ := E
  intro H locs ls hP hD hS hl
  exact K (va_Dpw.mp hD).1 H locs ls hP hD hS hl
theorem g_any {x : Int32} (K : ∀ z : Int, zr z → gW E k n w pc L (.int (zI z) :: st)) : gW E k n w pc L (.int x :: st) := by
  obtain ⟨z, hz, rfl⟩ := zI_ex x
  exact K z hz
theorem g_ishr {x y : Int32} (C : gC E l R D nL own cc cI cG cJ) (hd : decode cc pc = .ok (.ishr, 1)) (K : ∀ z : Int, zr z → gW E k n w (pc + 1) L (.int (zI z) :: st)) : gW E k n w pc L (.int y :: .int x :: st) := by
  obtain ⟨p, l, e, R, s, m, args, below, meth, c, A, D, nL, Q⟩ := E
  obtain ⟨rfl, rfl, rfl, rfl, hx, hb, hml, hown, hts, hK, hO, hA, hZ⟩ := C
  intro H locs ls hP hD hS hl
  obtain ⟨z, hz, ez⟩ := zI_ex (x >>> (y &&& 31))
  have h9 := K z hz H locs ls hP hD hS hl
  rw [← ez] at h9
  exact lv_ishr hx hb hd h9
theorem g_irem {a b : Int} (C : gC E l R D nL own cc cI cG cJ) (hd : decode cc pc = .ok (.irem, 1)) (ha : 0 ≤ a) (ha2 : zr a) (hb : 0 < b) (hb2 : zr b) (K : ∀ z : Int, 0 ≤ z → z < b → gW E k n w (pc + 1) L (.int (zI z) :: st)) : gW E k n w pc L (.int (zI b) :: .int (zI a) :: st) := by
  obtain ⟨p, l, e, R, s, m, args, below, meth, c, A, D, nL, Q⟩ := E
  obtain ⟨rfl, rfl, rfl, rfl, hx, hcc, hml, hown, hts, hK, hO, hA, hZ⟩ := C
  intro H locs ls hP hD hS hl
  obtain ⟨z, h1, h2, ez⟩ := zI_rem ha ha2 hb hb2
  have h9 := K z h1 h2 H locs ls hP hD hS hl
  rw [← ez] at h9
  exact lv_irem hx hcc hd (fun q => by have := (zI_eq hb2 zr0).mp q; omega) h9
theorem g_ldc {ix : Nat} {v : Int32} (C : gC E l R D nL own cc cI cG cJ) (f : Cond.constant own ix v ∈ LW) (hd : decode cc pc = .ok (.ldc ix, 2)) (K : gW E k n w (pc + 2) L (.int v :: st)) : gW E k n w pc L st := by
  obtain ⟨p, l, e, R, s, m, args, below, meth, c, A, D, nL, Q⟩ := E
  obtain ⟨rfl, rfl, rfl, rfl, hx, hb, hml, hown, hts, hK, hO, hA, hZ⟩ := C
  intro H locs ls hP hD hS hl
  exact lv_ldc hx hb hown (hts _ f) hd (K H locs ls hP hD hS hl)
theorem g_aconst (C : gC E l R D nL own cc cI cG cJ) (hd : decode cc pc = .ok (.aconst_null, 1)) (K : gW E k n w (pc + 1) L (.null :: st)) : gW E k n w pc L st := by
  obtain ⟨p, l, e, R, s, m, args, below, meth, c, A, D, nL, Q⟩ := E
  obtain ⟨rfl, rfl, rfl, rfl, hx, hb, hml, hown, hts, hK, hO, hA, hZ⟩ := C
  intro H locs ls hP hD hS hl
  exact lv_null hx hb hd (K H locs ls hP hD hS hl)
theorem g_ifnullN {off : Int} (tgt : Nat) (C : gC E l R D nL own cc cI cG cJ) (hd : decode cc pc = .ok (.ifnull off, 3)) (ht : (pc : Int) + off = (tgt : Int)) (K : gW E k n w tgt L st) : gW E k n w pc L (.null :: st) := by
  obtain ⟨p, l, e, R, s, m, args, below, meth, c, A, D, nL, Q⟩ := E
  obtain ⟨rfl, rfl, rfl, rfl, hx, hb, hml, hown, hts, hK, hO, hA, hZ⟩ := C
  intro H locs ls hP hD hS hl
  exact lv_ifnullN hx hb hd ht (K H locs ls hP hD hS hl)
theorem g_ifnullR {off : Int} {x : Nat} (C : gC E l R D nL own cc cI cG cJ) (hd : decode cc pc = .ok (.ifnull off, 3)) (K : gW E k n w (pc + 3) L st) : gW E k n w pc L (.ref x :: st) := by
  obtain ⟨p, l, e, R, s, m, args, below, meth, c, A, D, nL, Q⟩ := E
  obtain ⟨rfl, rfl, rfl, rfl, hx, hb, hml, hown, hts, hK, hO, hA, hZ⟩ := C
  intro H locs ls hP hD hS hl
  exact lv_ifnull hx hb hd (K H locs ls hP hD hS hl)
theorem g_ifnonnullN {off : Int} (C : gC E l R D nL own cc cI cG cJ) (hd : decode cc pc = .ok (.ifnonnull off, 3)) (K : gW E k n w (pc + 3) L st) : gW E k n w pc L (.null :: st) := by
  obtain ⟨p, l, e, R, s, m, args, below, meth, c, A, D, nL, Q⟩ := E
  obtain ⟨rfl, rfl, rfl, rfl, hx, hb, hml, hown, hts, hK, hO, hA, hZ⟩ := C
  intro H locs ls hP hD hS hl
  exact lv_ifnonnullN hx hb hd (K H locs ls hP hD hS hl)
theorem g_ifnonnullR {off : Int} {x : Nat} (tgt : Nat) (C : gC E l R D nL own cc cI cG cJ) (hd : decode cc pc = .ok (.ifnonnull off, 3)) (ht : (pc : Int) + off = (tgt : Int)) (K : gW E k n w tgt L st) : gW E k n w pc L (.ref x :: st) := by
  obtain ⟨p, l, e, R, s, m, args, below, meth, c, A, D, nL, Q⟩ := E
  obtain ⟨rfl, rfl, rfl, rfl, hx, hb, hml, hown, hts, hK, hO, hA, hZ⟩ := C
  intro H locs ls hP hD hS hl
  exact lv_ifnonnull hx hb hd ht (K H locs ls hP hD hS hl)
theorem g_acmp_eq {off : Int} {x y : Nat} (tgt : Nat) (C : gC E l R D nL own cc cI cG cJ) (hd : decode cc pc = .ok (.if_acmp .eq off, 3)) (ht : (pc : Int) + off = (tgt : Int)) (kt : x = y → gW E k n w tgt L st) (kf : ¬ x = y → gW E k n w (pc + 3) L st) : gW E k n w pc L (.ref y :: .ref x :: st) := by
  obtain ⟨p, l, e, R, s, m, args, below, meth, c, A, D, nL, Q⟩ := E
  obtain ⟨rfl, rfl, rfl, rfl, hx, hb, hml, hown, hts, hK, hO, hA, hZ⟩ := C
  intro H locs ls hP hD hS hl
  exact lv_acmp_eq (rx := some x) (ry := some y) hx hb hd ht (fun c9 => kt (Option.some.inj c9) H locs ls hP hD hS hl) (fun c9 => kf (fun q => c9 (by rw [q])) H locs ls hP hD hS hl)
/-- new int[N][] -/
theorem g_anew {ix N : Nat} (C : gC E l R D nL own cc cI cG cJ) (f : Cond.classLink own ix "[I" ∈ LW) (hN : N ≤ 2000) (hR : k + 1 ≤ R.cells ∧ n + N ≤ R.slots) (hd : decode cc pc = .ok (.anewarray ix, 3)) (K : ∀ q : Nat, gW E (k + 1) (n + N) (w ++ [(q, .inl (cG, N, .inr (.inr (.inr (.inr (fun _ => none))))))]) (pc + 3) L (.ref q :: st)) : gW E k n w pc L (.int (zI N) :: st) := by
  obtain ⟨p, l, e, R, s, m, args, below, meth, c, A, D, nL, Q⟩ := E
  obtain ⟨rfl, rfl, rfl, rfl, hx, hb, hml, hown, hts, hK, hO, hA, hZ⟩ := C
  intro H locs ls hP hD hS hl
  have hNr : zr (N : Int) := ⟨by omega, by omega⟩
  have h1 : ¬ zI (N : Int) < 0 := fun q => by
    have := (zI_lt hNr zr0).mp q
    omega
  have h2 : (zI (N : Int)).toNatClampNeg = N := by
    have h3 : (N : Int) < 2 ^ 31 := by omega
    have h4 : -2 ^ 31 ≤ (N : Int) := by omega
    exact Int32.toNatClampNeg_ofInt_of_le h4 h3
  refine W.anewA (t := .int) hx hb hown (hts _ f) (va_AOA.use hO) rfl hd rfl h1 (by rw [h2]; omega) hR.1 (by rw [h2]; exact hR.2) fun cA kA comp f1 f2 f3 f4 => ?_
  have e1 : some cA = some cG := f1.symm.trans (hK.2 1 _ rfl).2
  cases e1
  rw [h2]
  generalize hH1 : H.push ({ cls := cG, slots := Array.replicate N .null, vm := .none } : Cell) = H1
  have z1 : H1.size = H.size + 1 := by rw [← hH1, Array.size_push]
  have e1 : H1[H.size]? = some (arrV cG N (fun _ => .null)) := by rw [← hH1, Array.getElem?_push_size, ← arrV_new]
  have o1 : ∀ q : Nat, q < H.size → H1[q]? = H[q]? := fun q hq => by rw [← hH1, Array.getElem?_push, if_neg (Nat.ne_of_lt hq)]
  have hk : ∀ (k : Nat) (x : Nat × va_E), w[k]? = some x → H1[x.1]? = H[x.1]? := fun k x hx => o1 x.1 ((hP k x hx).lt)
  refine K H.size H1 locs ls ((hP.kept hk).app (fun k x hx => ?_)) (hD.push hP rfl (hA _ hS.1)) ⟨Nat.le_trans hS.1 (by omega), fun x h1 h2 => (o1 x (Nat.lt_of_lt_of_le h1 hS.1)).trans (hS.2.1 x h1 h2), hS.2.2⟩ hl
  have hz : k < 1 := (List.getElem?_eq_some_iff.mp hx).1
  rw [show k = 0 by omega] at hx
  cases hx
  exact e1
/-- a row is put into an array of rows -/
theorem g_aast {a v N : Nat} {f : Nat → Option Nat} {x : vp_A} {i : Int} {w' : va_W} (C : gC E l R D nL own cc cI cG cJ) (q0 q1 : Nat) (ha : w[q0]? = some (a, .inl (cG, N, .inr (.inr (.inr (.inr f)))))) (hv : w[q1]? = some (v, .inl (cI, x))) (hN : N ≤ 2000) (h0 : 0 ≤ i) (h1 : i < N) (hw : w.set q0 (a, .inl (cG, N, .inr (.inr (.inr (.inr (va_up f i.toNat (some v))))))) = w') (hd : decode cc pc = .ok (.aastore, 1)) (K : gW E k n w' (pc + 1) L st) : gW E k n w pc L (.ref v :: .int (zI i) :: .ref a :: st) := by
  obtain ⟨p, l, e, R, s, m, args, below, meth, c, A, D, nL, Q⟩ := E
  obtain ⟨rfl, rfl, rfl, rfl, hx, hb, hml, hown, hts, hK, hO, hA, hZ⟩ := C
  subst hw
  intro H locs ls hP hD hS hl
  have hin := zI_in h0 h1 hN
  have hlt : (zI i).toNatClampNeg < N := Nat.not_le.mp fun q => hin (Or.inr q)
  have hi0 : ¬ zI i < 0 := fun q => hin (Or.inl q)
  obtain ⟨comp, cA, kA, hcomp, -, hkA, hkind, hnm⟩ := arrayOverA_spec (va_AOA.use (A := args) hO)
  cases hnm.symm.trans (hK.2 1 _ rfl).2
  cases hcomp.symm.trans (hK.2 0 _ rfl).2
  obtain ⟨-, kI, hkI, -⟩ := (hK.2 0 _ rfl).1 0 (fun _ => .null)
  have hcl0 : (vp_cell cI x).cls = cI := by
    obtain ⟨n, f | f | f | f | f⟩ := x <;> rfl
  have hvm0 : (vp_cell cI x).vm = .none := by
    obtain ⟨n, f | f | f | f | f⟩ := x <;> rfl
  refine W.aast hx hb (hP q0 _ ha) (fun q h => by cases h) (fun h => by cases h) hkA hkind rfl hkI ⟨hi0, by show _ < (arrV _ _ _).slots.size; rw [arrV_size]; exact hlt⟩ (hP q1 _ hv) (fun q h => by rw [hvm0] at h; cases h) (by rw [hcl0]; exact hkI) (by rw [hcl0]; exact va_asg _ _) rfl rfl hd fun H1 e z oq => ?_
  rw [zI_cl h0 h1 hN] at e
  refine K H1 _ ls (hP.set hD ha ?_ oq) (hD.set ha) (hS.put z oq (hD.2 q0 _ ha)) hl
  show H1[a]? = some (vp_cell _ _)
  rw [e]
  rw [vp_cell_q, vp_cell_q, arrV_store]
  congr 2
  funext q
  by_cases hq : q = i.toNat
  · subst hq
    simp [updV, va_up, va_rf]
  · simp [updV, va_up, hq]
/-- what a clone asks for -/
def gCl (own : String) (ix : Nat) (ad : String) : Prop := Cond.methodLink own ix ⟨ad, "clone", "()Ljava/lang/Object;"⟩ ∈ LW ∧ Cond.sameMethod ad "java/lang/Object" "clone" "()Ljava/lang/Object;" ∈ LW ∧ Cond.native ⟨"java/lang/Object", "clone", "()Ljava/lang/Object;"⟩ ∈ LW ∧ Cond.instanceMethod ⟨"java/lang/Object", "clone", "()Ljava/lang/Object;"⟩ ∈ LW ∧ Cond.selects ad ⟨ad, "clone", "()Ljava/lang/Object;"⟩ ⟨"java/lang/Object", "clone", "()Ljava/lang/Object;"⟩ ∈ LW ∧ Cond.castable ad "java/lang/Cloneable" ∈ NG
theorem g_cloneI {ix a N : Nat} {f : Nat → Int} (C : gC E l R D nL own cc cI cG cJ) (hc : gCl own ix "[I") (q0 : Nat) (ha : w[q0]? = some (a, .inl (cI, N, .inl (zA f)))) (hroom : (st.map fun v => v.category).sum ≤ 8) (hR : 1 ≤ R.frames ∧ 22 ≤ R.locals ∧ k + 1 ≤ R.cells ∧ n + N ≤ R.slots) (hd : decode cc pc = .ok (.invokevirtual ix, 3)) (K : ∀ q : Nat, gW E (k + 1) (n + N) (w ++ [(q, .inl (cI, N, .inl (zA f)))]) (pc + 3) L (.ref q :: st)) : gW E k n w pc L (.ref a :: st) := by
  obtain ⟨p, l, e, R, s, m, args, below, meth, c, A, D, nL, Q⟩ := E
  obtain ⟨rfl, rfl, rfl, rfl, hx, hb, hml, hown, hts, hK, hO, hA, hZ⟩ := C
  obtain ⟨f1, f2, f3, f4, f5, f6⟩ := hc
  intro H locs ls hP hD hS hl
  exact va_clone (ty := .int) hx hb (hml.trans hl.1.symm) hown (hts _ f1) (hts _ f2) (hts _ f3) (hts _ f4) (hts _ f5) (hZ.2.2.1 _ f6) hK hP hD hS hA q0 0 ha rfl (hK.2 0 _ rfl).2 (va_fit (fun _ _ => rfl)) hR.1 (by omega) hR.2.2.1 hR.2.2.2 hd (fun q H1 hK1 hP1 hD1 hS1 => K q H1 locs ls hP1 hD1 hS1 hl)
theorem g_cloneG {ix a N : Nat} {f : Nat → Option Nat} (C : gC E l R D nL own cc cI cG cJ) (hc : gCl own ix "[[I") (q0 : Nat) (ha : w[q0]? = some (a, .inl (cG, N, .inr (.inr (.inr (.inr f)))))) (hroom : (st.map fun v => v.category).sum ≤ 8) (hR : 1 ≤ R.frames ∧ 22 ≤ R.locals ∧ k + 1 ≤ R.cells ∧ n + N ≤ R.slots) (hd : decode cc pc = .ok (.invokevirtual ix, 3)) (K : ∀ q : Nat, gW E (k + 1) (n + N) (w ++ [(q, .inl (cG, N, .inr (.inr (.inr (.inr f)))))]) (pc + 3) L (.ref q :: st)) : gW E k n w pc L (.ref a :: st) := by
  obtain ⟨p, l, e, R, s, m, args, below, meth, c, A, D, nL, Q⟩ := E
  obtain ⟨rfl, rfl, rfl, rfl, hx, hb, hml, hown, hts, hK, hO, hA, hZ⟩ := C
  obtain ⟨f1, f2, f3, f4, f5, f6⟩ := hc
  intro H locs ls hP hD hS hl
  exact va_clone (ty := .array .int) hx hb (hml.trans hl.1.symm) hown (hts _ f1) (hts _ f2) (hts _ f3) (hts _ f4) (hts _ f5) (hZ.2.2.1 _ f6) hK hP hD hS hA q0 1 ha rfl (hK.2 1 _ rfl).2 (va_fit (fun i _ => by cases f i <;> rfl)) hR.1 (by omega) hR.2.2.1 hR.2.2.2 hd (fun q H1 hK1 hP1 hD1 hS1 => K q H1 locs ls hP1 hD1 hS1 hl)
theorem g_castI {ix a : Nat} {x : vp_A} (C : gC E l R D nL own cc cI cG cJ) (f : Cond.classLink own ix "[I" ∈ LW) (q0 : Nat) (ha : w[q0]? = some (a, .inl (cI, x))) (hd : decode cc pc = .ok (.checkcast ix, 3)) (K : gW E k n w (pc + 3) L (.ref a :: st)) : gW E k n w pc L (.ref a :: st) := by
  obtain ⟨p, l, e, R, s, m, args, below, meth, c, A, D, nL, Q⟩ := E
  obtain ⟨rfl, rfl, rfl, rfl, hx, hb, hml, hown, hts, hK, hO, hA, hZ⟩ := C
  intro H locs ls hP hD hS hl
  exact va_castA hx hb hown (hts _ f) hP q0 ha (hK.2 0 _ rfl).2 hd (K H locs ls hP hD hS hl)
theorem g_castG {ix a : Nat} {x : vp_A} (C : gC E l R D nL own cc cI cG cJ) (f : Cond.classLink own ix "[[I" ∈ LW) (q0 : Nat) (ha : w[q0]? = some (a, .inl (cG, x))) (hd : decode cc pc = .ok (.checkcast ix, 3)) (K : gW E k n w (pc + 3) L (.ref a :: st)) : gW E k n w pc L (.ref a :: st) := by
  obtain ⟨p, l, e, R, s, m, args, below, meth, c, A, D, nL, Q⟩ := E
  obtain ⟨rfl, rfl, rfl, rfl, hx, hb, hml, hown, hts, hK, hO, hA, hZ⟩ := C
  intro H locs ls hP hD hS hl
  exact va_castA hx hb hown (hts _ f) hP q0 ha (hK.2 1 _ rfl).2 hd (K H locs ls hP hD hS hl)
theorem g_alenG {a N : Nat} {f : Nat → Option Nat} (C : gC E l R D nL own cc cI cG cJ) (q0 : Nat) (ha : w[q0]? = some (a, .inl (cG, N, .inr (.inr (.inr (.inr f)))))) (hd : decode cc pc = .ok (.arraylength, 1)) (K : gW E k n w (pc + 1) L (.int (zI N) :: st)) : gW E k n w pc L (.ref a :: st) := by
  obtain ⟨p, l, e, R, s, m, args, below, meth, c, A, D, nL, Q⟩ := E
  obtain ⟨rfl, rfl, rfl, rfl, hx, hb, hml, hown, hts, hK, hO, hA, hZ⟩ := C
  intro H locs ls hP hD hS hl
  exact va_alen hx hb hK hP q0 1 ha rfl Int32.ofInt_eq_ofNat.symm hd (K H locs ls hP hD hS hl)
end GK9
/-- a reference that comes back -/
def gA (P : Value → va_W → Prop) : Option Value → va_W → Prop := fun v w => ∃ z : Value, v = some z ∧ P z w
def gRA (E : gEnv) (cc : ByteArray) (rm : Room) (P : Value → va_W → Prop) : Prop := ∀ (k n : Nat) (w : va_W) (pc : Nat) (L : List (Nat × Value)) (x : Value), k ≤ rm.cells → n ≤ rm.slots → decode cc pc = .ok (.areturn, 1) → (x = .null ∨ ∃ a, x = .ref a) → P x w → gW E k n w pc L [x]
theorem gMet_A {l : Launch} {y : MethodName} {own : String} {b : ByteArray} {nL : Nat} {rt : FieldType} {rm : Room} {D : va_G} {cI cG cJ : ClassId} {as : List Value} {w : va_W} {P : Value → va_W → Prop} (hrt : (∃ n, rt = .object n) ∨ ∃ t, rt = .array t) (hy : plainName y.cls = true) (ho : y.cls = own) (hlen : (lg_sl as).length ≤ nL) (body : ∀ E : gEnv, gC E l rm D nL own b cI cG cJ → gRA E b rm P → gW E 0 0 w 0 (lv_args 0 as) []) : gMet l y b nL (some rt) rm D cI cG cJ as w (gA P) := by
  subst ho
  intro sz
  refine Met.ofW (cc := b) (maxL := nL) (ret := some rt) hy rfl ?_
  intro p e s m args below meth c s₁ B hml hv
  obtain ⟨rfl, hsz, hP, hK, hO, hD, hZ⟩ := hv
  have hts := atoms_spec (ws := gWs y b nL (some rt)) B.pre
  have hx := B.exec
  have hb := B.bytes
  have hr := B.returns
  have hlocks := B.notSynchronized
  subst hsz
  have hD := hD.self (sz := s.heap.size)
  rw [lg_entry_eq]
  refine body (p, l, e, (headSpec (gWs y b nL (some rt)) rm).room, s, m, as.toArray, below, meth, c, va_A w s.heap.size, D, nL, MQ below (gPost D w s.heap.size (gA P)) as.toArray s rm.cells rm.slots (va_A w s.heap.size)) ⟨rfl, rfl, rfl, rfl, hx, hb, hml, findClass_of_methodNamed B.named, fun w h => hts w (List.mem_cons_of_mem _ h), hK, hO, fun q h => Or.inr h, hZ⟩ ?_ s.heap [] _ hP hD va_S.rf (lv_entry as hlen)
  intro k n w' pc L x hk hn hd hxr hpost H locs ls hP hD hS hl
  refine W.widen hk hn ?_
  exact W.aret hx hb hr hrt hxr (fun t ht hW => ⟨⟨_, w', rfl, ⟨x, rfl, hpost⟩, by rw [ht]; exact hP, hD⟩, hS.F ht⟩) hS.2.2 hd
