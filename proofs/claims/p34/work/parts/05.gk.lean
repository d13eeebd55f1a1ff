/-! GK: walks over worlds; heap, locals and frame facts are kept inside gW, numbers are integers under zI -/
abbrev LW : List Cond := wsL_law
theorem LW_good : LW.all goodWord = true := by decide +kernel
def T3 (cI cG cJ : ClassId) : List (ClassId × FieldType) := [(cI, .int), (cG, .array .int), (cJ, .int)]
def zI (z : Int) : Int32 := Int32.ofInt z
def zA (g : Nat → Int) : Nat → Int32 := fun j => zI (g j)
def zU (g : Nat → Int) (k : Nat) (x : Int) : Nat → Int := fun j => if j = k then x else g j
def zr (a : Int) : Prop := -2147483648 ≤ a ∧ a ≤ 2147483647
theorem zA_upd (g : Nat → Int) (k : Nat) (x : Int) : upd (zA g) k (zI x) = zA (zU g k x) := by
  funext j
  simp only [upd, zA, zU]
  split <;> rfl
theorem zI_add (a b : Int) : zI a + zI b = zI (a + b) := (Int32.ofInt_add a b).symm
theorem zI_sub (a b : Int) : zI a - zI b = zI (a - b) := (Int32.ofInt_sub a b).symm
theorem zI_mul (a b : Int) : zI a * zI b = zI (a * b) := (Int32.ofInt_mul a b).symm
theorem zI_toInt {a : Int} (h : zr a) : (zI a).toInt = a := Int32.toInt_ofInt_of_le h.1 (by have := h.2; omega)
theorem zI_of (x : Int32) : zI x.toInt = x := Int32.ofInt_toInt x
theorem zr_of (x : Int32) : zr x.toInt := ⟨Int32.le_toInt x, by have := Int32.toInt_lt x; omega⟩
theorem zI_ex (x : Int32) : ∃ z : Int, zr z ∧ x = zI z := ⟨x.toInt, zr_of x, (zI_of x).symm⟩
theorem zr0 : zr 0 := ⟨by decide, by decide⟩
theorem zI_lt {a b : Int} (ha : zr a) (hb : zr b) : zI a < zI b ↔ a < b := by rw [Int32.lt_iff_toInt_lt, zI_toInt ha, zI_toInt hb]
theorem zI_le {a b : Int} (ha : zr a) (hb : zr b) : zI a ≤ zI b ↔ a ≤ b := by rw [Int32.le_iff_toInt_le, zI_toInt ha, zI_toInt hb]
theorem zI_eq {a b : Int} (ha : zr a) (hb : zr b) : zI a = zI b ↔ a = b := by rw [← Int32.toInt_inj, zI_toInt ha, zI_toInt hb]
theorem zI_cl {i : Int} {n : Nat} (h0 : 0 ≤ i) (h1 : i < n) (hn : n ≤ 2000) : (zI i).toNatClampNeg = i.toNat := Int32.toNatClampNeg_ofInt_of_le (by omega) (by omega)
theorem zI_in {i : Int} {n : Nat} (h0 : 0 ≤ i) (h1 : i < n) (hn : n ≤ 2000) : vp_in (zI i) n := by
  have hi : zr i := ⟨by omega, by omega⟩
  rintro (h | h)
  · exact absurd ((zI_lt hi zr0).mp h) (by omega)
  · rw [zI_cl h0 h1 hn] at h
    omega
theorem zI_min {a b : Int} (ha : zr a) (hb : zr b) : (if zI b < zI a then zI b else zI a) = zI (min a b) := by
  by_cases h : b < a
  · rw [if_pos ((zI_lt hb ha).mpr h), Int.min_eq_right (by omega)]
  · rw [if_neg (fun q => h ((zI_lt hb ha).mp q)), Int.min_eq_left (by omega)]
/-- words of throws and catches that no method's own list can hold: they stand as facts of the state -/
def NG : List Cond := [.castable "java/lang/IllegalArgumentException" "java/lang/IllegalArgumentException", .castable "java/lang/IllegalStateException" "java/lang/IllegalStateException", .castable "java/lang/IndexOutOfBoundsException" "java/lang/IndexOutOfBoundsException", .declares (Bundle.init0 "java/lang/RuntimeException"), .declares (Bundle.init0 "java/lang/Exception"), .declares (Bundle.init0 Bundle.tN), .methodLinkNest RX3 11 yX1_init RX3, .methodLinkNest RX3 21 yX2_init RX3, .methodLinkNest RX3 28 yX0_init RX3, .methodLinkNest RL 62 yX4_init RL, .castable "[I" "java/lang/Cloneable", .castable "[[I" "java/lang/Cloneable"]
def NC : List (String × String) := [("java/lang/IllegalArgumentException", "java/lang/IllegalStateException"), ("java/lang/IndexOutOfBoundsException", "java/lang/IllegalStateException")]
theorem NG_on : ∀ w ∈ NG, w.onTables = true := by decide +kernel
theorem NG_warm {s U : State} (hW : s.WarmedH U.vm) (h : ∀ w ∈ NG, va_Nw w s) : ∀ w ∈ NG, va_Nw w U := by
  intro w hw
  have h1 := h w hw
  simp only [NG, List.mem_cons, List.not_mem_nil, or_false] at hw
  rcases hw with rfl | rfl | rfl | rfl | rfl | rfl | rfl | rfl | rfl | rfl | rfl | rfl
  · exact va_Nw.warmC hW h1
  · exact va_Nw.warmC hW h1
  · exact va_Nw.warmC hW h1
  · exact va_Nw.warmD hW h1
  · exact va_Nw.warmD hW h1
  · exact va_Nw.warmD hW h1
  · exact va_Nw.warmM hW h1
  · exact va_Nw.warmM hW h1
  · exact va_Nw.warmM hW h1
  · exact va_Nw.warmM hW h1
  · exact va_Nw.warmC hW h1
  · exact va_Nw.warmC hW h1
/-- the facts that throws and catches ask for -/
def gZ (A : Nat → Prop) (s : State) : Prop := vx_Zq Bundle.tN "UNASSIGNED_STACK" Bundle.steD A s s.heap ∧ vx_Zq Bundle.tN "SUPPRESSED_SENTINEL" Bundle.listD A s s.heap ∧ (∀ w ∈ NG, va_Nw w s) ∧ ∀ q ∈ NC, va_Nc q.1 q.2 s
/-- what a walk stands in: machine, launch, room, start, frame below, method, code, the cells it may write, the classes, locals, its goal -/
abbrev gEnv : Type := Program × Launch × Env × Room × State × MethodId × Array Value × List Frame × Method × Code × (Nat → Prop) × va_G × Nat × (State → Prop)
def gW (E : gEnv) (k n : Nat) (w : va_W) (pc : Nat) (L : List (Nat × Value)) (st : List Value) : Prop := match E with
  | (p, l, e, R, s, m, args, below, meth, c, A, D, nL, Q) => ∀ (H : Heap) (locs : List Loc) (ls : Array Slot), va_P D vwCl w H → va_D A w → va_S A s.heap H locs → lv_has ls nL L → W p l e R s m args below meth c H locs k n Q (F0 m pc ls st)
/-- the same with q thrown over the frame -/
def gWx (E : gEnv) (k n : Nat) (w : va_W) (pc : Nat) (L : List (Nat × Value)) (nm : String) : Prop := match E with
  | (p, l, e, R, s, m, args, below, meth, c, A, D, nL, Q) => ∀ (H : Heap) (locs : List Loc) (ls : Array Slot) (q : Nat) (ce : Cell) (st : List Value), va_P D vwCl w H → va_D A w → va_S A s.heap H locs → lv_has ls nL L → H[q]? = some ce → ce.vm = .none → s.vm.findClass nm = some ce.cls → vx_W p l e R s m args below meth c H locs k n Q (F0 m pc ls st) q
def gC (E : gEnv) (l : Launch) (R : Room) (D : va_G) (nL : Nat) (own : String) (cc : ByteArray) (cI cG cJ : ClassId) : Prop := match E with
  | (p, l', _, R', s, m, args, _, _, c, A, D', nL', _) => l' = l ∧ R' = R ∧ D' = D ∧ nL' = nL ∧ p.tables.exec = Jvm.exec ∧ c.code = cc ∧ c.maxLocals = nL ∧ s.vm.findClass own = some m.cls ∧ (∀ w ∈ LW, w.before args s = true) ∧ va_K D vwCl (T3 cI cG cJ) s ∧ va_AOA .int s ∧ (∀ q, s.heap.size ≤ q → A q) ∧ gZ A s
section GK1
variable {E : gEnv} {l : Launch} {R : Room} {D : va_G} {nL : Nat} {own : String} {cc : ByteArray} {cI cG cJ : ClassId} {k n : Nat} {w : va_W} {pc : Nat} {L : List (Nat × Value)} {st : List Value}
theorem g_widen {k' n' : Nat} (h1 : k ≤ k') (h2 : n ≤ n') (K : gW E k' n' w pc L st) : gW E k n w pc L st := by
  obtain ⟨p, l, e, R, s, m, args, below, meth, c, A, D, nL, Q⟩ := E
  intro H locs ls hP hD hS hl
  exact W.widen h1 h2 (K H locs ls hP hD hS hl)
/-- other locals, fewer or in another order -/
theorem g_loc {L' : List (Nat × Value)} (ks : List Nat) (h : lv_pick L ks = L') (K : gW E k n w pc L' st) : gW E k n w pc L st := by
  obtain ⟨p, l, e, R, s, m, args, below, meth, c, A, D, nL, Q⟩ := E
  intro H locs ls hP hD hS hl
  exact K H locs ls hP hD hS (lv_sub hl ks h)
/-- the cells in another order, or fewer -/
theorem g_perm {w' : va_W} (ks : List Nat) (hn : va_nd ks = true) (h : ks.map (fun i => w[i]?) = w'.map some) (K : gW E k n w' pc L st) : gW E k n w pc L st := by
  obtain ⟨p, l, e, R, s, m, args, below, meth, c, A, D, nL, Q⟩ := E
  intro H locs ls hP hD hS hl
  refine K H locs ls ?_ (hD.sub ks hn h) hS hl
  intro j q hj
  have h1 : (ks.map (fun i => w[i]?))[j]? = some (some q) := by rw [h, List.getElem?_map, hj]; rfl
  rw [List.getElem?_map] at h1
  cases hi : ks[j]? with
  | none => rw [hi] at h1; cases h1
  | some i => rw [hi] at h1; exact hP i q (Option.some.inj h1)
theorem g_eqw {w' : va_W} (h : w = w') (K : gW E k n w' pc L st) : gW E k n w pc L st := h ▸ K
theorem g_eqs {st' : List Value} (h : st = st') (K : gW E k n w pc L st') : gW E k n w pc L st := h ▸ K
theorem g_iconst {i : Int} (C : gC E l R D nL own cc cI cG cJ) (hd : decode cc pc = .ok (.iconst i, 1)) (K : gW E k n w (pc + 1) L (.int (zI i) :: st)) : gW E k n w pc L st := by
  obtain ⟨p, l, e, R, s, m, args, below, meth, c, A, D, nL, Q⟩ := E
  obtain ⟨rfl, rfl, rfl, rfl, hx, hb, hml, hown, hts, hK, hO, hA, hZ⟩ := C
  intro H locs ls hP hD hS hl
  exact lv_iconst hx hb hd rfl (K H locs ls hP hD hS hl)
theorem g_bipush {i : Int} (C : gC E l R D nL own cc cI cG cJ) (hd : decode cc pc = .ok (.bipush i, 2)) (hv : (Int8.ofInt i).toInt32 = zI i) (K : gW E k n w (pc + 2) L (.int (zI i) :: st)) : gW E k n w pc L st := by
  obtain ⟨p, l, e, R, s, m, args, below, meth, c, A, D, nL, Q⟩ := E
  obtain ⟨rfl, rfl, rfl, rfl, hx, hb, hml, hown, hts, hK, hO, hA, hZ⟩ := C
  intro H locs ls hP hD hS hl
  exact lv_bipush hx hb hd hv (K H locs ls hP hD hS hl)
theorem g_sipush {i : Int} (C : gC E l R D nL own cc cI cG cJ) (hd : decode cc pc = .ok (.sipush i, 3)) (hv : (Int16.ofInt i).toInt32 = zI i) (K : gW E k n w (pc + 3) L (.int (zI i) :: st)) : gW E k n w pc L st := by
  obtain ⟨p, l, e, R, s, m, args, below, meth, c, A, D, nL, Q⟩ := E
  obtain ⟨rfl, rfl, rfl, rfl, hx, hb, hml, hown, hts, hK, hO, hA, hZ⟩ := C
  intro H locs ls hP hD hS hl
  exact lv_sipush hx hb hd hv (K H locs ls hP hD hS hl)
theorem g_lconst {i : Fin 2} {v : Int64} (C : gC E l R D nL own cc cI cG cJ) (hd : decode cc pc = .ok (.lconst i, 1)) (hv : Int64.ofNat i = v) (K : gW E k n w (pc + 1) L (.long v :: st)) : gW E k n w pc L st := by
  obtain ⟨p, l, e, R, s, m, args, below, meth, c, A, D, nL, Q⟩ := E
  obtain ⟨rfl, rfl, rfl, rfl, hx, hb, hml, hown, hts, hK, hO, hA, hZ⟩ := C
  intro H locs ls hP hD hS hl
  exact lv_lconst hx hb hd hv (K H locs ls hP hD hS hl)
theorem g_iload_n {i : Fin 4} {x : Int32} (C : gC E l R D nL own cc cI cG cJ) (hd : decode cc pc = .ok (.iload_n i, 1)) (j : Nat) (hj : L[j]? = some ((i : Nat), .int x)) (K : gW E k n w (pc + 1) L (.int x :: st)) : gW E k n w pc L st := by
  obtain ⟨p, l, e, R, s, m, args, below, meth, c, A, D, nL, Q⟩ := E
  obtain ⟨rfl, rfl, rfl, rfl, hx, hb, hml, hown, hts, hK, hO, hA, hZ⟩ := C
  intro H locs ls hP hD hS hl
  exact lv_iload_n hx hb hd rfl (lv_at hl j hj) (K H locs ls hP hD hS hl)
theorem g_iload {i : Nat} {x : Int32} (C : gC E l R D nL own cc cI cG cJ) (hd : decode cc pc = .ok (.iload i, 2)) (j : Nat) (hj : L[j]? = some (i, .int x)) (K : gW E k n w (pc + 2) L (.int x :: st)) : gW E k n w pc L st := by
  obtain ⟨p, l, e, R, s, m, args, below, meth, c, A, D, nL, Q⟩ := E
  obtain ⟨rfl, rfl, rfl, rfl, hx, hb, hml, hown, hts, hK, hO, hA, hZ⟩ := C
  intro H locs ls hP hD hS hl
  exact lv_iload hx hb hd (lv_at hl j hj) (K H locs ls hP hD hS hl)
theorem g_aload_n {i : Fin 4} {x : Nat} (C : gC E l R D nL own cc cI cG cJ) (hd : decode cc pc = .ok (.aload_n i, 1)) (j : Nat) (hj : L[j]? = some ((i : Nat), .ref x)) (K : gW E k n w (pc + 1) L (.ref x :: st)) : gW E k n w pc L st := by
  obtain ⟨p, l, e, R, s, m, args, below, meth, c, A, D, nL, Q⟩ := E
  obtain ⟨rfl, rfl, rfl, rfl, hx, hb, hml, hown, hts, hK, hO, hA, hZ⟩ := C
  intro H locs ls hP hD hS hl
  exact lv_aload_n hx hb hd rfl (lv_at hl j hj) (K H locs ls hP hD hS hl)
theorem g_aload {i : Nat} {x : Nat} (C : gC E l R D nL own cc cI cG cJ) (hd : decode cc pc = .ok (.aload i, 2)) (j : Nat) (hj : L[j]? = some (i, .ref x)) (K : gW E k n w (pc + 2) L (.ref x :: st)) : gW E k n w pc L st := by
  obtain ⟨p, l, e, R, s, m, args, below, meth, c, A, D, nL, Q⟩ := E
  obtain ⟨rfl, rfl, rfl, rfl, hx, hb, hml, hown, hts, hK, hO, hA, hZ⟩ := C
  intro H locs ls hP hD hS hl
  exact lv_aload hx hb hd (lv_at hl j hj) (K H locs ls hP hD hS hl)
theorem g_lload_n {i : Fin 4} {x : Int64} (C : gC E l R D nL own cc cI cG cJ) (hd : decode cc pc = .ok (.lload_n i, 1)) (j : Nat) (hj : L[j]? = some ((i : Nat), .long x)) (K : gW E k n w (pc + 1) L (.long x :: st)) : gW E k n w pc L st := by
  obtain ⟨p, l, e, R, s, m, args, below, meth, c, A, D, nL, Q⟩ := E
  obtain ⟨rfl, rfl, rfl, rfl, hx, hb, hml, hown, hts, hK, hO, hA, hZ⟩ := C
  intro H locs ls hP hD hS hl
  exact lv_lload_n hx hb hd rfl (lv_at hl j hj) (K H locs ls hP hD hS hl)
theorem g_lload {i : Nat} {x : Int64} (C : gC E l R D nL own cc cI cG cJ) (hd : decode cc pc = .ok (.lload i, 2)) (j : Nat) (hj : L[j]? = some (i, .long x)) (K : gW E k n w (pc + 2) L (.long x :: st)) : gW E k n w pc L st := by
  obtain ⟨p, l, e, R, s, m, args, below, meth, c, A, D, nL, Q⟩ := E
  obtain ⟨rfl, rfl, rfl, rfl, hx, hb, hml, hown, hts, hK, hO, hA, hZ⟩ := C
  intro H locs ls hP hD hS hl
  exact lv_lload hx hb hd (lv_at hl j hj) (K H locs ls hP hD hS hl)
theorem g_dload {i : Nat} {x : UInt64} (C : gC E l R D nL own cc cI cG cJ) (hd : decode cc pc = .ok (.dload i, 2)) (j : Nat) (hj : L[j]? = some (i, .double x)) (K : gW E k n w (pc + 2) L (.double x :: st)) : gW E k n w pc L st := by
  obtain ⟨p, l, e, R, s, m, args, below, meth, c, A, D, nL, Q⟩ := E
  obtain ⟨rfl, rfl, rfl, rfl, hx, hb, hml, hown, hts, hK, hO, hA, hZ⟩ := C
  intro H locs ls hP hD hS hl
  exact lv_dload hx hb hd (lv_at hl j hj) (K H locs ls hP hD hS hl)
theorem g_istore_n {i : Fin 4} {x : Int32} {L' : List (Nat × Value)} (C : gC E l R D nL own cc cI cG cJ) (hd : decode cc pc = .ok (.istore_n i, 1)) (hn : (i : Nat) < nL) (hl' : ((i : Nat), Value.int x) :: L.filter (fun q => !(q.1 == (i : Nat)) && !(q.1 + 1 == (i : Nat) && q.2.category == 2)) = L') (K : gW E k n w (pc + 1) L' st) : gW E k n w pc L (.int x :: st) := by
  obtain ⟨p, l, e, R, s, m, args, below, meth, c, A, D, nL, Q⟩ := E
  obtain ⟨rfl, rfl, rfl, rfl, hx, hb, hml, hown, hts, hK, hO, hA, hZ⟩ := C
  intro H locs ls hP hD hS hl
  exact lv_istore_n hx hb hd rfl hl hn hl' (fun ls' h => K H locs ls' hP hD hS h)
theorem g_istore {i : Nat} {x : Int32} {L' : List (Nat × Value)} (C : gC E l R D nL own cc cI cG cJ) (hd : decode cc pc = .ok (.istore i, 2)) (hn : i < nL) (hl' : (i, Value.int x) :: L.filter (fun q => !(q.1 == i) && !(q.1 + 1 == i && q.2.category == 2)) = L') (K : gW E k n w (pc + 2) L' st) : gW E k n w pc L (.int x :: st) := by
  obtain ⟨p, l, e, R, s, m, args, below, meth, c, A, D, nL, Q⟩ := E
  obtain ⟨rfl, rfl, rfl, rfl, hx, hb, hml, hown, hts, hK, hO, hA, hZ⟩ := C
  intro H locs ls hP hD hS hl
  exact lv_istore hx hb hd hl hn hl' (fun ls' h => K H locs ls' hP hD hS h)
theorem g_astore_n {i : Fin 4} {x : Nat} {L' : List (Nat × Value)} (C : gC E l R D nL own cc cI cG cJ) (hd : decode cc pc = .ok (.astore_n i, 1)) (hn : (i : Nat) < nL) (hl' : ((i : Nat), Value.ref x) :: L.filter (fun q => !(q.1 == (i : Nat)) && !(q.1 + 1 == (i : Nat) && q.2.category == 2)) = L') (K : gW E k n w (pc + 1) L' st) : gW E k n w pc L (.ref x :: st) := by
  obtain ⟨p, l, e, R, s, m, args, below, meth, c, A, D, nL, Q⟩ := E
  obtain ⟨rfl, rfl, rfl, rfl, hx, hb, hml, hown, hts, hK, hO, hA, hZ⟩ := C
  intro H locs ls hP hD hS hl
  exact lv_astore_n hx hb hd rfl hl hn hl' (fun ls' h => K H locs ls' hP hD hS h)
theorem g_astore {i : Nat} {x : Nat} {L' : List (Nat × Value)} (C : gC E l R D nL own cc cI cG cJ) (hd : decode cc pc = .ok (.astore i, 2)) (hn : i < nL) (hl' : (i, Value.ref x) :: L.filter (fun q => !(q.1 == i) && !(q.1 + 1 == i && q.2.category == 2)) = L') (K : gW E k n w (pc + 2) L' st) : gW E k n w pc L (.ref x :: st) := by
  obtain ⟨p, l, e, R, s, m, args, below, meth, c, A, D, nL, Q⟩ := E
  obtain ⟨rfl, rfl, rfl, rfl, hx, hb, hml, hown, hts, hK, hO, hA, hZ⟩ := C
  intro H locs ls hP hD hS hl
  exact lv_astore hx hb hd hl hn hl' (fun ls' h => K H locs ls' hP hD hS h)
theorem g_lstore_n {i : Fin 4} {x : Int64} {L' : List (Nat × Value)} (C : gC E l R D nL own cc cI cG cJ) (hd : decode cc pc = .ok (.lstore_n i, 1)) (hn : (i : Nat) + 1 < nL) (hl' : ((i : Nat), Value.long x) :: L.filter (fun q => !(q.1 == (i : Nat)) && (!(q.1 == (i : Nat) + 1) && !(q.1 + 1 == (i : Nat) && q.2.category == 2))) = L') (K : gW E k n w (pc + 1) L' st) : gW E k n w pc L (.long x :: st) := by
  obtain ⟨p, l, e, R, s, m, args, below, meth, c, A, D, nL, Q⟩ := E
  obtain ⟨rfl, rfl, rfl, rfl, hx, hb, hml, hown, hts, hK, hO, hA, hZ⟩ := C
  intro H locs ls hP hD hS hl
  exact lv_lstore_n hx hb hd rfl hl hn hl' (fun ls' h => K H locs ls' hP hD hS h)
theorem g_lstore {i : Nat} {x : Int64} {L' : List (Nat × Value)} (C : gC E l R D nL own cc cI cG cJ) (hd : decode cc pc = .ok (.lstore i, 2)) (hn : i + 1 < nL) (hl' : (i, Value.long x) :: L.filter (fun q => !(q.1 == i) && (!(q.1 == i + 1) && !(q.1 + 1 == i && q.2.category == 2))) = L') (K : gW E k n w (pc + 2) L' st) : gW E k n w pc L (.long x :: st) := by
  obtain ⟨p, l, e, R, s, m, args, below, meth, c, A, D, nL, Q⟩ := E
  obtain ⟨rfl, rfl, rfl, rfl, hx, hb, hml, hown, hts, hK, hO, hA, hZ⟩ := C
  intro H locs ls hP hD hS hl
  exact lv_lstore hx hb hd hl hn hl' (fun ls' h => K H locs ls' hP hD hS h)
theorem g_dstore {i : Nat} {x : UInt64} {L' : List (Nat × Value)} (C : gC E l R D nL own cc cI cG cJ) (hd : decode cc pc = .ok (.dstore i, 2)) (hn : i + 1 < nL) (hl' : (i, Value.double x) :: L.filter (fun q => !(q.1 == i) && (!(q.1 == i + 1) && !(q.1 + 1 == i && q.2.category == 2))) = L') (K : gW E k n w (pc + 2) L' st) : gW E k n w pc L (.double x :: st) := by
  obtain ⟨p, l, e, R, s, m, args, below, meth, c, A, D, nL, Q⟩ := E
  obtain ⟨rfl, rfl, rfl, rfl, hx, hb, hml, hown, hts, hK, hO, hA, hZ⟩ := C
  intro H locs ls hP hD hS hl
  exact lv_dstore hx hb hd hl hn hl' (fun ls' h => K H locs ls' hP hD hS h)
theorem g_iinc {i : Nat} {d x : Int} {L' : List (Nat × Value)} (C : gC E l R D nL own cc cI cG cJ) (hd : decode cc pc = .ok (.iinc i d, 3)) (j : Nat) (hj : L[j]? = some (i, .int (zI x))) (hn : i < nL) (hl' : (i, Value.int (zI (x + d))) :: L.filter (fun q => !(q.1 == i) && !(q.1 + 1 == i && q.2.category == 2)) = L') (K : gW E k n w (pc + 3) L' st) : gW E k n w pc L st := by
  obtain ⟨p, l, e, R, s, m, args, below, meth, c, A, D, nL, Q⟩ := E
  obtain ⟨rfl, rfl, rfl, rfl, hx, hb, hml, hown, hts, hK, hO, hA, hZ⟩ := C
  intro H locs ls hP hD hS hl
  exact lv_iinc hx hb hd hl hj (zI_add x d) hn hl' (fun ls' h => K H locs ls' hP hD hS h)
theorem g_iadd {x y : Int} (C : gC E l R D nL own cc cI cG cJ) (hd : decode cc pc = .ok (.iadd, 1)) (K : gW E k n w (pc + 1) L (.int (zI (x + y)) :: st)) : gW E k n w pc L (.int (zI y) :: .int (zI x) :: st) := by
  obtain ⟨p, l, e, R, s, m, args, below, meth, c, A, D, nL, Q⟩ := E
  obtain ⟨rfl, rfl, rfl, rfl, hx, hb, hml, hown, hts, hK, hO, hA, hZ⟩ := C
  intro H locs ls hP hD hS hl
  refine lv_iadd hx hb hd ?_
  rw [zI_add]
  exact K H locs ls hP hD hS hl
theorem g_isub {x y : Int} (C : gC E l R D nL own cc cI cG cJ) (hd : decode cc pc = .ok (.isub, 1)) (K : gW E k n w (pc + 1) L (.int (zI (x - y)) :: st)) : gW E k n w pc L (.int (zI y) :: .int (zI x) :: st) := by
  obtain ⟨p, l, e, R, s, m, args, below, meth, c, A, D, nL, Q⟩ := E
  obtain ⟨rfl, rfl, rfl, rfl, hx, hb, hml, hown, hts, hK, hO, hA, hZ⟩ := C
  intro H locs ls hP hD hS hl
  refine lv_isub hx hb hd ?_
  rw [zI_sub]
  exact K H locs ls hP hD hS hl
theorem g_imul {x y : Int} (C : gC E l R D nL own cc cI cG cJ) (hd : decode cc pc = .ok (.imul, 1)) (K : gW E k n w (pc + 1) L (.int (zI (x * y)) :: st)) : gW E k n w pc L (.int (zI y) :: .int (zI x) :: st) := by
  obtain ⟨p, l, e, R, s, m, args, below, meth, c, A, D, nL, Q⟩ := E
  obtain ⟨rfl, rfl, rfl, rfl, hx, hb, hml, hown, hts, hK, hO, hA, hZ⟩ := C
  intro H locs ls hP hD hS hl
  refine lv_imul hx hb hd ?_
  rw [zI_mul]
  exact K H locs ls hP hD hS hl
theorem g_iand {x y : Int32} (C : gC E l R D nL own cc cI cG cJ) (hd : decode cc pc = .ok (.iand, 1)) (K : gW E k n w (pc + 1) L (.int (x &&& y) :: st)) : gW E k n w pc L (.int y :: .int x :: st) := by
  obtain ⟨p, l, e, R, s, m, args, below, meth, c, A, D, nL, Q⟩ := E
  obtain ⟨rfl, rfl, rfl, rfl, hx, hb, hml, hown, hts, hK, hO, hA, hZ⟩ := C
  intro H locs ls hP hD hS hl
  exact lv_iand hx hb hd (K H locs ls hP hD hS hl)
theorem g_ladd {x y : Int64} (C : gC E l R D nL own cc cI cG cJ) (hd : decode cc pc = .ok (.ladd, 1)) (K : gW E k n w (pc + 1) L (.long (x + y) :: st)) : gW E k n w pc L (.long y :: .long x :: st) := by
  obtain ⟨p, l, e, R, s, m, args, below, meth, c, A, D, nL, Q⟩ := E
  obtain ⟨rfl, rfl, rfl, rfl, hx, hb, hml, hown, hts, hK, hO, hA, hZ⟩ := C
  intro H locs ls hP hD hS hl
  exact lv_ladd hx hb hd (K H locs ls hP hD hS hl)
theorem g_lmul {x y : Int64} (C : gC E l R D nL own cc cI cG cJ) (hd : decode cc pc = .ok (.lmul, 1)) (K : gW E k n w (pc + 1) L (.long (x * y) :: st)) : gW E k n w pc L (.long y :: .long x :: st) := by
  obtain ⟨p, l, e, R, s, m, args, below, meth, c, A, D, nL, Q⟩ := E
  obtain ⟨rfl, rfl, rfl, rfl, hx, hb, hml, hown, hts, hK, hO, hA, hZ⟩ := C
  intro H locs ls hP hD hS hl
  exact lv_lmul hx hb hd (K H locs ls hP hD hS hl)
theorem g_i2l {x : Int32} (C : gC E l R D nL own cc cI cG cJ) (hd : decode cc pc = .ok (.i2l, 1)) (K : gW E k n w (pc + 1) L (.long x.toInt64 :: st)) : gW E k n w pc L (.int x :: st) := by
  obtain ⟨p, l, e, R, s, m, args, below, meth, c, A, D, nL, Q⟩ := E
  obtain ⟨rfl, rfl, rfl, rfl, hx, hb, hml, hown, hts, hK, hO, hA, hZ⟩ := C
  intro H locs ls hP hD hS hl
  exact lv_i2l hx hb hd rfl (K H locs ls hP hD hS hl)
theorem g_i2d {x : Int32} (C : gC E l R D nL own cc cI cG cJ) (hd : decode cc pc = .ok (.i2d, 1)) (K : gW E k n w (pc + 1) L (.double (FP.i2d x) :: st)) : gW E k n w pc L (.int x :: st) := by
  obtain ⟨p, l, e, R, s, m, args, below, meth, c, A, D, nL, Q⟩ := E
  obtain ⟨rfl, rfl, rfl, rfl, hx, hb, hml, hown, hts, hK, hO, hA, hZ⟩ := C
  intro H locs ls hP hD hS hl
  exact lv_i2d hx hb hd (K H locs ls hP hD hS hl)
theorem g_dconst0 (C : gC E l R D nL own cc cI cG cJ) (hd : decode cc pc = .ok (.dconst 0, 1)) (K : gW E k n w (pc + 1) L (.double FP.dconst0 :: st)) : gW E k n w pc L st := by
  obtain ⟨p, l, e, R, s, m, args, below, meth, c, A, D, nL, Q⟩ := E
  obtain ⟨rfl, rfl, rfl, rfl, hx, hb, hml, hown, hts, hK, hO, hA, hZ⟩ := C
  intro H locs ls hP hD hS hl
  exact lv_dconst0 hx hb hd (K H locs ls hP hD hS hl)
theorem g_ddiv {x y : UInt64} (C : gC E l R D nL own cc cI cG cJ) (hd : decode cc pc = .ok (.ddiv, 1)) (hn : vf_n64 (FP.ddiv x y)) (K : gW E k n w (pc + 1) L (.double (FP.ddiv x y) :: st)) : gW E k n w pc L (.double y :: .double x :: st) := by
  obtain ⟨p, l, e, R, s, m, args, below, meth, c, A, D, nL, Q⟩ := E
  obtain ⟨rfl, rfl, rfl, rfl, hx, hb, hml, hown, hts, hK, hO, hA, hZ⟩ := C
  intro H locs ls hP hD hS hl
  exact lv_ddiv hx hb hd hn (K H locs ls hP hD hS hl)
theorem g_dcmp {x y : UInt64} {op : CmpOp} (C : gC E l R D nL own cc cI cG cJ) (hd : decode cc pc = .ok (.dcmp op, 1)) (K : gW E k n w (pc + 1) L (.int (Op.cmpValue (FP.dcmp x y) op) :: st)) : gW E k n w pc L (.double y :: .double x :: st) := by
  obtain ⟨p, l, e, R, s, m, args, below, meth, c, A, D, nL, Q⟩ := E
  obtain ⟨rfl, rfl, rfl, rfl, hx, hb, hml, hown, hts, hK, hO, hA, hZ⟩ := C
  intro H locs ls hP hD hS hl
  exact lv_dcmp hx hb hd (K H locs ls hP hD hS hl)
theorem g_dup {v : Value} (C : gC E l R D nL own cc cI cG cJ) (hd : decode cc pc = .ok (.dup, 1)) (hv : v.category = 1) (K : gW E k n w (pc + 1) L (v :: v :: st)) : gW E k n w pc L (v :: st) := by
  obtain ⟨p, l, e, R, s, m, args, below, meth, c, A, D, nL, Q⟩ := E
  obtain ⟨rfl, rfl, rfl, rfl, hx, hb, hml, hown, hts, hK, hO, hA, hZ⟩ := C
  intro H locs ls hP hD hS hl
  exact lv_dup hx hb hd hv (K H locs ls hP hD hS hl)
theorem g_pop {v : Value} (C : gC E l R D nL own cc cI cG cJ) (hd : decode cc pc = .ok (.pop, 1)) (hv : v.category = 1) (K : gW E k n w (pc + 1) L st) : gW E k n w pc L (v :: st) := by
  obtain ⟨p, l, e, R, s, m, args, below, meth, c, A, D, nL, Q⟩ := E
  obtain ⟨rfl, rfl, rfl, rfl, hx, hb, hml, hown, hts, hK, hO, hA, hZ⟩ := C
  intro H locs ls hP hD hS hl
  exact lv_pop hx hb hd hv (K H locs ls hP hD hS hl)
theorem g_dup_x1 {v u : Value} (C : gC E l R D nL own cc cI cG cJ) (hd : decode cc pc = .ok (.dup_x1, 1)) (hv : v.category = 1) (hu : u.category = 1) (K : gW E k n w (pc + 1) L (v :: u :: v :: st)) : gW E k n w pc L (v :: u :: st) := by
  obtain ⟨p, l, e, R, s, m, args, below, meth, c, A, D, nL, Q⟩ := E
  obtain ⟨rfl, rfl, rfl, rfl, hx, hb, hml, hown, hts, hK, hO, hA, hZ⟩ := C
  intro H locs ls hP hD hS hl
  exact lv_dup_x1 hx hb hd hv hu (K H locs ls hP hD hS hl)
theorem g_dup2 {v u : Value} (C : gC E l R D nL own cc cI cG cJ) (hd : decode cc pc = .ok (.dup2, 1)) (hv : v.category = 1) (hu : u.category = 1) (K : gW E k n w (pc + 1) L (v :: u :: v :: u :: st)) : gW E k n w pc L (v :: u :: st) := by
  obtain ⟨p, l, e, R, s, m, args, below, meth, c, A, D, nL, Q⟩ := E
  obtain ⟨rfl, rfl, rfl, rfl, hx, hb, hml, hown, hts, hK, hO, hA, hZ⟩ := C
  intro H locs ls hP hD hS hl
  exact lv_dup2_11 hx hb hd hv hu (K H locs ls hP hD hS hl)
theorem g_goto {off : Int} (tgt : Nat) (C : gC E l R D nL own cc cI cG cJ) (hd : decode cc pc = .ok (.goto off, 3)) (ht : (pc : Int) + off = (tgt : Int)) (K : gW E k n w tgt L st) : gW E k n w pc L st := by
  obtain ⟨p, l, e, R, s, m, args, below, meth, c, A, D, nL, Q⟩ := E
  obtain ⟨rfl, rfl, rfl, rfl, hx, hb, hml, hown, hts, hK, hO, hA, hZ⟩ := C
  intro H locs ls hP hD hS hl
  exact lv_goto hx hb hd ht (K H locs ls hP hD hS hl)
theorem g_icmp_eq {off a b : Int} (tgt : Nat) (C : gC E l R D nL own cc cI cG cJ) (hd : decode cc pc = .ok (.if_icmp .eq off, 3)) (ht : (pc : Int) + off = (tgt : Int)) (ha : zr a) (hb : zr b) (kt : a = b → gW E k n w tgt L st) (kf : ¬ a = b → gW E k n w (pc + 3) L st) : gW E k n w pc L (.int (zI b) :: .int (zI a) :: st) := by
  obtain ⟨p, l, e, R, s, m, args, below, meth, c, A, D, nL, Q⟩ := E
  obtain ⟨rfl, rfl, rfl, rfl, hx, hcc, hml, hown, hts, hK, hO, hA, hZ⟩ := C
  intro H locs ls hP hD hS hl
  exact lv_icmp_eq hx hcc hd ht (fun c9 => kt ((zI_eq ha hb).mp c9) H locs ls hP hD hS hl) (fun c9 => kf (fun q => c9 ((zI_eq ha hb).mpr q)) H locs ls hP hD hS hl)
theorem g_if_eq {off a : Int} (tgt : Nat) (C : gC E l R D nL own cc cI cG cJ) (hd : decode cc pc = .ok (.ifCond .eq off, 3)) (ht : (pc : Int) + off = (tgt : Int)) (ha : zr a) (kt : a = 0 → gW E k n w tgt L st) (kf : ¬ a = 0 → gW E k n w (pc + 3) L st) : gW E k n w pc L (.int (zI a) :: st) := by
  obtain ⟨p, l, e, R, s, m, args, below, meth, c, A, D, nL, Q⟩ := E
  obtain ⟨rfl, rfl, rfl, rfl, hx, hcc, hml, hown, hts, hK, hO, hA, hZ⟩ := C
  intro H locs ls hP hD hS hl
  exact lv_if_eq hx hcc hd ht (fun c9 => kt ((zI_eq ha zr0).mp c9) H locs ls hP hD hS hl) (fun c9 => kf (fun q => c9 ((zI_eq ha zr0).mpr q)) H locs ls hP hD hS hl)
theorem g_icmp_ne {off a b : Int} (tgt : Nat) (C : gC E l R D nL own cc cI cG cJ) (hd : decode cc pc = .ok (.if_icmp .ne off, 3)) (ht : (pc : Int) + off = (tgt : Int)) (ha : zr a) (hb : zr b) (kt : ¬ a = b → gW E k n w tgt L st) (kf : a = b → gW E k n w (pc + 3) L st) : gW E k n w pc L (.int (zI b) :: .int (zI a) :: st) := by
  obtain ⟨p, l, e, R, s, m, args, below, meth, c, A, D, nL, Q⟩ := E
  obtain ⟨rfl, rfl, rfl, rfl, hx, hcc, hml, hown, hts, hK, hO, hA, hZ⟩ := C
  intro H locs ls hP hD hS hl
  exact lv_icmp_ne hx hcc hd ht (fun c9 => kt (fun q => c9 ((zI_eq ha hb).mpr q)) H locs ls hP hD hS hl) (fun c9 => kf ((zI_eq ha hb).mp c9) H locs ls hP hD hS hl)
theorem g_if_ne {off a : Int} (tgt : Nat) (C : gC E l R D nL own cc cI cG cJ) (hd : decode cc pc = .ok (.ifCond .ne off, 3)) (ht : (pc : Int) + off = (tgt : Int)) (ha : zr a) (kt : ¬ a = 0 → gW E k n w tgt L st) (kf : a = 0 → gW E k n w (pc + 3) L st) : gW E k n w pc L (.int (zI a) :: st) := by
  obtain ⟨p, l, e, R, s, m, args, below, meth, c, A, D, nL, Q⟩ := E
  obtain ⟨rfl, rfl, rfl, rfl, hx, hcc, hml, hown, hts, hK, hO, hA, hZ⟩ := C
  intro H locs ls hP hD hS hl
  exact lv_if_ne hx hcc hd ht (fun c9 => kt (fun q => c9 ((zI_eq ha zr0).mpr q)) H locs ls hP hD hS hl) (fun c9 => kf ((zI_eq ha zr0).mp c9) H locs ls hP hD hS hl)
theorem g_icmp_lt {off a b : Int} (tgt : Nat) (C : gC E l R D nL own cc cI cG cJ) (hd : decode cc pc = .ok (.if_icmp .lt off, 3)) (ht : (pc : Int) + off = (tgt : Int)) (ha : zr a) (hb : zr b) (kt : a < b → gW E k n w tgt L st) (kf : ¬ a < b → gW E k n w (pc + 3) L st) : gW E k n w pc L (.int (zI b) :: .int (zI a) :: st) := by
  obtain ⟨p, l, e, R, s, m, args, below, meth, c, A, D, nL, Q⟩ := E
  obtain ⟨rfl, rfl, rfl, rfl, hx, hcc, hml, hown, hts, hK, hO, hA, hZ⟩ := C
  intro H locs ls hP hD hS hl
  exact lv_icmp_lt hx hcc hd ht (fun c9 => kt ((zI_lt ha hb).mp c9) H locs ls hP hD hS hl) (fun c9 => kf (fun q => c9 ((zI_lt ha hb).mpr q)) H locs ls hP hD hS hl)
theorem g_if_lt {off a : Int} (tgt : Nat) (C : gC E l R D nL own cc cI cG cJ) (hd : decode cc pc = .ok (.ifCond .lt off, 3)) (ht : (pc : Int) + off = (tgt : Int)) (ha : zr a) (kt : a < 0 → gW E k n w tgt L st) (kf : ¬ a < 0 → gW E k n w (pc + 3) L st) : gW E k n w pc L (.int (zI a) :: st) := by
  obtain ⟨p, l, e, R, s, m, args, below, meth, c, A, D, nL, Q⟩ := E
  obtain ⟨rfl, rfl, rfl, rfl, hx, hcc, hml, hown, hts, hK, hO, hA, hZ⟩ := C
  intro H locs ls hP hD hS hl
  exact lv_if_lt hx hcc hd ht (fun c9 => kt ((zI_lt ha zr0).mp c9) H locs ls hP hD hS hl) (fun c9 => kf (fun q => c9 ((zI_lt ha zr0).mpr q)) H locs ls hP hD hS hl)
theorem g_icmp_ge {off a b : Int} (tgt : Nat) (C : gC E l R D nL own cc cI cG cJ) (hd : decode cc pc = .ok (.if_icmp .ge off, 3)) (ht : (pc : Int) + off = (tgt : Int)) (ha : zr a) (hb : zr b) (kt : b ≤ a → gW E k n w tgt L st) (kf : ¬ b ≤ a → gW E k n w (pc + 3) L st) : gW E k n w pc L (.int (zI b) :: .int (zI a) :: st) := by
  obtain ⟨p, l, e, R, s, m, args, below, meth, c, A, D, nL, Q⟩ := E
  obtain ⟨rfl, rfl, rfl, rfl, hx, hcc, hml, hown, hts, hK, hO, hA, hZ⟩ := C
  intro H locs ls hP hD hS hl
  exact lv_icmp_ge hx hcc hd ht (fun c9 => kt ((zI_le hb ha).mp c9) H locs ls hP hD hS hl) (fun c9 => kf (fun q => c9 ((zI_le hb ha).mpr q)) H locs ls hP hD hS hl)
theorem g_if_ge {off a : Int} (tgt : Nat) (C : gC E l R D nL own cc cI cG cJ) (hd : decode cc pc = .ok (.ifCond .ge off, 3)) (ht : (pc : Int) + off = (tgt : Int)) (ha : zr a) (kt : 0 ≤ a → gW E k n w tgt L st) (kf : ¬ 0 ≤ a → gW E k n w (pc + 3) L st) : gW E k n w pc L (.int (zI a) :: st) := by
  obtain ⟨p, l, e, R, s, m, args, below, meth, c, A, D, nL, Q⟩ := E
  obtain ⟨rfl, rfl, rfl, rfl, hx, hcc, hml, hown, hts, hK, hO, hA, hZ⟩ := C
  intro H locs ls hP hD hS hl
  exact lv_if_ge hx hcc hd ht (fun c9 => kt ((zI_le zr0 ha).mp c9) H locs ls hP hD hS hl) (fun c9 => kf (fun q => c9 ((zI_le zr0 ha).mpr q)) H locs ls hP hD hS hl)
theorem g_icmp_gt {off a b : Int} (tgt : Nat) (C : gC E l R D nL own cc cI cG cJ) (hd : decode cc pc = .ok (.if_icmp .gt off, 3)) (ht : (pc : Int) + off = (tgt : Int)) (ha : zr a) (hb : zr b) (kt : b < a → gW E k n w tgt L st) (kf : ¬ b < a → gW E k n w (pc + 3) L st) : gW E k n w pc L (.int (zI b) :: .int (zI a) :: st) := by
  obtain ⟨p, l, e, R, s, m, args, below, meth, c, A, D, nL, Q⟩ := E
  obtain ⟨rfl, rfl, rfl, rfl, hx, hcc, hml, hown, hts, hK, hO, hA, hZ⟩ := C
  intro H locs ls hP hD hS hl
  exact lv_icmp_gt hx hcc hd ht (fun c9 => kt ((zI_lt hb ha).mp c9) H locs ls hP hD hS hl) (fun c9 => kf (fun q => c9 ((zI_lt hb ha).mpr q)) H locs ls hP hD hS hl)
theorem g_if_gt {off a : Int} (tgt : Nat) (C : gC E l R D nL own cc cI cG cJ) (hd : decode cc pc = .ok (.ifCond .gt off, 3)) (ht : (pc : Int) + off = (tgt : Int)) (ha : zr a) (kt : 0 < a → gW E k n w tgt L st) (kf : ¬ 0 < a → gW E k n w (pc + 3) L st) : gW E k n w pc L (.int (zI a) :: st) := by
  obtain ⟨p, l, e, R, s, m, args, below, meth, c, A, D, nL, Q⟩ := E
  obtain ⟨rfl, rfl, rfl, rfl, hx, hcc, hml, hown, hts, hK, hO, hA, hZ⟩ := C
  intro H locs ls hP hD hS hl
  exact lv_if_gt hx hcc hd ht (fun c9 => kt ((zI_lt zr0 ha).mp c9) H locs ls hP hD hS hl) (fun c9 => kf (fun q => c9 ((zI_lt zr0 ha).mpr q)) H locs ls hP hD hS hl)
theorem g_icmp_le {off a b : Int} (tgt : Nat) (C : gC E l R D nL own cc cI cG cJ) (hd : decode cc pc = .ok (.if_icmp .le off, 3)) (ht : (pc : Int) + off = (tgt : Int)) (ha : zr a) (hb : zr b) (kt : a ≤ b → gW E k n w tgt L st) (kf : ¬ a ≤ b → gW E k n w (pc + 3) L st) : gW E k n w pc L (.int (zI b) :: .int (zI a) :: st) := by
  obtain ⟨p, l, e, R, s, m, args, below, meth, c, A, D, nL, Q⟩ := E
  obtain ⟨rfl, rfl, rfl, rfl, hx, hcc, hml, hown, hts, hK, hO, hA, hZ⟩ := C
  intro H locs ls hP hD hS hl
  exact lv_icmp_le hx hcc hd ht (fun c9 => kt ((zI_le ha hb).mp c9) H locs ls hP hD hS hl) (fun c9 => kf (fun q => c9 ((zI_le ha hb).mpr q)) H locs ls hP hD hS hl)
theorem g_if_le {off a : Int} (tgt : Nat) (C : gC E l R D nL own cc cI cG cJ) (hd : decode cc pc = .ok (.ifCond .le off, 3)) (ht : (pc : Int) + off = (tgt : Int)) (ha : zr a) (kt : a ≤ 0 → gW E k n w tgt L st) (kf : ¬ a ≤ 0 → gW E k n w (pc + 3) L st) : gW E k n w pc L (.int (zI a) :: st) := by
  obtain ⟨p, l, e, R, s, m, args, below, meth, c, A, D, nL, Q⟩ := E
  obtain ⟨rfl, rfl, rfl, rfl, hx, hcc, hml, hown, hts, hK, hO, hA, hZ⟩ := C
  intro H locs ls hP hD hS hl
  exact lv_if_le hx hcc hd ht (fun c9 => kt ((zI_le ha zr0).mp c9) H locs ls hP hD hS hl) (fun c9 => kf (fun q => c9 ((zI_le ha zr0).mpr q)) H locs ls hP hD hS hl)
theorem g_lcmp {x y : Int64} (C : gC E l R D nL own cc cI cG cJ) (hd : decode cc pc = .ok (.lcmp, 1)) (K : gW E k n w (pc + 1) L (.int (lg_cmp x y) :: st)) : gW E k n w pc L (.long y :: .long x :: st) := by
  obtain ⟨p, l, e, R, s, m, args, below, meth, c, A, D, nL, Q⟩ := E
  obtain ⟨rfl, rfl, rfl, rfl, hx, hb, hml, hown, hts, hK, hO, hA, hZ⟩ := C
  intro H locs ls hP hD hS hl
  exact W.lcmp hx hb hd (K H locs ls hP hD hS hl)
theorem g_ldc2 {ix : Nat} {v : Int64} (C : gC E l R D nL own cc cI cG cJ) (f : Cond.constantLong own ix v ∈ LW) (hd : decode cc pc = .ok (.ldc2_w ix, 3)) (K : gW E k n w (pc + 3) L (.long v :: st)) : gW E k n w pc L st := by
  obtain ⟨p, l, e, R, s, m, args, below, meth, c, A, D, nL, Q⟩ := E
  obtain ⟨rfl, rfl, rfl, rfl, hx, hb, hml, hown, hts, hK, hO, hA, hZ⟩ := C
  intro H locs ls hP hD hS hl
  exact lv_ldc2 hx hb hown (hts _ f) hd (K H locs ls hP hD hS hl)
/-- getfield; f: the words of the field -/
def gF (own : String) (ix ci kf : Nat) (Cn : String) (T : u_T) (N : Nat) : Prop := (Cond.fieldLink own ix (T kf).1 (T kf).2.1 (T kf).2.2.1 ∈ LW) ∧ vwCl[ci]? = some (Cn, T, N) ∧ kf < N ∧ ∀ w ∈ u_ws Cn T N, w ∈ LW
theorem g_getf {ix ci kf : Nat} {Cn : String} {T : u_T} {N a : Nat} {fs : List Value} {v : Value} (C : gC E l R D nL own cc cI cG cJ) (f : gF own ix ci kf Cn T N) (q0 : Nat) (he : w[q0]? = some (a, .inr (ci, fs))) (hv : fs[kf]? = some v) (hd : decode cc pc = .ok (.getfield ix, 3)) (K : gW E k n w (pc + 3) L (v :: st)) : gW E k n w pc L (.ref a :: st) := by
  obtain ⟨p, l, e, R, s, m, args, below, meth, c, A, D, nL, Q⟩ := E
  obtain ⟨rfl, rfl, rfl, rfl, hx, hb, hml, hown, hts, hK, hO, hA, hZ⟩ := C
  obtain ⟨f1, f2, f3, f4⟩ := f
  intro H locs ls hP hD hS hl
  exact va_get (D := D) (ci := ci) hx hb hts f4 hown hK hP q0 he f2 kf f3 (hts _ f1) (fun _ h9 => h9) hv hd (K H locs ls hP hD hS hl)
/-- putfield -/
def gP (own : String) (ix ci kf : Nat) (Cn : String) (T : u_T) (N : Nat) (ty : FieldType) (fin : Bool) : Prop := gF own ix ci kf Cn T N ∧ (∃ ty0 : Nat → FieldType, (∀ j, j < N → parseFieldDescriptor (T j).2.2.1 = some (ty0 j)) ∧ ∀ a, a < N → ∀ b, b < N → a ≠ b → (T a).2.1 ≠ (T b).2.1) ∧ (T kf).2.2.2 = fin ∧ parseFieldDescriptor (T kf).2.2.1 = some ty ∧ (T kf).1 = own
theorem g_putf {ix ci kf : Nat} {Cn : String} {T : u_T} {N a : Nat} {fs : List Value} {v : Value} {ty : FieldType} {w' : va_W} (C : gC E l R D nL own cc cI cG cJ) (f : gP own ix ci kf Cn T N ty false) (q0 : Nat) (he : w[q0]? = some (a, .inr (ci, fs))) (hn : narrow ty v = v) (hfit : fits ty v = true) (hk : kf < fs.length) (hw : w.set q0 (a, .inr (ci, fs.set kf v)) = w') (hd : decode cc pc = .ok (.putfield ix, 3)) (K : gW E k n w' (pc + 3) L st) : gW E k n w pc L (v :: .ref a :: st) := by
  obtain ⟨p, l, e, R, s, m, args, below, meth, c, A, D, nL, Q⟩ := E
  obtain ⟨rfl, rfl, rfl, rfl, hx, hb, hml, hown, hts, hK, hO, hA, hZ⟩ := C
  obtain ⟨⟨f1, f2, f3, f4⟩, ⟨ty0, g1, g2⟩, g3, g4, -⟩ := f
  subst hw
  intro H locs ls hP hD hS hl
  exact va_put (D := D) (ci := ci) hx hb hts f4 ty0 g1 g2 hown hK hP hD hS q0 he f2 kf f3 (hts _ f1) (fun _ h9 => h9) g3 g4 hn hfit hk hd (fun H1 locs1 hP1 hD1 hS1 => K H1 locs1 ls hP1 hD1 hS1 hl)
theorem g_iald {a N : Nat} {f : Nat → Int} {i v : Int} (C : gC E l R D nL own cc cI cG cJ) (q0 : Nat) (ha : w[q0]? = some (a, .inl (cI, N, .inl (zA f)))) (hN : N ≤ 2000) (h0 : 0 ≤ i) (h1 : i < N) (hv : f i.toNat = v) (hd : decode cc pc = .ok (.iaload, 1)) (K : gW E k n w (pc + 1) L (.int (zI v) :: st)) : gW E k n w pc L (.int (zI i) :: .ref a :: st) := by
  obtain ⟨p, l, e, R, s, m, args, below, meth, c, A, D, nL, Q⟩ := E
  obtain ⟨rfl, rfl, rfl, rfl, hx, hb, hml, hown, hts, hK, hO, hA, hZ⟩ := C
  intro H locs ls hP hD hS hl
  refine va_iald hx hb hK hP q0 0 ha rfl (zI_in h0 h1 hN) hd ?_
  subst hv
  rw [zI_cl h0 h1 hN]
  exact K H locs ls hP hD hS hl
theorem g_iast {a N : Nat} {f : Nat → Int} {i x : Int} {w' : va_W} (C : gC E l R D nL own cc cI cG cJ) (q0 : Nat) (ha : w[q0]? = some (a, .inl (cI, N, .inl (zA f)))) (hN : N ≤ 2000) (h0 : 0 ≤ i) (h1 : i < N) (hw : w.set q0 (a, .inl (cI, N, .inl (zA (zU f i.toNat x)))) = w') (hd : decode cc pc = .ok (.iastore, 1)) (K : gW E k n w' (pc + 1) L st) : gW E k n w pc L (.int (zI x) :: .int (zI i) :: .ref a :: st) := by
  obtain ⟨p, l, e, R, s, m, args, below, meth, c, A, D, nL, Q⟩ := E
  obtain ⟨rfl, rfl, rfl, rfl, hx, hb, hml, hown, hts, hK, hO, hA, hZ⟩ := C
  subst hw
  intro H locs ls hP hD hS hl
  refine va_iast hx hb hK hP hD hS q0 0 ha rfl (zI_in h0 h1 hN) hd (fun H1 locs1 hP1 hD1 hS1 => ?_)
  rw [zI_cl h0 h1 hN, zA_upd] at hP1 hD1
  exact K H1 locs1 ls hP1 hD1 hS1 hl


/-- a row of an array of arrays -/
theorem g_aald {a N y : Nat} {f : Nat → Option Nat} {i : Int} (C : gC E l R D nL own cc cI cG cJ) (q0 : Nat) (ha : w[q0]? = some (a, .inl (cG, N, .inr (.inr (.inr (.inr f)))))) (hN : N ≤ 2000) (h0 : 0 ≤ i) (h1 : i < N) (hf : f i.toNat = some y) (hd : decode cc pc = .ok (.aaload, 1)) (K : gW E k n w (pc + 1) L (.ref y :: st)) : gW E k n w pc L (.int (zI i) :: .ref a :: st) := by
  obtain ⟨p, l, e, R, s, m, args, below, meth, c, A, D, nL, Q⟩ := E
  obtain ⟨rfl, rfl, rfl, rfl, hx, hb, hml, hown, hts, hK, hO, hA, hZ⟩ := C
  intro H locs ls hP hD hS hl
  have hin := zI_in h0 h1 hN
  have hlt : (zI i).toNatClampNeg < N := Nat.not_le.mp fun q => hin (Or.inr q)
  refine W.aald (v := va_rf (f (zI i).toNatClampNeg)) (ty := .array .int) hx hb (hP q0 _ ha) ((hK.2 1 _ rfl).1 N (fun j => va_rf (f j))) rfl (fun q => by cases q) (by show ¬ (zI i < 0 ∨ (arrV _ _ _).slots.size ≤ _); rw [arrV_size]; exact hin) (by show (arrV _ _ _).slots[_]? = _; rw [arrV_read _ _ hlt]) rfl rfl hd ?_
  rw [zI_cl h0 h1 hN, hf]
  exact K H locs ls hP hD hS hl
theorem g_alen {a N : Nat} {x : vp_A} (C : gC E l R D nL own cc cI cG cJ) (q0 : Nat) (ha : w[q0]? = some (a, .inl (cI, x))) (hN : x.1 = N) (hd : decode cc pc = .ok (.arraylength, 1)) (K : gW E k n w (pc + 1) L (.int (zI N) :: st)) : gW E k n w pc L (.ref a :: st) := by
  obtain ⟨p, l, e, R, s, m, args, below, meth, c, A, D, nL, Q⟩ := E
  obtain ⟨rfl, rfl, rfl, rfl, hx, hb, hml, hown, hts, hK, hO, hA, hZ⟩ := C
  intro H locs ls hP hD hS hl
  exact va_alen hx hb hK hP q0 0 ha rfl (by rw [hN]; exact Int32.ofInt_eq_ofNat.symm) hd (K H locs ls hP hD hS hl)
end GK1
