/-! what the law's body asks: remainders, equal numbers, its own calls, sums of the two choices -/
theorem lcmp_self (x : Int64) : lg_cmp x x = zI 0 := by
  have h : ¬ x > x := Int64.lt_irrefl
  show (if x > x then (1 : Int32) else if x = x then 0 else -1) = zI 0
  rw [if_neg h, if_pos rfl]
  rfl
section GK12
variable {E : gEnv} {l : Launch} {R : Room} {D : va_G} {nL : Nat} {own : String} {cc : ByteArray} {cI cG cJ : ClassId} {k n : Nat} {w : va_W} {pc : Nat} {L : List (Nat × Value)} {st : List Value}
theorem g_lcmpS {x : Int64} (C : gC E l R D nL own cc cI cG cJ) (hd : decode cc pc = .ok (.lcmp, 1)) (K : gW E k n w (pc + 1) L (.int (zI 0) :: st)) : gW E k n w pc L (.long x :: .long x :: st) := g_lcmp C hd (by rw [lcmp_self]; exact K)
theorem g_iremE {a b : Int} (C : gC E l R D nL own cc cI cG cJ) (hd : decode cc pc = .ok (.irem, 1)) (ha : 0 ≤ a) (ha2 : zr a) (hb : 0 < b) (hb2 : zr b) (K : ∀ z : Int, 0 ≤ z → z < b → zI a - zI a / zI b * zI b = zI z → gW E k n w (pc + 1) L (.int (zI z) :: st)) : gW E k n w pc L (.int (zI b) :: .int (zI a) :: st) := by
  obtain ⟨p, l, e, R, s, m, args, below, meth, c, A, D, nL, Q⟩ := E
  obtain ⟨rfl, rfl, rfl, rfl, hx, hcc, hml, hown, hts, hK, hO, hA, hZ⟩ := C
  intro H locs ls hP hD hS hl
  obtain ⟨z, h1, h2, ez⟩ := zI_rem ha ha2 hb hb2
  have h9 := K z h1 h2 ez H locs ls hP hD hS hl
  rw [← ez] at h9
  exact lv_irem hx hcc hd (fun q => by have := (zI_eq hb2 zr0).mp q; omega) h9
end GK12
theorem rem_one {x : Int32} {a b : Int} (h1 : 0 ≤ a) (h2 : a < 60) (h3 : 0 ≤ b) (h4 : b < 60) (ea : x = zI a) (eb : x = zI b) : a = b := (zI_eq ⟨by omega, by omega⟩ ⟨by omega, by omega⟩).mp (ea.symm.trans eb)
abbrev rmL_law : Room := { frames := 2048, cells := 600172, slots := 7300668, locals := 84000 }
def gRL (E : gEnv) : Prop := ∀ (k n : Nat) (w : va_W) (pc : Nat) (L : List (Nat × Value)), k ≤ 600172 → n ≤ 7300668 → decode cL_law pc = .ok (.ireturn, 1) → gW E k n w pc L [.int (zI 1)]
/-- how many of each, with none when the letter cannot go -/
def cFF (cnt : Nat) (fv fs : Nat → Int) (rm : Int) (p : Nat) : Nat → Int := fun x => if LSm cnt fv fs rm p = -1 then 0 else CH cnt fv fs rm (LSm cnt fv fs rm p).toNat x
theorem sumTo_zU {o : Nat → Int} {v : Int} : ∀ (n i : Nat), n ≤ i → sumTo (zU o i v) n = sumTo o n
  | 0, _, _ => rfl
  | n + 1, i, h => by
    show sumTo (zU o i v) n + zU o i v n = sumTo o n + o n
    rw [sumTo_zU n i (by omega), show zU o i v n = o n from if_neg (by omega)]
theorem sumTo_zUm {o fv : Nat → Int} {v : Int} : ∀ (n i : Nat), n ≤ i → sumTo (fun x => zU o i v x * fv x) n = sumTo (fun x => o x * fv x) n
  | 0, _, _ => rfl
  | n + 1, i, h => by
    show sumTo (fun x => zU o i v x * fv x) n + zU o i v n * fv n = sumTo (fun x => o x * fv x) n + o n * fv n
    rw [sumTo_zUm n i (by omega), show zU o i v n = o n from if_neg (by omega)]
theorem sumTo_oS {o : Nat → Int} {v : Int} {i : Nat} : sumTo (zU o i v) (i + 1) = sumTo o i + v := by
  show sumTo (zU o i v) i + zU o i v i = _
  rw [sumTo_zU i i (Nat.le_refl _), show zU o i v i = v from if_pos rfl]
theorem sumTo_oSm {o fv : Nat → Int} {v : Int} {i : Nat} : sumTo (fun x => zU o i v x * fv x) (i + 1) = sumTo (fun x => o x * fv x) i + v * fv i := by
  show sumTo (fun x => zU o i v x * fv x) i + zU o i v i * fv i = _
  rw [sumTo_zUm i i (Nat.le_refl _), show zU o i v i = v from if_pos rfl]
theorem sumTo_z : ∀ n, sumTo (fun _ => (0 : Int)) n = 0
  | 0 => rfl
  | n + 1 => by
    show sumTo (fun _ => (0 : Int)) n + 0 = 0
    rw [sumTo_z n]
    rfl
theorem f_sum0 {cnt : Nat} {fv fs : Nat → Int} {rm : Int} {p : Nat} (h : LSm cnt fv fs rm p = -1) (n : Nat) : sumTo (fun x => cFF cnt fv fs rm p x * fv x) n = 0 ∧ sumTo (cFF cnt fv fs rm p) n = 0 := by
  have e : ∀ x, cFF cnt fv fs rm p x = 0 := fun x => if_pos h
  refine ⟨(sumTo_congr n (fun j _ => ?_)).trans (sumTo_z n), (sumTo_congr n (fun j _ => e j)).trans (sumTo_z n)⟩
  show cFF cnt fv fs rm p j * fv j = 0
  rw [e j, Int.zero_mul]
theorem f_sumS {cnt : Nat} {fv fs : Nat → Int} {rm : Int} {p s : Nat} (hI : XI cnt fv fs rm) (hp : 1 ≤ p ∧ p ≤ 300) (h : LSm cnt fv fs rm p = (s : Int)) : sumTo (fun x => cFF cnt fv fs rm p x * fv x) cnt = (s : Int) ∧ sumTo (cFF cnt fv fs rm p) cnt = TB cnt fv fs rm s ∧ 1 ≤ TB cnt fv fs rm s ∧ TB cnt fv fs rm s ≤ rm ∧ p ≤ s ∧ s < 360 := by
  obtain ⟨hc, hS, h99, hr1, hr2⟩ := id hI
  have hr : 0 ≤ rm ∧ rm ≤ 12 := ⟨by omega, hr2⟩
  rcases LS_sp hS hr hp.2 with ⟨g1, _⟩ | ⟨s', g1, g2, g3, g4, _⟩
  · omega
  · have e : s' = s := by omega
    subst e
    have e2 : ∀ x, cFF cnt fv fs rm p x = CH cnt fv fs rm s' x := fun x => by
      show (if LSm cnt fv fs rm p = -1 then (0 : Int) else CH cnt fv fs rm (LSm cnt fv fs rm p).toNat x) = _
      rw [if_neg (by omega), h, Int.toNat_natCast]
    have hc9 := CH_sum hS hr (s := s') (by omega)
    have h1 : 1 ≤ TB cnt fv fs rm s' := by
      refine Int.not_lt.mp (fun q => ?_)
      have h3 := tb_far (vs := vsF fv cnt) (us := usF fv fs cnt rm) (V := 60) cnt (fun j hj => by have a := hS.vs hj; have b := hS.us ⟨by omega, hr2⟩ hj; omega) s' 0 (by show TB cnt fv fs rm s' ≤ 0; omega) (by omega) (by omega)
      omega
    refine ⟨(sumTo_congr cnt (fun j _ => ?_)).trans hc9.1, (sumTo_congr cnt (fun j _ => e2 j)).trans hc9.2, h1, g4, g3, by omega⟩
    show cFF cnt fv fs rm p j * fv j = _
    rw [e2 j]
theorem cFF_bd {cnt : Nat} {fv fs : Nat → Int} {rm : Int} {p i : Nat} (hI : XI cnt fv fs rm) (hi : i < cnt) : 0 ≤ cFF cnt fv fs rm p i ∧ cFF cnt fv fs rm p i ≤ fs i ∧ cFF cnt fv fs rm p i ≤ rm := by
  obtain ⟨hc, hS, h99, hr1, hr2⟩ := hI
  have h1 := hS.2.1 i hi
  show 0 ≤ (if LSm cnt fv fs rm p = -1 then (0 : Int) else CH cnt fv fs rm (LSm cnt fv fs rm p).toNat i) ∧ _ ≤ _ ∧ _ ≤ _
  by_cases h : LSm cnt fv fs rm p = -1
  · have e : cFF cnt fv fs rm p i = 0 := if_pos h
    rw [if_pos h, e]; omega
  · have e : cFF cnt fv fs rm p i = CH cnt fv fs rm (LSm cnt fv fs rm p).toNat i := if_neg h
    rw [if_neg h, e]
    exact CH_le hS ⟨by omega, hr2⟩ hi
