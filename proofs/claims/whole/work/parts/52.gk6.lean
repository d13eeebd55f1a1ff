/-! new long[N] -/
theorem arrJ : Cond.arrayClass .long ∈ LW := (mr_1 _ (List.mem_of_getElem? (i := 6) rfl))
theorem g_newl {E : gEnv} {l : Launch} {R : Room} {D : va_G} {nL : Nat} {own : String} {cc : ByteArray} {cI cG cJ : ClassId} {k n : Nat} {w : va_W} {pc : Nat} {L : List (Nat × Value)} {st : List Value} {N : Nat} (C : gC E l R D nL own cc cI cG cJ) (f : Cond.arrayClass .long ∈ LW) (hN : N ≤ 2000) (hR : k + 1 ≤ R.cells ∧ n + N ≤ R.slots) (hd : decode cc pc = .ok (.newarray .long, 2)) (K : ∀ q : Nat, gW E (k + 1) (n + N) (w ++ [(q, .inl (cJ, N, .inr (.inl (fun _ => 0))))]) (pc + 2) L (.ref q :: st)) : gW E k n w pc L (.int (zI N) :: st) := by
  obtain ⟨p, l, e, R, s, m, args, below, meth, c, A, D, nL, Q⟩ := E
  obtain ⟨rfl, rfl, rfl, rfl, hx, hb, hml, hown, hts, hK, hO, hA, hZ⟩ := C
  intro H locs ls hP hD hS hl
  have hNr : zr (N : Int) := ⟨by omega, by omega⟩
  have h1 : ¬ zI (N : Int) < 0 := fun q => by
    have := (zI_lt hNr zr0).mp q
    omega
  have h2 : (zI (N : Int)).toNatClampNeg = N := by
    have h3 : (N : Int) < 2 ^ 31 := by omega
    have h4 : -2 ^ 31 ≤ (N : Int) := by omega
    exact Int32.toNatClampNeg_ofInt_of_le h4 h3
  have h5 : N * componentBytes .long ≤ 536870912 := by
    show N * 8 ≤ _
    omega
  refine va_newa (atype := .long) (ty := .long) (N' := N) (a0 := (N, .inr (.inl (fun _ => 0)))) hx hb (hts _ f) rfl hK hP hD hS hA (fun _ => rfl) h1 h2 h5 hR.1 hR.2 hd (fun q cA H1 hK1 hP1 hD1 hS1 => ?_)
  have e1 : some cA = some cJ := (hK1.2 3 _ rfl).2.symm.trans (hK.2 2 _ rfl).2
  cases e1
  exact K q H1 locs ls hP1 hD1 hS1 hl
