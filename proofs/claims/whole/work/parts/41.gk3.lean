/-! arraycopy of eight, in the model -/
theorem arrI : Cond.arrayClass .int ∈ LW := (mr_2 _ (List.mem_of_getElem? (i := 9) rfl))
theorem cpI : Cond.methodLink RX4 143 arraycopyName ∈ LW ∧ Cond.native arraycopyName ∈ LW ∧ Cond.static arraycopyName ∈ LW ∧ Cond.initialized "java/lang/System" ∈ LW := ⟨(mr_25 _ (List.mem_of_getElem? (i := 4) rfl)), (mr_25 _ (List.mem_of_getElem? (i := 5) rfl)), (mr_25 _ (List.mem_of_getElem? (i := 6) rfl)), (mr_25 _ (List.mem_of_getElem? (i := 7) rfl))⟩
section GK3
variable {E : gEnv} {l : Launch} {R : Room} {D : va_G} {nL : Nat} {own : String} {cc : ByteArray} {cI cG cJ : ClassId} {k n : Nat} {w : va_W} {pc : Nat} {L : List (Nat × Value)} {st : List Value}
theorem va_cpy8 {f g : Nat → Int} : va_cpy (zA f) (zA g) 0 0 8 = zA (cpy g f 8) := by
  funext j
  simp only [va_cpy, zA, cpy]
  by_cases h : j < 8
  · rw [if_pos (by omega), if_pos h]
    congr 2
    omega
  · rw [if_neg (by omega), if_neg h]
theorem g_copy8 {ix a0 a : Nat} {f g : Nat → Int} {w' : va_W} (C : gC E l R D nL own cc cI cG cJ) (hw : Cond.methodLink own ix arraycopyName ∈ LW ∧ Cond.native arraycopyName ∈ LW ∧ Cond.static arraycopyName ∈ LW ∧ Cond.initialized "java/lang/System" ∈ LW) (q0 q1 : Nat) (ha0 : w[q0]? = some (a0, .inl (cI, 8, .inl (zA f)))) (ha1 : w[q1]? = some (a, .inl (cI, 8, .inl (zA g)))) (hR : 1 ≤ R.frames ∧ (st.map fun v => v.category).sum + (nativeFrameWords "java/lang/System" "arraycopy" 5 + 11) ≤ R.locals) (hw' : w.set q1 (a, .inl (cI, 8, .inl (zA (cpy g f 8)))) = w') (hd : decode cc pc = .ok (.invokestatic ix, 3)) (K : gW E k n w' (pc + 3) L st) : gW E k n w pc L (.int (zI 8) :: .int (zI 0) :: .ref a :: .int (zI 0) :: .ref a0 :: st) := by
  obtain ⟨p, l, e, R, s, m, args, below, meth, c, A, D, nL, Q⟩ := E
  obtain ⟨rfl, rfl, rfl, rfl, hx, hb, hml, hown, hts, hK, hO, hA, hZ⟩ := C
  obtain ⟨f1, f2, f3, f4⟩ := hw
  subst hw'
  intro H locs ls hP hD hS hl
  have h8 : (zI 8).toNatClampNeg = 8 := by decide
  have h0 : (zI 0).toNatClampNeg = 0 := by decide
  refine va_copyi hx hb (hml.trans hl.1.symm) hown (hts _ f1) (hts _ f2) (hts _ f3) (hts _ f4) hK hP hD hS q0 q1 0 0 ha0 ha1 rfl rfl rfl (by decide) (by decide) (by decide) (by rw [h8, h0]; decide) (by rw [h8, h0]; decide) (fun _ _ => rfl) hR.1 hR.2 hd (fun H1 locs1 hP1 hD1 hS1 => ?_)
  rw [h8, h0, va_cpy8] at hP1 hD1
  exact K H1 locs1 ls hP1 hD1 hS1 hl
end GK3
/-- letters, one behind the other -/
theorem sok_sb {cnt : Nat} {fv fs : Nat → Int} {rm : Int} {s : Nat} (hS : Sok cnt fv fs) (hr : 0 ≤ rm ∧ rm ≤ 12) : Sok cnt fv (sbS cnt fs (CH cnt fv fs rm s)) := ⟨hS.1, fun j hj => by
  have h1 := hS.2.1 j hj
  have h2 := CH_le (s := s) hS hr hj
  show 0 ≤ cpy fs _ cnt j ∧ cpy fs _ cnt j ≤ 119
  rw [cpy_l hj]
  omega, hS.2.2⟩
theorem sb_hi {cnt j : Nat} {fs c : Nat → Int} (h : cnt ≤ j) : sbS cnt fs c j = fs j := cpy_g h
theorem cpy_rest {fs f2 : Nat → Int} (h : ∀ j, 8 ≤ j → f2 j = fs j) : cpy f2 (cpy (fun _ => 0) fs 8) 8 = fs := by
  funext j
  by_cases h1 : j < 8
  · rw [cpy_l h1, cpy_l h1]
  · rw [cpy_g (by omega), h j (by omega)]
def djF (f : Nat → Int) : Nat → Int64
  | 0 => 2129
  | n + 1 => djF f n * 31 + (zI (f n)).toInt64
