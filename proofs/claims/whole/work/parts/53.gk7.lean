/-! tableswitch -/
section GK7
variable {E : gEnv} {l : Launch} {R : Room} {D : va_G} {nL : Nat} {own : String} {cc : ByteArray} {cI cG cJ : ClassId} {k n : Nat} {w : va_W} {pc : Nat} {L : List (Nat × Value)} {st : List Value}
theorem g_tsIn {dflt lo hi : Int} {offs : Array Int} {len : Nat} {v off : Int} (tgt : Nat) (C : gC E l R D nL own cc cI cG cJ) (hd : decode cc pc = .ok (.tableswitch dflt lo hi offs, len)) (hv : zr v) (h1 : lo ≤ v) (h2 : v ≤ hi) (ho : offs[(v - lo).toNat]? = some off) (ht : (pc : Int) + off = (tgt : Int)) (K : gW E k n w tgt L st) : gW E k n w pc L (.int (zI v) :: st) := by
  obtain ⟨p, l, e, R, s, m, args, below, meth, c, A, D, nL, Q⟩ := E
  obtain ⟨rfl, rfl, rfl, rfl, hx, hb, hml, hown, hts, hK, hO, hA, hZ⟩ := C
  intro H locs ls hP hD hS hl
  have e1 := zI_toInt hv
  exact lv_tableIn hx hb hd (by rw [e1]; omega) (by rw [e1]; omega) (by rw [e1]; exact ho) ht (K H locs ls hP hD hS hl)
theorem g_tsOut {dflt lo hi : Int} {offs : Array Int} {len : Nat} {v : Int} (tgt : Nat) (C : gC E l R D nL own cc cI cG cJ) (hd : decode cc pc = .ok (.tableswitch dflt lo hi offs, len)) (hv : zr v) (h : v < lo ∨ hi < v) (ht : (pc : Int) + dflt = (tgt : Int)) (K : gW E k n w tgt L st) : gW E k n w pc L (.int (zI v) :: st) := by
  obtain ⟨p, l, e, R, s, m, args, below, meth, c, A, D, nL, Q⟩ := E
  obtain ⟨rfl, rfl, rfl, rfl, hx, hb, hml, hown, hts, hK, hO, hA, hZ⟩ := C
  intro H locs ls hP hD hS hl
  have e1 := zI_toInt hv
  exact lv_tableOut hx hb hd (by rw [e1]; exact h) ht (K H locs ls hP hD hS hl)
end GK7
