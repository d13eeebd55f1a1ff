/-! the worlds: a kit of stamps, the two tables, the vendor, the reference; rows of grids by their numbers -/
def wR (ad : Nat → Nat) (b N : Nat) : Nat → Option Nat := fun j => if j < N then some (ad (b + j)) else none
theorem wR_at {ad : Nat → Nat} {b N j : Nat} (h : j < N) : wR ad b N j = some (ad (b + j)) := if_pos h
def gU (M : Nat → Nat → Int) (i j : Nat) (x : Int) : Nat → Nat → Int := fun a => if a = i then zU (M a) j x else M a
def wS (ad : Nat → Nat) (cI : ClassId) (c : Int) (fv fs fd : Nat → Int) : va_W := [(ad 0, .inr (1, [.ref (ad 1), .ref (ad 2), .ref (ad 3), .int (zI c)])), (ad 1, .inl (cI, 8, .inl (zA fv))), (ad 2, .inl (cI, 8, .inl (zA fs))), (ad 3, .inl (cI, 8, .inl (zA fd)))]
def wT (ad : Nat → Nat) (cI cG : ClassId) (c rm : Int) (ft fv fu fc : Nat → Int) (M : Nat → Nat → Int) : va_W := [(ad 0, .inr (2, [.ref (ad 1), .ref (ad 2), .ref (ad 3), .ref (ad 4), .int (zI c), .int (zI rm), .ref (ad 5)])), (ad 1, .inl (cG, 9, .inr (.inr (.inr (.inr (wR ad 6 9)))))), (ad 2, .inl (cI, 8, .inl (zA ft))), (ad 3, .inl (cI, 8, .inl (zA fv))), (ad 4, .inl (cI, 8, .inl (zA fu))), (ad 5, .inl (cI, 8, .inl (zA fc))), (ad 6, .inl (cI, 360, .inl (zA (M 0)))), (ad 7, .inl (cI, 360, .inl (zA (M 1)))), (ad 8, .inl (cI, 360, .inl (zA (M 2)))), (ad 9, .inl (cI, 360, .inl (zA (M 3)))), (ad 10, .inl (cI, 360, .inl (zA (M 4)))), (ad 11, .inl (cI, 360, .inl (zA (M 5)))), (ad 12, .inl (cI, 360, .inl (zA (M 6)))), (ad 13, .inl (cI, 360, .inl (zA (M 7)))), (ad 14, .inl (cI, 360, .inl (zA (M 8))))]
def wP (ad : Nat → Nat) (cI cG : ClassId) (fa fb : Nat → Int) (M : Nat → Nat → Int) : va_W := [(ad 0, .inr (0, [.ref (ad 1), .ref (ad 2), .ref (ad 3)])), (ad 1, .inl (cI, 301, .inl (zA fa))), (ad 2, .inl (cI, 301, .inl (zA fb))), (ad 3, .inl (cG, 13, .inr (.inr (.inr (.inr (wR ad 4 13)))))), (ad 4, .inl (cI, 301, .inl (zA (M 0)))), (ad 5, .inl (cI, 301, .inl (zA (M 1)))), (ad 6, .inl (cI, 301, .inl (zA (M 2)))), (ad 7, .inl (cI, 301, .inl (zA (M 3)))), (ad 8, .inl (cI, 301, .inl (zA (M 4)))), (ad 9, .inl (cI, 301, .inl (zA (M 5)))), (ad 10, .inl (cI, 301, .inl (zA (M 6)))), (ad 11, .inl (cI, 301, .inl (zA (M 7)))), (ad 12, .inl (cI, 301, .inl (zA (M 8)))), (ad 13, .inl (cI, 301, .inl (zA (M 9)))), (ad 14, .inl (cI, 301, .inl (zA (M 10)))), (ad 15, .inl (cI, 301, .inl (zA (M 11)))), (ad 16, .inl (cI, 301, .inl (zA (M 12))))]
def wV (h st tr bs bp : Nat) (rm lt tk ov : Int) : va_W := [(h, .inr (3, [.ref st, .ref tr, .ref bs, .ref bp, .int (zI rm), .int (zI lt), .int (zI tk), .int (zI ov)]))]
theorem wT_row {ad : Nat → Nat} {cI cG : ClassId} {c rm : Int} {ft fv fu fc : Nat → Int} {M : Nat → Nat → Int} {z : va_W} {i : Nat} (h : i < 9) : (wT ad cI cG c rm ft fv fu fc M ++ z)[6 + i]? = some (ad (6 + i), .inl (cI, 360, .inl (zA (M i)))) := match i, h with
  | 0, _ => rfl
  | 1, _ => rfl
  | 2, _ => rfl
  | 3, _ => rfl
  | 4, _ => rfl
  | 5, _ => rfl
  | 6, _ => rfl
  | 7, _ => rfl
  | 8, _ => rfl
  | i + 9, h => absurd h (by omega)
theorem wT_set {ad : Nat → Nat} {cI cG : ClassId} {c rm : Int} {ft fv fu fc : Nat → Int} {M : Nat → Nat → Int} {z : va_W} {i : Nat} (h : i < 9) (j : Nat) (x : Int) : (wT ad cI cG c rm ft fv fu fc M ++ z).set (6 + i) (ad (6 + i), .inl (cI, 360, .inl (zA (zU (M i) j x)))) = wT ad cI cG c rm ft fv fu fc (gU M i j x) ++ z := match i, h with
  | 0, _ => rfl
  | 1, _ => rfl
  | 2, _ => rfl
  | 3, _ => rfl
  | 4, _ => rfl
  | 5, _ => rfl
  | 6, _ => rfl
  | 7, _ => rfl
  | 8, _ => rfl
  | i + 9, h => absurd h (by omega)
theorem wP_row {ad : Nat → Nat} {cI cG : ClassId} {fa fb : Nat → Int} {M : Nat → Nat → Int} {z : va_W} {i : Nat} (h : i < 13) : (wP ad cI cG fa fb M ++ z)[4 + i]? = some (ad (4 + i), .inl (cI, 301, .inl (zA (M i)))) := match i, h with
  | 0, _ => rfl
  | 1, _ => rfl
  | 2, _ => rfl
  | 3, _ => rfl
  | 4, _ => rfl
  | 5, _ => rfl
  | 6, _ => rfl
  | 7, _ => rfl
  | 8, _ => rfl
  | 9, _ => rfl
  | 10, _ => rfl
  | 11, _ => rfl
  | 12, _ => rfl
  | i + 13, h => absurd h (by omega)
theorem wP_set {ad : Nat → Nat} {cI cG : ClassId} {fa fb : Nat → Int} {M : Nat → Nat → Int} {z : va_W} {i : Nat} (h : i < 13) (j : Nat) (x : Int) : (wP ad cI cG fa fb M ++ z).set (4 + i) (ad (4 + i), .inl (cI, 301, .inl (zA (zU (M i) j x)))) = wP ad cI cG fa fb (gU M i j x) ++ z := match i, h with
  | 0, _ => rfl
  | 1, _ => rfl
  | 2, _ => rfl
  | 3, _ => rfl
  | 4, _ => rfl
  | 5, _ => rfl
  | 6, _ => rfl
  | 7, _ => rfl
  | 8, _ => rfl
  | 9, _ => rfl
  | 10, _ => rfl
  | 11, _ => rfl
  | 12, _ => rfl
  | i + 13, h => absurd h (by omega)




theorem wT_row1 {ad : Nat → Nat} {cI cG : ClassId} {c rm : Int} {ft fv fu fc : Nat → Int} {M : Nat → Nat → Int} {i : Nat} (h : i < 9) : (wT ad cI cG c rm ft fv fu fc M)[6 + i]? = some (ad (6 + i), .inl (cI, 360, .inl (zA (M i)))) := by
  have h9 := wT_row (ad := ad) (cI := cI) (cG := cG) (c := c) (rm := rm) (ft := ft) (fv := fv) (fu := fu) (fc := fc) (M := M) (z := []) h
  rw [List.append_nil] at h9
  exact h9
theorem wT_set1 {ad : Nat → Nat} {cI cG : ClassId} {c rm : Int} {ft fv fu fc : Nat → Int} {M : Nat → Nat → Int} {i : Nat} (h : i < 9) (j : Nat) (x : Int) : (wT ad cI cG c rm ft fv fu fc M).set (6 + i) (ad (6 + i), .inl (cI, 360, .inl (zA (zU (M i) j x)))) = wT ad cI cG c rm ft fv fu fc (gU M i j x) := by
  have h9 := wT_set (ad := ad) (cI := cI) (cG := cG) (c := c) (rm := rm) (ft := ft) (fv := fv) (fu := fu) (fc := fc) (M := M) (z := []) h j x
  rw [List.append_nil, List.append_nil] at h9
  exact h9
theorem wP_row1 {ad : Nat → Nat} {cI cG : ClassId} {fa fb : Nat → Int} {M : Nat → Nat → Int} {i : Nat} (h : i < 13) : (wP ad cI cG fa fb M)[4 + i]? = some (ad (4 + i), .inl (cI, 301, .inl (zA (M i)))) := by
  have h9 := wP_row (ad := ad) (cI := cI) (cG := cG) (fa := fa) (fb := fb) (M := M) (z := []) h
  rw [List.append_nil] at h9
  exact h9
theorem wP_set1 {ad : Nat → Nat} {cI cG : ClassId} {fa fb : Nat → Int} {M : Nat → Nat → Int} {i : Nat} (h : i < 13) (j : Nat) (x : Int) : (wP ad cI cG fa fb M).set (4 + i) (ad (4 + i), .inl (cI, 301, .inl (zA (zU (M i) j x)))) = wP ad cI cG fa fb (gU M i j x) := by
  have h9 := wP_set (ad := ad) (cI := cI) (cG := cG) (fa := fa) (fb := fb) (M := M) (z := []) h j x
  rw [List.append_nil, List.append_nil] at h9
  exact h9




theorem zr_i {a : Int} (h1 : -2147483648 ≤ a) (h2 : a ≤ 2147483647) : zr a := ⟨h1, h2⟩
section WW
variable {E : gEnv} {k n : Nat} {w : va_W} {pc : Nat} {L : List (Nat × Value)} {st : List Value}
theorem g_top {a : Int} (b : Int) (h : a = b) (K : gW E k n w pc L (.int (zI b) :: st)) : gW E k n w pc L (.int (zI a) :: st) := h ▸ K
theorem g_ws {w' : va_W} {st' : List Value} (hw : w = w') (hs : st = st') (K : gW E k n w' pc L st') : gW E k n w pc L st := hw ▸ hs ▸ K
theorem g_pcs {pc' : Nat} (h : pc = pc') (K : gW E k n w pc' L st) : gW E k n w pc L st := h ▸ K
theorem g_lw {L' : List (Nat × Value)} {w' : va_W} (hw : w = w') (hL : L = L') (K : gW E k n w' pc L' st) : gW E k n w pc L st := hw ▸ hL ▸ K
end WW
