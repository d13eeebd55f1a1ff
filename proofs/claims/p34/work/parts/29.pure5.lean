/-! means that are numbers; checksums -/
def mnD (a : Int) (c : Int) : UInt64 := FP.ddiv (FP.i2d (zI a)) (FP.i2d (zI c))
def mean (fv : Nat → Int) (cnt : Nat) : UInt64 := if cnt = 0 then FP.dconst0 else mnD (vsum fv cnt) (cnt : Int)
def ds1 (d : Int64) (a : Int) : Int64 := d * 31 + (zI a).toInt64
def dsF (fv fs fd : Nat → Int) (d : Int64) : Nat → Int64
  | 0 => d
  | n + 1 => ds1 (ds1 (ds1 (dsF fv fs fd d n) (fv n)) (fs n)) (fd n)
/-- the three numbers of a postage -/
def dq1 (cnt : Nat) (fv fs : Nat → Int) (rm : Int) (p : Nat) : Int := if LSm cnt fv fs rm p = -1 then (-1 : Int) else LSm cnt fv fs rm p - (p : Int)
def dq2 (cnt : Nat) (fv fs : Nat → Int) (rm : Int) (p : Nat) : Int := if LSm cnt fv fs rm p = -1 then (0 : Int) else TB cnt fv fs rm (LSm cnt fv fs rm p).toNat
def dq3 (cnt : Nat) (fv : Nat → Int) (rm : Int) (p : Nat) : Int := if PF fv cnt 0 p ≤ rm then PF fv cnt 0 p else (-1)
def dpF (cnt : Nat) (fv fs : Nat → Int) (rm : Int) (d : Int64) : Nat → Int64
  | 0 => d
  | n + 1 => ds1 (ds1 (ds1 (dpF cnt fv fs rm d n) (dq1 cnt fv fs rm (25 * (n + 1)))) (dq2 cnt fv fs rm (25 * (n + 1)))) (dq3 cnt fv rm (25 * (n + 1)))
def d11 (cnt : Nat) (fv fs : Nat → Int) (rm lt tk ov : Int) : Int64 := ds1 (ds1 (ds1 (ds1 (ds1 (ds1 (ds1 (ds1 (ds1 (ds1 (ds1 2129 (cnt : Int)) rm) lt) tk) ov) (scF fs cnt).1) (RC cnt fv fs rm : Int)) (GS cnt fv fs rm)) (RP fv cnt 0 rm : Int)) (bvF fv cnt rm 60).1) (bpF cnt fv fs rm cnt).1
def dgF (cnt : Nat) (fv fs fd : Nat → Int) (rm lt tk ov : Int) : Int64 := dpF cnt fv fs rm (dsF fv fs fd (d11 cnt fv fs rm lt tk ov) cnt) 12
theorem vsum_bd {fv : Nat → Int} : ∀ n, (∀ j, j < n → 1 ≤ fv j ∧ fv j ≤ 60) → 0 ≤ vsum fv n ∧ vsum fv n ≤ 60 * (n : Int)
  | 0, _ => ⟨Int.le_refl _, Int.le_refl _⟩
  | n + 1, h => by
    have ih := vsum_bd n (fun j hj => h j (Nat.lt_succ_of_lt hj))
    have h1 := h n (Nat.lt_succ_self n)
    show 0 ≤ vsum fv n + fv n ∧ vsum fv n + fv n ≤ 60 * ((n + 1 : Nat) : Int)
    omega
def nnB (a b : Nat) : Bool := decide (mnD (a : Int) (b : Int) &&& 0x7fffffffffffffff ≤ 0x7ff0000000000000)
set_option maxRecDepth 100000 in
theorem nn_all : (List.range 481).all (fun a => (List.range 8).all (fun b => nnB a (b + 1))) = true := by decide +kernel
theorem mean_ok {fv : Nat → Int} {cnt : Nat} (hc : cnt ≤ 8) (h0 : cnt ≠ 0) (h : ∀ j, j < cnt → 1 ≤ fv j ∧ fv j ≤ 60) : vf_n64 (mnD (vsum fv cnt) (cnt : Int)) := by
  have hb := vsum_bd cnt h
  have h1 := List.all_eq_true.mp nn_all (vsum fv cnt).toNat (List.mem_range.mpr (by omega))
  have h2 := List.all_eq_true.mp h1 (cnt - 1) (List.mem_range.mpr (by omega))
  have h3 := of_decide_eq_true h2
  rw [show (((vsum fv cnt).toNat : Nat) : Int) = vsum fv cnt by omega, show cnt - 1 + 1 = cnt by omega] at h3
  exact h3
