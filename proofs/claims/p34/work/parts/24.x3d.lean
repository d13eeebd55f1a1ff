abbrev rmX3_vend : Room := { frames := 8, cells := 2, slots := 12, locals := 160 }
set_option maxHeartbeats 4000000 in
set_option maxRecDepth 100000 in
theorem met_X3_vend (l : Launch) (hl9 : l.stackTraces = false) (D : va_G) (cI cG cJ : ClassId) (h : Nat) (ad a2 bd pd : Nat → Nat) (cnt : Nat) (fv fs fd : Nat → Int) (rm lt tk ov : Int) (hI : XI cnt fv fs rm) (c2 : Int) (gv gs gd : Nat → Int) (tc tr : Int) (ft tv tu fc : Nat → Int) (M : Nat → Nat → Int) (fa fb : Nat → Int) (N : Nat → Nat → Int) (p : Int) (hp : zr p)  : gMex l yX3_vend cX3_vend 4 (some .int) rmX3_vend D cI cG cJ [.ref h, .int (zI p)] (((((wV h (ad 0) (a2 0) (bd 0) (pd 0) rm lt tk ov) ++ (wS ad cI (cnt : Int) fv fs fd)) ++ (wS a2 cI c2 gv gs gd)) ++ (wT bd cI cG tc tr ft tv tu fc M)) ++ (wP pd cI cG fa fb N)) (gI (fun z w9 => ((1 ≤ p ∧ p ≤ 300) ∧ LSm cnt fv fs rm p.toNat ≠ -1 ∧ z = LSm cnt fv fs rm p.toNat - p) ∧ XW h ad a2 bd pd cI cG cnt fv (sbS cnt fs (CH cnt fv fs rm (LSm cnt fv fs rm p.toNat).toNat)) (cpy fd (fun j => fd j + CH cnt fv fs rm (LSm cnt fv fs rm p.toNat).toNat j) cnt) rm (lt + 1) (tk + LSm cnt fv fs rm p.toNat) (ov + (LSm cnt fv fs rm p.toNat - p)) w9)) (fun nm w9 => (nm = IAE ∧ ¬ (1 ≤ p ∧ p ≤ 300) ∧ XW h ad a2 bd pd cI cG cnt fv fs fd rm lt tk ov w9) ∨ (nm = ISE ∧ (1 ≤ p ∧ p ≤ 300) ∧ LSm cnt fv fs rm p.toNat = -1 ∧ XW h ad a2 bd pd cI cG cnt fv fs fd rm lt tk ov w9)) := by
  obtain ⟨hc, hS, h99, hr1, hr2⟩ := id hI
  have hr : 0 ≤ rm ∧ rm ≤ 12 := ⟨by omega, hr2⟩
  have hv1 : ∀ j, j < cnt → 1 ≤ fv j := fun j hj => (hS.1 j hj).1
  refine gMex_I hl9 (by decide) rfl (Nat.le_of_ble_eq_true rfl) (fun E C ret out thr => ?_)
  refine g_iload_n C dX3_vend_0 1 rfl ?_
  refine g_callSX (wr := ((((wV h (ad 0) (a2 0) (bd 0) (pd 0) rm lt tk ov) ++ (wS ad cI (cnt : Int) fv fs fd)) ++ (wS a2 cI c2 gv gs gd)) ++ (wT bd cI cG tc tr ft tv tu fc M)) ++ (wP pd cI cG fa fb N)) (st := []) [] [0, 1, 2, 3, 4, 5, 6, 7, 8, 9, 10, 11, 12, 13, 14, 15, 16, 17, 18, 19, 20, 21, 22, 23, 24, 25, 26, 27, 28, 29, 30, 31, 32, 33, 34, 35, 36, 37, 38, 39, 40] C cX3_82 (met_X3_checkPostage l hl9 D cI cG cJ p hp) ⟨rfl, rfl, by decide, by decide, by decide⟩ (by decide) (by decide) rfl rfl (Nat.le_of_ble_eq_true rfl) dX3_vend_1 (fun nm9 w9 h9 => ?_) ?_
  · obtain ⟨rfl, h8, rfl⟩ := h9
    refine gx_perm (w' := ((((wV h (ad 0) (a2 0) (bd 0) (pd 0) rm lt tk ov) ++ (wS ad cI (cnt : Int) fv fs fd)) ++ (wS a2 cI c2 gv gs gd)) ++ (wT bd cI cG tc tr ft tv tu fc M)) ++ (wP pd cI cG fa fb N)) [0, 1, 2, 3, 4, 5, 6, 7, 8, 9, 10, 11, 12, 13, 14, 15, 16, 17, 18, 19, 20, 21, 22, 23, 24, 25, 26, 27, 28, 29, 30, 31, 32, 33, 34, 35, 36, 37, 38, 39, 40] (by decide) rfl ?_
    exact out _ _ _ _ _ _ (by decide) (by decide) (Or.inl ⟨rfl, h8, ⟨_, _, _, _, _, _, _, _, _, _, _, _, _, _, rfl⟩⟩)
  rintro v9 w9 ⟨rfl, hp9, rfl⟩
  obtain ⟨q, rfl⟩ : ∃ q : Nat, p = (q : Int) := ⟨p.toNat, by omega⟩
  refine g_ws (w' := ((((wV h (ad 0) (a2 0) (bd 0) (pd 0) rm lt tk ov) ++ (wS ad cI (cnt : Int) fv fs fd)) ++ (wS a2 cI c2 gv gs gd)) ++ (wT bd cI cG tc tr ft tv tu fc M)) ++ (wP pd cI cG fa fb N)) (st' := []) rfl rfl ?_
  refine g_aload_n C dX3_vend_4 0 rfl ?_
  refine g_getf C fX3_22 0 rfl rfl dX3_vend_5 ?_
  refine g_aload_n C dX3_vend_8 0 rfl ?_
  refine g_getf C fX3_12 0 rfl rfl dX3_vend_9 ?_
  refine g_aload_n C dX3_vend_12 0 rfl ?_
  refine g_getf C fX3_33 0 rfl rfl dX3_vend_13 ?_
  refine g_callV (wr := ((wV h (ad 0) (a2 0) (bd 0) (pd 0) rm lt tk ov) ++ (wS a2 cI c2 gv gs gd)) ++ (wP pd cI cG fa fb N)) (st := []) [9, 10, 11, 12, 13, 14, 15, 16, 17, 18, 19, 20, 21, 22, 23, 1, 2, 3, 4] [0, 5, 6, 7, 8, 24, 25, 26, 27, 28, 29, 30, 31, 32, 33, 34, 35, 36, 37, 38, 39, 40] C cX3_85 (met_X2_fill l D cI cG cJ ad cnt hc fv fs fd bd tc tr ft tv tu fc M hS rm hr) ⟨rfl, rfl, by decide, by decide, by decide⟩ (q0 := 9) rfl rfl (by decide) (by decide) rfl rfl (Nat.le_of_ble_eq_true rfl) dX3_vend_16 ?_
  rintro v9 w9 ⟨rfl, ft1, tv1, tu1, M1, ⟨hR, hM⟩, rfl⟩
  refine g_ws (w' := ((((wV h (ad 0) (a2 0) (bd 0) (pd 0) rm lt tk ov) ++ (wS a2 cI c2 gv gs gd)) ++ (wP pd cI cG fa fb N)) ++ (wT bd cI cG (cnt : Int) rm ft1 tv1 tu1 fc M1)) ++ (wS ad cI (cnt : Int) fv fs fd)) (st' := []) rfl rfl ?_
  refine g_perm (w' := ((((wV h (ad 0) (a2 0) (bd 0) (pd 0) rm lt tk ov) ++ (wS ad cI (cnt : Int) fv fs fd)) ++ (wS a2 cI c2 gv gs gd)) ++ (wT bd cI cG (cnt : Int) rm ft1 tv1 tu1 fc M1)) ++ (wP pd cI cG fa fb N)) [0, 37, 38, 39, 40, 1, 2, 3, 4, 22, 23, 24, 25, 26, 27, 28, 29, 30, 31, 32, 33, 34, 35, 36, 5, 6, 7, 8, 9, 10, 11, 12, 13, 14, 15, 16, 17, 18, 19, 20, 21] (by decide) rfl ?_
  refine g_aload_n C dX3_vend_19 0 rfl ?_
  refine g_getf C fX3_22 0 rfl rfl dX3_vend_20 ?_
  refine g_iload_n C dX3_vend_23 1 rfl ?_
  refine g_callV (wr := (((wV h (ad 0) (a2 0) (bd 0) (pd 0) rm lt tk ov) ++ (wS ad cI (cnt : Int) fv fs fd)) ++ (wS a2 cI c2 gv gs gd)) ++ (wP pd cI cG fa fb N)) (st := []) [9, 10, 11, 12, 13, 14, 15, 16, 17, 18, 19, 20, 21, 22, 23] [0, 1, 2, 3, 4, 5, 6, 7, 8, 24, 25, 26, 27, 28, 29, 30, 31, 32, 33, 34, 35, 36, 37, 38, 39, 40] C cX3_89 (met_X2_leastSum l D cI cG cJ bd cnt hc rm hr ft1 tv1 tu1 fc M1 (fun r j h1 h2 => hM.bd hS (Nat.zero_le _) h1 h2) q (by omega)) ⟨rfl, rfl, by decide, by decide, by decide⟩ (q0 := 9) rfl rfl (by decide) (by decide) rfl rfl (Nat.le_of_ble_eq_true rfl) dX3_vend_24 ?_
  rintro v9 w9 ⟨z9, rfl, rfl, rfl⟩
  refine g_ws (w' := ((((wV h (ad 0) (a2 0) (bd 0) (pd 0) rm lt tk ov) ++ (wS ad cI (cnt : Int) fv fs fd)) ++ (wS a2 cI c2 gv gs gd)) ++ (wP pd cI cG fa fb N)) ++ (wT bd cI cG (cnt : Int) rm ft1 tv1 tu1 fc M1)) (st' := [.int (zI (fsm (M1 0) rm (360 - q) q))]) rfl rfl ?_
  refine g_perm (w' := ((((wV h (ad 0) (a2 0) (bd 0) (pd 0) rm lt tk ov) ++ (wS ad cI (cnt : Int) fv fs fd)) ++ (wS a2 cI c2 gv gs gd)) ++ (wT bd cI cG (cnt : Int) rm ft1 tv1 tu1 fc M1)) ++ (wP pd cI cG fa fb N)) [0, 1, 2, 3, 4, 5, 6, 7, 8, 26, 27, 28, 29, 30, 31, 32, 33, 34, 35, 36, 37, 38, 39, 40, 9, 10, 11, 12, 13, 14, 15, 16, 17, 18, 19, 20, 21, 22, 23, 24, 25] (by decide) rfl ?_
  have hrg := LSm_rg (cnt := cnt) (fv := fv) (fs := fs) (rm := rm) (p := q) (by omega)
  refine g_top (LSm cnt fv fs rm q) (hM.ls (by omega)) ?_
  refine g_istore_n (L' := [(2, .int (zI (LSm cnt fv fs rm q))), (0, .ref h), (1, .int (zI (q : Int)))]) C dX3_vend_27 (by decide) rfl ?_
  refine g_iload_n C dX3_vend_28 0 rfl ?_
  refine g_iconst C dX3_vend_29 ?_
  refine g_icmp_ne 41 C dX3_vend_30 (by decide) (zr_i (by omega) (by omega)) (zr_i (by omega) (by omega)) (fun c_30 => ?_) (fun c_30 => ?_)
  · refine g_aload_n C dX3_vend_41 1 rfl ?_
    refine g_getf C fX3_22 0 rfl rfl dX3_vend_42 ?_
    refine g_iload_n C dX3_vend_45 0 rfl ?_
    refine g_top (((LSm cnt fv fs rm q).toNat : Nat) : Int) (by omega) ?_
    refine g_callV (wr := (((wV h (ad 0) (a2 0) (bd 0) (pd 0) rm lt tk ov) ++ (wS ad cI (cnt : Int) fv fs fd)) ++ (wS a2 cI c2 gv gs gd)) ++ (wP pd cI cG fa fb N)) (st := []) [9, 10, 11, 12, 13, 14, 15, 16, 17, 18, 19, 20, 21, 22, 23] [0, 1, 2, 3, 4, 5, 6, 7, 8, 24, 25, 26, 27, 28, 29, 30, 31, 32, 33, 34, 35, 36, 37, 38, 39, 40] C cX3_93 (met_X2_choose l D cI cG cJ bd cnt hc rm hr ft1 tv1 tu1 fc M1 (fun r j h1 h2 => hM.bd hS (Nat.zero_le _) h1 h2) (hR.tv hS) (hR.tu hS hr) (fun r h9 => by have := hR.ft hS r h9; omega) (LSm cnt fv fs rm q).toNat (by omega)) ⟨rfl, rfl, by decide, by decide, by decide⟩ (q0 := 9) rfl rfl (by decide) (by decide) rfl rfl (Nat.le_of_ble_eq_true rfl) dX3_vend_46 ?_
    rintro v9 w9 ⟨rfl, rfl⟩
    refine g_ws (w' := ((((wV h (ad 0) (a2 0) (bd 0) (pd 0) rm lt tk ov) ++ (wS ad cI (cnt : Int) fv fs fd)) ++ (wS a2 cI c2 gv gs gd)) ++ (wP pd cI cG fa fb N)) ++ (wT bd cI cG (cnt : Int) rm ft1 tv1 tu1 (chU M1 ft1 tv1 tu1 fc (LSm cnt fv fs rm q).toNat cnt) M1)) (st' := []) rfl rfl ?_
    refine g_perm (w' := ((((wV h (ad 0) (a2 0) (bd 0) (pd 0) rm lt tk ov) ++ (wS ad cI (cnt : Int) fv fs fd)) ++ (wS a2 cI c2 gv gs gd)) ++ (wT bd cI cG (cnt : Int) rm ft1 tv1 tu1 (chU M1 ft1 tv1 tu1 fc (LSm cnt fv fs rm q).toNat cnt) M1)) ++ (wP pd cI cG fa fb N)) [0, 1, 2, 3, 4, 5, 6, 7, 8, 26, 27, 28, 29, 30, 31, 32, 33, 34, 35, 36, 37, 38, 39, 40, 9, 10, 11, 12, 13, 14, 15, 16, 17, 18, 19, 20, 21, 22, 23, 24, 25] (by decide) rfl ?_
    refine g_aload_n C dX3_vend_49 1 rfl ?_
    refine g_getf C fX3_12 0 rfl rfl dX3_vend_50 ?_
    refine g_aload_n C dX3_vend_53 1 rfl ?_
    refine g_getf C fX3_22 0 rfl rfl dX3_vend_54 ?_
    refine g_getf C fX3_96 9 rfl rfl dX3_vend_57 ?_
    refine g_callV (wr := ((wV h (ad 0) (a2 0) (bd 0) (pd 0) rm lt tk ov) ++ (wS a2 cI c2 gv gs gd)) ++ (wP pd cI cG fa fb N)) (st := []) [1, 2, 3, 4, 9, 10, 11, 12, 13, 14, 15, 16, 17, 18, 19, 20, 21, 22, 23] [0, 5, 6, 7, 8, 24, 25, 26, 27, 28, 29, 30, 31, 32, 33, 34, 35, 36, 37, 38, 39, 40] C cX3_99 (met_X1_take l D cI cG cJ ad cnt hc fv fs fd bd (cnt : Int) rm ft1 tv1 tu1 (chU M1 ft1 tv1 tu1 fc (LSm cnt fv fs rm q).toNat cnt) M1) ⟨rfl, rfl, by decide, by decide, by decide⟩ (q0 := 1) rfl rfl (by decide) (by decide) rfl rfl (Nat.le_of_ble_eq_true rfl) dX3_vend_60 ?_
    rintro v9 w9 ⟨rfl, rfl⟩
    refine g_ws (w' := ((((wV h (ad 0) (a2 0) (bd 0) (pd 0) rm lt tk ov) ++ (wS a2 cI c2 gv gs gd)) ++ (wP pd cI cG fa fb N)) ++ (wS ad cI (cnt : Int) fv (cpy fs (fun j => fs j - (chU M1 ft1 tv1 tu1 fc (LSm cnt fv fs rm q).toNat cnt) j) cnt) (cpy fd (fun j => fd j + (chU M1 ft1 tv1 tu1 fc (LSm cnt fv fs rm q).toNat cnt) j) cnt))) ++ (wT bd cI cG (cnt : Int) rm ft1 tv1 tu1 (chU M1 ft1 tv1 tu1 fc (LSm cnt fv fs rm q).toNat cnt) M1)) (st' := []) rfl rfl ?_
    refine g_perm (w' := ((((wV h (ad 0) (a2 0) (bd 0) (pd 0) rm lt tk ov) ++ (wS ad cI (cnt : Int) fv (cpy fs (fun j => fs j - (chU M1 ft1 tv1 tu1 fc (LSm cnt fv fs rm q).toNat cnt) j) cnt) (cpy fd (fun j => fd j + (chU M1 ft1 tv1 tu1 fc (LSm cnt fv fs rm q).toNat cnt) j) cnt))) ++ (wS a2 cI c2 gv gs gd)) ++ (wT bd cI cG (cnt : Int) rm ft1 tv1 tu1 (chU M1 ft1 tv1 tu1 fc (LSm cnt fv fs rm q).toNat cnt) M1)) ++ (wP pd cI cG fa fb N)) [0, 22, 23, 24, 25, 1, 2, 3, 4, 26, 27, 28, 29, 30, 31, 32, 33, 34, 35, 36, 37, 38, 39, 40, 5, 6, 7, 8, 9, 10, 11, 12, 13, 14, 15, 16, 17, 18, 19, 20, 21] (by decide) rfl ?_
    have hch : ∀ j, j < cnt → (chU M1 ft1 tv1 tu1 fc (LSm cnt fv fs rm q).toNat cnt) j = CH cnt fv fs rm (LSm cnt fv fs rm q).toNat j := fun j hj => chU_CH (by omega) hS hR hM j hj
    refine g_ws (w' := ((((wV h (ad 0) (a2 0) (bd 0) (pd 0) rm lt tk ov) ++ (wS ad cI (cnt : Int) fv (sbS cnt fs (CH cnt fv fs rm (LSm cnt fv fs rm q).toNat)) (cpy fd (fun j => fd j + CH cnt fv fs rm (LSm cnt fv fs rm q).toNat j) cnt))) ++ (wS a2 cI c2 gv gs gd)) ++ (wT bd cI cG (cnt : Int) rm ft1 tv1 tu1 (chU M1 ft1 tv1 tu1 fc (LSm cnt fv fs rm q).toNat cnt) M1)) ++ (wP pd cI cG fa fb N)) (by rw [cpy_c (f := fs) (c := fun j => fs j - (chU M1 ft1 tv1 tu1 fc (LSm cnt fv fs rm q).toNat cnt) j) (c' := fun j => fs j - CH cnt fv fs rm (LSm cnt fv fs rm q).toNat j) (fun j hj => by rw [hch j hj]), cpy_c (f := fd) (c := fun j => fd j + (chU M1 ft1 tv1 tu1 fc (LSm cnt fv fs rm q).toNat cnt) j) (c' := fun j => fd j + CH cnt fv fs rm (LSm cnt fv fs rm q).toNat j) (fun j hj => by rw [hch j hj])]; rfl) rfl ?_
    refine g_iload_n C dX3_vend_63 0 rfl ?_
    refine g_iload_n C dX3_vend_64 2 rfl ?_
    refine g_isub C dX3_vend_65 ?_
    refine g_istore_n (L' := [(3, .int (zI ((LSm cnt fv fs rm q) - (q : Int)))), (2, .int (zI (LSm cnt fv fs rm q))), (0, .ref h), (1, .int (zI (q : Int)))]) C dX3_vend_66 (by decide) rfl ?_
    refine g_aload_n C dX3_vend_67 2 rfl ?_
    refine g_dup C dX3_vend_68 rfl ?_
    refine g_getf C fX3_37 0 rfl rfl dX3_vend_69 ?_
    refine g_iconst C dX3_vend_72 ?_
    refine g_iadd C dX3_vend_73 ?_
    refine g_putf (w' := ((((wV h (ad 0) (a2 0) (bd 0) (pd 0) rm (lt + 1) tk ov) ++ (wS ad cI (cnt : Int) fv (sbS cnt fs (CH cnt fv fs rm (LSm cnt fv fs rm q).toNat)) (cpy fd (fun j => fd j + CH cnt fv fs rm (LSm cnt fv fs rm q).toNat j) cnt))) ++ (wS a2 cI c2 gv gs gd)) ++ (wT bd cI cG (cnt : Int) rm ft1 tv1 tu1 (chU M1 ft1 tv1 tu1 fc (LSm cnt fv fs rm q).toNat cnt) M1)) ++ (wP pd cI cG fa fb N)) C pX3_37 0 rfl rfl rfl (Nat.le_of_ble_eq_true rfl) rfl dX3_vend_74 ?_
    refine g_aload_n C dX3_vend_77 2 rfl ?_
    refine g_dup C dX3_vend_78 rfl ?_
    refine g_getf C fX3_40 0 rfl rfl dX3_vend_79 ?_
    refine g_iload_n C dX3_vend_82 1 rfl ?_
    refine g_iadd C dX3_vend_83 ?_
    refine g_putf (w' := ((((wV h (ad 0) (a2 0) (bd 0) (pd 0) rm (lt + 1) (tk + (LSm cnt fv fs rm q)) ov) ++ (wS ad cI (cnt : Int) fv (sbS cnt fs (CH cnt fv fs rm (LSm cnt fv fs rm q).toNat)) (cpy fd (fun j => fd j + CH cnt fv fs rm (LSm cnt fv fs rm q).toNat j) cnt))) ++ (wS a2 cI c2 gv gs gd)) ++ (wT bd cI cG (cnt : Int) rm ft1 tv1 tu1 (chU M1 ft1 tv1 tu1 fc (LSm cnt fv fs rm q).toNat cnt) M1)) ++ (wP pd cI cG fa fb N)) C pX3_40 0 rfl rfl rfl (Nat.le_of_ble_eq_true rfl) rfl dX3_vend_84 ?_
    refine g_aload_n C dX3_vend_87 2 rfl ?_
    refine g_dup C dX3_vend_88 rfl ?_
    refine g_getf C fX3_43 0 rfl rfl dX3_vend_89 ?_
    refine g_iload_n C dX3_vend_92 0 rfl ?_
    refine g_iadd C dX3_vend_93 ?_
    refine g_putf (w' := ((((wV h (ad 0) (a2 0) (bd 0) (pd 0) rm (lt + 1) (tk + (LSm cnt fv fs rm q)) (ov + ((LSm cnt fv fs rm q) - (q : Int)))) ++ (wS ad cI (cnt : Int) fv (sbS cnt fs (CH cnt fv fs rm (LSm cnt fv fs rm q).toNat)) (cpy fd (fun j => fd j + CH cnt fv fs rm (LSm cnt fv fs rm q).toNat j) cnt))) ++ (wS a2 cI c2 gv gs gd)) ++ (wT bd cI cG (cnt : Int) rm ft1 tv1 tu1 (chU M1 ft1 tv1 tu1 fc (LSm cnt fv fs rm q).toNat cnt) M1)) ++ (wP pd cI cG fa fb N)) C pX3_43 0 rfl rfl rfl (Nat.le_of_ble_eq_true rfl) rfl dX3_vend_94 ?_
    refine g_iload_n C dX3_vend_97 0 rfl ?_
    exact ret _ _ _ _ _ _ (by decide) (by decide) dX3_vend_98 (⟨⟨hp9, c_30, rfl⟩, ⟨_, _, _, _, _, _, _, _, _, _, _, _, _, _, rfl⟩⟩)
  · exact thr _ _ _ _ _ _ _ _ _ _ thX3_58 (by decide) (by decide) (by decide) (Nat.le_of_ble_eq_true rfl) (Or.inr ⟨rfl, hp9, c_30, ⟨_, _, _, _, _, _, _, _, _, _, _, _, _, _, rfl⟩⟩) dX3_vend_33 dX3_vend_36 dX3_vend_37 dX3_vend_40
abbrev rmX3_ofStampFor : Room := { frames := 8, cells := 2, slots := 12, locals := 160 }
set_option maxHeartbeats 4000000 in
set_option maxRecDepth 100000 in
theorem met_X3_ofStampFor (l : Launch) (hl9 : l.stackTraces = false) (D : va_G) (cI cG cJ : ClassId) (h : Nat) (ad a2 bd pd : Nat → Nat) (cnt : Nat) (fv fs fd : Nat → Int) (rm lt tk ov : Int) (hI : XI cnt fv fs rm) (c2 : Int) (gv gs gd : Nat → Int) (tc tr : Int) (ft tv tu fc : Nat → Int) (M : Nat → Nat → Int) (fa fb : Nat → Int) (N : Nat → Nat → Int) (p s : Int) (hp : zr p) (hs : zr s) : gMex l yX3_ofStampFor cX3_ofStampFor 4 (some .int) rmX3_ofStampFor D cI cG cJ [.ref h, .int (zI p), .int (zI s)] (((((wV h (ad 0) (a2 0) (bd 0) (pd 0) rm lt tk ov) ++ (wS ad cI (cnt : Int) fv fs fd)) ++ (wS a2 cI c2 gv gs gd)) ++ (wT bd cI cG tc tr ft tv tu fc M)) ++ (wP pd cI cG fa fb N)) (gI (fun z w9 => ((0 ≤ s ∧ s < (cnt : Int)) ∧ (1 ≤ p ∧ p ≤ 300) ∧ z = (if LSm cnt fv fs rm p.toNat = -1 then (0 : Int) else CH cnt fv fs rm (LSm cnt fv fs rm p.toNat).toNat s.toNat)) ∧ XW h ad a2 bd pd cI cG cnt fv fs fd rm lt tk ov w9)) (fun nm w9 => (nm = IOE ∧ ¬ (0 ≤ s ∧ s < (cnt : Int)) ∧ XW h ad a2 bd pd cI cG cnt fv fs fd rm lt tk ov w9) ∨ (nm = IAE ∧ (0 ≤ s ∧ s < (cnt : Int)) ∧ ¬ (1 ≤ p ∧ p ≤ 300) ∧ XW h ad a2 bd pd cI cG cnt fv fs fd rm lt tk ov w9)) := by
  obtain ⟨hc, hS, h99, hr1, hr2⟩ := id hI
  have hr : 0 ≤ rm ∧ rm ≤ 12 := ⟨by omega, hr2⟩
  have hv1 : ∀ j, j < cnt → 1 ≤ fv j := fun j hj => (hS.1 j hj).1
  refine gMex_I hl9 (by decide) rfl (Nat.le_of_ble_eq_true rfl) (fun E C ret out thr => ?_)
  refine g_aload_n C dX3_ofStampFor_0 0 rfl ?_
  refine g_iload_n C dX3_ofStampFor_1 2 rfl ?_
  refine g_callVX (wr := ((wS a2 cI c2 gv gs gd) ++ (wT bd cI cG tc tr ft tv tu fc M)) ++ (wP pd cI cG fa fb N)) (st := []) [0, 1, 2, 3, 4] [5, 6, 7, 8, 9, 10, 11, 12, 13, 14, 15, 16, 17, 18, 19, 20, 21, 22, 23, 24, 25, 26, 27, 28, 29, 30, 31, 32, 33, 34, 35, 36, 37, 38, 39, 40] C cX3_63 (met_X3_checkStamp l hl9 D cI cG cJ h ad a2 bd pd cnt hc fv fs fd rm lt tk ov s hs) ⟨rfl, rfl, by decide, by decide, by decide⟩ (q0 := 0) rfl rfl (by decide) (by decide) rfl rfl (Nat.le_of_ble_eq_true rfl) dX3_ofStampFor_2 (fun nm9 w9 h9 => ?_) ?_
  · obtain ⟨rfl, h8, rfl⟩ := h9
    refine gx_perm (w' := ((((wV h (ad 0) (a2 0) (bd 0) (pd 0) rm lt tk ov) ++ (wS ad cI (cnt : Int) fv fs fd)) ++ (wS a2 cI c2 gv gs gd)) ++ (wT bd cI cG tc tr ft tv tu fc M)) ++ (wP pd cI cG fa fb N)) [36, 37, 38, 39, 40, 0, 1, 2, 3, 4, 5, 6, 7, 8, 9, 10, 11, 12, 13, 14, 15, 16, 17, 18, 19, 20, 21, 22, 23, 24, 25, 26, 27, 28, 29, 30, 31, 32, 33, 34, 35] (by decide) rfl ?_
    exact out _ _ _ _ _ _ (by decide) (by decide) (Or.inl ⟨rfl, h8, ⟨_, _, _, _, _, _, _, _, _, _, _, _, _, _, rfl⟩⟩)
  rintro v9 w9 ⟨rfl, hs9, rfl⟩
  obtain ⟨j, rfl⟩ : ∃ j : Nat, s = (j : Int) := ⟨s.toNat, by omega⟩
  refine g_ws (w' := ((((wS a2 cI c2 gv gs gd) ++ (wT bd cI cG tc tr ft tv tu fc M)) ++ (wP pd cI cG fa fb N)) ++ (wV h (ad 0) (a2 0) (bd 0) (pd 0) rm lt tk ov)) ++ (wS ad cI (cnt : Int) fv fs fd)) (st' := []) rfl rfl ?_
  refine g_perm (w' := ((((wV h (ad 0) (a2 0) (bd 0) (pd 0) rm lt tk ov) ++ (wS ad cI (cnt : Int) fv fs fd)) ++ (wS a2 cI c2 gv gs gd)) ++ (wT bd cI cG tc tr ft tv tu fc M)) ++ (wP pd cI cG fa fb N)) [36, 37, 38, 39, 40, 0, 1, 2, 3, 4, 5, 6, 7, 8, 9, 10, 11, 12, 13, 14, 15, 16, 17, 18, 19, 20, 21, 22, 23, 24, 25, 26, 27, 28, 29, 30, 31, 32, 33, 34, 35] (by decide) rfl ?_
  refine g_iload_n C dX3_ofStampFor_5 1 rfl ?_
  refine g_callSX (wr := ((((wV h (ad 0) (a2 0) (bd 0) (pd 0) rm lt tk ov) ++ (wS ad cI (cnt : Int) fv fs fd)) ++ (wS a2 cI c2 gv gs gd)) ++ (wT bd cI cG tc tr ft tv tu fc M)) ++ (wP pd cI cG fa fb N)) (st := []) [] [0, 1, 2, 3, 4, 5, 6, 7, 8, 9, 10, 11, 12, 13, 14, 15, 16, 17, 18, 19, 20, 21, 22, 23, 24, 25, 26, 27, 28, 29, 30, 31, 32, 33, 34, 35, 36, 37, 38, 39, 40] C cX3_82 (met_X3_checkPostage l hl9 D cI cG cJ p hp) ⟨rfl, rfl, by decide, by decide, by decide⟩ (by decide) (by decide) rfl rfl (Nat.le_of_ble_eq_true rfl) dX3_ofStampFor_6 (fun nm9 w9 h9 => ?_) ?_
  · obtain ⟨rfl, h8, rfl⟩ := h9
    refine gx_perm (w' := ((((wV h (ad 0) (a2 0) (bd 0) (pd 0) rm lt tk ov) ++ (wS ad cI (cnt : Int) fv fs fd)) ++ (wS a2 cI c2 gv gs gd)) ++ (wT bd cI cG tc tr ft tv tu fc M)) ++ (wP pd cI cG fa fb N)) [0, 1, 2, 3, 4, 5, 6, 7, 8, 9, 10, 11, 12, 13, 14, 15, 16, 17, 18, 19, 20, 21, 22, 23, 24, 25, 26, 27, 28, 29, 30, 31, 32, 33, 34, 35, 36, 37, 38, 39, 40] (by decide) rfl ?_
    exact out _ _ _ _ _ _ (by decide) (by decide) (Or.inr ⟨rfl, hs9, h8, ⟨_, _, _, _, _, _, _, _, _, _, _, _, _, _, rfl⟩⟩)
  rintro v9 w9 ⟨rfl, hp9, rfl⟩
  obtain ⟨q, rfl⟩ : ∃ q : Nat, p = (q : Int) := ⟨p.toNat, by omega⟩
  refine g_ws (w' := ((((wV h (ad 0) (a2 0) (bd 0) (pd 0) rm lt tk ov) ++ (wS ad cI (cnt : Int) fv fs fd)) ++ (wS a2 cI c2 gv gs gd)) ++ (wT bd cI cG tc tr ft tv tu fc M)) ++ (wP pd cI cG fa fb N)) (st' := []) rfl rfl ?_
  refine g_aload_n C dX3_ofStampFor_9 0 rfl ?_
  refine g_getf C fX3_22 0 rfl rfl dX3_ofStampFor_10 ?_
  refine g_aload_n C dX3_ofStampFor_13 0 rfl ?_
  refine g_getf C fX3_12 0 rfl rfl dX3_ofStampFor_14 ?_
  refine g_aload_n C dX3_ofStampFor_17 0 rfl ?_
  refine g_getf C fX3_33 0 rfl rfl dX3_ofStampFor_18 ?_
  refine g_callV (wr := ((wV h (ad 0) (a2 0) (bd 0) (pd 0) rm lt tk ov) ++ (wS a2 cI c2 gv gs gd)) ++ (wP pd cI cG fa fb N)) (st := []) [9, 10, 11, 12, 13, 14, 15, 16, 17, 18, 19, 20, 21, 22, 23, 1, 2, 3, 4] [0, 5, 6, 7, 8, 24, 25, 26, 27, 28, 29, 30, 31, 32, 33, 34, 35, 36, 37, 38, 39, 40] C cX3_85 (met_X2_fill l D cI cG cJ ad cnt hc fv fs fd bd tc tr ft tv tu fc M hS rm hr) ⟨rfl, rfl, by decide, by decide, by decide⟩ (q0 := 9) rfl rfl (by decide) (by decide) rfl rfl (Nat.le_of_ble_eq_true rfl) dX3_ofStampFor_21 ?_
  rintro v9 w9 ⟨rfl, ft1, tv1, tu1, M1, ⟨hR, hM⟩, rfl⟩
  refine g_ws (w' := ((((wV h (ad 0) (a2 0) (bd 0) (pd 0) rm lt tk ov) ++ (wS a2 cI c2 gv gs gd)) ++ (wP pd cI cG fa fb N)) ++ (wT bd cI cG (cnt : Int) rm ft1 tv1 tu1 fc M1)) ++ (wS ad cI (cnt : Int) fv fs fd)) (st' := []) rfl rfl ?_
  refine g_perm (w' := ((((wV h (ad 0) (a2 0) (bd 0) (pd 0) rm lt tk ov) ++ (wS ad cI (cnt : Int) fv fs fd)) ++ (wS a2 cI c2 gv gs gd)) ++ (wT bd cI cG (cnt : Int) rm ft1 tv1 tu1 fc M1)) ++ (wP pd cI cG fa fb N)) [0, 37, 38, 39, 40, 1, 2, 3, 4, 22, 23, 24, 25, 26, 27, 28, 29, 30, 31, 32, 33, 34, 35, 36, 5, 6, 7, 8, 9, 10, 11, 12, 13, 14, 15, 16, 17, 18, 19, 20, 21] (by decide) rfl ?_
  refine g_aload_n C dX3_ofStampFor_24 0 rfl ?_
  refine g_getf C fX3_22 0 rfl rfl dX3_ofStampFor_25 ?_
  refine g_iload_n C dX3_ofStampFor_28 1 rfl ?_
  refine g_callV (wr := (((wV h (ad 0) (a2 0) (bd 0) (pd 0) rm lt tk ov) ++ (wS ad cI (cnt : Int) fv fs fd)) ++ (wS a2 cI c2 gv gs gd)) ++ (wP pd cI cG fa fb N)) (st := []) [9, 10, 11, 12, 13, 14, 15, 16, 17, 18, 19, 20, 21, 22, 23] [0, 1, 2, 3, 4, 5, 6, 7, 8, 24, 25, 26, 27, 28, 29, 30, 31, 32, 33, 34, 35, 36, 37, 38, 39, 40] C cX3_89 (met_X2_leastSum l D cI cG cJ bd cnt hc rm hr ft1 tv1 tu1 fc M1 (fun r j h1 h2 => hM.bd hS (Nat.zero_le _) h1 h2) q (by omega)) ⟨rfl, rfl, by decide, by decide, by decide⟩ (q0 := 9) rfl rfl (by decide) (by decide) rfl rfl (Nat.le_of_ble_eq_true rfl) dX3_ofStampFor_29 ?_
  rintro v9 w9 ⟨z9, rfl, rfl, rfl⟩
  refine g_ws (w' := ((((wV h (ad 0) (a2 0) (bd 0) (pd 0) rm lt tk ov) ++ (wS ad cI (cnt : Int) fv fs fd)) ++ (wS a2 cI c2 gv gs gd)) ++ (wP pd cI cG fa fb N)) ++ (wT bd cI cG (cnt : Int) rm ft1 tv1 tu1 fc M1)) (st' := [.int (zI (fsm (M1 0) rm (360 - q) q))]) rfl rfl ?_
  refine g_perm (w' := ((((wV h (ad 0) (a2 0) (bd 0) (pd 0) rm lt tk ov) ++ (wS ad cI (cnt : Int) fv fs fd)) ++ (wS a2 cI c2 gv gs gd)) ++ (wT bd cI cG (cnt : Int) rm ft1 tv1 tu1 fc M1)) ++ (wP pd cI cG fa fb N)) [0, 1, 2, 3, 4, 5, 6, 7, 8, 26, 27, 28, 29, 30, 31, 32, 33, 34, 35, 36, 37, 38, 39, 40, 9, 10, 11, 12, 13, 14, 15, 16, 17, 18, 19, 20, 21, 22, 23, 24, 25] (by decide) rfl ?_
  have hrg := LSm_rg (cnt := cnt) (fv := fv) (fs := fs) (rm := rm) (p := q) (by omega)
  refine g_top (LSm cnt fv fs rm q) (hM.ls (by omega)) ?_
  refine g_istore_n (L' := [(3, .int (zI (LSm cnt fv fs rm q))), (0, .ref h), (1, .int (zI (q : Int))), (2, .int (zI (j : Int)))]) C dX3_ofStampFor_32 (by decide) rfl ?_
  refine g_iload_n C dX3_ofStampFor_33 0 rfl ?_
  refine g_iconst C dX3_ofStampFor_34 ?_
  refine g_icmp_ne 40 C dX3_ofStampFor_35 (by decide) (zr_i (by omega) (by omega)) (zr_i (by omega) (by omega)) (fun c_35 => ?_) (fun c_35 => ?_)
  · refine g_aload_n C dX3_ofStampFor_40 1 rfl ?_
    refine g_getf C fX3_22 0 rfl rfl dX3_ofStampFor_41 ?_
    refine g_iload_n C dX3_ofStampFor_44 0 rfl ?_
    refine g_top (((LSm cnt fv fs rm q).toNat : Nat) : Int) (by omega) ?_
    refine g_callV (wr := (((wV h (ad 0) (a2 0) (bd 0) (pd 0) rm lt tk ov) ++ (wS ad cI (cnt : Int) fv fs fd)) ++ (wS a2 cI c2 gv gs gd)) ++ (wP pd cI cG fa fb N)) (st := []) [9, 10, 11, 12, 13, 14, 15, 16, 17, 18, 19, 20, 21, 22, 23] [0, 1, 2, 3, 4, 5, 6, 7, 8, 24, 25, 26, 27, 28, 29, 30, 31, 32, 33, 34, 35, 36, 37, 38, 39, 40] C cX3_93 (met_X2_choose l D cI cG cJ bd cnt hc rm hr ft1 tv1 tu1 fc M1 (fun r j h1 h2 => hM.bd hS (Nat.zero_le _) h1 h2) (hR.tv hS) (hR.tu hS hr) (fun r h9 => by have := hR.ft hS r h9; omega) (LSm cnt fv fs rm q).toNat (by omega)) ⟨rfl, rfl, by decide, by decide, by decide⟩ (q0 := 9) rfl rfl (by decide) (by decide) rfl rfl (Nat.le_of_ble_eq_true rfl) dX3_ofStampFor_45 ?_
    rintro v9 w9 ⟨rfl, rfl⟩
    refine g_ws (w' := ((((wV h (ad 0) (a2 0) (bd 0) (pd 0) rm lt tk ov) ++ (wS ad cI (cnt : Int) fv fs fd)) ++ (wS a2 cI c2 gv gs gd)) ++ (wP pd cI cG fa fb N)) ++ (wT bd cI cG (cnt : Int) rm ft1 tv1 tu1 (chU M1 ft1 tv1 tu1 fc (LSm cnt fv fs rm q).toNat cnt) M1)) (st' := []) rfl rfl ?_
    refine g_perm (w' := ((((wV h (ad 0) (a2 0) (bd 0) (pd 0) rm lt tk ov) ++ (wS ad cI (cnt : Int) fv fs fd)) ++ (wS a2 cI c2 gv gs gd)) ++ (wT bd cI cG (cnt : Int) rm ft1 tv1 tu1 (chU M1 ft1 tv1 tu1 fc (LSm cnt fv fs rm q).toNat cnt) M1)) ++ (wP pd cI cG fa fb N)) [0, 1, 2, 3, 4, 5, 6, 7, 8, 26, 27, 28, 29, 30, 31, 32, 33, 34, 35, 36, 37, 38, 39, 40, 9, 10, 11, 12, 13, 14, 15, 16, 17, 18, 19, 20, 21, 22, 23, 24, 25] (by decide) rfl ?_
    refine g_aload_n C dX3_ofStampFor_48 1 rfl ?_
    refine g_getf C fX3_22 0 rfl rfl dX3_ofStampFor_49 ?_
    refine g_getf C fX3_96 9 rfl rfl dX3_ofStampFor_52 ?_
    refine g_iload_n C dX3_ofStampFor_55 3 rfl ?_
    refine g_iald C 14 rfl (by decide) (by omega) (by omega) (v := ((chU M1 ft1 tv1 tu1 fc (LSm cnt fv fs rm q).toNat cnt) j)) rfl dX3_ofStampFor_56 ?_
    refine g_top (CH cnt fv fs rm (LSm cnt fv fs rm q).toNat j) (chU_CH (by omega) hS hR hM j (by omega)) ?_
    exact ret _ _ _ _ _ _ (by decide) (by decide) dX3_ofStampFor_57 (⟨⟨hs9, hp9, (if_neg c_35).symm⟩, ⟨_, _, _, _, _, _, _, _, _, _, _, _, _, _, rfl⟩⟩)
  · refine g_iconst C dX3_ofStampFor_38 ?_
    exact ret _ _ _ _ _ _ (by decide) (by decide) dX3_ofStampFor_39 (⟨⟨hs9, hp9, (if_pos c_35).symm⟩, ⟨_, _, _, _, _, _, _, _, _, _, _, _, _, _, rfl⟩⟩)
