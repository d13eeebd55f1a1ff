abbrev rmX3_checkStamp : Room := { frames := 6, cells := 1, slots := 6, locals := 100 }
set_option maxHeartbeats 4000000 in
set_option maxRecDepth 100000 in
theorem met_X3_checkStamp (l : Launch) (hl9 : l.stackTraces = false) (D : va_G) (cI cG cJ : ClassId) (h : Nat) (ad a2 bd pd : Nat → Nat) (cnt : Nat) (hc : cnt ≤ 8) (fv fs fd : Nat → Int) (rm lt tk ov : Int) (s : Int) (hs : zr s) : gMex l yX3_checkStamp cX3_checkStamp 2 none rmX3_checkStamp D cI cG cJ [.ref h, .int (zI s)] ((wV h (ad 0) (a2 0) (bd 0) (pd 0) rm lt tk ov) ++ (wS ad cI (cnt : Int) fv fs fd)) (gN (fun w9 => (0 ≤ s ∧ s < (cnt : Int)) ∧ w9 = (wV h (ad 0) (a2 0) (bd 0) (pd 0) rm lt tk ov) ++ (wS ad cI (cnt : Int) fv fs fd))) (fun nm w9 => nm = IOE ∧ ¬ (0 ≤ s ∧ s < (cnt : Int)) ∧ w9 = (wV h (ad 0) (a2 0) (bd 0) (pd 0) rm lt tk ov) ++ (wS ad cI (cnt : Int) fv fs fd)) := by
  refine gMex_N hl9 (by decide) rfl (Nat.le_of_ble_eq_true rfl) (fun E C ret out thr => ?_)
  refine g_iload_n C dX3_checkStamp_0 1 rfl ?_
  refine g_if_lt 15 C dX3_checkStamp_1 (by decide) hs (fun c_1 => ?_) (fun c_1 => ?_)
  · exact thr _ _ _ _ _ _ _ _ _ _ thX3_198 (by decide) (by decide) (by decide) (Nat.le_of_ble_eq_true rfl) (⟨rfl, by omega, rfl⟩) dX3_checkStamp_15 dX3_checkStamp_18 dX3_checkStamp_19 dX3_checkStamp_22
  · refine g_iload_n C dX3_checkStamp_4 1 rfl ?_
    refine g_aload_n C dX3_checkStamp_5 0 rfl ?_
    refine g_getf C fX3_12 0 rfl rfl dX3_checkStamp_6 ?_
    refine g_getf C fX3_49 1 rfl rfl dX3_checkStamp_9 ?_
    refine g_icmp_lt 23 C dX3_checkStamp_12 (by decide) hs (zr_i (by omega) (by omega)) (fun c_12 => ?_) (fun c_12 => ?_)
    · exact ret _ _ _ _ _ (by decide) (by decide) dX3_checkStamp_23 (⟨⟨by omega, by omega⟩, rfl⟩)
    · exact thr _ _ _ _ _ _ _ _ _ _ thX3_198 (by decide) (by decide) (by decide) (Nat.le_of_ble_eq_true rfl) (⟨rfl, by omega, rfl⟩) dX3_checkStamp_15 dX3_checkStamp_18 dX3_checkStamp_19 dX3_checkStamp_22
abbrev rmX3_checkPostage : Room := { frames := 6, cells := 1, slots := 6, locals := 100 }
set_option maxHeartbeats 4000000 in
set_option maxRecDepth 100000 in
theorem met_X3_checkPostage (l : Launch) (hl9 : l.stackTraces = false) (D : va_G) (cI cG cJ : ClassId) (p : Int) (hp : zr p) : gMex l yX3_checkPostage cX3_checkPostage 1 none rmX3_checkPostage D cI cG cJ [.int (zI p)] (([] : va_W)) (gN (fun w9 => (1 ≤ p ∧ p ≤ 300) ∧ w9 = [])) (fun nm w9 => nm = IAE ∧ ¬ (1 ≤ p ∧ p ≤ 300) ∧ w9 = []) := by
  refine gMex_N hl9 (by decide) rfl (Nat.le_of_ble_eq_true rfl) (fun E C ret out thr => ?_)
  refine g_iload_n C dX3_checkPostage_0 0 rfl ?_
  refine g_iconst C dX3_checkPostage_1 ?_
  refine g_icmp_lt 12 C dX3_checkPostage_2 (by decide) hp (zr_i (by omega) (by omega)) (fun c_2 => ?_) (fun c_2 => ?_)
  · exact thr _ _ _ _ _ _ _ _ _ _ thX3_48 (by decide) (by decide) (by decide) (Nat.le_of_ble_eq_true rfl) (⟨rfl, by omega, rfl⟩) dX3_checkPostage_12 dX3_checkPostage_15 dX3_checkPostage_16 dX3_checkPostage_19
  · refine g_iload_n C dX3_checkPostage_5 0 rfl ?_
    refine g_sipush C dX3_checkPostage_6 (by decide) ?_
    refine g_icmp_le 20 C dX3_checkPostage_9 (by decide) hp (zr_i (by omega) (by omega)) (fun c_9 => ?_) (fun c_9 => ?_)
    · exact ret _ _ _ _ _ (by decide) (by decide) dX3_checkPostage_20 (⟨⟨by omega, by omega⟩, rfl⟩)
    · exact thr _ _ _ _ _ _ _ _ _ _ thX3_48 (by decide) (by decide) (by decide) (Nat.le_of_ble_eq_true rfl) (⟨rfl, by omega, rfl⟩) dX3_checkPostage_12 dX3_checkPostage_15 dX3_checkPostage_16 dX3_checkPostage_19
abbrev rmX3_checkRoom : Room := { frames := 6, cells := 1, slots := 6, locals := 100 }
set_option maxHeartbeats 4000000 in
set_option maxRecDepth 100000 in
theorem met_X3_checkRoom (l : Launch) (hl9 : l.stackTraces = false) (D : va_G) (cI cG cJ : ClassId) (p : Int) (hp : zr p) : gMex l yX3_checkRoom cX3_checkRoom 1 none rmX3_checkRoom D cI cG cJ [.int (zI p)] (([] : va_W)) (gN (fun w9 => (1 ≤ p ∧ p ≤ 12) ∧ w9 = [])) (fun nm w9 => nm = IAE ∧ ¬ (1 ≤ p ∧ p ≤ 12) ∧ w9 = []) := by
  refine gMex_N hl9 (by decide) rfl (Nat.le_of_ble_eq_true rfl) (fun E C ret out thr => ?_)
  refine g_iload_n C dX3_checkRoom_0 0 rfl ?_
  refine g_iconst C dX3_checkRoom_1 ?_
  refine g_icmp_lt 11 C dX3_checkRoom_2 (by decide) hp (zr_i (by omega) (by omega)) (fun c_2 => ?_) (fun c_2 => ?_)
  · exact thr _ _ _ _ _ _ _ _ _ _ thX3_48 (by decide) (by decide) (by decide) (Nat.le_of_ble_eq_true rfl) (⟨rfl, by omega, rfl⟩) dX3_checkRoom_11 dX3_checkRoom_14 dX3_checkRoom_15 dX3_checkRoom_18
  · refine g_iload_n C dX3_checkRoom_5 0 rfl ?_
    refine g_bipush C dX3_checkRoom_6 (by decide) ?_
    refine g_icmp_le 19 C dX3_checkRoom_8 (by decide) hp (zr_i (by omega) (by omega)) (fun c_8 => ?_) (fun c_8 => ?_)
    · exact ret _ _ _ _ _ (by decide) (by decide) dX3_checkRoom_19 (⟨⟨by omega, by omega⟩, rfl⟩)
    · exact thr _ _ _ _ _ _ _ _ _ _ thX3_48 (by decide) (by decide) (by decide) (Nat.le_of_ble_eq_true rfl) (⟨rfl, by omega, rfl⟩) dX3_checkRoom_11 dX3_checkRoom_14 dX3_checkRoom_15 dX3_checkRoom_18
abbrev rmX3_stamps : Room := { frames := 0, cells := 0, slots := 0, locals := 0 }
set_option maxHeartbeats 4000000 in
set_option maxRecDepth 100000 in
theorem met_X3_stamps (l : Launch) (D : va_G) (cI cG cJ : ClassId) (h : Nat) (ad a2 bd pd : Nat → Nat) (cnt : Nat) (fv fs fd : Nat → Int) (rm lt tk ov : Int) (hI : XI cnt fv fs rm) (c2 : Int) (gv gs gd : Nat → Int) (tc tr : Int) (ft tv tu fc : Nat → Int) (M : Nat → Nat → Int) (fa fb : Nat → Int) (N : Nat → Nat → Int)  : gMet l yX3_stamps cX3_stamps 1 (some .int) rmX3_stamps D cI cG cJ [.ref h] (((((wV h (ad 0) (a2 0) (bd 0) (pd 0) rm lt tk ov) ++ (wS ad cI (cnt : Int) fv fs fd)) ++ (wS a2 cI c2 gv gs gd)) ++ (wT bd cI cG tc tr ft tv tu fc M)) ++ (wP pd cI cG fa fb N)) (gI (fun z w9 => z = (cnt : Int) ∧ XW h ad a2 bd pd cI cG cnt fv fs fd rm lt tk ov w9)) := by
  refine gMet_I (by decide) rfl (Nat.le_of_ble_eq_true rfl) (fun E C ret => ?_)
  refine g_aload_n C dX3_stamps_0 0 rfl ?_
  refine g_getf C fX3_12 0 rfl rfl dX3_stamps_1 ?_
  refine g_getf C fX3_49 1 rfl rfl dX3_stamps_4 ?_
  exact ret _ _ _ _ _ _ (by decide) (by decide) dX3_stamps_7 (⟨rfl, ⟨_, _, _, _, _, _, _, _, _, _, _, _, _, _, rfl⟩⟩)
abbrev rmX3_room : Room := { frames := 0, cells := 0, slots := 0, locals := 0 }
set_option maxHeartbeats 4000000 in
set_option maxRecDepth 100000 in
theorem met_X3_room (l : Launch) (D : va_G) (cI cG cJ : ClassId) (h : Nat) (ad a2 bd pd : Nat → Nat) (cnt : Nat) (fv fs fd : Nat → Int) (rm lt tk ov : Int) (hI : XI cnt fv fs rm) (c2 : Int) (gv gs gd : Nat → Int) (tc tr : Int) (ft tv tu fc : Nat → Int) (M : Nat → Nat → Int) (fa fb : Nat → Int) (N : Nat → Nat → Int)  : gMet l yX3_room cX3_room 1 (some .int) rmX3_room D cI cG cJ [.ref h] (((((wV h (ad 0) (a2 0) (bd 0) (pd 0) rm lt tk ov) ++ (wS ad cI (cnt : Int) fv fs fd)) ++ (wS a2 cI c2 gv gs gd)) ++ (wT bd cI cG tc tr ft tv tu fc M)) ++ (wP pd cI cG fa fb N)) (gI (fun z w9 => z = rm ∧ XW h ad a2 bd pd cI cG cnt fv fs fd rm lt tk ov w9)) := by
  refine gMet_I (by decide) rfl (Nat.le_of_ble_eq_true rfl) (fun E C ret => ?_)
  refine g_aload_n C dX3_room_0 0 rfl ?_
  refine g_getf C fX3_33 0 rfl rfl dX3_room_1 ?_
  exact ret _ _ _ _ _ _ (by decide) (by decide) dX3_room_4 (⟨rfl, ⟨_, _, _, _, _, _, _, _, _, _, _, _, _, _, rfl⟩⟩)
abbrev rmX3_letters : Room := { frames := 0, cells := 0, slots := 0, locals := 0 }
set_option maxHeartbeats 4000000 in
set_option maxRecDepth 100000 in
theorem met_X3_letters (l : Launch) (D : va_G) (cI cG cJ : ClassId) (h : Nat) (ad a2 bd pd : Nat → Nat) (cnt : Nat) (fv fs fd : Nat → Int) (rm lt tk ov : Int) (hI : XI cnt fv fs rm) (c2 : Int) (gv gs gd : Nat → Int) (tc tr : Int) (ft tv tu fc : Nat → Int) (M : Nat → Nat → Int) (fa fb : Nat → Int) (N : Nat → Nat → Int)  : gMet l yX3_letters cX3_letters 1 (some .int) rmX3_letters D cI cG cJ [.ref h] (((((wV h (ad 0) (a2 0) (bd 0) (pd 0) rm lt tk ov) ++ (wS ad cI (cnt : Int) fv fs fd)) ++ (wS a2 cI c2 gv gs gd)) ++ (wT bd cI cG tc tr ft tv tu fc M)) ++ (wP pd cI cG fa fb N)) (gI (fun z w9 => z = lt ∧ XW h ad a2 bd pd cI cG cnt fv fs fd rm lt tk ov w9)) := by
  refine gMet_I (by decide) rfl (Nat.le_of_ble_eq_true rfl) (fun E C ret => ?_)
  refine g_aload_n C dX3_letters_0 0 rfl ?_
  refine g_getf C fX3_37 0 rfl rfl dX3_letters_1 ?_
  exact ret _ _ _ _ _ _ (by decide) (by decide) dX3_letters_4 (⟨rfl, ⟨_, _, _, _, _, _, _, _, _, _, _, _, _, _, rfl⟩⟩)
abbrev rmX3_taken : Room := { frames := 0, cells := 0, slots := 0, locals := 0 }
set_option maxHeartbeats 4000000 in
set_option maxRecDepth 100000 in
theorem met_X3_taken (l : Launch) (D : va_G) (cI cG cJ : ClassId) (h : Nat) (ad a2 bd pd : Nat → Nat) (cnt : Nat) (fv fs fd : Nat → Int) (rm lt tk ov : Int) (hI : XI cnt fv fs rm) (c2 : Int) (gv gs gd : Nat → Int) (tc tr : Int) (ft tv tu fc : Nat → Int) (M : Nat → Nat → Int) (fa fb : Nat → Int) (N : Nat → Nat → Int)  : gMet l yX3_taken cX3_taken 1 (some .int) rmX3_taken D cI cG cJ [.ref h] (((((wV h (ad 0) (a2 0) (bd 0) (pd 0) rm lt tk ov) ++ (wS ad cI (cnt : Int) fv fs fd)) ++ (wS a2 cI c2 gv gs gd)) ++ (wT bd cI cG tc tr ft tv tu fc M)) ++ (wP pd cI cG fa fb N)) (gI (fun z w9 => z = tk ∧ XW h ad a2 bd pd cI cG cnt fv fs fd rm lt tk ov w9)) := by
  refine gMet_I (by decide) rfl (Nat.le_of_ble_eq_true rfl) (fun E C ret => ?_)
  refine g_aload_n C dX3_taken_0 0 rfl ?_
  refine g_getf C fX3_40 0 rfl rfl dX3_taken_1 ?_
  exact ret _ _ _ _ _ _ (by decide) (by decide) dX3_taken_4 (⟨rfl, ⟨_, _, _, _, _, _, _, _, _, _, _, _, _, _, rfl⟩⟩)
abbrev rmX3_overpaid : Room := { frames := 0, cells := 0, slots := 0, locals := 0 }
set_option maxHeartbeats 4000000 in
set_option maxRecDepth 100000 in
theorem met_X3_overpaid (l : Launch) (D : va_G) (cI cG cJ : ClassId) (h : Nat) (ad a2 bd pd : Nat → Nat) (cnt : Nat) (fv fs fd : Nat → Int) (rm lt tk ov : Int) (hI : XI cnt fv fs rm) (c2 : Int) (gv gs gd : Nat → Int) (tc tr : Int) (ft tv tu fc : Nat → Int) (M : Nat → Nat → Int) (fa fb : Nat → Int) (N : Nat → Nat → Int)  : gMet l yX3_overpaid cX3_overpaid 1 (some .int) rmX3_overpaid D cI cG cJ [.ref h] (((((wV h (ad 0) (a2 0) (bd 0) (pd 0) rm lt tk ov) ++ (wS ad cI (cnt : Int) fv fs fd)) ++ (wS a2 cI c2 gv gs gd)) ++ (wT bd cI cG tc tr ft tv tu fc M)) ++ (wP pd cI cG fa fb N)) (gI (fun z w9 => z = ov ∧ XW h ad a2 bd pd cI cG cnt fv fs fd rm lt tk ov w9)) := by
  refine gMet_I (by decide) rfl (Nat.le_of_ble_eq_true rfl) (fun E C ret => ?_)
  refine g_aload_n C dX3_overpaid_0 0 rfl ?_
  refine g_getf C fX3_43 0 rfl rfl dX3_overpaid_1 ?_
  exact ret _ _ _ _ _ _ (by decide) (by decide) dX3_overpaid_4 (⟨rfl, ⟨_, _, _, _, _, _, _, _, _, _, _, _, _, _, rfl⟩⟩)
abbrev rmX3_valueOf : Room := { frames := 7, cells := 1, slots := 6, locals := 130 }
set_option maxHeartbeats 4000000 in
set_option maxRecDepth 100000 in
theorem met_X3_valueOf (l : Launch) (hl9 : l.stackTraces = false) (D : va_G) (cI cG cJ : ClassId) (h : Nat) (ad a2 bd pd : Nat → Nat) (cnt : Nat) (fv fs fd : Nat → Int) (rm lt tk ov : Int) (hI : XI cnt fv fs rm) (c2 : Int) (gv gs gd : Nat → Int) (tc tr : Int) (ft tv tu fc : Nat → Int) (M : Nat → Nat → Int) (fa fb : Nat → Int) (N : Nat → Nat → Int) (s : Int) (hs : zr s) : gMex l yX3_valueOf cX3_valueOf 2 (some .int) rmX3_valueOf D cI cG cJ [.ref h, .int (zI s)] (((((wV h (ad 0) (a2 0) (bd 0) (pd 0) rm lt tk ov) ++ (wS ad cI (cnt : Int) fv fs fd)) ++ (wS a2 cI c2 gv gs gd)) ++ (wT bd cI cG tc tr ft tv tu fc M)) ++ (wP pd cI cG fa fb N)) (gI (fun z w9 => ((0 ≤ s ∧ s < (cnt : Int)) ∧ z = fv s.toNat) ∧ XW h ad a2 bd pd cI cG cnt fv fs fd rm lt tk ov w9)) (fun nm w9 => nm = IOE ∧ ¬ (0 ≤ s ∧ s < (cnt : Int)) ∧ XW h ad a2 bd pd cI cG cnt fv fs fd rm lt tk ov w9) := by
  obtain ⟨hc, hS, h99, hr1, hr2⟩ := id hI
  have hr : 0 ≤ rm ∧ rm ≤ 12 := ⟨by omega, hr2⟩
  have hv1 : ∀ j, j < cnt → 1 ≤ fv j := fun j hj => (hS.1 j hj).1
  refine gMex_I hl9 (by decide) rfl (Nat.le_of_ble_eq_true rfl) (fun E C ret out thr => ?_)
  refine g_aload_n C dX3_valueOf_0 0 rfl ?_
  refine g_iload_n C dX3_valueOf_1 1 rfl ?_
  refine g_callVX (wr := ((wS a2 cI c2 gv gs gd) ++ (wT bd cI cG tc tr ft tv tu fc M)) ++ (wP pd cI cG fa fb N)) (st := []) [0, 1, 2, 3, 4] [5, 6, 7, 8, 9, 10, 11, 12, 13, 14, 15, 16, 17, 18, 19, 20, 21, 22, 23, 24, 25, 26, 27, 28, 29, 30, 31, 32, 33, 34, 35, 36, 37, 38, 39, 40] C cX3_63 (met_X3_checkStamp l hl9 D cI cG cJ h ad a2 bd pd cnt hc fv fs fd rm lt tk ov s hs) ⟨rfl, rfl, by decide, by decide, by decide⟩ (q0 := 0) rfl rfl (by decide) (by decide) rfl rfl (Nat.le_of_ble_eq_true rfl) dX3_valueOf_2 (fun nm9 w9 h9 => ?_) ?_
  · obtain ⟨rfl, h8, rfl⟩ := h9
    refine gx_perm (w' := ((((wV h (ad 0) (a2 0) (bd 0) (pd 0) rm lt tk ov) ++ (wS ad cI (cnt : Int) fv fs fd)) ++ (wS a2 cI c2 gv gs gd)) ++ (wT bd cI cG tc tr ft tv tu fc M)) ++ (wP pd cI cG fa fb N)) [36, 37, 38, 39, 40, 0, 1, 2, 3, 4, 5, 6, 7, 8, 9, 10, 11, 12, 13, 14, 15, 16, 17, 18, 19, 20, 21, 22, 23, 24, 25, 26, 27, 28, 29, 30, 31, 32, 33, 34, 35] (by decide) rfl ?_
    exact out _ _ _ _ _ _ (by decide) (by decide) (⟨rfl, h8, ⟨_, _, _, _, _, _, _, _, _, _, _, _, _, _, rfl⟩⟩)
  rintro v9 w9 ⟨rfl, hs9, rfl⟩
  obtain ⟨j, rfl⟩ : ∃ j : Nat, s = (j : Int) := ⟨s.toNat, by omega⟩
  refine g_ws (w' := ((((wS a2 cI c2 gv gs gd) ++ (wT bd cI cG tc tr ft tv tu fc M)) ++ (wP pd cI cG fa fb N)) ++ (wV h (ad 0) (a2 0) (bd 0) (pd 0) rm lt tk ov)) ++ (wS ad cI (cnt : Int) fv fs fd)) (st' := []) rfl rfl ?_
  refine g_perm (w' := ((((wV h (ad 0) (a2 0) (bd 0) (pd 0) rm lt tk ov) ++ (wS ad cI (cnt : Int) fv fs fd)) ++ (wS a2 cI c2 gv gs gd)) ++ (wT bd cI cG tc tr ft tv tu fc M)) ++ (wP pd cI cG fa fb N)) [36, 37, 38, 39, 40, 0, 1, 2, 3, 4, 5, 6, 7, 8, 9, 10, 11, 12, 13, 14, 15, 16, 17, 18, 19, 20, 21, 22, 23, 24, 25, 26, 27, 28, 29, 30, 31, 32, 33, 34, 35] (by decide) rfl ?_
  refine g_aload_n C dX3_valueOf_5 0 rfl ?_
  refine g_getf C fX3_12 0 rfl rfl dX3_valueOf_6 ?_
  refine g_getf C fX3_103 1 rfl rfl dX3_valueOf_9 ?_
  refine g_iload_n C dX3_valueOf_12 1 rfl ?_
  refine g_iald C 2 rfl (by decide) (by omega) (by omega) (v := (fv j)) rfl dX3_valueOf_13 ?_
  exact ret _ _ _ _ _ _ (by decide) (by decide) dX3_valueOf_14 (⟨⟨hs9, rfl⟩, ⟨_, _, _, _, _, _, _, _, _, _, _, _, _, _, rfl⟩⟩)
abbrev rmX3_stockOf : Room := { frames := 7, cells := 1, slots := 6, locals := 130 }
set_option maxHeartbeats 4000000 in
set_option maxRecDepth 100000 in
theorem met_X3_stockOf (l : Launch) (hl9 : l.stackTraces = false) (D : va_G) (cI cG cJ : ClassId) (h : Nat) (ad a2 bd pd : Nat → Nat) (cnt : Nat) (fv fs fd : Nat → Int) (rm lt tk ov : Int) (hI : XI cnt fv fs rm) (c2 : Int) (gv gs gd : Nat → Int) (tc tr : Int) (ft tv tu fc : Nat → Int) (M : Nat → Nat → Int) (fa fb : Nat → Int) (N : Nat → Nat → Int) (s : Int) (hs : zr s) : gMex l yX3_stockOf cX3_stockOf 2 (some .int) rmX3_stockOf D cI cG cJ [.ref h, .int (zI s)] (((((wV h (ad 0) (a2 0) (bd 0) (pd 0) rm lt tk ov) ++ (wS ad cI (cnt : Int) fv fs fd)) ++ (wS a2 cI c2 gv gs gd)) ++ (wT bd cI cG tc tr ft tv tu fc M)) ++ (wP pd cI cG fa fb N)) (gI (fun z w9 => ((0 ≤ s ∧ s < (cnt : Int)) ∧ z = fs s.toNat) ∧ XW h ad a2 bd pd cI cG cnt fv fs fd rm lt tk ov w9)) (fun nm w9 => nm = IOE ∧ ¬ (0 ≤ s ∧ s < (cnt : Int)) ∧ XW h ad a2 bd pd cI cG cnt fv fs fd rm lt tk ov w9) := by
  obtain ⟨hc, hS, h99, hr1, hr2⟩ := id hI
  have hr : 0 ≤ rm ∧ rm ≤ 12 := ⟨by omega, hr2⟩
  have hv1 : ∀ j, j < cnt → 1 ≤ fv j := fun j hj => (hS.1 j hj).1
  refine gMex_I hl9 (by decide) rfl (Nat.le_of_ble_eq_true rfl) (fun E C ret out thr => ?_)
  refine g_aload_n C dX3_stockOf_0 0 rfl ?_
  refine g_iload_n C dX3_stockOf_1 1 rfl ?_
  refine g_callVX (wr := ((wS a2 cI c2 gv gs gd) ++ (wT bd cI cG tc tr ft tv tu fc M)) ++ (wP pd cI cG fa fb N)) (st := []) [0, 1, 2, 3, 4] [5, 6, 7, 8, 9, 10, 11, 12, 13, 14, 15, 16, 17, 18, 19, 20, 21, 22, 23, 24, 25, 26, 27, 28, 29, 30, 31, 32, 33, 34, 35, 36, 37, 38, 39, 40] C cX3_63 (met_X3_checkStamp l hl9 D cI cG cJ h ad a2 bd pd cnt hc fv fs fd rm lt tk ov s hs) ⟨rfl, rfl, by decide, by decide, by decide⟩ (q0 := 0) rfl rfl (by decide) (by decide) rfl rfl (Nat.le_of_ble_eq_true rfl) dX3_stockOf_2 (fun nm9 w9 h9 => ?_) ?_
  · obtain ⟨rfl, h8, rfl⟩ := h9
    refine gx_perm (w' := ((((wV h (ad 0) (a2 0) (bd 0) (pd 0) rm lt tk ov) ++ (wS ad cI (cnt : Int) fv fs fd)) ++ (wS a2 cI c2 gv gs gd)) ++ (wT bd cI cG tc tr ft tv tu fc M)) ++ (wP pd cI cG fa fb N)) [36, 37, 38, 39, 40, 0, 1, 2, 3, 4, 5, 6, 7, 8, 9, 10, 11, 12, 13, 14, 15, 16, 17, 18, 19, 20, 21, 22, 23, 24, 25, 26, 27, 28, 29, 30, 31, 32, 33, 34, 35] (by decide) rfl ?_
    exact out _ _ _ _ _ _ (by decide) (by decide) (⟨rfl, h8, ⟨_, _, _, _, _, _, _, _, _, _, _, _, _, _, rfl⟩⟩)
  rintro v9 w9 ⟨rfl, hs9, rfl⟩
  obtain ⟨j, rfl⟩ : ∃ j : Nat, s = (j : Int) := ⟨s.toNat, by omega⟩
  refine g_ws (w' := ((((wS a2 cI c2 gv gs gd) ++ (wT bd cI cG tc tr ft tv tu fc M)) ++ (wP pd cI cG fa fb N)) ++ (wV h (ad 0) (a2 0) (bd 0) (pd 0) rm lt tk ov)) ++ (wS ad cI (cnt : Int) fv fs fd)) (st' := []) rfl rfl ?_
  refine g_perm (w' := ((((wV h (ad 0) (a2 0) (bd 0) (pd 0) rm lt tk ov) ++ (wS ad cI (cnt : Int) fv fs fd)) ++ (wS a2 cI c2 gv gs gd)) ++ (wT bd cI cG tc tr ft tv tu fc M)) ++ (wP pd cI cG fa fb N)) [36, 37, 38, 39, 40, 0, 1, 2, 3, 4, 5, 6, 7, 8, 9, 10, 11, 12, 13, 14, 15, 16, 17, 18, 19, 20, 21, 22, 23, 24, 25, 26, 27, 28, 29, 30, 31, 32, 33, 34, 35] (by decide) rfl ?_
  refine g_aload_n C dX3_stockOf_5 0 rfl ?_
  refine g_getf C fX3_12 0 rfl rfl dX3_stockOf_6 ?_
  refine g_getf C fX3_67 1 rfl rfl dX3_stockOf_9 ?_
  refine g_iload_n C dX3_stockOf_12 1 rfl ?_
  refine g_iald C 3 rfl (by decide) (by omega) (by omega) (v := (fs j)) rfl dX3_stockOf_13 ?_
  exact ret _ _ _ _ _ _ (by decide) (by decide) dX3_stockOf_14 (⟨⟨hs9, rfl⟩, ⟨_, _, _, _, _, _, _, _, _, _, _, _, _, _, rfl⟩⟩)
abbrev rmX3_vendedOf : Room := { frames := 7, cells := 1, slots := 6, locals := 130 }
set_option maxHeartbeats 4000000 in
set_option maxRecDepth 100000 in
theorem met_X3_vendedOf (l : Launch) (hl9 : l.stackTraces = false) (D : va_G) (cI cG cJ : ClassId) (h : Nat) (ad a2 bd pd : Nat → Nat) (cnt : Nat) (fv fs fd : Nat → Int) (rm lt tk ov : Int) (hI : XI cnt fv fs rm) (c2 : Int) (gv gs gd : Nat → Int) (tc tr : Int) (ft tv tu fc : Nat → Int) (M : Nat → Nat → Int) (fa fb : Nat → Int) (N : Nat → Nat → Int) (s : Int) (hs : zr s) : gMex l yX3_vendedOf cX3_vendedOf 2 (some .int) rmX3_vendedOf D cI cG cJ [.ref h, .int (zI s)] (((((wV h (ad 0) (a2 0) (bd 0) (pd 0) rm lt tk ov) ++ (wS ad cI (cnt : Int) fv fs fd)) ++ (wS a2 cI c2 gv gs gd)) ++ (wT bd cI cG tc tr ft tv tu fc M)) ++ (wP pd cI cG fa fb N)) (gI (fun z w9 => ((0 ≤ s ∧ s < (cnt : Int)) ∧ z = fd s.toNat) ∧ XW h ad a2 bd pd cI cG cnt fv fs fd rm lt tk ov w9)) (fun nm w9 => nm = IOE ∧ ¬ (0 ≤ s ∧ s < (cnt : Int)) ∧ XW h ad a2 bd pd cI cG cnt fv fs fd rm lt tk ov w9) := by
  obtain ⟨hc, hS, h99, hr1, hr2⟩ := id hI
  have hr : 0 ≤ rm ∧ rm ≤ 12 := ⟨by omega, hr2⟩
  have hv1 : ∀ j, j < cnt → 1 ≤ fv j := fun j hj => (hS.1 j hj).1
  refine gMex_I hl9 (by decide) rfl (Nat.le_of_ble_eq_true rfl) (fun E C ret out thr => ?_)
  refine g_aload_n C dX3_vendedOf_0 0 rfl ?_
  refine g_iload_n C dX3_vendedOf_1 1 rfl ?_
  refine g_callVX (wr := ((wS a2 cI c2 gv gs gd) ++ (wT bd cI cG tc tr ft tv tu fc M)) ++ (wP pd cI cG fa fb N)) (st := []) [0, 1, 2, 3, 4] [5, 6, 7, 8, 9, 10, 11, 12, 13, 14, 15, 16, 17, 18, 19, 20, 21, 22, 23, 24, 25, 26, 27, 28, 29, 30, 31, 32, 33, 34, 35, 36, 37, 38, 39, 40] C cX3_63 (met_X3_checkStamp l hl9 D cI cG cJ h ad a2 bd pd cnt hc fv fs fd rm lt tk ov s hs) ⟨rfl, rfl, by decide, by decide, by decide⟩ (q0 := 0) rfl rfl (by decide) (by decide) rfl rfl (Nat.le_of_ble_eq_true rfl) dX3_vendedOf_2 (fun nm9 w9 h9 => ?_) ?_
  · obtain ⟨rfl, h8, rfl⟩ := h9
    refine gx_perm (w' := ((((wV h (ad 0) (a2 0) (bd 0) (pd 0) rm lt tk ov) ++ (wS ad cI (cnt : Int) fv fs fd)) ++ (wS a2 cI c2 gv gs gd)) ++ (wT bd cI cG tc tr ft tv tu fc M)) ++ (wP pd cI cG fa fb N)) [36, 37, 38, 39, 40, 0, 1, 2, 3, 4, 5, 6, 7, 8, 9, 10, 11, 12, 13, 14, 15, 16, 17, 18, 19, 20, 21, 22, 23, 24, 25, 26, 27, 28, 29, 30, 31, 32, 33, 34, 35] (by decide) rfl ?_
    exact out _ _ _ _ _ _ (by decide) (by decide) (⟨rfl, h8, ⟨_, _, _, _, _, _, _, _, _, _, _, _, _, _, rfl⟩⟩)
  rintro v9 w9 ⟨rfl, hs9, rfl⟩
  obtain ⟨j, rfl⟩ : ∃ j : Nat, s = (j : Int) := ⟨s.toNat, by omega⟩
  refine g_ws (w' := ((((wS a2 cI c2 gv gs gd) ++ (wT bd cI cG tc tr ft tv tu fc M)) ++ (wP pd cI cG fa fb N)) ++ (wV h (ad 0) (a2 0) (bd 0) (pd 0) rm lt tk ov)) ++ (wS ad cI (cnt : Int) fv fs fd)) (st' := []) rfl rfl ?_
  refine g_perm (w' := ((((wV h (ad 0) (a2 0) (bd 0) (pd 0) rm lt tk ov) ++ (wS ad cI (cnt : Int) fv fs fd)) ++ (wS a2 cI c2 gv gs gd)) ++ (wT bd cI cG tc tr ft tv tu fc M)) ++ (wP pd cI cG fa fb N)) [36, 37, 38, 39, 40, 0, 1, 2, 3, 4, 5, 6, 7, 8, 9, 10, 11, 12, 13, 14, 15, 16, 17, 18, 19, 20, 21, 22, 23, 24, 25, 26, 27, 28, 29, 30, 31, 32, 33, 34, 35] (by decide) rfl ?_
  refine g_aload_n C dX3_vendedOf_5 0 rfl ?_
  refine g_getf C fX3_12 0 rfl rfl dX3_vendedOf_6 ?_
  refine g_getf C fX3_106 1 rfl rfl dX3_vendedOf_9 ?_
  refine g_iload_n C dX3_vendedOf_12 1 rfl ?_
  refine g_iald C 4 rfl (by decide) (by omega) (by omega) (v := (fd j)) rfl dX3_vendedOf_13 ?_
  exact ret _ _ _ _ _ _ (by decide) (by decide) dX3_vendedOf_14 (⟨⟨hs9, rfl⟩, ⟨_, _, _, _, _, _, _, _, _, _, _, _, _, _, rfl⟩⟩)
