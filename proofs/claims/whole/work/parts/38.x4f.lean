abbrev rmX4_thrown : Room := { frames := 0, cells := 0, slots := 0, locals := 0 }
set_option maxHeartbeats 4000000 in
set_option maxRecDepth 100000 in
theorem met_X4_thrown (l : Launch) (D : va_G) (cI cG cJ : ClassId) (ad : Nat → Nat) (th : Int) (cnt : Nat) (hc : cnt ≤ 8) (rm lt tk ov : Int) (fv fs fd fo : Nat → Int) (F : Nat → Nat → Int) (fg fp : Nat → Int) (Y : Nat → Nat → Int)  : gMet l yX4_thrown cX4_thrown 1 (some .int) rmX4_thrown D cI cG cJ [.ref (ad 0)] (wM ad cI cG th (cnt : Int) rm lt tk ov fv fs fd fo F fg fp Y) (gI (fun z w9 => z = th ∧ w9 = wM ad cI cG th (cnt : Int) rm lt tk ov fv fs fd fo F fg fp Y)) := by
  refine gMet_I (by decide) rfl (Nat.le_of_ble_eq_true rfl) (fun E C ret => ?_)
  refine g_aload_n C dX4_thrown_0 0 rfl ?_
  refine g_getf C fX4_40 0 rfl rfl dX4_thrown_1 ?_
  exact ret _ _ _ _ _ _ (by decide) (by decide) dX4_thrown_4 (⟨rfl, rfl⟩)
abbrev rmX4_stamps : Room := { frames := 1, cells := 0, slots := 0, locals := 21 }
set_option maxHeartbeats 4000000 in
set_option maxRecDepth 100000 in
theorem met_X4_stamps (l : Launch) (D : va_G) (cI cG cJ : ClassId) (ad : Nat → Nat) (th : Int) (cnt : Nat) (hc : cnt ≤ 8) (rm lt tk ov : Int) (fv fs fd fo : Nat → Int) (F : Nat → Nat → Int) (fg fp : Nat → Int) (Y : Nat → Nat → Int) (hI : XI cnt fv fs rm)  : gMet l yX4_stamps cX4_stamps 1 (some .int) rmX4_stamps D cI cG cJ [.ref (ad 0)] (wM ad cI cG th (cnt : Int) rm lt tk ov fv fs fd fo F fg fp Y) (gI (fun z w9 => z = (cnt : Int) ∧ MW ad cI cG 0 cnt rm lt tk ov fv fs fd w9)) := by
  obtain ⟨hc8, hS, hb99, hr1, hr2⟩ := id hI
  have h99 : ∀ j, j < cnt → fs j ≤ 99 := hb99
  have hr : 1 ≤ rm ∧ rm ≤ 12 := ⟨hr1, hr2⟩
  have hr9 : 0 ≤ rm ∧ rm ≤ 12 := ⟨by omega, hr.2⟩
  have hv : ∀ j, j < cnt → 1 ≤ fv j ∧ fv j ≤ 60 := hS.1
  have hv1 : ∀ j, j < cnt → 1 ≤ fv j := fun j hj => (hS.1 j hj).1
  have hs9 : ∀ j, j < cnt → 0 ≤ fs j ∧ fs j ≤ 119 := hS.2.1
  refine gMet_I (by decide) rfl (Nat.le_of_ble_eq_true rfl) (fun E C ret => ?_)
  refine g_aload_n C dX4_stamps_0 0 rfl ?_
  refine g_aload_n C dX4_stamps_1 0 rfl ?_
  refine g_getf C fX4_43 0 rfl rfl dX4_stamps_2 ?_
  refine g_callV (wr := ([] : va_W)) (st := []) [0, 1, 2, 3, 4, 5, 6, 7, 8, 9, 10, 11, 12, 13, 14, 15, 16, 17, 18, 19, 20, 21, 22, 23, 24, 25, 26, 27, 28, 29, 30] [] C cX4_108 (met_X4_ok l D cI cG cJ ad th cnt hc rm lt tk ov fv fs fd fo F fg fp Y (cnt : Int)) ⟨rfl, rfl, by decide, by decide, by decide⟩ (q0 := 0) rfl rfl (by decide) (by decide) rfl rfl (Nat.le_of_ble_eq_true rfl) dX4_stamps_5 ?_
  rintro v9 w9 ⟨z9, rfl, e9, rfl⟩
  have e9 := e9.symm
  subst e9
  refine g_ws (w' := wM ad cI cG 0 (cnt : Int) rm lt tk ov fv fs fd fo F fg fp Y) (st' := [.int (zI (cnt : Int))]) rfl rfl ?_
  exact ret _ _ _ _ _ _ (by decide) (by decide) dX4_stamps_8 (⟨rfl, ⟨_, _, _, _, _, rfl⟩⟩)
abbrev rmX4_room : Room := { frames := 1, cells := 0, slots := 0, locals := 21 }
set_option maxHeartbeats 4000000 in
set_option maxRecDepth 100000 in
theorem met_X4_room (l : Launch) (D : va_G) (cI cG cJ : ClassId) (ad : Nat → Nat) (th : Int) (cnt : Nat) (hc : cnt ≤ 8) (rm lt tk ov : Int) (fv fs fd fo : Nat → Int) (F : Nat → Nat → Int) (fg fp : Nat → Int) (Y : Nat → Nat → Int) (hI : XI cnt fv fs rm)  : gMet l yX4_room cX4_room 1 (some .int) rmX4_room D cI cG cJ [.ref (ad 0)] (wM ad cI cG th (cnt : Int) rm lt tk ov fv fs fd fo F fg fp Y) (gI (fun z w9 => z = rm ∧ MW ad cI cG 0 cnt rm lt tk ov fv fs fd w9)) := by
  obtain ⟨hc8, hS, hb99, hr1, hr2⟩ := id hI
  have h99 : ∀ j, j < cnt → fs j ≤ 99 := hb99
  have hr : 1 ≤ rm ∧ rm ≤ 12 := ⟨hr1, hr2⟩
  have hr9 : 0 ≤ rm ∧ rm ≤ 12 := ⟨by omega, hr.2⟩
  have hv : ∀ j, j < cnt → 1 ≤ fv j ∧ fv j ≤ 60 := hS.1
  have hv1 : ∀ j, j < cnt → 1 ≤ fv j := fun j hj => (hS.1 j hj).1
  have hs9 : ∀ j, j < cnt → 0 ≤ fs j ∧ fs j ≤ 119 := hS.2.1
  refine gMet_I (by decide) rfl (Nat.le_of_ble_eq_true rfl) (fun E C ret => ?_)
  refine g_aload_n C dX4_room_0 0 rfl ?_
  refine g_aload_n C dX4_room_1 0 rfl ?_
  refine g_getf C fX4_9 0 rfl rfl dX4_room_2 ?_
  refine g_callV (wr := ([] : va_W)) (st := []) [0, 1, 2, 3, 4, 5, 6, 7, 8, 9, 10, 11, 12, 13, 14, 15, 16, 17, 18, 19, 20, 21, 22, 23, 24, 25, 26, 27, 28, 29, 30] [] C cX4_108 (met_X4_ok l D cI cG cJ ad th cnt hc rm lt tk ov fv fs fd fo F fg fp Y rm) ⟨rfl, rfl, by decide, by decide, by decide⟩ (q0 := 0) rfl rfl (by decide) (by decide) rfl rfl (Nat.le_of_ble_eq_true rfl) dX4_room_5 ?_
  rintro v9 w9 ⟨z9, rfl, e9, rfl⟩
  have e9 := e9.symm
  subst e9
  refine g_ws (w' := wM ad cI cG 0 (cnt : Int) rm lt tk ov fv fs fd fo F fg fp Y) (st' := [.int (zI rm)]) rfl rfl ?_
  exact ret _ _ _ _ _ _ (by decide) (by decide) dX4_room_8 (⟨rfl, ⟨_, _, _, _, _, rfl⟩⟩)
abbrev rmX4_letters : Room := { frames := 1, cells := 0, slots := 0, locals := 21 }
set_option maxHeartbeats 4000000 in
set_option maxRecDepth 100000 in
theorem met_X4_letters (l : Launch) (D : va_G) (cI cG cJ : ClassId) (ad : Nat → Nat) (th : Int) (cnt : Nat) (hc : cnt ≤ 8) (rm lt tk ov : Int) (fv fs fd fo : Nat → Int) (F : Nat → Nat → Int) (fg fp : Nat → Int) (Y : Nat → Nat → Int) (hI : XI cnt fv fs rm)  : gMet l yX4_letters cX4_letters 1 (some .int) rmX4_letters D cI cG cJ [.ref (ad 0)] (wM ad cI cG th (cnt : Int) rm lt tk ov fv fs fd fo F fg fp Y) (gI (fun z w9 => z = lt ∧ MW ad cI cG 0 cnt rm lt tk ov fv fs fd w9)) := by
  obtain ⟨hc8, hS, hb99, hr1, hr2⟩ := id hI
  have h99 : ∀ j, j < cnt → fs j ≤ 99 := hb99
  have hr : 1 ≤ rm ∧ rm ≤ 12 := ⟨hr1, hr2⟩
  have hr9 : 0 ≤ rm ∧ rm ≤ 12 := ⟨by omega, hr.2⟩
  have hv : ∀ j, j < cnt → 1 ≤ fv j ∧ fv j ≤ 60 := hS.1
  have hv1 : ∀ j, j < cnt → 1 ≤ fv j := fun j hj => (hS.1 j hj).1
  have hs9 : ∀ j, j < cnt → 0 ≤ fs j ∧ fs j ≤ 119 := hS.2.1
  refine gMet_I (by decide) rfl (Nat.le_of_ble_eq_true rfl) (fun E C ret => ?_)
  refine g_aload_n C dX4_letters_0 0 rfl ?_
  refine g_aload_n C dX4_letters_1 0 rfl ?_
  refine g_getf C fX4_99 0 rfl rfl dX4_letters_2 ?_
  refine g_callV (wr := ([] : va_W)) (st := []) [0, 1, 2, 3, 4, 5, 6, 7, 8, 9, 10, 11, 12, 13, 14, 15, 16, 17, 18, 19, 20, 21, 22, 23, 24, 25, 26, 27, 28, 29, 30] [] C cX4_108 (met_X4_ok l D cI cG cJ ad th cnt hc rm lt tk ov fv fs fd fo F fg fp Y lt) ⟨rfl, rfl, by decide, by decide, by decide⟩ (q0 := 0) rfl rfl (by decide) (by decide) rfl rfl (Nat.le_of_ble_eq_true rfl) dX4_letters_5 ?_
  rintro v9 w9 ⟨z9, rfl, e9, rfl⟩
  have e9 := e9.symm
  subst e9
  refine g_ws (w' := wM ad cI cG 0 (cnt : Int) rm lt tk ov fv fs fd fo F fg fp Y) (st' := [.int (zI lt)]) rfl rfl ?_
  exact ret _ _ _ _ _ _ (by decide) (by decide) dX4_letters_8 (⟨rfl, ⟨_, _, _, _, _, rfl⟩⟩)
abbrev rmX4_taken : Room := { frames := 1, cells := 0, slots := 0, locals := 21 }
set_option maxHeartbeats 4000000 in
set_option maxRecDepth 100000 in
theorem met_X4_taken (l : Launch) (D : va_G) (cI cG cJ : ClassId) (ad : Nat → Nat) (th : Int) (cnt : Nat) (hc : cnt ≤ 8) (rm lt tk ov : Int) (fv fs fd fo : Nat → Int) (F : Nat → Nat → Int) (fg fp : Nat → Int) (Y : Nat → Nat → Int) (hI : XI cnt fv fs rm)  : gMet l yX4_taken cX4_taken 1 (some .int) rmX4_taken D cI cG cJ [.ref (ad 0)] (wM ad cI cG th (cnt : Int) rm lt tk ov fv fs fd fo F fg fp Y) (gI (fun z w9 => z = tk ∧ MW ad cI cG 0 cnt rm lt tk ov fv fs fd w9)) := by
  obtain ⟨hc8, hS, hb99, hr1, hr2⟩ := id hI
  have h99 : ∀ j, j < cnt → fs j ≤ 99 := hb99
  have hr : 1 ≤ rm ∧ rm ≤ 12 := ⟨hr1, hr2⟩
  have hr9 : 0 ≤ rm ∧ rm ≤ 12 := ⟨by omega, hr.2⟩
  have hv : ∀ j, j < cnt → 1 ≤ fv j ∧ fv j ≤ 60 := hS.1
  have hv1 : ∀ j, j < cnt → 1 ≤ fv j := fun j hj => (hS.1 j hj).1
  have hs9 : ∀ j, j < cnt → 0 ≤ fs j ∧ fs j ≤ 119 := hS.2.1
  refine gMet_I (by decide) rfl (Nat.le_of_ble_eq_true rfl) (fun E C ret => ?_)
  refine g_aload_n C dX4_taken_0 0 rfl ?_
  refine g_aload_n C dX4_taken_1 0 rfl ?_
  refine g_getf C fX4_102 0 rfl rfl dX4_taken_2 ?_
  refine g_callV (wr := ([] : va_W)) (st := []) [0, 1, 2, 3, 4, 5, 6, 7, 8, 9, 10, 11, 12, 13, 14, 15, 16, 17, 18, 19, 20, 21, 22, 23, 24, 25, 26, 27, 28, 29, 30] [] C cX4_108 (met_X4_ok l D cI cG cJ ad th cnt hc rm lt tk ov fv fs fd fo F fg fp Y tk) ⟨rfl, rfl, by decide, by decide, by decide⟩ (q0 := 0) rfl rfl (by decide) (by decide) rfl rfl (Nat.le_of_ble_eq_true rfl) dX4_taken_5 ?_
  rintro v9 w9 ⟨z9, rfl, e9, rfl⟩
  have e9 := e9.symm
  subst e9
  refine g_ws (w' := wM ad cI cG 0 (cnt : Int) rm lt tk ov fv fs fd fo F fg fp Y) (st' := [.int (zI tk)]) rfl rfl ?_
  exact ret _ _ _ _ _ _ (by decide) (by decide) dX4_taken_8 (⟨rfl, ⟨_, _, _, _, _, rfl⟩⟩)
abbrev rmX4_overpaid : Room := { frames := 1, cells := 0, slots := 0, locals := 21 }
set_option maxHeartbeats 4000000 in
set_option maxRecDepth 100000 in
theorem met_X4_overpaid (l : Launch) (D : va_G) (cI cG cJ : ClassId) (ad : Nat → Nat) (th : Int) (cnt : Nat) (hc : cnt ≤ 8) (rm lt tk ov : Int) (fv fs fd fo : Nat → Int) (F : Nat → Nat → Int) (fg fp : Nat → Int) (Y : Nat → Nat → Int) (hI : XI cnt fv fs rm)  : gMet l yX4_overpaid cX4_overpaid 1 (some .int) rmX4_overpaid D cI cG cJ [.ref (ad 0)] (wM ad cI cG th (cnt : Int) rm lt tk ov fv fs fd fo F fg fp Y) (gI (fun z w9 => z = ov ∧ MW ad cI cG 0 cnt rm lt tk ov fv fs fd w9)) := by
  obtain ⟨hc8, hS, hb99, hr1, hr2⟩ := id hI
  have h99 : ∀ j, j < cnt → fs j ≤ 99 := hb99
  have hr : 1 ≤ rm ∧ rm ≤ 12 := ⟨hr1, hr2⟩
  have hr9 : 0 ≤ rm ∧ rm ≤ 12 := ⟨by omega, hr.2⟩
  have hv : ∀ j, j < cnt → 1 ≤ fv j ∧ fv j ≤ 60 := hS.1
  have hv1 : ∀ j, j < cnt → 1 ≤ fv j := fun j hj => (hS.1 j hj).1
  have hs9 : ∀ j, j < cnt → 0 ≤ fs j ∧ fs j ≤ 119 := hS.2.1
  refine gMet_I (by decide) rfl (Nat.le_of_ble_eq_true rfl) (fun E C ret => ?_)
  refine g_aload_n C dX4_overpaid_0 0 rfl ?_
  refine g_aload_n C dX4_overpaid_1 0 rfl ?_
  refine g_getf C fX4_105 0 rfl rfl dX4_overpaid_2 ?_
  refine g_callV (wr := ([] : va_W)) (st := []) [0, 1, 2, 3, 4, 5, 6, 7, 8, 9, 10, 11, 12, 13, 14, 15, 16, 17, 18, 19, 20, 21, 22, 23, 24, 25, 26, 27, 28, 29, 30] [] C cX4_108 (met_X4_ok l D cI cG cJ ad th cnt hc rm lt tk ov fv fs fd fo F fg fp Y ov) ⟨rfl, rfl, by decide, by decide, by decide⟩ (q0 := 0) rfl rfl (by decide) (by decide) rfl rfl (Nat.le_of_ble_eq_true rfl) dX4_overpaid_5 ?_
  rintro v9 w9 ⟨z9, rfl, e9, rfl⟩
  have e9 := e9.symm
  subst e9
  refine g_ws (w' := wM ad cI cG 0 (cnt : Int) rm lt tk ov fv fs fd fo F fg fp Y) (st' := [.int (zI ov)]) rfl rfl ?_
  exact ret _ _ _ _ _ _ (by decide) (by decide) dX4_overpaid_8 (⟨rfl, ⟨_, _, _, _, _, rfl⟩⟩)
abbrev rmX4_scarcest : Room := { frames := 1, cells := 0, slots := 0, locals := 22 }
set_option maxHeartbeats 4000000 in
set_option maxRecDepth 100000 in
theorem met_X4_scarcest (l : Launch) (D : va_G) (cI cG cJ : ClassId) (ad : Nat → Nat) (th : Int) (cnt : Nat) (hc : cnt ≤ 8) (rm lt tk ov : Int) (fv fs fd fo : Nat → Int) (F : Nat → Nat → Int) (fg fp : Nat → Int) (Y : Nat → Nat → Int) (hI : XI cnt fv fs rm)  : gMet l yX4_scarcest cX4_scarcest 1 (some .int) rmX4_scarcest D cI cG cJ [.ref (ad 0)] (wM ad cI cG th (cnt : Int) rm lt tk ov fv fs fd fo F fg fp Y) (gI (fun z w9 => z = (scF fs cnt).1 ∧ MW ad cI cG 0 cnt rm lt tk ov fv fs fd w9)) := by
  obtain ⟨hc8, hS, hb99, hr1, hr2⟩ := id hI
  have h99 : ∀ j, j < cnt → fs j ≤ 99 := hb99
  have hr : 1 ≤ rm ∧ rm ≤ 12 := ⟨hr1, hr2⟩
  have hr9 : 0 ≤ rm ∧ rm ≤ 12 := ⟨by omega, hr.2⟩
  have hv : ∀ j, j < cnt → 1 ≤ fv j ∧ fv j ≤ 60 := hS.1
  have hv1 : ∀ j, j < cnt → 1 ≤ fv j := fun j hj => (hS.1 j hj).1
  have hs9 : ∀ j, j < cnt → 0 ≤ fs j ∧ fs j ≤ 119 := hS.2.1
  refine gMet_I (by decide) rfl (Nat.le_of_ble_eq_true rfl) (fun E C ret => ?_)
  refine g_aload_n C dX4_scarcest_0 0 rfl ?_
  refine g_aload_n C dX4_scarcest_1 0 rfl ?_
  refine g_callV (wr := ([] : va_W)) (st := [.ref (ad 0)]) [0, 1, 2, 3, 4, 5, 6, 7, 8, 9, 10, 11, 12, 13, 14, 15, 16, 17, 18, 19, 20, 21, 22, 23, 24, 25, 26, 27, 28, 29, 30] [] C cX4_115 (met_X4_scarce l D cI cG cJ ad th cnt hc rm lt tk ov fv fs fd fo F fg fp Y (fun j hj => ⟨(hs9 j hj).1, h99 j hj⟩)) ⟨rfl, rfl, by decide, by decide, by decide⟩ (q0 := 0) rfl rfl (by decide) (by decide) rfl rfl (Nat.le_of_ble_eq_true rfl) dX4_scarcest_2 ?_
  rintro v9 w9 ⟨z9, rfl, rfl, rfl⟩
  refine g_ws (w' := wM ad cI cG th (cnt : Int) rm lt tk ov fv fs fd fo F fg fp Y) (st' := [.int (zI ((scF fs cnt).1)), .ref (ad 0)]) rfl rfl ?_
  refine g_callV (wr := ([] : va_W)) (st := []) [0, 1, 2, 3, 4, 5, 6, 7, 8, 9, 10, 11, 12, 13, 14, 15, 16, 17, 18, 19, 20, 21, 22, 23, 24, 25, 26, 27, 28, 29, 30] [] C cX4_108 (met_X4_ok l D cI cG cJ ad th cnt hc rm lt tk ov fv fs fd fo F fg fp Y ((scF fs cnt).1)) ⟨rfl, rfl, by decide, by decide, by decide⟩ (q0 := 0) rfl rfl (by decide) (by decide) rfl rfl (Nat.le_of_ble_eq_true rfl) dX4_scarcest_5 ?_
  rintro v9 w9 ⟨z9, rfl, e9, rfl⟩
  have e9 := e9.symm
  subst e9
  refine g_ws (w' := wM ad cI cG 0 (cnt : Int) rm lt tk ov fv fs fd fo F fg fp Y) (st' := [.int (zI ((scF fs cnt).1))]) rfl rfl ?_
  exact ret _ _ _ _ _ _ (by decide) (by decide) dX4_scarcest_8 (⟨rfl, ⟨_, _, _, _, _, rfl⟩⟩)
abbrev rmX4_reachNow : Room := { frames := 4, cells := 0, slots := 0, locals := 89 }
set_option maxHeartbeats 4000000 in
set_option maxRecDepth 100000 in
theorem met_X4_reachNow (l : Launch) (D : va_G) (cI cG cJ : ClassId) (ad : Nat → Nat) (th : Int) (cnt : Nat) (hc : cnt ≤ 8) (rm lt tk ov : Int) (fv fs fd fo : Nat → Int) (F : Nat → Nat → Int) (fg fp : Nat → Int) (Y : Nat → Nat → Int) (hI : XI cnt fv fs rm)  : gMet l yX4_reachNow cX4_reachNow 1 (some .int) rmX4_reachNow D cI cG cJ [.ref (ad 0)] (wM ad cI cG th (cnt : Int) rm lt tk ov fv fs fd fo F fg fp Y) (gI (fun z w9 => z = (RC cnt fv fs rm : Int) ∧ MW ad cI cG 0 cnt rm lt tk ov fv fs fd w9)) := by
  obtain ⟨hc8, hS, hb99, hr1, hr2⟩ := id hI
  have h99 : ∀ j, j < cnt → fs j ≤ 99 := hb99
  have hr : 1 ≤ rm ∧ rm ≤ 12 := ⟨hr1, hr2⟩
  have hr9 : 0 ≤ rm ∧ rm ≤ 12 := ⟨by omega, hr.2⟩
  have hv : ∀ j, j < cnt → 1 ≤ fv j ∧ fv j ≤ 60 := hS.1
  have hv1 : ∀ j, j < cnt → 1 ≤ fv j := fun j hj => (hS.1 j hj).1
  have hs9 : ∀ j, j < cnt → 0 ≤ fs j ∧ fs j ≤ 119 := hS.2.1
  refine gMet_I (by decide) rfl (Nat.le_of_ble_eq_true rfl) (fun E C ret => ?_)
  refine g_aload_n C dX4_reachNow_0 0 rfl ?_
  refine g_aload_n C dX4_reachNow_1 0 rfl ?_
  refine g_callV (wr := ([] : va_W)) (st := [.ref (ad 0)]) [0, 1, 2, 3, 4, 5, 6, 7, 8, 9, 10, 11, 12, 13, 14, 15, 16, 17, 18, 19, 20, 21, 22, 23, 24, 25, 26, 27, 28, 29, 30] [] C cX4_128 (met_X4_reached l D cI cG cJ ad th cnt hc rm lt tk ov fv fs fd fo F fg fp Y hS hr) ⟨rfl, rfl, by decide, by decide, by decide⟩ (q0 := 0) rfl rfl (by decide) (by decide) rfl rfl (Nat.le_of_ble_eq_true rfl) dX4_reachNow_2 ?_
  rintro v9 w9 ⟨z9, rfl, rfl, fo1, F1, rfl⟩
  refine g_ws (w' := wM ad cI cG th (cnt : Int) rm lt tk ov fv fs fd fo1 F1 fg fp Y) (st' := [.int (zI (RC cnt fv fs rm : Int)), .ref (ad 0)]) rfl rfl ?_
  refine g_callV (wr := ([] : va_W)) (st := []) [0, 1, 2, 3, 4, 5, 6, 7, 8, 9, 10, 11, 12, 13, 14, 15, 16, 17, 18, 19, 20, 21, 22, 23, 24, 25, 26, 27, 28, 29, 30] [] C cX4_108 (met_X4_ok l D cI cG cJ ad th cnt hc rm lt tk ov fv fs fd fo1 F1 fg fp Y (RC cnt fv fs rm : Int)) ⟨rfl, rfl, by decide, by decide, by decide⟩ (q0 := 0) rfl rfl (by decide) (by decide) rfl rfl (Nat.le_of_ble_eq_true rfl) dX4_reachNow_5 ?_
  rintro v9 w9 ⟨z9, rfl, e9, rfl⟩
  have e9 := e9.symm
  subst e9
  refine g_ws (w' := wM ad cI cG 0 (cnt : Int) rm lt tk ov fv fs fd fo1 F1 fg fp Y) (st' := [.int (zI (RC cnt fv fs rm : Int))]) rfl rfl ?_
  exact ret _ _ _ _ _ _ (by decide) (by decide) dX4_reachNow_8 (⟨rfl, ⟨_, _, _, _, _, rfl⟩⟩)
abbrev rmX4_most : Room := { frames := 2, cells := 0, slots := 0, locals := 46 }
set_option maxHeartbeats 4000000 in
set_option maxRecDepth 100000 in
theorem met_X4_most (l : Launch) (D : va_G) (cI cG cJ : ClassId) (ad : Nat → Nat) (th : Int) (cnt : Nat) (hc : cnt ≤ 8) (rm lt tk ov : Int) (fv fs fd fo : Nat → Int) (F : Nat → Nat → Int) (fg fp : Nat → Int) (Y : Nat → Nat → Int) (hI : XI cnt fv fs rm)  : gMet l yX4_most cX4_most 1 (some .int) rmX4_most D cI cG cJ [.ref (ad 0)] (wM ad cI cG th (cnt : Int) rm lt tk ov fv fs fd fo F fg fp Y) (gI (fun z w9 => z = GS cnt fv fs rm ∧ MW ad cI cG 0 cnt rm lt tk ov fv fs fd w9)) := by
  obtain ⟨hc8, hS, hb99, hr1, hr2⟩ := id hI
  have h99 : ∀ j, j < cnt → fs j ≤ 99 := hb99
  have hr : 1 ≤ rm ∧ rm ≤ 12 := ⟨hr1, hr2⟩
  have hr9 : 0 ≤ rm ∧ rm ≤ 12 := ⟨by omega, hr.2⟩
  have hv : ∀ j, j < cnt → 1 ≤ fv j ∧ fv j ≤ 60 := hS.1
  have hv1 : ∀ j, j < cnt → 1 ≤ fv j := fun j hj => (hS.1 j hj).1
  have hs9 : ∀ j, j < cnt → 0 ≤ fs j ∧ fs j ≤ 119 := hS.2.1
  refine gMet_I (by decide) rfl (Nat.le_of_ble_eq_true rfl) (fun E C ret => ?_)
  refine g_aload_n C dX4_most_0 0 rfl ?_
  refine g_aload_n C dX4_most_1 0 rfl ?_
  refine g_callV (wr := ([] : va_W)) (st := [.ref (ad 0)]) [0, 1, 2, 3, 4, 5, 6, 7, 8, 9, 10, 11, 12, 13, 14, 15, 16, 17, 18, 19, 20, 21, 22, 23, 24, 25, 26, 27, 28, 29, 30] [] C cX4_131 (met_X4_greatest l D cI cG cJ ad th cnt hc rm lt tk ov fv fs fd fo F fg fp Y hS hr) ⟨rfl, rfl, by decide, by decide, by decide⟩ (q0 := 0) rfl rfl (by decide) (by decide) rfl rfl (Nat.le_of_ble_eq_true rfl) dX4_most_2 ?_
  rintro v9 w9 ⟨z9, rfl, rfl, fo1, rfl⟩
  refine g_ws (w' := wM ad cI cG th (cnt : Int) rm lt tk ov fv fs fd fo1 F fg fp Y) (st' := [.int (zI (GS cnt fv fs rm)), .ref (ad 0)]) rfl rfl ?_
  refine g_callV (wr := ([] : va_W)) (st := []) [0, 1, 2, 3, 4, 5, 6, 7, 8, 9, 10, 11, 12, 13, 14, 15, 16, 17, 18, 19, 20, 21, 22, 23, 24, 25, 26, 27, 28, 29, 30] [] C cX4_108 (met_X4_ok l D cI cG cJ ad th cnt hc rm lt tk ov fv fs fd fo1 F fg fp Y (GS cnt fv fs rm)) ⟨rfl, rfl, by decide, by decide, by decide⟩ (q0 := 0) rfl rfl (by decide) (by decide) rfl rfl (Nat.le_of_ble_eq_true rfl) dX4_most_5 ?_
  rintro v9 w9 ⟨z9, rfl, e9, rfl⟩
  have e9 := e9.symm
  subst e9
  refine g_ws (w' := wM ad cI cG 0 (cnt : Int) rm lt tk ov fv fs fd fo1 F fg fp Y) (st' := [.int (zI (GS cnt fv fs rm))]) rfl rfl ?_
  exact ret _ _ _ _ _ _ (by decide) (by decide) dX4_most_8 (⟨rfl, ⟨_, _, _, _, _, rfl⟩⟩)
abbrev rmX4_bestValue : Room := { frames := 4, cells := 0, slots := 0, locals := 92 }
set_option maxHeartbeats 4000000 in
set_option maxRecDepth 100000 in
theorem met_X4_bestValue (l : Launch) (D : va_G) (cI cG cJ : ClassId) (ad : Nat → Nat) (th : Int) (cnt : Nat) (hc : cnt ≤ 8) (rm lt tk ov : Int) (fv fs fd fo : Nat → Int) (F : Nat → Nat → Int) (fg fp : Nat → Int) (Y : Nat → Nat → Int) (hI : XI cnt fv fs rm)  : gMet l yX4_bestValue cX4_bestValue 1 (some .int) rmX4_bestValue D cI cG cJ [.ref (ad 0)] (wM ad cI cG th (cnt : Int) rm lt tk ov fv fs fd fo F fg fp Y) (gI (fun z w9 => z = (bvF fv cnt rm 60).1 ∧ MW ad cI cG 0 cnt rm lt tk ov fv fs fd w9)) := by
  obtain ⟨hc8, hS, hb99, hr1, hr2⟩ := id hI
  have h99 : ∀ j, j < cnt → fs j ≤ 99 := hb99
  have hr : 1 ≤ rm ∧ rm ≤ 12 := ⟨hr1, hr2⟩
  have hr9 : 0 ≤ rm ∧ rm ≤ 12 := ⟨by omega, hr.2⟩
  have hv : ∀ j, j < cnt → 1 ≤ fv j ∧ fv j ≤ 60 := hS.1
  have hv1 : ∀ j, j < cnt → 1 ≤ fv j := fun j hj => (hS.1 j hj).1
  have hs9 : ∀ j, j < cnt → 0 ≤ fs j ∧ fs j ≤ 119 := hS.2.1
  refine gMet_I (by decide) rfl (Nat.le_of_ble_eq_true rfl) (fun E C ret => ?_)
  refine g_aload_n C dX4_bestValue_0 0 rfl ?_
  refine g_aload_n C dX4_bestValue_1 0 rfl ?_
  refine g_callV (wr := ([] : va_W)) (st := [.ref (ad 0)]) [0, 1, 2, 3, 4, 5, 6, 7, 8, 9, 10, 11, 12, 13, 14, 15, 16, 17, 18, 19, 20, 21, 22, 23, 24, 25, 26, 27, 28, 29, 30] [] C cX4_149 (met_X4_valueBest l D cI cG cJ ad th cnt hc rm lt tk ov fv fs fd fo F fg fp Y hv hr) ⟨rfl, rfl, by decide, by decide, by decide⟩ (q0 := 0) rfl rfl (by decide) (by decide) rfl rfl (Nat.le_of_ble_eq_true rfl) dX4_bestValue_2 ?_
  rintro v9 w9 ⟨z9, rfl, rfl, fp1, rfl⟩
  refine g_ws (w' := wM ad cI cG th (cnt : Int) rm lt tk ov fv fs fd fo F fg fp1 Y) (st' := [.int (zI ((bvF fv cnt rm 60).1)), .ref (ad 0)]) rfl rfl ?_
  refine g_callV (wr := ([] : va_W)) (st := []) [0, 1, 2, 3, 4, 5, 6, 7, 8, 9, 10, 11, 12, 13, 14, 15, 16, 17, 18, 19, 20, 21, 22, 23, 24, 25, 26, 27, 28, 29, 30] [] C cX4_108 (met_X4_ok l D cI cG cJ ad th cnt hc rm lt tk ov fv fs fd fo F fg fp1 Y ((bvF fv cnt rm 60).1)) ⟨rfl, rfl, by decide, by decide, by decide⟩ (q0 := 0) rfl rfl (by decide) (by decide) rfl rfl (Nat.le_of_ble_eq_true rfl) dX4_bestValue_5 ?_
  rintro v9 w9 ⟨z9, rfl, e9, rfl⟩
  have e9 := e9.symm
  subst e9
  refine g_ws (w' := wM ad cI cG 0 (cnt : Int) rm lt tk ov fv fs fd fo F fg fp1 Y) (st' := [.int (zI ((bvF fv cnt rm 60).1))]) rfl rfl ?_
  exact ret _ _ _ _ _ _ (by decide) (by decide) dX4_bestValue_8 (⟨rfl, ⟨_, _, _, _, _, rfl⟩⟩)
abbrev rmX4_bestToPrint : Room := { frames := 5, cells := 0, slots := 0, locals := 114 }
set_option maxHeartbeats 4000000 in
set_option maxRecDepth 100000 in
theorem met_X4_bestToPrint (l : Launch) (D : va_G) (cI cG cJ : ClassId) (ad : Nat → Nat) (th : Int) (cnt : Nat) (hc : cnt ≤ 8) (rm lt tk ov : Int) (fv fs fd fo : Nat → Int) (F : Nat → Nat → Int) (fg fp : Nat → Int) (Y : Nat → Nat → Int) (hI : XI cnt fv fs rm)  : gMet l yX4_bestToPrint cX4_bestToPrint 1 (some .int) rmX4_bestToPrint D cI cG cJ [.ref (ad 0)] (wM ad cI cG th (cnt : Int) rm lt tk ov fv fs fd fo F fg fp Y) (gI (fun z w9 => z = (bpF cnt fv fs rm cnt).1 ∧ MW ad cI cG 0 cnt rm lt tk ov fv fs fd w9)) := by
  obtain ⟨hc8, hS, hb99, hr1, hr2⟩ := id hI
  have h99 : ∀ j, j < cnt → fs j ≤ 99 := hb99
  have hr : 1 ≤ rm ∧ rm ≤ 12 := ⟨hr1, hr2⟩
  have hr9 : 0 ≤ rm ∧ rm ≤ 12 := ⟨by omega, hr.2⟩
  have hv : ∀ j, j < cnt → 1 ≤ fv j ∧ fv j ≤ 60 := hS.1
  have hv1 : ∀ j, j < cnt → 1 ≤ fv j := fun j hj => (hS.1 j hj).1
  have hs9 : ∀ j, j < cnt → 0 ≤ fs j ∧ fs j ≤ 119 := hS.2.1
  refine gMet_I (by decide) rfl (Nat.le_of_ble_eq_true rfl) (fun E C ret => ?_)
  refine g_aload_n C dX4_bestToPrint_0 0 rfl ?_
  refine g_aload_n C dX4_bestToPrint_1 0 rfl ?_
  refine g_callV (wr := ([] : va_W)) (st := [.ref (ad 0)]) [0, 1, 2, 3, 4, 5, 6, 7, 8, 9, 10, 11, 12, 13, 14, 15, 16, 17, 18, 19, 20, 21, 22, 23, 24, 25, 26, 27, 28, 29, 30] [] C cX4_152 (met_X4_toPrint l D cI cG cJ ad th cnt hc rm lt tk ov fv fs fd fo F fg fp Y hS hr h99) ⟨rfl, rfl, by decide, by decide, by decide⟩ (q0 := 0) rfl rfl (by decide) (by decide) rfl rfl (Nat.le_of_ble_eq_true rfl) dX4_bestToPrint_2 ?_
  rintro v9 w9 ⟨z9, rfl, rfl, fo1, F1, rfl⟩
  refine g_ws (w' := wM ad cI cG th (cnt : Int) rm lt tk ov fv fs fd fo1 F1 fg fp Y) (st' := [.int (zI ((bpF cnt fv fs rm cnt).1)), .ref (ad 0)]) rfl rfl ?_
  refine g_callV (wr := ([] : va_W)) (st := []) [0, 1, 2, 3, 4, 5, 6, 7, 8, 9, 10, 11, 12, 13, 14, 15, 16, 17, 18, 19, 20, 21, 22, 23, 24, 25, 26, 27, 28, 29, 30] [] C cX4_108 (met_X4_ok l D cI cG cJ ad th cnt hc rm lt tk ov fv fs fd fo1 F1 fg fp Y ((bpF cnt fv fs rm cnt).1)) ⟨rfl, rfl, by decide, by decide, by decide⟩ (q0 := 0) rfl rfl (by decide) (by decide) rfl rfl (Nat.le_of_ble_eq_true rfl) dX4_bestToPrint_5 ?_
  rintro v9 w9 ⟨z9, rfl, e9, rfl⟩
  have e9 := e9.symm
  subst e9
  refine g_ws (w' := wM ad cI cG 0 (cnt : Int) rm lt tk ov fv fs fd fo1 F1 fg fp Y) (st' := [.int (zI ((bpF cnt fv fs rm cnt).1))]) rfl rfl ?_
  exact ret _ _ _ _ _ _ (by decide) (by decide) dX4_bestToPrint_8 (⟨rfl, ⟨_, _, _, _, _, rfl⟩⟩)
abbrev rmX4_reach : Room := { frames := 3, cells := 0, slots := 0, locals := 68 }
set_option maxHeartbeats 4000000 in
set_option maxRecDepth 100000 in
theorem met_X4_reach (l : Launch) (D : va_G) (cI cG cJ : ClassId) (ad : Nat → Nat) (th : Int) (cnt : Nat) (hc : cnt ≤ 8) (rm lt tk ov : Int) (fv fs fd fo : Nat → Int) (F : Nat → Nat → Int) (fg fp : Nat → Int) (Y : Nat → Nat → Int) (hI : XI cnt fv fs rm)  : gMet l yX4_reach cX4_reach 1 (some .int) rmX4_reach D cI cG cJ [.ref (ad 0)] (wM ad cI cG th (cnt : Int) rm lt tk ov fv fs fd fo F fg fp Y) (gI (fun z w9 => z = (RP fv cnt 0 rm : Int) ∧ MW ad cI cG 0 cnt rm lt tk ov fv fs fd w9)) := by
  obtain ⟨hc8, hS, hb99, hr1, hr2⟩ := id hI
  have h99 : ∀ j, j < cnt → fs j ≤ 99 := hb99
  have hr : 1 ≤ rm ∧ rm ≤ 12 := ⟨hr1, hr2⟩
  have hr9 : 0 ≤ rm ∧ rm ≤ 12 := ⟨by omega, hr.2⟩
  have hv : ∀ j, j < cnt → 1 ≤ fv j ∧ fv j ≤ 60 := hS.1
  have hv1 : ∀ j, j < cnt → 1 ≤ fv j := fun j hj => (hS.1 j hj).1
  have hs9 : ∀ j, j < cnt → 0 ≤ fs j ∧ fs j ≤ 119 := hS.2.1
  refine gMet_I (by decide) rfl (Nat.le_of_ble_eq_true rfl) (fun E C ret => ?_)
  refine g_aload_n C dX4_reach_0 0 rfl ?_
  refine g_aload_n C dX4_reach_1 0 rfl ?_
  refine g_iconst C dX4_reach_2 ?_
  refine g_aload_n C dX4_reach_3 0 rfl ?_
  refine g_getf C fX4_9 0 rfl rfl dX4_reach_4 ?_
  refine g_callV (wr := ([] : va_W)) (st := [.ref (ad 0)]) [0, 1, 2, 3, 4, 5, 6, 7, 8, 9, 10, 11, 12, 13, 14, 15, 16, 17, 18, 19, 20, 21, 22, 23, 24, 25, 26, 27, 28, 29, 30] [] C cX4_140 (met_X4_printReach l D cI cG cJ ad th cnt hc rm lt tk ov fv fs fd fo F fg fp Y hv 0 (by omega) rm (by omega)) ⟨rfl, rfl, by decide, by decide, by decide⟩ (q0 := 0) rfl rfl (by decide) (by decide) rfl rfl (Nat.le_of_ble_eq_true rfl) dX4_reach_7 ?_
  rintro v9 w9 ⟨z9, rfl, rfl, fp1, rfl⟩
  refine g_ws (w' := wM ad cI cG th (cnt : Int) rm lt tk ov fv fs fd fo F fg fp1 Y) (st' := [.int (zI (RP fv cnt 0 rm : Int)), .ref (ad 0)]) rfl rfl ?_
  refine g_callV (wr := ([] : va_W)) (st := []) [0, 1, 2, 3, 4, 5, 6, 7, 8, 9, 10, 11, 12, 13, 14, 15, 16, 17, 18, 19, 20, 21, 22, 23, 24, 25, 26, 27, 28, 29, 30] [] C cX4_108 (met_X4_ok l D cI cG cJ ad th cnt hc rm lt tk ov fv fs fd fo F fg fp1 Y (RP fv cnt 0 rm : Int)) ⟨rfl, rfl, by decide, by decide, by decide⟩ (q0 := 0) rfl rfl (by decide) (by decide) rfl rfl (Nat.le_of_ble_eq_true rfl) dX4_reach_10 ?_
  rintro v9 w9 ⟨z9, rfl, e9, rfl⟩
  have e9 := e9.symm
  subst e9
  refine g_ws (w' := wM ad cI cG 0 (cnt : Int) rm lt tk ov fv fs fd fo F fg fp1 Y) (st' := [.int (zI (RP fv cnt 0 rm : Int))]) rfl rfl ?_
  exact ret _ _ _ _ _ _ (by decide) (by decide) dX4_reach_13 (⟨rfl, ⟨_, _, _, _, _, rfl⟩⟩)
abbrev rmX4_of : Room := { frames := 2, cells := 0, slots := 0, locals := 43 }
set_option maxHeartbeats 4000000 in
set_option maxRecDepth 100000 in
theorem met_X4_of_fv (l : Launch) (D : va_G) (cI cG cJ : ClassId) (ad : Nat → Nat) (th : Int) (cnt : Nat) (hc : cnt ≤ 8) (rm lt tk ov : Int) (fv fs fd fo : Nat → Int) (F : Nat → Nat → Int) (fg fp : Nat → Int) (Y : Nat → Nat → Int) (s : Int) (hs : zr s)  : gMet l yX4_of cX4_of 3 (some .int) rmX4_of D cI cG cJ [.ref (ad 0), .int (zI s), .ref (ad 1)] (wM ad cI cG th (cnt : Int) rm lt tk ov fv fs fd fo F fg fp Y) (gI (fun z w9 => ∃ t : Int, (((0 ≤ s ∧ s < (cnt : Int)) ∧ z = fv s.toNat ∧ t = 0) ∨ (¬ (0 ≤ s ∧ s < (cnt : Int)) ∧ z = 0 ∧ t = 1)) ∧ w9 = wM ad cI cG t (cnt : Int) rm lt tk ov fv fs fd fo F fg fp Y)) := by
  refine gMet_I (by decide) rfl (Nat.le_of_ble_eq_true rfl) (fun E C ret => ?_)
  refine g_aload_n C dX4_of_0 0 rfl ?_
  refine g_iconst C dX4_of_1 ?_
  refine g_putf (w' := wM ad cI cG 0 (cnt : Int) rm lt tk ov fv fs fd fo F fg fp Y) C pX4_40 0 rfl rfl rfl (Nat.le_of_ble_eq_true rfl) rfl dX4_of_2 ?_
  refine g_aload_n C dX4_of_5 0 rfl ?_
  refine g_iload_n C dX4_of_6 1 rfl ?_
  refine g_callV (wr := ([] : va_W)) (st := []) [0, 1, 2, 3, 4, 5, 6, 7, 8, 9, 10, 11, 12, 13, 14, 15, 16, 17, 18, 19, 20, 21, 22, 23, 24, 25, 26, 27, 28, 29, 30] [] C cX4_86 (met_X4_isStamp l D cI cG cJ ad 0 cnt hc rm lt tk ov fv fs fd fo F fg fp Y s hs) ⟨rfl, rfl, by decide, by decide, by decide⟩ (q0 := 0) rfl rfl (by decide) (by decide) rfl rfl (Nat.le_of_ble_eq_true rfl) dX4_of_7 ?_
  rintro v9 w9 ⟨z9, rfl, rfl, rfl⟩
  refine g_ws (w' := wM ad cI cG 0 (cnt : Int) rm lt tk ov fv fs fd fo F fg fp Y) (st' := [.int (zI (if 0 ≤ s ∧ s < (cnt : Int) then (1 : Int) else 0))]) rfl rfl ?_
  refine g_if_eq 19 C dX4_of_10 (by decide) zr01 (fun c_10 => ?_) (fun c_10 => ?_)
  · have hs8 := if0 c_10
    refine g_aload_n C dX4_of_19 0 rfl ?_
    refine g_iconst C dX4_of_20 ?_
    refine g_callV (wr := ([] : va_W)) (st := []) [0, 1, 2, 3, 4, 5, 6, 7, 8, 9, 10, 11, 12, 13, 14, 15, 16, 17, 18, 19, 20, 21, 22, 23, 24, 25, 26, 27, 28, 29, 30] [] C cX4_80 (met_X4_no l D cI cG cJ ad 0 cnt hc rm lt tk ov fv fs fd fo F fg fp Y 1) ⟨rfl, rfl, by decide, by decide, by decide⟩ (q0 := 0) rfl rfl (by decide) (by decide) rfl rfl (Nat.le_of_ble_eq_true rfl) dX4_of_21 ?_
    rintro v9 w9 ⟨z9, rfl, rfl, rfl⟩
    refine g_ws (w' := wM ad cI cG 1 (cnt : Int) rm lt tk ov fv fs fd fo F fg fp Y) (st' := [.int (zI 0)]) rfl rfl ?_
    exact ret _ _ _ _ _ _ (by decide) (by decide) dX4_of_24 (⟨1, Or.inr ⟨hs8, rfl, rfl⟩, rfl⟩)
  · have hs8 := if1 c_10
    obtain ⟨j, rfl⟩ : ∃ j : Nat, s = (j : Int) := ⟨s.toNat, by omega⟩
    refine g_aload_n C dX4_of_13 2 rfl ?_
    refine g_iload_n C dX4_of_14 1 rfl ?_
    refine g_iald C 1 rfl (by decide) (by omega) (by omega) (v := (fv j)) rfl dX4_of_15 ?_
    refine g_goto 24 C dX4_of_16 (by decide) ?_
    exact ret _ _ _ _ _ _ (by decide) (by decide) dX4_of_24 (⟨0, Or.inl ⟨hs8, rfl, rfl⟩, rfl⟩)
abbrev rmX4_valueOf : Room := { frames := 3, cells := 0, slots := 0, locals := 65 }
set_option maxHeartbeats 4000000 in
set_option maxRecDepth 100000 in
theorem met_X4_valueOf (l : Launch) (D : va_G) (cI cG cJ : ClassId) (ad : Nat → Nat) (th : Int) (cnt : Nat) (hc : cnt ≤ 8) (rm lt tk ov : Int) (fv fs fd fo : Nat → Int) (F : Nat → Nat → Int) (fg fp : Nat → Int) (Y : Nat → Nat → Int) (hI : XI cnt fv fs rm) (s : Int) (hs : zr s)  : gMet l yX4_valueOf cX4_valueOf 2 (some .int) rmX4_valueOf D cI cG cJ [.ref (ad 0), .int (zI s)] (wM ad cI cG th (cnt : Int) rm lt tk ov fv fs fd fo F fg fp Y) (gI (fun z w9 => ((0 ≤ s ∧ s < (cnt : Int)) ∧ z = fv s.toNat ∧ MW ad cI cG 0 cnt rm lt tk ov fv fs fd w9) ∨ (¬ (0 ≤ s ∧ s < (cnt : Int)) ∧ z = 0 ∧ MW ad cI cG 1 cnt rm lt tk ov fv fs fd w9))) := by
  obtain ⟨hc8, hS, hb99, hr1, hr2⟩ := id hI
  have h99 : ∀ j, j < cnt → fs j ≤ 99 := hb99
  have hr : 1 ≤ rm ∧ rm ≤ 12 := ⟨hr1, hr2⟩
  have hr9 : 0 ≤ rm ∧ rm ≤ 12 := ⟨by omega, hr.2⟩
  have hv : ∀ j, j < cnt → 1 ≤ fv j ∧ fv j ≤ 60 := hS.1
  have hv1 : ∀ j, j < cnt → 1 ≤ fv j := fun j hj => (hS.1 j hj).1
  have hs9 : ∀ j, j < cnt → 0 ≤ fs j ∧ fs j ≤ 119 := hS.2.1
  refine gMet_I (by decide) rfl (Nat.le_of_ble_eq_true rfl) (fun E C ret => ?_)
  refine g_aload_n C dX4_valueOf_0 0 rfl ?_
  refine g_iload_n C dX4_valueOf_1 1 rfl ?_
  refine g_aload_n C dX4_valueOf_2 0 rfl ?_
  refine g_getf C fX4_13 0 rfl rfl dX4_valueOf_3 ?_
  refine g_callV (wr := ([] : va_W)) (st := []) [0, 1, 2, 3, 4, 5, 6, 7, 8, 9, 10, 11, 12, 13, 14, 15, 16, 17, 18, 19, 20, 21, 22, 23, 24, 25, 26, 27, 28, 29, 30] [] C cX4_111 (met_X4_of_fv l D cI cG cJ ad th cnt hc rm lt tk ov fv fs fd fo F fg fp Y s hs) ⟨rfl, rfl, by decide, by decide, by decide⟩ (q0 := 0) rfl rfl (by decide) (by decide) rfl rfl (Nat.le_of_ble_eq_true rfl) dX4_valueOf_6 ?_
  rintro v9 w9 ⟨z9, rfl, t, hh, rfl⟩
  refine g_ws (w' := wM ad cI cG t (cnt : Int) rm lt tk ov fv fs fd fo F fg fp Y) (st' := [.int (zI z9)]) rfl rfl ?_
  exact ret _ _ _ _ _ _ (by decide) (by decide) dX4_valueOf_9 (by
    rcases hh with ⟨h1, h2, rfl⟩ | ⟨h1, h2, rfl⟩
    · exact Or.inl ⟨h1, h2, ⟨_, _, _, _, _, rfl⟩⟩
    · exact Or.inr ⟨h1, h2, ⟨_, _, _, _, _, rfl⟩⟩)
set_option maxHeartbeats 4000000 in
set_option maxRecDepth 100000 in
theorem met_X4_of_fs (l : Launch) (D : va_G) (cI cG cJ : ClassId) (ad : Nat → Nat) (th : Int) (cnt : Nat) (hc : cnt ≤ 8) (rm lt tk ov : Int) (fv fs fd fo : Nat → Int) (F : Nat → Nat → Int) (fg fp : Nat → Int) (Y : Nat → Nat → Int) (s : Int) (hs : zr s)  : gMet l yX4_of cX4_of 3 (some .int) rmX4_of D cI cG cJ [.ref (ad 0), .int (zI s), .ref (ad 2)] (wM ad cI cG th (cnt : Int) rm lt tk ov fv fs fd fo F fg fp Y) (gI (fun z w9 => ∃ t : Int, (((0 ≤ s ∧ s < (cnt : Int)) ∧ z = fs s.toNat ∧ t = 0) ∨ (¬ (0 ≤ s ∧ s < (cnt : Int)) ∧ z = 0 ∧ t = 1)) ∧ w9 = wM ad cI cG t (cnt : Int) rm lt tk ov fv fs fd fo F fg fp Y)) := by
  refine gMet_I (by decide) rfl (Nat.le_of_ble_eq_true rfl) (fun E C ret => ?_)
  refine g_aload_n C dX4_of_0 0 rfl ?_
  refine g_iconst C dX4_of_1 ?_
  refine g_putf (w' := wM ad cI cG 0 (cnt : Int) rm lt tk ov fv fs fd fo F fg fp Y) C pX4_40 0 rfl rfl rfl (Nat.le_of_ble_eq_true rfl) rfl dX4_of_2 ?_
  refine g_aload_n C dX4_of_5 0 rfl ?_
  refine g_iload_n C dX4_of_6 1 rfl ?_
  refine g_callV (wr := ([] : va_W)) (st := []) [0, 1, 2, 3, 4, 5, 6, 7, 8, 9, 10, 11, 12, 13, 14, 15, 16, 17, 18, 19, 20, 21, 22, 23, 24, 25, 26, 27, 28, 29, 30] [] C cX4_86 (met_X4_isStamp l D cI cG cJ ad 0 cnt hc rm lt tk ov fv fs fd fo F fg fp Y s hs) ⟨rfl, rfl, by decide, by decide, by decide⟩ (q0 := 0) rfl rfl (by decide) (by decide) rfl rfl (Nat.le_of_ble_eq_true rfl) dX4_of_7 ?_
  rintro v9 w9 ⟨z9, rfl, rfl, rfl⟩
  refine g_ws (w' := wM ad cI cG 0 (cnt : Int) rm lt tk ov fv fs fd fo F fg fp Y) (st' := [.int (zI (if 0 ≤ s ∧ s < (cnt : Int) then (1 : Int) else 0))]) rfl rfl ?_
  refine g_if_eq 19 C dX4_of_10 (by decide) zr01 (fun c_10 => ?_) (fun c_10 => ?_)
  · have hs8 := if0 c_10
    refine g_aload_n C dX4_of_19 0 rfl ?_
    refine g_iconst C dX4_of_20 ?_
    refine g_callV (wr := ([] : va_W)) (st := []) [0, 1, 2, 3, 4, 5, 6, 7, 8, 9, 10, 11, 12, 13, 14, 15, 16, 17, 18, 19, 20, 21, 22, 23, 24, 25, 26, 27, 28, 29, 30] [] C cX4_80 (met_X4_no l D cI cG cJ ad 0 cnt hc rm lt tk ov fv fs fd fo F fg fp Y 1) ⟨rfl, rfl, by decide, by decide, by decide⟩ (q0 := 0) rfl rfl (by decide) (by decide) rfl rfl (Nat.le_of_ble_eq_true rfl) dX4_of_21 ?_
    rintro v9 w9 ⟨z9, rfl, rfl, rfl⟩
    refine g_ws (w' := wM ad cI cG 1 (cnt : Int) rm lt tk ov fv fs fd fo F fg fp Y) (st' := [.int (zI 0)]) rfl rfl ?_
    exact ret _ _ _ _ _ _ (by decide) (by decide) dX4_of_24 (⟨1, Or.inr ⟨hs8, rfl, rfl⟩, rfl⟩)
  · have hs8 := if1 c_10
    obtain ⟨j, rfl⟩ : ∃ j : Nat, s = (j : Int) := ⟨s.toNat, by omega⟩
    refine g_aload_n C dX4_of_13 2 rfl ?_
    refine g_iload_n C dX4_of_14 1 rfl ?_
    refine g_iald C 2 rfl (by decide) (by omega) (by omega) (v := (fs j)) rfl dX4_of_15 ?_
    refine g_goto 24 C dX4_of_16 (by decide) ?_
    exact ret _ _ _ _ _ _ (by decide) (by decide) dX4_of_24 (⟨0, Or.inl ⟨hs8, rfl, rfl⟩, rfl⟩)
abbrev rmX4_stockOf : Room := { frames := 3, cells := 0, slots := 0, locals := 65 }
set_option maxHeartbeats 4000000 in
set_option maxRecDepth 100000 in
theorem met_X4_stockOf (l : Launch) (D : va_G) (cI cG cJ : ClassId) (ad : Nat → Nat) (th : Int) (cnt : Nat) (hc : cnt ≤ 8) (rm lt tk ov : Int) (fv fs fd fo : Nat → Int) (F : Nat → Nat → Int) (fg fp : Nat → Int) (Y : Nat → Nat → Int) (hI : XI cnt fv fs rm) (s : Int) (hs : zr s)  : gMet l yX4_stockOf cX4_stockOf 2 (some .int) rmX4_stockOf D cI cG cJ [.ref (ad 0), .int (zI s)] (wM ad cI cG th (cnt : Int) rm lt tk ov fv fs fd fo F fg fp Y) (gI (fun z w9 => ((0 ≤ s ∧ s < (cnt : Int)) ∧ z = fs s.toNat ∧ MW ad cI cG 0 cnt rm lt tk ov fv fs fd w9) ∨ (¬ (0 ≤ s ∧ s < (cnt : Int)) ∧ z = 0 ∧ MW ad cI cG 1 cnt rm lt tk ov fv fs fd w9))) := by
  obtain ⟨hc8, hS, hb99, hr1, hr2⟩ := id hI
  have h99 : ∀ j, j < cnt → fs j ≤ 99 := hb99
  have hr : 1 ≤ rm ∧ rm ≤ 12 := ⟨hr1, hr2⟩
  have hr9 : 0 ≤ rm ∧ rm ≤ 12 := ⟨by omega, hr.2⟩
  have hv : ∀ j, j < cnt → 1 ≤ fv j ∧ fv j ≤ 60 := hS.1
  have hv1 : ∀ j, j < cnt → 1 ≤ fv j := fun j hj => (hS.1 j hj).1
  have hs9 : ∀ j, j < cnt → 0 ≤ fs j ∧ fs j ≤ 119 := hS.2.1
  refine gMet_I (by decide) rfl (Nat.le_of_ble_eq_true rfl) (fun E C ret => ?_)
  refine g_aload_n C dX4_stockOf_0 0 rfl ?_
  refine g_iload_n C dX4_stockOf_1 1 rfl ?_
  refine g_aload_n C dX4_stockOf_2 0 rfl ?_
  refine g_getf C fX4_17 0 rfl rfl dX4_stockOf_3 ?_
  refine g_callV (wr := ([] : va_W)) (st := []) [0, 1, 2, 3, 4, 5, 6, 7, 8, 9, 10, 11, 12, 13, 14, 15, 16, 17, 18, 19, 20, 21, 22, 23, 24, 25, 26, 27, 28, 29, 30] [] C cX4_111 (met_X4_of_fs l D cI cG cJ ad th cnt hc rm lt tk ov fv fs fd fo F fg fp Y s hs) ⟨rfl, rfl, by decide, by decide, by decide⟩ (q0 := 0) rfl rfl (by decide) (by decide) rfl rfl (Nat.le_of_ble_eq_true rfl) dX4_stockOf_6 ?_
  rintro v9 w9 ⟨z9, rfl, t, hh, rfl⟩
  refine g_ws (w' := wM ad cI cG t (cnt : Int) rm lt tk ov fv fs fd fo F fg fp Y) (st' := [.int (zI z9)]) rfl rfl ?_
  exact ret _ _ _ _ _ _ (by decide) (by decide) dX4_stockOf_9 (by
    rcases hh with ⟨h1, h2, rfl⟩ | ⟨h1, h2, rfl⟩
    · exact Or.inl ⟨h1, h2, ⟨_, _, _, _, _, rfl⟩⟩
    · exact Or.inr ⟨h1, h2, ⟨_, _, _, _, _, rfl⟩⟩)
set_option maxHeartbeats 4000000 in
set_option maxRecDepth 100000 in
theorem met_X4_of_fd (l : Launch) (D : va_G) (cI cG cJ : ClassId) (ad : Nat → Nat) (th : Int) (cnt : Nat) (hc : cnt ≤ 8) (rm lt tk ov : Int) (fv fs fd fo : Nat → Int) (F : Nat → Nat → Int) (fg fp : Nat → Int) (Y : Nat → Nat → Int) (s : Int) (hs : zr s)  : gMet l yX4_of cX4_of 3 (some .int) rmX4_of D cI cG cJ [.ref (ad 0), .int (zI s), .ref (ad 3)] (wM ad cI cG th (cnt : Int) rm lt tk ov fv fs fd fo F fg fp Y) (gI (fun z w9 => ∃ t : Int, (((0 ≤ s ∧ s < (cnt : Int)) ∧ z = fd s.toNat ∧ t = 0) ∨ (¬ (0 ≤ s ∧ s < (cnt : Int)) ∧ z = 0 ∧ t = 1)) ∧ w9 = wM ad cI cG t (cnt : Int) rm lt tk ov fv fs fd fo F fg fp Y)) := by
  refine gMet_I (by decide) rfl (Nat.le_of_ble_eq_true rfl) (fun E C ret => ?_)
  refine g_aload_n C dX4_of_0 0 rfl ?_
  refine g_iconst C dX4_of_1 ?_
  refine g_putf (w' := wM ad cI cG 0 (cnt : Int) rm lt tk ov fv fs fd fo F fg fp Y) C pX4_40 0 rfl rfl rfl (Nat.le_of_ble_eq_true rfl) rfl dX4_of_2 ?_
  refine g_aload_n C dX4_of_5 0 rfl ?_
  refine g_iload_n C dX4_of_6 1 rfl ?_
  refine g_callV (wr := ([] : va_W)) (st := []) [0, 1, 2, 3, 4, 5, 6, 7, 8, 9, 10, 11, 12, 13, 14, 15, 16, 17, 18, 19, 20, 21, 22, 23, 24, 25, 26, 27, 28, 29, 30] [] C cX4_86 (met_X4_isStamp l D cI cG cJ ad 0 cnt hc rm lt tk ov fv fs fd fo F fg fp Y s hs) ⟨rfl, rfl, by decide, by decide, by decide⟩ (q0 := 0) rfl rfl (by decide) (by decide) rfl rfl (Nat.le_of_ble_eq_true rfl) dX4_of_7 ?_
  rintro v9 w9 ⟨z9, rfl, rfl, rfl⟩
  refine g_ws (w' := wM ad cI cG 0 (cnt : Int) rm lt tk ov fv fs fd fo F fg fp Y) (st' := [.int (zI (if 0 ≤ s ∧ s < (cnt : Int) then (1 : Int) else 0))]) rfl rfl ?_
  refine g_if_eq 19 C dX4_of_10 (by decide) zr01 (fun c_10 => ?_) (fun c_10 => ?_)
  · have hs8 := if0 c_10
    refine g_aload_n C dX4_of_19 0 rfl ?_
    refine g_iconst C dX4_of_20 ?_
    refine g_callV (wr := ([] : va_W)) (st := []) [0, 1, 2, 3, 4, 5, 6, 7, 8, 9, 10, 11, 12, 13, 14, 15, 16, 17, 18, 19, 20, 21, 22, 23, 24, 25, 26, 27, 28, 29, 30] [] C cX4_80 (met_X4_no l D cI cG cJ ad 0 cnt hc rm lt tk ov fv fs fd fo F fg fp Y 1) ⟨rfl, rfl, by decide, by decide, by decide⟩ (q0 := 0) rfl rfl (by decide) (by decide) rfl rfl (Nat.le_of_ble_eq_true rfl) dX4_of_21 ?_
    rintro v9 w9 ⟨z9, rfl, rfl, rfl⟩
    refine g_ws (w' := wM ad cI cG 1 (cnt : Int) rm lt tk ov fv fs fd fo F fg fp Y) (st' := [.int (zI 0)]) rfl rfl ?_
    exact ret _ _ _ _ _ _ (by decide) (by decide) dX4_of_24 (⟨1, Or.inr ⟨hs8, rfl, rfl⟩, rfl⟩)
  · have hs8 := if1 c_10
    obtain ⟨j, rfl⟩ : ∃ j : Nat, s = (j : Int) := ⟨s.toNat, by omega⟩
    refine g_aload_n C dX4_of_13 2 rfl ?_
    refine g_iload_n C dX4_of_14 1 rfl ?_
    refine g_iald C 3 rfl (by decide) (by omega) (by omega) (v := (fd j)) rfl dX4_of_15 ?_
    refine g_goto 24 C dX4_of_16 (by decide) ?_
    exact ret _ _ _ _ _ _ (by decide) (by decide) dX4_of_24 (⟨0, Or.inl ⟨hs8, rfl, rfl⟩, rfl⟩)
abbrev rmX4_vendedOf : Room := { frames := 3, cells := 0, slots := 0, locals := 65 }
set_option maxHeartbeats 4000000 in
set_option maxRecDepth 100000 in
theorem met_X4_vendedOf (l : Launch) (D : va_G) (cI cG cJ : ClassId) (ad : Nat → Nat) (th : Int) (cnt : Nat) (hc : cnt ≤ 8) (rm lt tk ov : Int) (fv fs fd fo : Nat → Int) (F : Nat → Nat → Int) (fg fp : Nat → Int) (Y : Nat → Nat → Int) (hI : XI cnt fv fs rm) (s : Int) (hs : zr s)  : gMet l yX4_vendedOf cX4_vendedOf 2 (some .int) rmX4_vendedOf D cI cG cJ [.ref (ad 0), .int (zI s)] (wM ad cI cG th (cnt : Int) rm lt tk ov fv fs fd fo F fg fp Y) (gI (fun z w9 => ((0 ≤ s ∧ s < (cnt : Int)) ∧ z = fd s.toNat ∧ MW ad cI cG 0 cnt rm lt tk ov fv fs fd w9) ∨ (¬ (0 ≤ s ∧ s < (cnt : Int)) ∧ z = 0 ∧ MW ad cI cG 1 cnt rm lt tk ov fv fs fd w9))) := by
  obtain ⟨hc8, hS, hb99, hr1, hr2⟩ := id hI
  have h99 : ∀ j, j < cnt → fs j ≤ 99 := hb99
  have hr : 1 ≤ rm ∧ rm ≤ 12 := ⟨hr1, hr2⟩
  have hr9 : 0 ≤ rm ∧ rm ≤ 12 := ⟨by omega, hr.2⟩
  have hv : ∀ j, j < cnt → 1 ≤ fv j ∧ fv j ≤ 60 := hS.1
  have hv1 : ∀ j, j < cnt → 1 ≤ fv j := fun j hj => (hS.1 j hj).1
  have hs9 : ∀ j, j < cnt → 0 ≤ fs j ∧ fs j ≤ 119 := hS.2.1
  refine gMet_I (by decide) rfl (Nat.le_of_ble_eq_true rfl) (fun E C ret => ?_)
  refine g_aload_n C dX4_vendedOf_0 0 rfl ?_
  refine g_iload_n C dX4_vendedOf_1 1 rfl ?_
  refine g_aload_n C dX4_vendedOf_2 0 rfl ?_
  refine g_getf C fX4_20 0 rfl rfl dX4_vendedOf_3 ?_
  refine g_callV (wr := ([] : va_W)) (st := []) [0, 1, 2, 3, 4, 5, 6, 7, 8, 9, 10, 11, 12, 13, 14, 15, 16, 17, 18, 19, 20, 21, 22, 23, 24, 25, 26, 27, 28, 29, 30] [] C cX4_111 (met_X4_of_fd l D cI cG cJ ad th cnt hc rm lt tk ov fv fs fd fo F fg fp Y s hs) ⟨rfl, rfl, by decide, by decide, by decide⟩ (q0 := 0) rfl rfl (by decide) (by decide) rfl rfl (Nat.le_of_ble_eq_true rfl) dX4_vendedOf_6 ?_
  rintro v9 w9 ⟨z9, rfl, t, hh, rfl⟩
  refine g_ws (w' := wM ad cI cG t (cnt : Int) rm lt tk ov fv fs fd fo F fg fp Y) (st' := [.int (zI z9)]) rfl rfl ?_
  exact ret _ _ _ _ _ _ (by decide) (by decide) dX4_vendedOf_9 (by
    rcases hh with ⟨h1, h2, rfl⟩ | ⟨h1, h2, rfl⟩
    · exact Or.inl ⟨h1, h2, ⟨_, _, _, _, _, rfl⟩⟩
    · exact Or.inr ⟨h1, h2, ⟨_, _, _, _, _, rfl⟩⟩)
