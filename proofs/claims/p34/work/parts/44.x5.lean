/-! constructors -/
theorem oiX0 : gOI RX0 3 := ⟨(mr_3 _ (List.mem_of_getElem? (i := 3) rfl)), (mr_1 _ (List.mem_of_getElem? (i := 11) rfl)), (mr_1 _ (List.mem_of_getElem? (i := 12) rfl))⟩
theorem oiX1 : gOI RX1 3 := ⟨(mr_2 _ (List.mem_of_getElem? (i := 8) rfl)), (mr_1 _ (List.mem_of_getElem? (i := 11) rfl)), (mr_1 _ (List.mem_of_getElem? (i := 12) rfl))⟩
theorem oiX2 : gOI RX2 3 := ⟨(mr_2 _ (List.mem_of_getElem? (i := 16) rfl)), (mr_1 _ (List.mem_of_getElem? (i := 11) rfl)), (mr_1 _ (List.mem_of_getElem? (i := 12) rfl))⟩
theorem oiX3 : gOI RX3 3 := ⟨(mr_1 _ (List.mem_of_getElem? (i := 10) rfl)), (mr_1 _ (List.mem_of_getElem? (i := 11) rfl)), (mr_1 _ (List.mem_of_getElem? (i := 12) rfl))⟩
theorem oiX4 : gOI RX4 1 := ⟨(mr_3 _ (List.mem_of_getElem? (i := 19) rfl)), (mr_1 _ (List.mem_of_getElem? (i := 11) rfl)), (mr_1 _ (List.mem_of_getElem? (i := 12) rfl))⟩
theorem clX0_18 : Cond.classLink RX0 18 "[[I" ∈ LW := (mr_3 _ (List.mem_of_getElem? (i := 6) rfl))
theorem clX2_9 : Cond.classLink RX2 9 "[[I" ∈ LW := (mr_2 _ (List.mem_of_getElem? (i := 17) rfl))
theorem clX4_38 : Cond.classLink RX4 38 "[[I" ∈ LW := (mr_7 _ (List.mem_of_getElem? (i := 12) rfl))
theorem dfX0 : ∀ j, j < 3 → defaultValue (tyX0 j) = vp_V [.null, .null, .null] j := fun j hj => match j, hj with
  | 0, _ => rfl
  | 1, _ => rfl
  | 2, _ => rfl
  | j + 3, h => absurd h (by omega)
theorem dfX1 : ∀ j, j < 4 → defaultValue (tyX1 j) = vp_V [.null, .null, .null, .int (zI 0)] j := fun j hj => match j, hj with
  | 0, _ => rfl
  | 1, _ => rfl
  | 2, _ => rfl
  | 3, _ => rfl
  | j + 4, h => absurd h (by omega)
theorem dfX2 : ∀ j, j < 7 → defaultValue (tyX2 j) = vp_V [.null, .null, .null, .null, .int (zI 0), .int (zI 0), .null] j := fun j hj => match j, hj with
  | 0, _ => rfl
  | 1, _ => rfl
  | 2, _ => rfl
  | 3, _ => rfl
  | 4, _ => rfl
  | 5, _ => rfl
  | 6, _ => rfl
  | j + 7, h => absurd h (by omega)
theorem dfX3 : ∀ j, j < 8 → defaultValue (tyX3 j) = vp_V [.null, .null, .null, .null, .int (zI 0), .int (zI 0), .int (zI 0), .int (zI 0)] j := fun j hj => match j, hj with
  | 0, _ => rfl
  | 1, _ => rfl
  | 2, _ => rfl
  | 3, _ => rfl
  | 4, _ => rfl
  | 5, _ => rfl
  | 6, _ => rfl
  | 7, _ => rfl
  | j + 8, h => absurd h (by omega)
theorem dfX4 : ∀ j, j < 9 → defaultValue (tyX4 j) = vp_V [.int (zI 0), .int (zI 0), .int (zI 0), .int (zI 0), .null, .null, .null, .int (zI 0), .int (zI 0)] j := fun j hj => match j, hj with
  | 0, _ => rfl
  | 1, _ => rfl
  | 2, _ => rfl
  | 3, _ => rfl
  | 4, _ => rfl
  | 5, _ => rfl
  | 6, _ => rfl
  | 7, _ => rfl
  | 8, _ => rfl
  | j + 9, h => absurd h (by omega)
theorem nwX3_9 : Cond.classLink RX3 9 RX1 ∈ LW ∧ Cond.instantiable RX1 4 ∈ LW ∧ Cond.initialized RX1 ∈ LW := ⟨(mr_1 _ (List.mem_of_getElem? (i := 13) rfl)), (mr_1 _ (List.mem_of_getElem? (i := 14) rfl)), (mr_1 _ (List.mem_of_getElem? (i := 15) rfl))⟩
theorem nwX3_19 : Cond.classLink RX3 19 RX2 ∈ LW ∧ Cond.instantiable RX2 7 ∈ LW ∧ Cond.initialized RX2 ∈ LW := ⟨(mr_1 _ (List.mem_of_getElem? (i := 18) rfl)), (mr_1 _ (List.mem_of_getElem? (i := 19) rfl)), (mr_1 _ (List.mem_of_getElem? (i := 20) rfl))⟩
theorem nwX3_26 : Cond.classLink RX3 26 RX0 ∈ LW ∧ Cond.instantiable RX0 3 ∈ LW ∧ Cond.initialized RX0 ∈ LW := ⟨(mr_1 _ (List.mem_of_getElem? (i := 22) rfl)), (mr_1 _ (List.mem_of_getElem? (i := 23) rfl)), (mr_2 _ (List.mem_of_getElem? (i := 0) rfl))⟩
theorem nwL_30 : Cond.classLink RL 30 RX3 ∈ LW ∧ Cond.instantiable RX3 8 ∈ LW ∧ Cond.initialized RX3 ∈ LW := ⟨(mr_1 _ (List.mem_of_getElem? (i := 0) rfl)), (mr_1 _ (List.mem_of_getElem? (i := 1) rfl)), (mr_1 _ (List.mem_of_getElem? (i := 2) rfl))⟩
theorem nwL_10 : Cond.classLink RL 10 RX4 ∈ LW ∧ Cond.instantiable RX4 9 ∈ LW ∧ Cond.initialized RX4 ∈ LW := ⟨(mr_3 _ (List.mem_of_getElem? (i := 12) rfl)), (mr_3 _ (List.mem_of_getElem? (i := 13) rfl)), (mr_3 _ (List.mem_of_getElem? (i := 14) rfl))⟩
theorem nwX4_8 : Cond.classLink RX4 8 RX4 ∈ LW ∧ Cond.instantiable RX4 9 ∈ LW ∧ Cond.initialized RX4 ∈ LW := ⟨(mr_18 _ (List.mem_of_getElem? (i := 2) rfl)), (mr_3 _ (List.mem_of_getElem? (i := 13) rfl)), (mr_3 _ (List.mem_of_getElem? (i := 14) rfl))⟩
theorem cnX3_11 : gCN RX3 11 yX1_init RX3 cX1_init 1 0 := ⟨List.mem_of_getElem? (i := 6) rfl, (mr_2 _ (List.mem_of_getElem? (i := 6) rfl)), (mr_1 _ (List.mem_of_getElem? (i := 15) rfl)), (mr_2 _ (List.mem_of_getElem? (i := 7) rfl)), rfl, by decide +kernel, by decide +kernel, by decide +kernel⟩
theorem cnX3_21 : gCN RX3 21 yX2_init RX3 cX2_init 1 0 := ⟨List.mem_of_getElem? (i := 7) rfl, (mr_2 _ (List.mem_of_getElem? (i := 14) rfl)), (mr_1 _ (List.mem_of_getElem? (i := 20) rfl)), (mr_2 _ (List.mem_of_getElem? (i := 15) rfl)), rfl, by decide +kernel, by decide +kernel, by decide +kernel⟩
theorem cnX3_28 : gCN RX3 28 yX0_init RX3 cX0_init 1 0 := ⟨List.mem_of_getElem? (i := 8) rfl, (mr_3 _ (List.mem_of_getElem? (i := 1) rfl)), (mr_2 _ (List.mem_of_getElem? (i := 0) rfl)), (mr_3 _ (List.mem_of_getElem? (i := 2) rfl)), rfl, by decide +kernel, by decide +kernel, by decide +kernel⟩
theorem clX4_13 : Cond.classLink RX4 13 "[I" ∈ LW := (mr_3 _ (List.mem_of_getElem? (i := 21) rfl))
theorem cnL_62 : gCN RL 62 yX4_init RL cX4_init 1 0 := ⟨List.mem_of_getElem? (i := 9) rfl, (mr_3 _ (List.mem_of_getElem? (i := 17) rfl)), (mr_3 _ (List.mem_of_getElem? (i := 14) rfl)), (mr_3 _ (List.mem_of_getElem? (i := 18) rfl)), rfl, by decide +kernel, by decide +kernel, by decide +kernel⟩
abbrev rmX1_init : Room := { frames := 1, cells := 3, slots := 24, locals := 20 }
set_option maxHeartbeats 4000000 in
set_option maxRecDepth 100000 in
theorem met_X1_init (l : Launch) (D : va_G) (cI cG cJ : ClassId) (h : Nat)  : gMet l yX1_init cX1_init 1 none rmX1_init D cI cG cJ [.ref h] ([(h, .inr (1, [.null, .null, .null, .int (zI 0)]))]) (gN (fun w9 => ∃ ad : Nat → Nat, ad 0 = h ∧ w9 = wS ad cI 0 (fun _ => 0) (fun _ => 0) (fun _ => 0))) := by
  refine gMet_NC rfl (by decide) rfl (Nat.le_of_ble_eq_true rfl) (fun E C hI ret => ?_)
  refine g_aload_n C dX1_init_0 0 rfl ?_
  refine g_objI C oiX1 ⟨Nat.le_of_ble_eq_true rfl, Nat.le_of_ble_eq_true rfl⟩ (by decide) dX1_init_1 ?_
  refine g_aload_n C dX1_init_4 0 rfl ?_
  refine g_bipush C dX1_init_5 (by decide) ?_
  refine g_newi (N := 8) C arrI (by decide) ⟨Nat.le_of_ble_eq_true rfl, Nat.le_of_ble_eq_true rfl⟩ dX1_init_7 (fun y1 => ?_)
  refine g_ws (w' := ([(h, .inr (1, [.null, .null, .null, .int (zI 0)]))]) ++ ([(y1, .inl (cI, 8, .inl (zA (fun _ => 0))))])) rfl rfl ?_
  refine g_putF (w' := ([(h, .inr (1, [.ref y1, .null, .null, .int (zI 0)]))]) ++ ([(y1, .inl (cI, 8, .inl (zA (fun _ => 0))))])) C hI pX1_9 0 rfl rfl rfl (Nat.le_of_ble_eq_true rfl) rfl dX1_init_9 ?_
  refine g_aload_n C dX1_init_12 0 rfl ?_
  refine g_bipush C dX1_init_13 (by decide) ?_
  refine g_newi (N := 8) C arrI (by decide) ⟨Nat.le_of_ble_eq_true rfl, Nat.le_of_ble_eq_true rfl⟩ dX1_init_15 (fun y2 => ?_)
  refine g_ws (w' := (([(h, .inr (1, [.ref y1, .null, .null, .int (zI 0)]))]) ++ ([(y1, .inl (cI, 8, .inl (zA (fun _ => 0))))])) ++ ([(y2, .inl (cI, 8, .inl (zA (fun _ => 0))))])) rfl rfl ?_
  refine g_putF (w' := (([(h, .inr (1, [.ref y1, .ref y2, .null, .int (zI 0)]))]) ++ ([(y1, .inl (cI, 8, .inl (zA (fun _ => 0))))])) ++ ([(y2, .inl (cI, 8, .inl (zA (fun _ => 0))))])) C hI pX1_15 0 rfl rfl rfl (Nat.le_of_ble_eq_true rfl) rfl dX1_init_17 ?_
  refine g_aload_n C dX1_init_20 0 rfl ?_
  refine g_bipush C dX1_init_21 (by decide) ?_
  refine g_newi (N := 8) C arrI (by decide) ⟨Nat.le_of_ble_eq_true rfl, Nat.le_of_ble_eq_true rfl⟩ dX1_init_23 (fun y3 => ?_)
  refine g_ws (w' := ((([(h, .inr (1, [.ref y1, .ref y2, .null, .int (zI 0)]))]) ++ ([(y1, .inl (cI, 8, .inl (zA (fun _ => 0))))])) ++ ([(y2, .inl (cI, 8, .inl (zA (fun _ => 0))))])) ++ ([(y3, .inl (cI, 8, .inl (zA (fun _ => 0))))])) rfl rfl ?_
  refine g_putF (w' := ((([(h, .inr (1, [.ref y1, .ref y2, .ref y3, .int (zI 0)]))]) ++ ([(y1, .inl (cI, 8, .inl (zA (fun _ => 0))))])) ++ ([(y2, .inl (cI, 8, .inl (zA (fun _ => 0))))])) ++ ([(y3, .inl (cI, 8, .inl (zA (fun _ => 0))))])) C hI pX1_18 0 rfl rfl rfl (Nat.le_of_ble_eq_true rfl) rfl dX1_init_25 ?_
  refine g_aload_n C dX1_init_28 0 rfl ?_
  refine g_iconst C dX1_init_29 ?_
  refine g_putf (w' := ((([(h, .inr (1, [.ref y1, .ref y2, .ref y3, .int (zI 0)]))]) ++ ([(y1, .inl (cI, 8, .inl (zA (fun _ => 0))))])) ++ ([(y2, .inl (cI, 8, .inl (zA (fun _ => 0))))])) ++ ([(y3, .inl (cI, 8, .inl (zA (fun _ => 0))))])) C pX1_21 0 rfl rfl rfl (Nat.le_of_ble_eq_true rfl) rfl dX1_init_30 ?_
  exact ret _ _ _ _ _ (by decide) (by decide) dX1_init_33 (⟨fun k => [h, y1, y2, y3].getD k 0, rfl, rfl⟩)
abbrev rmX0_init : Room := { frames := 1, cells := 16, slots := 4528, locals := 20 }
set_option maxHeartbeats 4000000 in
set_option maxRecDepth 100000 in
theorem met_X0_init (l : Launch) (D : va_G) (cI cG cJ : ClassId) (h : Nat)  : gMet l yX0_init cX0_init 1 none rmX0_init D cI cG cJ [.ref h] ([(h, .inr (0, [.null, .null, .null]))]) (gN (fun w9 => ∃ ad : Nat → Nat, ad 0 = h ∧ w9 = wP ad cI cG (fun _ => 0) (fun _ => 0) (fun _ _ => 0))) := by
  refine gMet_NC rfl (by decide) rfl (Nat.le_of_ble_eq_true rfl) (fun E C hI ret => ?_)
  refine g_aload_n C dX0_init_0 0 rfl ?_
  refine g_objI C oiX0 ⟨Nat.le_of_ble_eq_true rfl, Nat.le_of_ble_eq_true rfl⟩ (by decide) dX0_init_1 ?_
  refine g_aload_n C dX0_init_4 0 rfl ?_
  refine g_sipush C dX0_init_5 (by decide) ?_
  refine g_newi (N := 301) C arrI (by decide) ⟨Nat.le_of_ble_eq_true rfl, Nat.le_of_ble_eq_true rfl⟩ dX0_init_8 (fun y1 => ?_)
  refine g_ws (w' := ([(h, .inr (0, [.null, .null, .null]))]) ++ ([(y1, .inl (cI, 301, .inl (zA (fun _ => 0))))])) rfl rfl ?_
  refine g_putF (w' := ([(h, .inr (0, [.ref y1, .null, .null]))]) ++ ([(y1, .inl (cI, 301, .inl (zA (fun _ => 0))))])) C hI pX0_9 0 rfl rfl rfl (Nat.le_of_ble_eq_true rfl) rfl dX0_init_10 ?_
  refine g_aload_n C dX0_init_13 0 rfl ?_
  refine g_sipush C dX0_init_14 (by decide) ?_
  refine g_newi (N := 301) C arrI (by decide) ⟨Nat.le_of_ble_eq_true rfl, Nat.le_of_ble_eq_true rfl⟩ dX0_init_17 (fun y2 => ?_)
  refine g_ws (w' := (([(h, .inr (0, [.ref y1, .null, .null]))]) ++ ([(y1, .inl (cI, 301, .inl (zA (fun _ => 0))))])) ++ ([(y2, .inl (cI, 301, .inl (zA (fun _ => 0))))])) rfl rfl ?_
  refine g_putF (w' := (([(h, .inr (0, [.ref y1, .ref y2, .null]))]) ++ ([(y1, .inl (cI, 301, .inl (zA (fun _ => 0))))])) ++ ([(y2, .inl (cI, 301, .inl (zA (fun _ => 0))))])) C hI pX0_15 0 rfl rfl rfl (Nat.le_of_ble_eq_true rfl) rfl dX0_init_19 ?_
  refine g_aload_n C dX0_init_22 0 rfl ?_
  refine g_bipush C dX0_init_23 (by decide) ?_
  refine g_sipush C dX0_init_25 (by decide) ?_
  refine g_mna (N := 13) (K' := 301) C clX0_18 arrI (by decide) (by decide) ⟨Nat.le_of_ble_eq_true rfl, Nat.le_of_ble_eq_true rfl⟩ dX0_init_28 (fun q r => ?_)
  refine g_ws (w' := (((([(h, .inr (0, [.ref y1, .ref y2, .null]))]) ++ ([(y1, .inl (cI, 301, .inl (zA (fun _ => 0))))])) ++ ([(y2, .inl (cI, 301, .inl (zA (fun _ => 0))))])) ++ ([(q, .inl (cG, 13, .inr (.inr (.inr (.inr (fun i => if i < 13 then some (r i) else none))))))])) ++ ([(r 0, .inl (cI, 301, .inl (zA (fun _ => 0)))), (r 1, .inl (cI, 301, .inl (zA (fun _ => 0)))), (r 2, .inl (cI, 301, .inl (zA (fun _ => 0)))), (r 3, .inl (cI, 301, .inl (zA (fun _ => 0)))), (r 4, .inl (cI, 301, .inl (zA (fun _ => 0)))), (r 5, .inl (cI, 301, .inl (zA (fun _ => 0)))), (r 6, .inl (cI, 301, .inl (zA (fun _ => 0)))), (r 7, .inl (cI, 301, .inl (zA (fun _ => 0)))), (r 8, .inl (cI, 301, .inl (zA (fun _ => 0)))), (r 9, .inl (cI, 301, .inl (zA (fun _ => 0)))), (r 10, .inl (cI, 301, .inl (zA (fun _ => 0)))), (r 11, .inl (cI, 301, .inl (zA (fun _ => 0)))), (r 12, .inl (cI, 301, .inl (zA (fun _ => 0))))])) rfl rfl ?_
  refine g_putF (w' := (((([(h, .inr (0, [.ref y1, .ref y2, .ref q]))]) ++ ([(y1, .inl (cI, 301, .inl (zA (fun _ => 0))))])) ++ ([(y2, .inl (cI, 301, .inl (zA (fun _ => 0))))])) ++ ([(q, .inl (cG, 13, .inr (.inr (.inr (.inr (fun i => if i < 13 then some (r i) else none))))))])) ++ ([(r 0, .inl (cI, 301, .inl (zA (fun _ => 0)))), (r 1, .inl (cI, 301, .inl (zA (fun _ => 0)))), (r 2, .inl (cI, 301, .inl (zA (fun _ => 0)))), (r 3, .inl (cI, 301, .inl (zA (fun _ => 0)))), (r 4, .inl (cI, 301, .inl (zA (fun _ => 0)))), (r 5, .inl (cI, 301, .inl (zA (fun _ => 0)))), (r 6, .inl (cI, 301, .inl (zA (fun _ => 0)))), (r 7, .inl (cI, 301, .inl (zA (fun _ => 0)))), (r 8, .inl (cI, 301, .inl (zA (fun _ => 0)))), (r 9, .inl (cI, 301, .inl (zA (fun _ => 0)))), (r 10, .inl (cI, 301, .inl (zA (fun _ => 0)))), (r 11, .inl (cI, 301, .inl (zA (fun _ => 0)))), (r 12, .inl (cI, 301, .inl (zA (fun _ => 0))))])) C hI pX0_20 0 rfl rfl rfl (Nat.le_of_ble_eq_true rfl) rfl dX0_init_32 ?_
  refine g_ws (w' := (((([(h, .inr (0, [.ref y1, .ref y2, .ref q]))]) ++ ([(y1, .inl (cI, 301, .inl (zA (fun _ => 0))))])) ++ ([(y2, .inl (cI, 301, .inl (zA (fun _ => 0))))])) ++ ([(q, .inl (cG, 13, .inr (.inr (.inr (.inr (wR (mkA [h, y1, y2, q] r) 4 13))))))])) ++ ([(r 0, .inl (cI, 301, .inl (zA (fun _ => 0)))), (r 1, .inl (cI, 301, .inl (zA (fun _ => 0)))), (r 2, .inl (cI, 301, .inl (zA (fun _ => 0)))), (r 3, .inl (cI, 301, .inl (zA (fun _ => 0)))), (r 4, .inl (cI, 301, .inl (zA (fun _ => 0)))), (r 5, .inl (cI, 301, .inl (zA (fun _ => 0)))), (r 6, .inl (cI, 301, .inl (zA (fun _ => 0)))), (r 7, .inl (cI, 301, .inl (zA (fun _ => 0)))), (r 8, .inl (cI, 301, .inl (zA (fun _ => 0)))), (r 9, .inl (cI, 301, .inl (zA (fun _ => 0)))), (r 10, .inl (cI, 301, .inl (zA (fun _ => 0)))), (r 11, .inl (cI, 301, .inl (zA (fun _ => 0)))), (r 12, .inl (cI, 301, .inl (zA (fun _ => 0))))])) (by rw [wR_mk (ad := (mkA [h, y1, y2, q] r)) (b := 4) (r := r) (N := 13) (fun j _ => mkA_at rfl)]) rfl ?_
  exact ret _ _ _ _ _ (by decide) (by decide) dX0_init_35 (⟨(mkA [h, y1, y2, q] r), rfl, rfl⟩)
abbrev rmX2_init : Room := { frames := 1, cells := 14, slots := 3281, locals := 20 }
set_option maxHeartbeats 4000000 in
set_option maxRecDepth 100000 in
theorem met_X2_init (l : Launch) (D : va_G) (cI cG cJ : ClassId) (h : Nat)  : gMet l yX2_init cX2_init 1 none rmX2_init D cI cG cJ [.ref h] ([(h, .inr (2, [.null, .null, .null, .null, .int (zI 0), .int (zI 0), .null]))]) (gN (fun w9 => ∃ ad : Nat → Nat, ad 0 = h ∧ w9 = wT ad cI cG 0 0 (fun _ => 0) (fun _ => 0) (fun _ => 0) (fun _ => 0) (fun _ _ => 0))) := by
  refine gMet_NC rfl (by decide) rfl (Nat.le_of_ble_eq_true rfl) (fun E C hI ret => ?_)
  refine g_aload_n C dX2_init_0 0 rfl ?_
  refine g_objI C oiX2 ⟨Nat.le_of_ble_eq_true rfl, Nat.le_of_ble_eq_true rfl⟩ (by decide) dX2_init_1 ?_
  refine g_aload_n C dX2_init_4 0 rfl ?_
  refine g_bipush C dX2_init_5 (by decide) ?_
  refine g_sipush C dX2_init_7 (by decide) ?_
  refine g_mna (N := 9) (K' := 360) C clX2_9 arrI (by decide) (by decide) ⟨Nat.le_of_ble_eq_true rfl, Nat.le_of_ble_eq_true rfl⟩ dX2_init_10 (fun q r => ?_)
  refine g_ws (w' := (([(h, .inr (2, [.null, .null, .null, .null, .int (zI 0), .int (zI 0), .null]))]) ++ ([(q, .inl (cG, 9, .inr (.inr (.inr (.inr (fun i => if i < 9 then some (r i) else none))))))])) ++ ([(r 0, .inl (cI, 360, .inl (zA (fun _ => 0)))), (r 1, .inl (cI, 360, .inl (zA (fun _ => 0)))), (r 2, .inl (cI, 360, .inl (zA (fun _ => 0)))), (r 3, .inl (cI, 360, .inl (zA (fun _ => 0)))), (r 4, .inl (cI, 360, .inl (zA (fun _ => 0)))), (r 5, .inl (cI, 360, .inl (zA (fun _ => 0)))), (r 6, .inl (cI, 360, .inl (zA (fun _ => 0)))), (r 7, .inl (cI, 360, .inl (zA (fun _ => 0)))), (r 8, .inl (cI, 360, .inl (zA (fun _ => 0))))])) rfl rfl ?_
  refine g_putF (w' := (([(h, .inr (2, [.ref q, .null, .null, .null, .int (zI 0), .int (zI 0), .null]))]) ++ ([(q, .inl (cG, 9, .inr (.inr (.inr (.inr (fun i => if i < 9 then some (r i) else none))))))])) ++ ([(r 0, .inl (cI, 360, .inl (zA (fun _ => 0)))), (r 1, .inl (cI, 360, .inl (zA (fun _ => 0)))), (r 2, .inl (cI, 360, .inl (zA (fun _ => 0)))), (r 3, .inl (cI, 360, .inl (zA (fun _ => 0)))), (r 4, .inl (cI, 360, .inl (zA (fun _ => 0)))), (r 5, .inl (cI, 360, .inl (zA (fun _ => 0)))), (r 6, .inl (cI, 360, .inl (zA (fun _ => 0)))), (r 7, .inl (cI, 360, .inl (zA (fun _ => 0)))), (r 8, .inl (cI, 360, .inl (zA (fun _ => 0))))])) C hI pX2_11 0 rfl rfl rfl (Nat.le_of_ble_eq_true rfl) rfl dX2_init_14 ?_
  refine g_aload_n C dX2_init_17 0 rfl ?_
  refine g_bipush C dX2_init_18 (by decide) ?_
  refine g_newi (N := 8) C arrI (by decide) ⟨Nat.le_of_ble_eq_true rfl, Nat.le_of_ble_eq_true rfl⟩ dX2_init_20 (fun y1 => ?_)
  refine g_ws (w' := ((([(h, .inr (2, [.ref q, .null, .null, .null, .int (zI 0), .int (zI 0), .null]))]) ++ ([(q, .inl (cG, 9, .inr (.inr (.inr (.inr (fun i => if i < 9 then some (r i) else none))))))])) ++ ([(r 0, .inl (cI, 360, .inl (zA (fun _ => 0)))), (r 1, .inl (cI, 360, .inl (zA (fun _ => 0)))), (r 2, .inl (cI, 360, .inl (zA (fun _ => 0)))), (r 3, .inl (cI, 360, .inl (zA (fun _ => 0)))), (r 4, .inl (cI, 360, .inl (zA (fun _ => 0)))), (r 5, .inl (cI, 360, .inl (zA (fun _ => 0)))), (r 6, .inl (cI, 360, .inl (zA (fun _ => 0)))), (r 7, .inl (cI, 360, .inl (zA (fun _ => 0)))), (r 8, .inl (cI, 360, .inl (zA (fun _ => 0))))])) ++ ([(y1, .inl (cI, 8, .inl (zA (fun _ => 0))))])) rfl rfl ?_
  refine g_putF (w' := ((([(h, .inr (2, [.ref q, .ref y1, .null, .null, .int (zI 0), .int (zI 0), .null]))]) ++ ([(q, .inl (cG, 9, .inr (.inr (.inr (.inr (fun i => if i < 9 then some (r i) else none))))))])) ++ ([(r 0, .inl (cI, 360, .inl (zA (fun _ => 0)))), (r 1, .inl (cI, 360, .inl (zA (fun _ => 0)))), (r 2, .inl (cI, 360, .inl (zA (fun _ => 0)))), (r 3, .inl (cI, 360, .inl (zA (fun _ => 0)))), (r 4, .inl (cI, 360, .inl (zA (fun _ => 0)))), (r 5, .inl (cI, 360, .inl (zA (fun _ => 0)))), (r 6, .inl (cI, 360, .inl (zA (fun _ => 0)))), (r 7, .inl (cI, 360, .inl (zA (fun _ => 0)))), (r 8, .inl (cI, 360, .inl (zA (fun _ => 0))))])) ++ ([(y1, .inl (cI, 8, .inl (zA (fun _ => 0))))])) C hI pX2_16 0 rfl rfl rfl (Nat.le_of_ble_eq_true rfl) rfl dX2_init_22 ?_
  refine g_aload_n C dX2_init_25 0 rfl ?_
  refine g_bipush C dX2_init_26 (by decide) ?_
  refine g_newi (N := 8) C arrI (by decide) ⟨Nat.le_of_ble_eq_true rfl, Nat.le_of_ble_eq_true rfl⟩ dX2_init_28 (fun y2 => ?_)
  refine g_ws (w' := (((([(h, .inr (2, [.ref q, .ref y1, .null, .null, .int (zI 0), .int (zI 0), .null]))]) ++ ([(q, .inl (cG, 9, .inr (.inr (.inr (.inr (fun i => if i < 9 then some (r i) else none))))))])) ++ ([(r 0, .inl (cI, 360, .inl (zA (fun _ => 0)))), (r 1, .inl (cI, 360, .inl (zA (fun _ => 0)))), (r 2, .inl (cI, 360, .inl (zA (fun _ => 0)))), (r 3, .inl (cI, 360, .inl (zA (fun _ => 0)))), (r 4, .inl (cI, 360, .inl (zA (fun _ => 0)))), (r 5, .inl (cI, 360, .inl (zA (fun _ => 0)))), (r 6, .inl (cI, 360, .inl (zA (fun _ => 0)))), (r 7, .inl (cI, 360, .inl (zA (fun _ => 0)))), (r 8, .inl (cI, 360, .inl (zA (fun _ => 0))))])) ++ ([(y1, .inl (cI, 8, .inl (zA (fun _ => 0))))])) ++ ([(y2, .inl (cI, 8, .inl (zA (fun _ => 0))))])) rfl rfl ?_
  refine g_putF (w' := (((([(h, .inr (2, [.ref q, .ref y1, .ref y2, .null, .int (zI 0), .int (zI 0), .null]))]) ++ ([(q, .inl (cG, 9, .inr (.inr (.inr (.inr (fun i => if i < 9 then some (r i) else none))))))])) ++ ([(r 0, .inl (cI, 360, .inl (zA (fun _ => 0)))), (r 1, .inl (cI, 360, .inl (zA (fun _ => 0)))), (r 2, .inl (cI, 360, .inl (zA (fun _ => 0)))), (r 3, .inl (cI, 360, .inl (zA (fun _ => 0)))), (r 4, .inl (cI, 360, .inl (zA (fun _ => 0)))), (r 5, .inl (cI, 360, .inl (zA (fun _ => 0)))), (r 6, .inl (cI, 360, .inl (zA (fun _ => 0)))), (r 7, .inl (cI, 360, .inl (zA (fun _ => 0)))), (r 8, .inl (cI, 360, .inl (zA (fun _ => 0))))])) ++ ([(y1, .inl (cI, 8, .inl (zA (fun _ => 0))))])) ++ ([(y2, .inl (cI, 8, .inl (zA (fun _ => 0))))])) C hI pX2_20 0 rfl rfl rfl (Nat.le_of_ble_eq_true rfl) rfl dX2_init_30 ?_
  refine g_aload_n C dX2_init_33 0 rfl ?_
  refine g_bipush C dX2_init_34 (by decide) ?_
  refine g_newi (N := 8) C arrI (by decide) ⟨Nat.le_of_ble_eq_true rfl, Nat.le_of_ble_eq_true rfl⟩ dX2_init_36 (fun y3 => ?_)
  refine g_ws (w' := ((((([(h, .inr (2, [.ref q, .ref y1, .ref y2, .null, .int (zI 0), .int (zI 0), .null]))]) ++ ([(q, .inl (cG, 9, .inr (.inr (.inr (.inr (fun i => if i < 9 then some (r i) else none))))))])) ++ ([(r 0, .inl (cI, 360, .inl (zA (fun _ => 0)))), (r 1, .inl (cI, 360, .inl (zA (fun _ => 0)))), (r 2, .inl (cI, 360, .inl (zA (fun _ => 0)))), (r 3, .inl (cI, 360, .inl (zA (fun _ => 0)))), (r 4, .inl (cI, 360, .inl (zA (fun _ => 0)))), (r 5, .inl (cI, 360, .inl (zA (fun _ => 0)))), (r 6, .inl (cI, 360, .inl (zA (fun _ => 0)))), (r 7, .inl (cI, 360, .inl (zA (fun _ => 0)))), (r 8, .inl (cI, 360, .inl (zA (fun _ => 0))))])) ++ ([(y1, .inl (cI, 8, .inl (zA (fun _ => 0))))])) ++ ([(y2, .inl (cI, 8, .inl (zA (fun _ => 0))))])) ++ ([(y3, .inl (cI, 8, .inl (zA (fun _ => 0))))])) rfl rfl ?_
  refine g_putF (w' := ((((([(h, .inr (2, [.ref q, .ref y1, .ref y2, .ref y3, .int (zI 0), .int (zI 0), .null]))]) ++ ([(q, .inl (cG, 9, .inr (.inr (.inr (.inr (fun i => if i < 9 then some (r i) else none))))))])) ++ ([(r 0, .inl (cI, 360, .inl (zA (fun _ => 0)))), (r 1, .inl (cI, 360, .inl (zA (fun _ => 0)))), (r 2, .inl (cI, 360, .inl (zA (fun _ => 0)))), (r 3, .inl (cI, 360, .inl (zA (fun _ => 0)))), (r 4, .inl (cI, 360, .inl (zA (fun _ => 0)))), (r 5, .inl (cI, 360, .inl (zA (fun _ => 0)))), (r 6, .inl (cI, 360, .inl (zA (fun _ => 0)))), (r 7, .inl (cI, 360, .inl (zA (fun _ => 0)))), (r 8, .inl (cI, 360, .inl (zA (fun _ => 0))))])) ++ ([(y1, .inl (cI, 8, .inl (zA (fun _ => 0))))])) ++ ([(y2, .inl (cI, 8, .inl (zA (fun _ => 0))))])) ++ ([(y3, .inl (cI, 8, .inl (zA (fun _ => 0))))])) C hI pX2_23 0 rfl rfl rfl (Nat.le_of_ble_eq_true rfl) rfl dX2_init_38 ?_
  refine g_aload_n C dX2_init_41 0 rfl ?_
  refine g_iconst C dX2_init_42 ?_
  refine g_putf (w' := ((((([(h, .inr (2, [.ref q, .ref y1, .ref y2, .ref y3, .int (zI 0), .int (zI 0), .null]))]) ++ ([(q, .inl (cG, 9, .inr (.inr (.inr (.inr (fun i => if i < 9 then some (r i) else none))))))])) ++ ([(r 0, .inl (cI, 360, .inl (zA (fun _ => 0)))), (r 1, .inl (cI, 360, .inl (zA (fun _ => 0)))), (r 2, .inl (cI, 360, .inl (zA (fun _ => 0)))), (r 3, .inl (cI, 360, .inl (zA (fun _ => 0)))), (r 4, .inl (cI, 360, .inl (zA (fun _ => 0)))), (r 5, .inl (cI, 360, .inl (zA (fun _ => 0)))), (r 6, .inl (cI, 360, .inl (zA (fun _ => 0)))), (r 7, .inl (cI, 360, .inl (zA (fun _ => 0)))), (r 8, .inl (cI, 360, .inl (zA (fun _ => 0))))])) ++ ([(y1, .inl (cI, 8, .inl (zA (fun _ => 0))))])) ++ ([(y2, .inl (cI, 8, .inl (zA (fun _ => 0))))])) ++ ([(y3, .inl (cI, 8, .inl (zA (fun _ => 0))))])) C pX2_26 0 rfl rfl rfl (Nat.le_of_ble_eq_true rfl) rfl dX2_init_43 ?_
  refine g_aload_n C dX2_init_46 0 rfl ?_
  refine g_iconst C dX2_init_47 ?_
  refine g_putf (w' := ((((([(h, .inr (2, [.ref q, .ref y1, .ref y2, .ref y3, .int (zI 0), .int (zI 0), .null]))]) ++ ([(q, .inl (cG, 9, .inr (.inr (.inr (.inr (fun i => if i < 9 then some (r i) else none))))))])) ++ ([(r 0, .inl (cI, 360, .inl (zA (fun _ => 0)))), (r 1, .inl (cI, 360, .inl (zA (fun _ => 0)))), (r 2, .inl (cI, 360, .inl (zA (fun _ => 0)))), (r 3, .inl (cI, 360, .inl (zA (fun _ => 0)))), (r 4, .inl (cI, 360, .inl (zA (fun _ => 0)))), (r 5, .inl (cI, 360, .inl (zA (fun _ => 0)))), (r 6, .inl (cI, 360, .inl (zA (fun _ => 0)))), (r 7, .inl (cI, 360, .inl (zA (fun _ => 0)))), (r 8, .inl (cI, 360, .inl (zA (fun _ => 0))))])) ++ ([(y1, .inl (cI, 8, .inl (zA (fun _ => 0))))])) ++ ([(y2, .inl (cI, 8, .inl (zA (fun _ => 0))))])) ++ ([(y3, .inl (cI, 8, .inl (zA (fun _ => 0))))])) C pX2_30 0 rfl rfl rfl (Nat.le_of_ble_eq_true rfl) rfl dX2_init_48 ?_
  refine g_aload_n C dX2_init_51 0 rfl ?_
  refine g_bipush C dX2_init_52 (by decide) ?_
  refine g_newi (N := 8) C arrI (by decide) ⟨Nat.le_of_ble_eq_true rfl, Nat.le_of_ble_eq_true rfl⟩ dX2_init_54 (fun y4 => ?_)
  refine g_ws (w' := (((((([(h, .inr (2, [.ref q, .ref y1, .ref y2, .ref y3, .int (zI 0), .int (zI 0), .null]))]) ++ ([(q, .inl (cG, 9, .inr (.inr (.inr (.inr (fun i => if i < 9 then some (r i) else none))))))])) ++ ([(r 0, .inl (cI, 360, .inl (zA (fun _ => 0)))), (r 1, .inl (cI, 360, .inl (zA (fun _ => 0)))), (r 2, .inl (cI, 360, .inl (zA (fun _ => 0)))), (r 3, .inl (cI, 360, .inl (zA (fun _ => 0)))), (r 4, .inl (cI, 360, .inl (zA (fun _ => 0)))), (r 5, .inl (cI, 360, .inl (zA (fun _ => 0)))), (r 6, .inl (cI, 360, .inl (zA (fun _ => 0)))), (r 7, .inl (cI, 360, .inl (zA (fun _ => 0)))), (r 8, .inl (cI, 360, .inl (zA (fun _ => 0))))])) ++ ([(y1, .inl (cI, 8, .inl (zA (fun _ => 0))))])) ++ ([(y2, .inl (cI, 8, .inl (zA (fun _ => 0))))])) ++ ([(y3, .inl (cI, 8, .inl (zA (fun _ => 0))))])) ++ ([(y4, .inl (cI, 8, .inl (zA (fun _ => 0))))])) rfl rfl ?_
  refine g_putF (w' := (((((([(h, .inr (2, [.ref q, .ref y1, .ref y2, .ref y3, .int (zI 0), .int (zI 0), .ref y4]))]) ++ ([(q, .inl (cG, 9, .inr (.inr (.inr (.inr (fun i => if i < 9 then some (r i) else none))))))])) ++ ([(r 0, .inl (cI, 360, .inl (zA (fun _ => 0)))), (r 1, .inl (cI, 360, .inl (zA (fun _ => 0)))), (r 2, .inl (cI, 360, .inl (zA (fun _ => 0)))), (r 3, .inl (cI, 360, .inl (zA (fun _ => 0)))), (r 4, .inl (cI, 360, .inl (zA (fun _ => 0)))), (r 5, .inl (cI, 360, .inl (zA (fun _ => 0)))), (r 6, .inl (cI, 360, .inl (zA (fun _ => 0)))), (r 7, .inl (cI, 360, .inl (zA (fun _ => 0)))), (r 8, .inl (cI, 360, .inl (zA (fun _ => 0))))])) ++ ([(y1, .inl (cI, 8, .inl (zA (fun _ => 0))))])) ++ ([(y2, .inl (cI, 8, .inl (zA (fun _ => 0))))])) ++ ([(y3, .inl (cI, 8, .inl (zA (fun _ => 0))))])) ++ ([(y4, .inl (cI, 8, .inl (zA (fun _ => 0))))])) C hI pX2_33 0 rfl rfl rfl (Nat.le_of_ble_eq_true rfl) rfl dX2_init_56 ?_
  refine g_ws (w' := (((((([(h, .inr (2, [.ref q, .ref y1, .ref y2, .ref y3, .int (zI 0), .int (zI 0), .ref y4]))]) ++ ([(q, .inl (cG, 9, .inr (.inr (.inr (.inr (wR (mkA [h, q, y1, y2, y3, y4] r) 6 9))))))])) ++ ([(r 0, .inl (cI, 360, .inl (zA (fun _ => 0)))), (r 1, .inl (cI, 360, .inl (zA (fun _ => 0)))), (r 2, .inl (cI, 360, .inl (zA (fun _ => 0)))), (r 3, .inl (cI, 360, .inl (zA (fun _ => 0)))), (r 4, .inl (cI, 360, .inl (zA (fun _ => 0)))), (r 5, .inl (cI, 360, .inl (zA (fun _ => 0)))), (r 6, .inl (cI, 360, .inl (zA (fun _ => 0)))), (r 7, .inl (cI, 360, .inl (zA (fun _ => 0)))), (r 8, .inl (cI, 360, .inl (zA (fun _ => 0))))])) ++ ([(y1, .inl (cI, 8, .inl (zA (fun _ => 0))))])) ++ ([(y2, .inl (cI, 8, .inl (zA (fun _ => 0))))])) ++ ([(y3, .inl (cI, 8, .inl (zA (fun _ => 0))))])) ++ ([(y4, .inl (cI, 8, .inl (zA (fun _ => 0))))])) (by rw [wR_mk (ad := (mkA [h, q, y1, y2, y3, y4] r)) (b := 6) (r := r) (N := 9) (fun j _ => mkA_at rfl)]) rfl ?_
  refine g_perm (w' := (((((([(h, .inr (2, [.ref q, .ref y1, .ref y2, .ref y3, .int (zI 0), .int (zI 0), .ref y4]))]) ++ ([(q, .inl (cG, 9, .inr (.inr (.inr (.inr (wR (mkA [h, q, y1, y2, y3, y4] r) 6 9))))))])) ++ ([(y1, .inl (cI, 8, .inl (zA (fun _ => 0))))])) ++ ([(y2, .inl (cI, 8, .inl (zA (fun _ => 0))))])) ++ ([(y3, .inl (cI, 8, .inl (zA (fun _ => 0))))])) ++ ([(y4, .inl (cI, 8, .inl (zA (fun _ => 0))))])) ++ ([(r 0, .inl (cI, 360, .inl (zA (fun _ => 0)))), (r 1, .inl (cI, 360, .inl (zA (fun _ => 0)))), (r 2, .inl (cI, 360, .inl (zA (fun _ => 0)))), (r 3, .inl (cI, 360, .inl (zA (fun _ => 0)))), (r 4, .inl (cI, 360, .inl (zA (fun _ => 0)))), (r 5, .inl (cI, 360, .inl (zA (fun _ => 0)))), (r 6, .inl (cI, 360, .inl (zA (fun _ => 0)))), (r 7, .inl (cI, 360, .inl (zA (fun _ => 0)))), (r 8, .inl (cI, 360, .inl (zA (fun _ => 0))))])) [0, 1, 11, 12, 13, 14, 2, 3, 4, 5, 6, 7, 8, 9, 10] (by decide) rfl ?_
  exact ret _ _ _ _ _ (by decide) (by decide) dX2_init_59 (⟨(mkA [h, q, y1, y2, y3, y4] r), rfl, rfl⟩)
