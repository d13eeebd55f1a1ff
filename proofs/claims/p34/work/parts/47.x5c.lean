abbrev rmX3_init : Room := { frames := 2, cells := 40, slots := 7875, locals := 41 }
set_option maxHeartbeats 4000000 in
set_option maxRecDepth 100000 in
theorem met_X3_init (l : Launch) (D : va_G) (cI cG cJ : ClassId) (h : Nat)  : gMet l yX3_init cX3_init 1 none rmX3_init D cI cG cJ [.ref h] ([(h, .inr (3, [.null, .null, .null, .null, .int (zI 0), .int (zI 0), .int (zI 0), .int (zI 0)]))]) (gN (fun w9 => ∃ (ad a2 bd pd : Nat → Nat), w9 = ((((wV h (ad 0) (a2 0) (bd 0) (pd 0) 6 0 0 0) ++ (wS ad cI 0 (fun _ => 0) (fun _ => 0) (fun _ => 0))) ++ (wS a2 cI 0 (fun _ => 0) (fun _ => 0) (fun _ => 0))) ++ (wT bd cI cG 0 0 (fun _ => 0) (fun _ => 0) (fun _ => 0) (fun _ => 0) (fun _ _ => 0))) ++ (wP pd cI cG (fun _ => 0) (fun _ => 0) (fun _ _ => 0)))) := by
  refine gMet_NC rfl (by decide) rfl (Nat.le_of_ble_eq_true rfl) (fun E C hI ret => ?_)
  refine g_aload_n C dX3_init_0 0 rfl ?_
  refine g_objI C oiX3 ⟨Nat.le_of_ble_eq_true rfl, Nat.le_of_ble_eq_true rfl⟩ (by decide) dX3_init_1 ?_
  refine g_aload_n C dX3_init_4 0 rfl ?_
  refine g_new (ci := 1) [.null, .null, .null, .int (zI 0)] C nwX3_9 rfl inlX1 tyX1 tyX1_ok dfX1 ⟨Nat.le_of_ble_eq_true rfl, Nat.le_of_ble_eq_true rfl⟩ dX3_init_5 (fun q1 => ?_)
  refine g_ws (w' := ([(h, .inr (3, [.null, .null, .null, .null, .int (zI 0), .int (zI 0), .int (zI 0), .int (zI 0)]))]) ++ ([(q1, .inr (1, [.null, .null, .null, .int (zI 0)]))])) rfl rfl ?_
  refine g_dup C dX3_init_8 rfl ?_
  refine g_callN (wr := [(h, .inr (3, [.null, .null, .null, .null, .int (zI 0), .int (zI 0), .int (zI 0), .int (zI 0)]))]) (st := [.ref q1, .ref h]) [1] [0] C cnX3_11 (met_X1_init l D cI cG cJ q1) ⟨rfl, rfl, by decide, by decide, by decide⟩ (by decide) (by decide) rfl rfl (Nat.le_of_ble_eq_true rfl) dX3_init_9 ?_
  rintro v9 w9 ⟨rfl, ad, rfl, rfl⟩
  refine g_ws (w' := ([(h, .inr (3, [.null, .null, .null, .null, .int (zI 0), .int (zI 0), .int (zI 0), .int (zI 0)]))]) ++ (wS ad cI 0 (fun _ => 0) (fun _ => 0) (fun _ => 0))) (st' := [.ref (ad 0), .ref h]) rfl rfl ?_
  refine g_putF (w' := ([(h, .inr (3, [.ref (ad 0), .null, .null, .null, .int (zI 0), .int (zI 0), .int (zI 0), .int (zI 0)]))]) ++ (wS ad cI 0 (fun _ => 0) (fun _ => 0) (fun _ => 0))) C hI pX3_12 0 rfl rfl rfl (Nat.le_of_ble_eq_true rfl) rfl dX3_init_12 ?_
  refine g_aload_n C dX3_init_15 0 rfl ?_
  refine g_new (ci := 1) [.null, .null, .null, .int (zI 0)] C nwX3_9 rfl inlX1 tyX1 tyX1_ok dfX1 ⟨Nat.le_of_ble_eq_true rfl, Nat.le_of_ble_eq_true rfl⟩ dX3_init_16 (fun q2 => ?_)
  refine g_ws (w' := (([(h, .inr (3, [.ref (ad 0), .null, .null, .null, .int (zI 0), .int (zI 0), .int (zI 0), .int (zI 0)]))]) ++ (wS ad cI 0 (fun _ => 0) (fun _ => 0) (fun _ => 0))) ++ ([(q2, .inr (1, [.null, .null, .null, .int (zI 0)]))])) rfl rfl ?_
  refine g_dup C dX3_init_19 rfl ?_
  refine g_callN (wr := ([(h, .inr (3, [.ref (ad 0), .null, .null, .null, .int (zI 0), .int (zI 0), .int (zI 0), .int (zI 0)]))]) ++ (wS ad cI 0 (fun _ => 0) (fun _ => 0) (fun _ => 0))) (st := [.ref q2, .ref h]) [5] [0, 1, 2, 3, 4] C cnX3_11 (met_X1_init l D cI cG cJ q2) ⟨rfl, rfl, by decide, by decide, by decide⟩ (by decide) (by decide) rfl rfl (Nat.le_of_ble_eq_true rfl) dX3_init_20 ?_
  rintro v9 w9 ⟨rfl, a2, rfl, rfl⟩
  refine g_ws (w' := (([(h, .inr (3, [.ref (ad 0), .null, .null, .null, .int (zI 0), .int (zI 0), .int (zI 0), .int (zI 0)]))]) ++ (wS ad cI 0 (fun _ => 0) (fun _ => 0) (fun _ => 0))) ++ (wS a2 cI 0 (fun _ => 0) (fun _ => 0) (fun _ => 0))) (st' := [.ref (a2 0), .ref h]) rfl rfl ?_
  refine g_putF (w' := (([(h, .inr (3, [.ref (ad 0), .ref (a2 0), .null, .null, .int (zI 0), .int (zI 0), .int (zI 0), .int (zI 0)]))]) ++ (wS ad cI 0 (fun _ => 0) (fun _ => 0) (fun _ => 0))) ++ (wS a2 cI 0 (fun _ => 0) (fun _ => 0) (fun _ => 0))) C hI pX3_16 0 rfl rfl rfl (Nat.le_of_ble_eq_true rfl) rfl dX3_init_23 ?_
  refine g_aload_n C dX3_init_26 0 rfl ?_
  refine g_new (ci := 2) [.null, .null, .null, .null, .int (zI 0), .int (zI 0), .null] C nwX3_19 rfl inlX2 tyX2 tyX2_ok dfX2 ⟨Nat.le_of_ble_eq_true rfl, Nat.le_of_ble_eq_true rfl⟩ dX3_init_27 (fun q3 => ?_)
  refine g_ws (w' := ((([(h, .inr (3, [.ref (ad 0), .ref (a2 0), .null, .null, .int (zI 0), .int (zI 0), .int (zI 0), .int (zI 0)]))]) ++ (wS ad cI 0 (fun _ => 0) (fun _ => 0) (fun _ => 0))) ++ (wS a2 cI 0 (fun _ => 0) (fun _ => 0) (fun _ => 0))) ++ ([(q3, .inr (2, [.null, .null, .null, .null, .int (zI 0), .int (zI 0), .null]))])) rfl rfl ?_
  refine g_dup C dX3_init_30 rfl ?_
  refine g_callN (wr := (([(h, .inr (3, [.ref (ad 0), .ref (a2 0), .null, .null, .int (zI 0), .int (zI 0), .int (zI 0), .int (zI 0)]))]) ++ (wS ad cI 0 (fun _ => 0) (fun _ => 0) (fun _ => 0))) ++ (wS a2 cI 0 (fun _ => 0) (fun _ => 0) (fun _ => 0))) (st := [.ref q3, .ref h]) [9] [0, 1, 2, 3, 4, 5, 6, 7, 8] C cnX3_21 (met_X2_init l D cI cG cJ q3) ⟨rfl, rfl, by decide, by decide, by decide⟩ (by decide) (by decide) rfl rfl (Nat.le_of_ble_eq_true rfl) dX3_init_31 ?_
  rintro v9 w9 ⟨rfl, bd, rfl, rfl⟩
  refine g_ws (w' := ((([(h, .inr (3, [.ref (ad 0), .ref (a2 0), .null, .null, .int (zI 0), .int (zI 0), .int (zI 0), .int (zI 0)]))]) ++ (wS ad cI 0 (fun _ => 0) (fun _ => 0) (fun _ => 0))) ++ (wS a2 cI 0 (fun _ => 0) (fun _ => 0) (fun _ => 0))) ++ (wT bd cI cG 0 0 (fun _ => 0) (fun _ => 0) (fun _ => 0) (fun _ => 0) (fun _ _ => 0))) (st' := [.ref (bd 0), .ref h]) rfl rfl ?_
  refine g_putF (w' := ((([(h, .inr (3, [.ref (ad 0), .ref (a2 0), .ref (bd 0), .null, .int (zI 0), .int (zI 0), .int (zI 0), .int (zI 0)]))]) ++ (wS ad cI 0 (fun _ => 0) (fun _ => 0) (fun _ => 0))) ++ (wS a2 cI 0 (fun _ => 0) (fun _ => 0) (fun _ => 0))) ++ (wT bd cI cG 0 0 (fun _ => 0) (fun _ => 0) (fun _ => 0) (fun _ => 0) (fun _ _ => 0))) C hI pX3_22 0 rfl rfl rfl (Nat.le_of_ble_eq_true rfl) rfl dX3_init_34 ?_
  refine g_aload_n C dX3_init_37 0 rfl ?_
  refine g_new (ci := 0) [.null, .null, .null] C nwX3_26 rfl inlX0 tyX0 tyX0_ok dfX0 ⟨Nat.le_of_ble_eq_true rfl, Nat.le_of_ble_eq_true rfl⟩ dX3_init_38 (fun q4 => ?_)
  refine g_ws (w' := (((([(h, .inr (3, [.ref (ad 0), .ref (a2 0), .ref (bd 0), .null, .int (zI 0), .int (zI 0), .int (zI 0), .int (zI 0)]))]) ++ (wS ad cI 0 (fun _ => 0) (fun _ => 0) (fun _ => 0))) ++ (wS a2 cI 0 (fun _ => 0) (fun _ => 0) (fun _ => 0))) ++ (wT bd cI cG 0 0 (fun _ => 0) (fun _ => 0) (fun _ => 0) (fun _ => 0) (fun _ _ => 0))) ++ ([(q4, .inr (0, [.null, .null, .null]))])) rfl rfl ?_
  refine g_dup C dX3_init_41 rfl ?_
  refine g_callN (wr := ((([(h, .inr (3, [.ref (ad 0), .ref (a2 0), .ref (bd 0), .null, .int (zI 0), .int (zI 0), .int (zI 0), .int (zI 0)]))]) ++ (wS ad cI 0 (fun _ => 0) (fun _ => 0) (fun _ => 0))) ++ (wS a2 cI 0 (fun _ => 0) (fun _ => 0) (fun _ => 0))) ++ (wT bd cI cG 0 0 (fun _ => 0) (fun _ => 0) (fun _ => 0) (fun _ => 0) (fun _ _ => 0))) (st := [.ref q4, .ref h]) [24] [0, 1, 2, 3, 4, 5, 6, 7, 8, 9, 10, 11, 12, 13, 14, 15, 16, 17, 18, 19, 20, 21, 22, 23] C cnX3_28 (met_X0_init l D cI cG cJ q4) ⟨rfl, rfl, by decide, by decide, by decide⟩ (by decide) (by decide) rfl rfl (Nat.le_of_ble_eq_true rfl) dX3_init_42 ?_
  rintro v9 w9 ⟨rfl, pd, rfl, rfl⟩
  refine g_ws (w' := (((([(h, .inr (3, [.ref (ad 0), .ref (a2 0), .ref (bd 0), .null, .int (zI 0), .int (zI 0), .int (zI 0), .int (zI 0)]))]) ++ (wS ad cI 0 (fun _ => 0) (fun _ => 0) (fun _ => 0))) ++ (wS a2 cI 0 (fun _ => 0) (fun _ => 0) (fun _ => 0))) ++ (wT bd cI cG 0 0 (fun _ => 0) (fun _ => 0) (fun _ => 0) (fun _ => 0) (fun _ _ => 0))) ++ (wP pd cI cG (fun _ => 0) (fun _ => 0) (fun _ _ => 0))) (st' := [.ref (pd 0), .ref h]) rfl rfl ?_
  refine g_putF (w' := (((([(h, .inr (3, [.ref (ad 0), .ref (a2 0), .ref (bd 0), .ref (pd 0), .int (zI 0), .int (zI 0), .int (zI 0), .int (zI 0)]))]) ++ (wS ad cI 0 (fun _ => 0) (fun _ => 0) (fun _ => 0))) ++ (wS a2 cI 0 (fun _ => 0) (fun _ => 0) (fun _ => 0))) ++ (wT bd cI cG 0 0 (fun _ => 0) (fun _ => 0) (fun _ => 0) (fun _ => 0) (fun _ _ => 0))) ++ (wP pd cI cG (fun _ => 0) (fun _ => 0) (fun _ _ => 0))) C hI pX3_29 0 rfl rfl rfl (Nat.le_of_ble_eq_true rfl) rfl dX3_init_45 ?_
  refine g_aload_n C dX3_init_48 0 rfl ?_
  refine g_bipush C dX3_init_49 (by decide) ?_
  refine g_putf (w' := (((([(h, .inr (3, [.ref (ad 0), .ref (a2 0), .ref (bd 0), .ref (pd 0), .int (zI 6), .int (zI 0), .int (zI 0), .int (zI 0)]))]) ++ (wS ad cI 0 (fun _ => 0) (fun _ => 0) (fun _ => 0))) ++ (wS a2 cI 0 (fun _ => 0) (fun _ => 0) (fun _ => 0))) ++ (wT bd cI cG 0 0 (fun _ => 0) (fun _ => 0) (fun _ => 0) (fun _ => 0) (fun _ _ => 0))) ++ (wP pd cI cG (fun _ => 0) (fun _ => 0) (fun _ _ => 0))) C pX3_33 0 rfl rfl rfl (Nat.le_of_ble_eq_true rfl) rfl dX3_init_51 ?_
  refine g_aload_n C dX3_init_54 0 rfl ?_
  refine g_iconst C dX3_init_55 ?_
  refine g_putf (w' := (((([(h, .inr (3, [.ref (ad 0), .ref (a2 0), .ref (bd 0), .ref (pd 0), .int (zI 6), .int (zI 0), .int (zI 0), .int (zI 0)]))]) ++ (wS ad cI 0 (fun _ => 0) (fun _ => 0) (fun _ => 0))) ++ (wS a2 cI 0 (fun _ => 0) (fun _ => 0) (fun _ => 0))) ++ (wT bd cI cG 0 0 (fun _ => 0) (fun _ => 0) (fun _ => 0) (fun _ => 0) (fun _ _ => 0))) ++ (wP pd cI cG (fun _ => 0) (fun _ => 0) (fun _ _ => 0))) C pX3_37 0 rfl rfl rfl (Nat.le_of_ble_eq_true rfl) rfl dX3_init_56 ?_
  refine g_aload_n C dX3_init_59 0 rfl ?_
  refine g_iconst C dX3_init_60 ?_
  refine g_putf (w' := (((([(h, .inr (3, [.ref (ad 0), .ref (a2 0), .ref (bd 0), .ref (pd 0), .int (zI 6), .int (zI 0), .int (zI 0), .int (zI 0)]))]) ++ (wS ad cI 0 (fun _ => 0) (fun _ => 0) (fun _ => 0))) ++ (wS a2 cI 0 (fun _ => 0) (fun _ => 0) (fun _ => 0))) ++ (wT bd cI cG 0 0 (fun _ => 0) (fun _ => 0) (fun _ => 0) (fun _ => 0) (fun _ _ => 0))) ++ (wP pd cI cG (fun _ => 0) (fun _ => 0) (fun _ _ => 0))) C pX3_40 0 rfl rfl rfl (Nat.le_of_ble_eq_true rfl) rfl dX3_init_61 ?_
  refine g_aload_n C dX3_init_64 0 rfl ?_
  refine g_iconst C dX3_init_65 ?_
  refine g_putf (w' := (((([(h, .inr (3, [.ref (ad 0), .ref (a2 0), .ref (bd 0), .ref (pd 0), .int (zI 6), .int (zI 0), .int (zI 0), .int (zI 0)]))]) ++ (wS ad cI 0 (fun _ => 0) (fun _ => 0) (fun _ => 0))) ++ (wS a2 cI 0 (fun _ => 0) (fun _ => 0) (fun _ => 0))) ++ (wT bd cI cG 0 0 (fun _ => 0) (fun _ => 0) (fun _ => 0) (fun _ => 0) (fun _ _ => 0))) ++ (wP pd cI cG (fun _ => 0) (fun _ => 0) (fun _ _ => 0))) C pX3_43 0 rfl rfl rfl (Nat.le_of_ble_eq_true rfl) rfl dX3_init_66 ?_
  exact ret _ _ _ _ _ (by decide) (by decide) dX3_init_69 (⟨ad, a2, bd, pd, rfl⟩)
