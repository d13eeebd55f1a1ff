section
-- ===== PART A: goes FIRST, ahead of the names: the tables' words, and 'selects' of the private methods out of them =====
/-- a private method of a class that the tables say can be made, by its rows of tables_1 -/
def lw_okq (q : MethodName × Nat) : Prop := (q.1.cls ≠ "java/lang/invoke/MethodHandle" ∧ q.1.cls ≠ "java/lang/invoke/VarHandle") ∧ Cond.instantiable q.1.cls q.2 ∈ tables_1 ∧ Cond.privateMethod q.1 ∈ tables_1 ∧ Cond.instanceMethod q.1 ∈ tables_1
theorem lw_p0 : lw_okq (⟨"StampVendor$StockTable", "fillRow", "(I)V"⟩, 7) := ⟨⟨by decide +kernel, by decide +kernel⟩, List.mem_of_getElem? (i := 52) (by decide +kernel), List.mem_of_getElem? (i := 168) (by decide +kernel), List.mem_of_getElem? (i := 169) (by decide +kernel)⟩
theorem lw_p1 : lw_okq (⟨"StampVendor", "digestStamps", "(J)J"⟩, 8) := ⟨⟨by decide +kernel, by decide +kernel⟩, List.mem_of_getElem? (i := 15) (by decide +kernel), List.mem_of_getElem? (i := 247) (by decide +kernel), List.mem_of_getElem? (i := 248) (by decide +kernel)⟩
theorem lw_p2 : lw_okq (⟨"StampVendor", "digestPostages", "(J)J"⟩, 8) := ⟨⟨by decide +kernel, by decide +kernel⟩, List.mem_of_getElem? (i := 15) (by decide +kernel), List.mem_of_getElem? (i := 251) (by decide +kernel), List.mem_of_getElem? (i := 252) (by decide +kernel)⟩
theorem lw_p3 : lw_okq (⟨"java/lang/Throwable", "fillInStackTrace", "(I)Ljava/lang/Throwable;"⟩, 6) := ⟨⟨by decide +kernel, by decide +kernel⟩, List.mem_of_getElem? (i := 318) (by decide +kernel), List.mem_of_getElem? (i := 316) (by decide +kernel), List.mem_of_getElem? (i := 317) (by decide +kernel)⟩
theorem lw_p4 : lw_okq (⟨"StampVendor", "checkStamp", "(I)V"⟩, 8) := ⟨⟨by decide +kernel, by decide +kernel⟩, List.mem_of_getElem? (i := 15) (by decide +kernel), List.mem_of_getElem? (i := 370) (by decide +kernel), List.mem_of_getElem? (i := 371) (by decide +kernel)⟩
theorem lw_p5 : lw_okq (⟨"StampVendor$StockTable", "mostOf", "(II)I"⟩, 7) := ⟨⟨by decide +kernel, by decide +kernel⟩, List.mem_of_getElem? (i := 52) (by decide +kernel), List.mem_of_getElem? (i := 426) (by decide +kernel), List.mem_of_getElem? (i := 427) (by decide +kernel)⟩
theorem lw_p6 : lw_okq (⟨"StampVendor$PrintTable", "clearChoices", "(II)V"⟩, 3) := ⟨⟨by decide +kernel, by decide +kernel⟩, List.mem_of_getElem? (i := 83) (by decide +kernel), List.mem_of_getElem? (i := 502) (by decide +kernel), List.mem_of_getElem? (i := 503) (by decide +kernel)⟩
theorem lw_p7 : lw_okq (⟨"StampVendor$PrintTable", "addChoicesWith", "(III)V"⟩, 3) := ⟨⟨by decide +kernel, by decide +kernel⟩, List.mem_of_getElem? (i := 83) (by decide +kernel), List.mem_of_getElem? (i := 506) (by decide +kernel), List.mem_of_getElem? (i := 507) (by decide +kernel)⟩
theorem lw_p8 : lw_okq (⟨"StampVendorModel", "no", "(I)I"⟩, 14) := ⟨⟨by decide +kernel, by decide +kernel⟩, List.mem_of_getElem? (i := 547) (by decide +kernel), List.mem_of_getElem? (i := 608) (by decide +kernel), List.mem_of_getElem? (i := 609) (by decide +kernel)⟩
theorem lw_p9 : lw_okq (⟨"StampVendorModel", "isThere", "(I)Z"⟩, 14) := ⟨⟨by decide +kernel, by decide +kernel⟩, List.mem_of_getElem? (i := 547) (by decide +kernel), List.mem_of_getElem? (i := 612) (by decide +kernel), List.mem_of_getElem? (i := 613) (by decide +kernel)⟩
theorem lw_p10 : lw_okq (⟨"StampVendorModel", "isStamp", "(I)Z"⟩, 14) := ⟨⟨by decide +kernel, by decide +kernel⟩, List.mem_of_getElem? (i := 547) (by decide +kernel), List.mem_of_getElem? (i := 620) (by decide +kernel), List.mem_of_getElem? (i := 621) (by decide +kernel)⟩
theorem lw_p11 : lw_okq (⟨"StampVendorModel", "give", "(I)I"⟩, 14) := ⟨⟨by decide +kernel, by decide +kernel⟩, List.mem_of_getElem? (i := 547) (by decide +kernel), List.mem_of_getElem? (i := 643) (by decide +kernel), List.mem_of_getElem? (i := 644) (by decide +kernel)⟩
theorem lw_p12 : lw_okq (⟨"StampVendorModel", "table", "()V"⟩, 14) := ⟨⟨by decide +kernel, by decide +kernel⟩, List.mem_of_getElem? (i := 547) (by decide +kernel), List.mem_of_getElem? (i := 647) (by decide +kernel), List.mem_of_getElem? (i := 648) (by decide +kernel)⟩
theorem lw_p13 : lw_okq (⟨"StampVendorModel", "sort", "()V"⟩, 14) := ⟨⟨by decide +kernel, by decide +kernel⟩, List.mem_of_getElem? (i := 547) (by decide +kernel), List.mem_of_getElem? (i := 651) (by decide +kernel), List.mem_of_getElem? (i := 652) (by decide +kernel)⟩
theorem lw_p14 : lw_okq (⟨"StampVendorModel", "with", "(I)V"⟩, 14) := ⟨⟨by decide +kernel, by decide +kernel⟩, List.mem_of_getElem? (i := 547) (by decide +kernel), List.mem_of_getElem? (i := 655) (by decide +kernel), List.mem_of_getElem? (i := 656) (by decide +kernel)⟩
theorem lw_p15 : lw_okq (⟨"StampVendorModel", "covers", "(I)I"⟩, 14) := ⟨⟨by decide +kernel, by decide +kernel⟩, List.mem_of_getElem? (i := 547) (by decide +kernel), List.mem_of_getElem? (i := 659) (by decide +kernel), List.mem_of_getElem? (i := 660) (by decide +kernel)⟩
def lw_privs_1 : List (MethodName × Nat) := [(⟨"StampVendor$StockTable", "fillRow", "(I)V"⟩, 7), (⟨"StampVendor", "digestStamps", "(J)J"⟩, 8), (⟨"StampVendor", "digestPostages", "(J)J"⟩, 8), (⟨"java/lang/Throwable", "fillInStackTrace", "(I)Ljava/lang/Throwable;"⟩, 6), (⟨"StampVendor", "checkStamp", "(I)V"⟩, 8), (⟨"StampVendor$StockTable", "mostOf", "(II)I"⟩, 7), (⟨"StampVendor$PrintTable", "clearChoices", "(II)V"⟩, 3), (⟨"StampVendor$PrintTable", "addChoicesWith", "(III)V"⟩, 3), (⟨"StampVendorModel", "no", "(I)I"⟩, 14), (⟨"StampVendorModel", "isThere", "(I)Z"⟩, 14), (⟨"StampVendorModel", "isStamp", "(I)Z"⟩, 14), (⟨"StampVendorModel", "give", "(I)I"⟩, 14), (⟨"StampVendorModel", "table", "()V"⟩, 14), (⟨"StampVendorModel", "sort", "()V"⟩, 14), (⟨"StampVendorModel", "with", "(I)V"⟩, 14), (⟨"StampVendorModel", "covers", "(I)I"⟩, 14)]
theorem lw_r1 : ∀ q ∈ lw_privs_1, lw_okq q := List.forall_mem_cons.mpr ⟨lw_p0, List.forall_mem_cons.mpr ⟨lw_p1, List.forall_mem_cons.mpr ⟨lw_p2, List.forall_mem_cons.mpr ⟨lw_p3, List.forall_mem_cons.mpr ⟨lw_p4, List.forall_mem_cons.mpr ⟨lw_p5, List.forall_mem_cons.mpr ⟨lw_p6, List.forall_mem_cons.mpr ⟨lw_p7, List.forall_mem_cons.mpr ⟨lw_p8, List.forall_mem_cons.mpr ⟨lw_p9, List.forall_mem_cons.mpr ⟨lw_p10, List.forall_mem_cons.mpr ⟨lw_p11, List.forall_mem_cons.mpr ⟨lw_p12, List.forall_mem_cons.mpr ⟨lw_p13, List.forall_mem_cons.mpr ⟨lw_p14, List.forall_mem_cons.mpr ⟨lw_p15, fun _ h => absurd h List.not_mem_nil⟩⟩⟩⟩⟩⟩⟩⟩⟩⟩⟩⟩⟩⟩⟩⟩
theorem lw_p16 : lw_okq (⟨"StampVendorModel", "pays", "(I)Z"⟩, 14) := ⟨⟨by decide +kernel, by decide +kernel⟩, List.mem_of_getElem? (i := 547) (by decide +kernel), List.mem_of_getElem? (i := 663) (by decide +kernel), List.mem_of_getElem? (i := 664) (by decide +kernel)⟩
theorem lw_p17 : lw_okq (⟨"StampVendorModel", "take", "(I)V"⟩, 14) := ⟨⟨by decide +kernel, by decide +kernel⟩, List.mem_of_getElem? (i := 547) (by decide +kernel), List.mem_of_getElem? (i := 667) (by decide +kernel), List.mem_of_getElem? (i := 668) (by decide +kernel)⟩
theorem lw_p18 : lw_okq (⟨"StampVendorModel", "ok", "(I)I"⟩, 14) := ⟨⟨by decide +kernel, by decide +kernel⟩, List.mem_of_getElem? (i := 547) (by decide +kernel), List.mem_of_getElem? (i := 675) (by decide +kernel), List.mem_of_getElem? (i := 676) (by decide +kernel)⟩
theorem lw_p19 : lw_okq (⟨"StampVendorModel", "of", "(I[I)I"⟩, 14) := ⟨⟨by decide +kernel, by decide +kernel⟩, List.mem_of_getElem? (i := 547) (by decide +kernel), List.mem_of_getElem? (i := 687) (by decide +kernel), List.mem_of_getElem? (i := 688) (by decide +kernel)⟩
theorem lw_p20 : lw_okq (⟨"StampVendorModel", "scarce", "()I"⟩, 14) := ⟨⟨by decide +kernel, by decide +kernel⟩, List.mem_of_getElem? (i := 547) (by decide +kernel), List.mem_of_getElem? (i := 715) (by decide +kernel), List.mem_of_getElem? (i := 716) (by decide +kernel)⟩
theorem lw_p21 : lw_okq (⟨"StampVendorModel", "isNot", "(I)Z"⟩, 14) := ⟨⟨by decide +kernel, by decide +kernel⟩, List.mem_of_getElem? (i := 547) (by decide +kernel), List.mem_of_getElem? (i := 723) (by decide +kernel), List.mem_of_getElem? (i := 724) (by decide +kernel)⟩
theorem lw_p22 : lw_okq (⟨"StampVendorModel", "over", "(I)I"⟩, 14) := ⟨⟨by decide +kernel, by decide +kernel⟩, List.mem_of_getElem? (i := 547) (by decide +kernel), List.mem_of_getElem? (i := 731) (by decide +kernel), List.mem_of_getElem? (i := 732) (by decide +kernel)⟩
theorem lw_p23 : lw_okq (⟨"StampVendorModel", "many", "(I)I"⟩, 14) := ⟨⟨by decide +kernel, by decide +kernel⟩, List.mem_of_getElem? (i := 547) (by decide +kernel), List.mem_of_getElem? (i := 739) (by decide +kernel), List.mem_of_getElem? (i := 740) (by decide +kernel)⟩
theorem lw_p24 : lw_okq (⟨"StampVendorModel", "reached", "()I"⟩, 14) := ⟨⟨by decide +kernel, by decide +kernel⟩, List.mem_of_getElem? (i := 547) (by decide +kernel), List.mem_of_getElem? (i := 751) (by decide +kernel), List.mem_of_getElem? (i := 752) (by decide +kernel)⟩
theorem lw_p25 : lw_okq (⟨"StampVendorModel", "greatest", "()I"⟩, 14) := ⟨⟨by decide +kernel, by decide +kernel⟩, List.mem_of_getElem? (i := 547) (by decide +kernel), List.mem_of_getElem? (i := 759) (by decide +kernel), List.mem_of_getElem? (i := 760) (by decide +kernel)⟩
theorem lw_p26 : lw_okq (⟨"StampVendorModel", "printed", "(I)V"⟩, 14) := ⟨⟨by decide +kernel, by decide +kernel⟩, List.mem_of_getElem? (i := 547) (by decide +kernel), List.mem_of_getElem? (i := 767) (by decide +kernel), List.mem_of_getElem? (i := 768) (by decide +kernel)⟩
theorem lw_p27 : lw_okq (⟨"StampVendorModel", "fewestFor", "(I)I"⟩, 14) := ⟨⟨by decide +kernel, by decide +kernel⟩, List.mem_of_getElem? (i := 547) (by decide +kernel), List.mem_of_getElem? (i := 771) (by decide +kernel), List.mem_of_getElem? (i := 772) (by decide +kernel)⟩
theorem lw_p28 : lw_okq (⟨"StampVendorModel", "allWays", "(I)I"⟩, 14) := ⟨⟨by decide +kernel, by decide +kernel⟩, List.mem_of_getElem? (i := 547) (by decide +kernel), List.mem_of_getElem? (i := 779) (by decide +kernel), List.mem_of_getElem? (i := 780) (by decide +kernel)⟩
theorem lw_p29 : lw_okq (⟨"StampVendorModel", "printReach", "(II)I"⟩, 14) := ⟨⟨by decide +kernel, by decide +kernel⟩, List.mem_of_getElem? (i := 547) (by decide +kernel), List.mem_of_getElem? (i := 787) (by decide +kernel), List.mem_of_getElem? (i := 788) (by decide +kernel)⟩
theorem lw_p30 : lw_okq (⟨"StampVendorModel", "valueBest", "()I"⟩, 14) := ⟨⟨by decide +kernel, by decide +kernel⟩, List.mem_of_getElem? (i := 547) (by decide +kernel), List.mem_of_getElem? (i := 810) (by decide +kernel), List.mem_of_getElem? (i := 811) (by decide +kernel)⟩
theorem lw_p31 : lw_okq (⟨"StampVendorModel", "toPrint", "()I"⟩, 14) := ⟨⟨by decide +kernel, by decide +kernel⟩, List.mem_of_getElem? (i := 547) (by decide +kernel), List.mem_of_getElem? (i := 818) (by decide +kernel), List.mem_of_getElem? (i := 819) (by decide +kernel)⟩
def lw_privs_2 : List (MethodName × Nat) := [(⟨"StampVendorModel", "pays", "(I)Z"⟩, 14), (⟨"StampVendorModel", "take", "(I)V"⟩, 14), (⟨"StampVendorModel", "ok", "(I)I"⟩, 14), (⟨"StampVendorModel", "of", "(I[I)I"⟩, 14), (⟨"StampVendorModel", "scarce", "()I"⟩, 14), (⟨"StampVendorModel", "isNot", "(I)Z"⟩, 14), (⟨"StampVendorModel", "over", "(I)I"⟩, 14), (⟨"StampVendorModel", "many", "(I)I"⟩, 14), (⟨"StampVendorModel", "reached", "()I"⟩, 14), (⟨"StampVendorModel", "greatest", "()I"⟩, 14), (⟨"StampVendorModel", "printed", "(I)V"⟩, 14), (⟨"StampVendorModel", "fewestFor", "(I)I"⟩, 14), (⟨"StampVendorModel", "allWays", "(I)I"⟩, 14), (⟨"StampVendorModel", "printReach", "(II)I"⟩, 14), (⟨"StampVendorModel", "valueBest", "()I"⟩, 14), (⟨"StampVendorModel", "toPrint", "()I"⟩, 14)]
theorem lw_r2 : ∀ q ∈ lw_privs_2, lw_okq q := List.forall_mem_cons.mpr ⟨lw_p16, List.forall_mem_cons.mpr ⟨lw_p17, List.forall_mem_cons.mpr ⟨lw_p18, List.forall_mem_cons.mpr ⟨lw_p19, List.forall_mem_cons.mpr ⟨lw_p20, List.forall_mem_cons.mpr ⟨lw_p21, List.forall_mem_cons.mpr ⟨lw_p22, List.forall_mem_cons.mpr ⟨lw_p23, List.forall_mem_cons.mpr ⟨lw_p24, List.forall_mem_cons.mpr ⟨lw_p25, List.forall_mem_cons.mpr ⟨lw_p26, List.forall_mem_cons.mpr ⟨lw_p27, List.forall_mem_cons.mpr ⟨lw_p28, List.forall_mem_cons.mpr ⟨lw_p29, List.forall_mem_cons.mpr ⟨lw_p30, List.forall_mem_cons.mpr ⟨lw_p31, fun _ h => absurd h List.not_mem_nil⟩⟩⟩⟩⟩⟩⟩⟩⟩⟩⟩⟩⟩⟩⟩⟩
def lw_privs : List (MethodName × Nat) := lw_privs_1 ++ (lw_privs_2)
def lw_tbl : List Cond := k2_sels lw_privs ++ tables_1
theorem lw_privs_ok : ∀ q ∈ lw_privs, lw_okq q := by
  show ∀ q ∈ lw_privs_1 ++ (lw_privs_2), lw_okq q
  exact List.forall_mem_append.mpr ⟨lw_r1, lw_r2⟩
/-- the streams that the claim lets the run draw from -/
abbrev lw_cs : List Choice := [Jvm.Choice.named "NaN.bits"]
theorem lw_bits : nanBits ∈ lw_cs := by first | decide | exact List.mem_cons_self | simp [lw_cs, nanBits]
-- ===== end of PART A; then your names; then what follows =====
/-- what the tables say of arrays of arrays of t (the printed names speak of it; this kit has no such name) -/
def va_AOA (t : FieldType) (U : State) : Prop := (Cond.arrayOver (.array t)).before #[] U = true
theorem va_AOA.of {t : FieldType} {A : Array Value} {U : State} (h : (Cond.arrayOver (.array t)).before A U = true) : va_AOA t U := h
theorem va_AOA.use {t : FieldType} {A : Array Value} {U : State} (h : va_AOA t U) : (Cond.arrayOver (.array t)).before A U = true := h
end
section
/-! ===== BEGIN words of one list among another's, by their places ===== -/
theorem goodIn_r {big : List Cond} (ws : List Cond) (ps : List Nat) (hp : ws = ps.filterMap (fun i => big[i]?)) (h : ws.all goodWord = true) : GoodIn big ws := by
  intro w hw
  have h1 := List.all_eq_true.mp h w hw
  rw [hp] at hw
  obtain ⟨i, -, hi⟩ := List.mem_filterMap.mp hw
  have hm : w ∈ big := by first | exact List.mem_of_getElem? hi | exact List.getElem?_mem hi
  exact ⟨hm, good_of_word h1⟩
theorem goodIn_app {big a b : List Cond} (ha : GoodIn big a) (hb : GoodIn big b) : GoodIn big (a ++ b) := fun w h => (List.mem_append.mp h).elim (ha w) (hb w)
theorem goodIn_ca {big a b : List Cond} {c : Cond} (ha : GoodIn big (c :: a)) (hb : GoodIn big b) : GoodIn big (c :: (a ++ b)) := fun w h => (List.mem_cons.mp h).elim (fun e => ha w (List.mem_cons.mpr (Or.inl e))) (fun h => (List.mem_append.mp h).elim (fun h => ha w (List.mem_cons.mpr (Or.inr h))) (hb w))
theorem goodIn_sub {big ws : List Cond} (hm : ∀ w ∈ ws, w ∈ big) (h : ws.all goodWord = true) : GoodIn big ws := fun w hw => ⟨hm w hw, good_of_word (List.all_eq_true.mp h w hw)⟩
/-! ===== END ===== -/

/-! ===== BEGIN new T[n][m]: the outer array a place, the inner ones among the pooled ===== -/
/-- f, but v at every address of l -/
def vr_up {α : Type} (f : Nat → α) (l : List Nat) (v : α) : Nat → α := fun a => if a ∈ l then v else f a
theorem vr_up_in {α : Type} {f : Nat → α} {l : List Nat} {v : α} {a : Nat} (h : a ∈ l) : vr_up f l v a = v := if_pos h
theorem vr_up_ne {α : Type} {f : Nat → α} {l : List Nat} {v : α} {a : Nat} (h : a ∉ l) : vr_up f l v a = f a := if_neg h
theorem vr_rows {L l : List Nat} {f : Nat → va_E} {e : va_E} (h : ∀ a, a ∈ l → a ∉ L) : va_pl L f ++ l.map (fun a => (a, e)) = va_pl (L ++ l) (vr_up f l e) := by
  unfold va_pl
  rw [List.map_append]
  congr 1
  · apply List.map_congr_left
    intro a ha
    rw [vr_up_ne (fun q => h a q ha)]
  · apply List.map_congr_left
    intro a ha
    rw [vr_up_in ha]
theorem vr_lay {X rows : va_W} {x : Nat × va_E} {pl : va_W} {D : va_G} {cl : List vw_C} {H : Heap} (hP : va_P D cl (((X ++ pl) ++ [x]) ++ rows) H) : va_P D cl ((X ++ [x]) ++ (pl ++ rows)) H := by
  rw [List.append_assoc (X ++ pl)] at hP
  have h := va_P.swap hP
  rw [← List.append_assoc X] at h
  have h2 := va_P.swap h
  rw [List.append_assoc (X ++ [x])] at h2
  exact h2
theorem vr_layD {X rows : va_W} {x : Nat × va_E} {pl : va_W} {A : Nat → Prop} (hD : va_D A (((X ++ pl) ++ [x]) ++ rows)) : va_D A ((X ++ [x]) ++ (pl ++ rows)) := by
  rw [List.append_assoc (X ++ pl)] at hD
  have h := va_D.swap hD
  rw [← List.append_assoc X] at h
  have h2 := va_D.swap h
  rw [List.append_assoc (X ++ [x])] at h2
  exact h2
theorem vr_outer (c : ClassId) (N h0 : Nat) : ∀ i : Nat, Jvm.Free.Multi.outerC c N h0 i = arrV c N (fun j => va_rf (if j < i then some (h0 + 1 + j) else none))
  | 0 => by
    show ({ cls := c, slots := Array.replicate N .null, vm := .none } : Cell) = _
    rw [arrV_new]
    refine congrArg (arrV c N) (funext fun j => ?_)
    simp [va_rf]
  | i + 1 => by
    show (Jvm.Free.Multi.outerC c N h0 i).setSlot i (.ref (h0 + 1 + i)) = _
    rw [vr_outer c N h0 i, arrV_store]
    refine congrArg (arrV c N) (funext fun j => ?_)
    by_cases e : j = i
    · subst e
      simp [updV, va_rf]
    · by_cases h : j < i
      · simp [updV, e, h, Nat.lt_succ_of_lt h]
      · simp [updV, e, h, show ¬ j < i + 1 by omega]
section VGM
variable {p : Program} {l : Launch} {e : Env} {R : Room} {s : State} {m : MethodId} {args : Array Value} {below : List Frame} {meth : Method} {c : Code} {H : Heap} {locs : List Loc} {cells slots : Nat} {Q : State → Prop}
variable {cc : ByteArray} {pc : Nat} {ls : Array Slot} {rest : List Value} {D : va_G} {cl : List vw_C} {A : Nat → Prop} {a : Nat} {tys : List (ClassId × FieldType)} {ws : va_W} {H0 : Heap}
theorem va_mna {X : va_W} {L : List Nat} {f : Nat → va_E} {cc : ByteArray} (hexec : p.tables.exec = Jvm.exec) (hb : c.code = cc) {own : String} {index : Nat} {ty : FieldType} {cy : ClassId} (hown : s.vm.findClass own = some m.cls) (hclink : (Cond.classLink own index ("[" ++ (FieldType.array ty).toString)).before args s = true) (hover : va_AOA ty s) (harr : (Cond.arrayClass ty).before args s = true) (hcy : s.vm.findClass (FieldType.array ty).toString = some cy)
    (hK : va_K D cl tys s) (hP : va_P D cl (X ++ va_pl L f) H) (hD : va_D A (X ++ va_pl L f)) (hS : va_S A H0 H locs) (hA : ∀ q, H0.size ≤ q → A q) {n k : Int32} {N' K' : Nat} {z : vp_A} (hn : ¬ n < 0) (hk : ¬ k < 0) (hN : n.toNatClampNeg = N') (hM : k.toNatClampNeg = K')
    (hb1 : N' * 4 ≤ 536870912) (hb2 : K' * componentBytes ty ≤ 536870912) (hb3 : K' ≤ 536870912) (hdf : fits ty (defaultValue ty) = true) (hdd : (defaultValue ty).isDefault = true) (hcells : cells + (1 + N') ≤ R.cells) (hslots : slots + (N' + N' * K') ≤ R.slots) (hz : ∀ c : ClassId, Jvm.Free.Multi.innerC c K' (defaultValue ty) = vp_cell c z) (hdg : decode cc pc = .ok (.multianewarray index 2, 4))
    (kk : ∀ (q : Nat) (r : Nat → Nat) (cA : ClassId) (H1 : Heap), (∀ i j : Nat, i < N' → j < N' → r i = r j → i = j) → (∀ i : Nat, i < N' → r i ∉ L) → va_K D cl (tys ++ [(cA, .array ty)]) s →
      va_P D cl ((X ++ [(q, .inl (cA, N', .inr (.inr (.inr (.inr (fun i => if i < N' then some (r i) else none))))))]) ++ va_pl (L ++ (List.range N').map r) (vr_up f ((List.range N').map r) (.inl (cy, z)))) H1 → va_D A ((X ++ [(q, .inl (cA, N', .inr (.inr (.inr (.inr (fun i => if i < N' then some (r i) else none))))))]) ++ va_pl (L ++ (List.range N').map r) (vr_up f ((List.range N').map r) (.inl (cy, z)))) → va_S A H0 H1 locs →
      W p l e R s m args below meth c H1 locs (cells + 1 + N') (slots + N' + N' * K') Q (F0 m (pc + 4) ls (.ref q :: rest))) : W p l e R s m args below meth c H locs cells slots Q (F0 m pc ls (.int k :: .int n :: rest)) := by
  subst hN
  subst hM
  intro T hT Xs
  obtain ⟨vm₁, cA, comp, -, fA, fC, hO, -, X', step⟩ := Xs.multianewarray2F hexec hown hclink (va_AOA.use hover) harr (g := F0 m pc ls (.int k :: .int n :: rest)) rfl (by rw [hb]; exact hdg) rfl hn hk hb1 hb2 hb3 hdf hdd hcells hslots
  have ec : some cy = some comp := hcy.symm.trans fC
  cases ec
  generalize hF : Jvm.Free.Multi.fill (T.setVm vm₁) cA cy n.toNatClampNeg k.toNatClampNeg (defaultValue ty) n.toNatClampNeg = F at X' step
  have hTh : (T.setVm vm₁).heap = H := hT
  obtain ⟨f1, f2, -, -⟩ := Jvm.Free.Multi.fill_facts (T.setVm vm₁) cA cy n.toNatClampNeg k.toNatClampNeg (defaultValue ty) n.toNatClampNeg
  rw [hF, hTh] at f1 f2
  have hold : ∀ x : Nat, x < H.size → F.heap[x]? = H[x]? := fun x hx => by
    have := Jvm.Free.Multi.fill_old (T.setVm vm₁) cA cy n.toNatClampNeg k.toNatClampNeg (defaultValue ty) (a := x) (by rw [hTh]; exact hx) n.toNatClampNeg
    rw [hF, hTh] at this
    exact this
  have hrow : ∀ j : Nat, j < n.toNatClampNeg → F.heap[H.size + 1 + j]? = some (vp_cell cy z) := fun j hj => by
    have := Jvm.Free.Multi.fill_inner (T.setVm vm₁) cA cy n.toNatClampNeg k.toNatClampNeg (defaultValue ty) n.toNatClampNeg j hj
    rw [hF, hTh, hz] at this
    exact this
  have hout : Jvm.Free.Multi.outerC cA n.toNatClampNeg H.size n.toNatClampNeg = vp_cell cA (n.toNatClampNeg, .inr (.inr (.inr (.inr (fun i => if i < n.toNatClampNeg then some (H.size + 1 + i) else none))))) := by
    rw [vp_cell_q]
    exact vr_outer cA n.toNatClampNeg H.size n.toNatClampNeg
  rw [hout] at f2
  have hlt : ∀ a, a ∈ L → a < H.size := fun a ha => by
    obtain ⟨k9, hk9⟩ := va_pl_get (X := X) (f := f) ha
    exact (hP k9 _ hk9).lt
  have hnl : ∀ i : Nat, i < n.toNatClampNeg → H.size + 1 + i ∉ L := fun i _ h => by
    have := hlt _ h
    omega
  have hnm : ∀ a, a ∈ (List.range n.toNatClampNeg).map (fun i => H.size + 1 + i) → a ∉ L := fun a ha h => by
    obtain ⟨i, -, rfl⟩ := List.mem_map.mp ha
    have := hlt _ h
    omega
  have hP0 : va_P D cl (X ++ va_pl L f) F.heap := hP.kept (fun k9 x hx => hold x.1 ((hP k9 x hx).lt))
  have hP1 : va_P D cl ((X ++ va_pl L f) ++ [(H.size, .inl (cA, n.toNatClampNeg, .inr (.inr (.inr (.inr (fun i => if i < n.toNatClampNeg then some (H.size + 1 + i) else none))))))]) F.heap := hP0.app (fun k9 x hx => by
    have h0 : k9 < 1 := (List.getElem?_eq_some_iff.mp hx).1
    rw [show k9 = 0 by omega] at hx
    cases hx
    exact f2)
  have hP2 : va_P D cl (((X ++ va_pl L f) ++ [(H.size, .inl (cA, n.toNatClampNeg, .inr (.inr (.inr (.inr (fun i => if i < n.toNatClampNeg then some (H.size + 1 + i) else none))))))]) ++ ((List.range n.toNatClampNeg).map (fun i => H.size + 1 + i)).map (fun a => (a, .inl (cy, z)))) F.heap := hP1.app (fun k9 x hx => by
    obtain ⟨a, ha, rfl⟩ := List.mem_map.mp (List.mem_of_getElem? hx)
    obtain ⟨i, hi, rfl⟩ := List.mem_map.mp ha
    exact hrow i (List.mem_range.mp hi))
  have hD2 : va_D A (((X ++ va_pl L f) ++ [(H.size, .inl (cA, n.toNatClampNeg, .inr (.inr (.inr (.inr (fun i => if i < n.toNatClampNeg then some (H.size + 1 + i) else none))))))]) ++ ((List.range n.toNatClampNeg).map (fun i => H.size + 1 + i)).map (fun a => (a, .inl (cy, z)))) := by
    have hD1 := hD.push (e := .inl (cA, n.toNatClampNeg, .inr (.inr (.inr (.inr (fun i => if i < n.toNatClampNeg then some (H.size + 1 + i) else none)))))) hP rfl (hA _ hS.1)
    generalize hW1 : (X ++ va_pl L f) ++ [(H.size, .inl (cA, n.toNatClampNeg, .inr (.inr (.inr (.inr (fun i => if i < n.toNatClampNeg then some (H.size + 1 + i) else none))))))] = W1 at hD1 hP1 ⊢
    have hle : ∀ (k9 : Nat) (x : Nat × va_E), W1[k9]? = some x → x.1 ≤ H.size := fun k9 x hx => by
      rw [← hW1] at hx
      by_cases hl : k9 < (X ++ va_pl L f).length
      · rw [List.getElem?_append_left hl] at hx
        exact Nat.le_of_lt ((hP k9 x hx).lt)
      · rw [List.getElem?_append_right (by omega)] at hx
        have h0 : k9 - (X ++ va_pl L f).length < 1 := (List.getElem?_eq_some_iff.mp hx).1
        rw [show k9 - (X ++ va_pl L f).length = 0 by omega] at hx
        cases hx
        exact Nat.le_refl _
    have hr : ∀ (k9 : Nat) (x : Nat × va_E), (((List.range n.toNatClampNeg).map (fun i => H.size + 1 + i)).map (fun a => ((a, .inl (cy, z)) : Nat × va_E)))[k9]? = some x → x.1 = H.size + 1 + k9 := fun k9 x hx => by
      rw [List.getElem?_map, List.getElem?_map] at hx
      by_cases h9 : k9 < n.toNatClampNeg
      · rw [List.getElem?_range h9] at hx
        cases hx
        rfl
      · have hn0 : (List.range n.toNatClampNeg)[k9]? = none := List.getElem?_eq_none (by rw [List.length_range]; omega)
        rw [hn0] at hx
        cases hx
    refine ⟨fun i j x y hi hj hxy => ?_, fun k9 x hx => ?_⟩
    · by_cases h1 : i < W1.length <;> by_cases h2 : j < W1.length
      · rw [List.getElem?_append_left h1] at hi
        rw [List.getElem?_append_left h2] at hj
        exact hD1.1 i j x y hi hj hxy
      · rw [List.getElem?_append_left h1] at hi
        rw [List.getElem?_append_right (by omega)] at hj
        have := hle _ _ hi
        have := hr _ _ hj
        omega
      · rw [List.getElem?_append_right (by omega)] at hi
        rw [List.getElem?_append_left h2] at hj
        have := hle _ _ hj
        have := hr _ _ hi
        omega
      · rw [List.getElem?_append_right (by omega)] at hi hj
        have := hr _ _ hi
        have := hr _ _ hj
        omega
    · by_cases h1 : k9 < W1.length
      · rw [List.getElem?_append_left h1] at hx
        exact hD1.2 k9 x hx
      · rw [List.getElem?_append_right (by omega)] at hx
        have := hr _ _ hx
        exact hA _ (by have := hS.1; omega)
  have hAr : ArrOfT s cA (.array ty) := fun N9 z9 => by
    obtain ⟨-, k9, hk9, cm9, hkk9⟩ := (hO 0 0 0).1
    exact ⟨(fun q hq => by cases hq), k9, hk9, cm9, hkk9⟩
  have hK2 : va_K D cl (tys ++ [(cA, .array ty)]) s := ⟨hK.1, fun k9 x hx => by
    by_cases hl : k9 < tys.length
    · rw [List.getElem?_append_left hl] at hx
      exact hK.2 k9 x hx
    · rw [List.getElem?_append_right (by omega)] at hx
      have h0 : k9 - tys.length < 1 := (List.getElem?_eq_some_iff.mp hx).1
      rw [show k9 - tys.length = 0 by omega] at hx
      cases hx
      exact ⟨hAr, fA⟩⟩
  obtain ⟨t, a1, b1⟩ := kk H.size (fun i => H.size + 1 + i) cA F.heap (fun i j _ _ h => by have h9 : H.size + 1 + i = H.size + 1 + j := h; omega) hnl hK2 (by rw [← vr_rows hnm]; exact vr_lay hP2) (by rw [← vr_rows hnm]; exact vr_layD hD2) ⟨by rw [f1]; have := hS.1; omega, fun x h1 h2 => (hold x (Nat.lt_of_lt_of_le h1 hS.1)).trans (hS.2.1 x h1 h2), hS.2.2⟩ F rfl X'
  refine ⟨t, step t ?_, b1⟩
  have e : T.heap.size = H.size := by rw [hT]
  rw [e]
  exact a1
end VGM
/-! ===== END ===== -/

/-! ===== BEGIN exceptions that leave a method, and their catching by the caller (launches without stack traces) ===== -/
section VXA
/-! The laws vx_back, vx_callV, vx_callS, vx_callSW, vx_throw0, vx_throwS follow proofs of the library, with one case more: JvmDerived/Free/Laws.lean (Back.of_free), Shelf42/LK1.lean (callV, callS), Shelf/KitTraced.lean (throwNew0V, throwNewS). -/
/-- where a method has thrown q: the class by its name, the cell, what was written, the world -/
def vx_T (XC : String → State → State → Prop) (st : State) (q : Addr) (t : State) (mc ms : Nat) (free : Addr → Prop) : Prop :=
  ∃ (E : String) (ce : Cell) (L : List Loc), XC E st t ∧ t.heap[q]? = some ce ∧ ce.vm = .none ∧ st.vm.findClass E = some ce.cls ∧ st.WarmedH t.vm ∧ st.sameButNew ({ t with vm := st.vm } : State) L mc ms ∧ ∀ z ∈ L, free z.base
def vx_Q (Qc : Array Value → State → Outcome → State → Prop) (XC : String → State → State → Prop) (mc ms : Nat) (free : Addr → Prop) : Array Value → State → Outcome → State → Prop := fun a st o t =>
  (Qc a st o t ∧ ∃ L, FrameEnd st o t L mc ms ∧ ∀ q ∈ L, free q.base) ∨ ∃ q, o = .threw q ∧ vx_T XC st q t mc ms free
/-- a callee that returns or throws -/
def vx_Met (l : Launch) (y : MethodName) (ws : List Cond) (rm : Room) (Pc : Array Value → State → Prop) (Qc : Array Value → State → Outcome → State → Prop) (XC : String → State → State → Prop) (mc ms : Nat) (free : Addr → Prop) : Prop :=
  MetFree l y (headSpec ws rm) Pc (fun _ _ _ _ _ => True) (vx_Q Qc XC mc ms free)
def vx_Post (XC : String → State → State → Prop) (mc ms : Nat) (free : Addr → Prop) : Pt → Array Value → Addr → Pt → Prop := fun A a q B =>
  ∃ (g : JFrame) (mk : MethodId) (t : State) (L : List Loc) (E : String) (ce : Cell), B.U.heap = t.heap ∧ B.U.vm = t.vm ∧ XC E (A.U.calling g mk a) t ∧ t.heap[q]? = some ce ∧ ce.vm = .none ∧ A.U.vm.findClass E = some ce.cls ∧ B.locs = A.locs ++ L ∧ (∀ z ∈ L, free z.base) ∧ B.cells = A.cells + mc ∧ B.slots = A.slots + ms
def vx_Back (l : Launch) (R : Room) (p : Program) (e : Env) (below : List Frame) (s : State) (sargs : Array Value) (y : MethodName) (len W9 : Nat)
    (Pre : Pt → Array Value → Prop) (Post : Pt → Array Value → Option Value → Pt → Prop) (PostX : Pt → Array Value → Addr → Pt → Prop) : Prop :=
  ∀ (m : MethodId) (meth : Method) (c : Code) (A : Pt) (g : JFrame) (ig : Instr) (mk : MethodId) (a : Array Value),
    Stand p l e R s m sargs below meth c A.U A.locs A.cells A.slots → g.method = m → g.locals.size = c.maxLocals → decode c.code g.pc = .ok (ig, len) →
    2 * g.monitorRoom + (g.stack.map fun v => v.category).sum ≤ W9 → A.U.methodNamed? y = some mk → Pre A a →
    (∃ (v : Option Value) (B : Pt), Stand p l e R s m sargs below meth c B.U B.locs B.cells B.slots ∧ Post A a v B ∧
      Steps p.tables e below (doInvoke e (A.U.setTop g) [] mk a).1 (B.U.setTop { g with pc := g.pc + len, stack := v.toList ++ g.stack })) ∨
    (∃ (q : Addr) (B : Pt), Stand p l e R s m sargs below meth c B.U B.locs B.cells B.slots ∧ PostX A a q B ∧
      Steps p.tables e below (doInvoke e (A.U.setTop g) [] mk a).1 ((B.U.setTop g).pushFrame (.throwing q)))
section Payer
variable {l : Launch} {R : Room} {p : Program} {e : Env} {below : List Frame} {s : State} {sargs : Array Value} {y : MethodName} {len W9 : Nat}
theorem vx_back {ws : List Cond} {rm : Room} {Pc : Array Value → State → Prop} {Qc : Array Value → State → Outcome → State → Prop} {XC : String → State → State → Prop} {mc ms : Nat} {free : Addr → Prop} {bytes : ByteArray} {maxL : Nat} {ret : Option FieldType}
    (hM : vx_Met l y ws rm Pc Qc XC mc ms free) (hblind : FrameBlind Pc) (hrc : rm.cells = mc) (hrs : rm.slots = ms)
    (hframes : rm.frames + 1 ≤ R.frames) (hlocals : W9 + (maxL + 11) + rm.locals ≤ R.locals)
    (hws : ∀ w ∈ ws, ∀ a' U, s.WarmedH U.vm → w.before a' U = true) (hcode : Cond.code y bytes maxL ret ∈ ws) (hinit : ∀ a' U, s.WarmedH U.vm → (Cond.initialized y.cls).before a' U = true) :
    vx_Back l R p e below s sargs y len W9 (PreOf R mc ms Pc) (PostOf Qc mc ms free) (vx_Post XC mc ms free) := by
  intro m meth c A g ig mk a X hg hsize hdg hW hn hp
  have h1 : (headSpec ws rm).pre.before a A.U = true := atoms_intro fun w hw => hws w hw _ _ X.warmed
  have h2 : (Cond.code y bytes maxL ret).before a A.U = true := hws _ hcode _ _ X.warmed
  have h3 : (Cond.initialized y.cls).before a A.U = true := hinit _ _ X.warmed
  have h4 : A.cells + (headSpec ws rm).room.cells ≤ R.cells := by rw [show (headSpec ws rm).room.cells = mc from hrc]; exact hp.1
  have h5 : A.slots + (headSpec ws rm).room.slots ≤ R.slots := by rw [show (headSpec ws rm).room.slots = ms from hrs]; exact hp.2.1
  have hPc : Pc a (A.U.calling g mk a) := hblind _ _ _ _ hp.2.2
  obtain ⟨U, Ls, c0, s0⟩ := A
  dsimp only [Pt.U, Pt.locs, Pt.cells, Pt.slots] at h1 h2 h3 h4 h5 X hn hPc ⊢
  obtain ⟨methY, cY, hmY, hcY, -, hlY, -, -, -, -⟩ := Cond.code_spec hn h2
  obtain ⟨kY, hkY, -⟩ := className_of_methodNamed hn
  have hinitY : kY.init = .initialized := Cond.initialized_spec (findClass_of_methodNamed hn) hkY h3
  have h : At U g.method c below := by rw [hg]; exact X.here
  have hlocals9 : W9 + (maxL + 11) + (headSpec ws rm).room.locals ≤ R.locals := hlocals
  have happ : (headSpec ws rm).appliesLoose y e.platform (U.calling g mk a) = true :=
    Spec.appliesLoose_calling (g := g) h hdg hn hkY hinitY
      (X.room_calling (g := g) (R' := (headSpec ws rm).room) hsize hmY hcY hframes (by rw [hlY]; omega) h4 h5) h1
  obtain ⟨mid, hmid⟩ := h.above
  have hfr : (U.setTop g).frames = (.java g :: mid) ++ below := by rw [State.frames_setTop' g h.top, hmid]; rfl
  obtain ⟨o, s₂, hsteps, -, hend, hq⟩ := Steps.callFree hM p X.admits X.cas X.clock (acts := []) hfr happ hPc trivial
  have hq' : vx_Q Qc XC mc ms free a (U.calling g mk a) o s₂ := hq
  rw [State.frames_setTop' g h.top] at hend
  obtain ⟨g₀, hg0⟩ := Option.isSome_iff_exists.mp h.top
  obtain ⟨r, hr⟩ := State.topJava?_eq_some.mp hg0
  have hr' : (({ U with heap := s₂.heap, slotsUsed := s₂.slotsUsed } : State).setVm s₂.vm).frames = .java g₀ :: r := hr
  rcases hq' with ⟨hqc, L, hfe, hL⟩ | ⟨q, rfl, E, ce, L, hx, hce, hcv, hcl, hW₂, hsm, hL⟩
  · obtain ⟨⟨v, rfl⟩, hW₂, e2, q2, q3, q4, q5, q6⟩ := id hfe
    have e3 : s₂ = ({ (U.calling g mk a).setFrames s₂.frames with heap := s₂.heap, slotsUsed := s₂.slotsUsed } : State).setVm s₂.vm := by
      have : s₂ = ({ s₂ with vm := (U.calling g mk a).vm } : State).setVm s₂.vm := rfl
      rw [e2] at this
      exact this
    obtain ⟨c₂, i₂, len₂, hc₂, hd₂, hf₂⟩ := hend
    have hW' : U.WarmedH s₂.vm := hW₂
    have hcc : c₂ = c := by
      have h1 : s₂.code? g.method = U.code? g.method := by
        rw [State.code?_eq, State.code?_eq, hW'.alike.method?]
      exact Option.some.inj (hc₂.symm.trans (h1.trans h.code))
    subst hcc
    have hlen : len₂ = len := by rw [hdg] at hd₂; cases hd₂; rfl
    subst hlen
    have hs₂ : s₂ = (({ U with heap := s₂.heap, slotsUsed := s₂.slotsUsed } : State).setVm s₂.vm).setTop { g with pc := g.pc + len₂, stack := v.toList ++ g.stack } := by
      refine e3.trans ?_
      rw [hf₂, State.calling_eq h.top, State.setFrames_setFrames, State.setTop_of_frames _ hr', hr]
      rfl
    have hsame : U.sameButNew ({ U with heap := s₂.heap, slotsUsed := s₂.slotsUsed } : State) L mc ms := by
      refine ⟨?_, q2, q3, q4, q5, q6⟩
      obtain ⟨t, ht, -⟩ := State.frames_cons hr
      show ({ U with heap := s₂.heap, slotsUsed := s₂.slotsUsed } : State) = { U.setFrames U.frames with heap := s₂.heap, slotsUsed := s₂.slotsUsed }
      rw [State.setFrames_self ht]
    subst hg
    refine Or.inl ⟨v, ⟨(({ U with heap := s₂.heap, slotsUsed := s₂.slotsUsed } : State).setVm s₂.vm), Ls ++ L, c0 + mc, s0 + ms⟩,
      ⟨X.admits, X.cas, X.clock, X.frames, X.room, X.hears, X.method, X.code, (X.here.setHeapUsed s₂.heap s₂.slotsUsed).setVm hW'.alike, X.tail, State.WarmedH.trans X.warmed hW', X.limits, X.bytes, X.same.trans (hsame.setVm s.vm)⟩,
      ⟨g, mk, s₂, L, rfl, rfl, hqc, rfl, hL, rfl, rfl⟩, ?_⟩
    show Steps p.tables e below _ ((({ U with heap := s₂.heap, slotsUsed := s₂.slotsUsed } : State).setVm s₂.vm).setTop { g with pc := g.pc + len₂, stack := v.toList ++ g.stack })
    rw [← hs₂]
    exact hsteps
  · obtain ⟨e2, q2, q3, q4, q5, q6⟩ := id hsm
    have e3 : s₂ = ({ (U.calling g mk a).setFrames s₂.frames with heap := s₂.heap, slotsUsed := s₂.slotsUsed } : State).setVm s₂.vm := by
      have : s₂ = ({ s₂ with vm := (U.calling g mk a).vm } : State).setVm s₂.vm := rfl
      rw [e2] at this
      exact this
    have hf₂ : s₂.frames = .throwing q :: .java g :: U.frames.tail := hend
    have hW' : U.WarmedH s₂.vm := hW₂
    have hs₂ : s₂ = ((({ U with heap := s₂.heap, slotsUsed := s₂.slotsUsed } : State).setVm s₂.vm).setTop g).pushFrame (.throwing q) := by
      refine e3.trans ?_
      rw [hf₂, State.calling_eq h.top, State.setFrames_setFrames, State.pushFrame, State.frames_setTop _ hr', State.setTop_of_frames _ hr', State.setFrames_setFrames, hr]
      rfl
    have hsame : U.sameButNew ({ U with heap := s₂.heap, slotsUsed := s₂.slotsUsed } : State) L mc ms := by
      refine ⟨?_, q2, q3, q4, q5, q6⟩
      obtain ⟨t, ht, -⟩ := State.frames_cons hr
      show ({ U with heap := s₂.heap, slotsUsed := s₂.slotsUsed } : State) = { U.setFrames U.frames with heap := s₂.heap, slotsUsed := s₂.slotsUsed }
      rw [State.setFrames_self ht]
    subst hg
    refine Or.inr ⟨q, ⟨(({ U with heap := s₂.heap, slotsUsed := s₂.slotsUsed } : State).setVm s₂.vm), Ls ++ L, c0 + mc, s0 + ms⟩,
      ⟨X.admits, X.cas, X.clock, X.frames, X.room, X.hears, X.method, X.code, (X.here.setHeapUsed s₂.heap s₂.slotsUsed).setVm hW'.alike, X.tail, State.WarmedH.trans X.warmed hW', X.limits, X.bytes, X.same.trans (hsame.setVm s.vm)⟩,
      ⟨g, mk, s₂, L, E, ce, rfl, rfl, hx, hce, hcv, hcl, rfl, hL, rfl, rfl⟩, ?_⟩
    show Steps p.tables e below _ (((({ U with heap := s₂.heap, slotsUsed := s₂.slotsUsed } : State).setVm s₂.vm).setTop g).pushFrame (.throwing q))
    rw [← hs₂]
    exact hsteps
end Payer
section Calls
variable {p : Program} {l : Launch} {e : Env} {R : Room} {s : State} {m : MethodId} {args : Array Value} {below : List Frame} {meth : Method} {c : Code} {T : State} {locs : List Loc} {cells slots : Nat}
theorem vx_callV (X : Stand p l e R s m args below meth c T locs cells slots) (hexec : p.tables.exec = Jvm.exec) {own C : String} {index : Nat} {y : MethodName} {bytes : ByteArray} {maxL : Nat} {ret : Option FieldType}
    (hown : s.vm.findClass own = some m.cls) (hlink : (Cond.methodLink own index y).before args s = true) (hinst : (Cond.instanceMethod y).before args s = true) (hsel : (Cond.selects C y y).before args s = true)
    (hcode : (Cond.code y bytes maxL ret).before args s = true) (hy : y.cls ≠ "java/lang/invoke/MethodHandle" ∧ y.cls ≠ "java/lang/invoke/VarHandle")
    {W9 : Nat} {Pre : Pt → Array Value → Prop} {Post : Pt → Array Value → Option Value → Pt → Prop} {PostX : Pt → Array Value → Addr → Pt → Prop} (hK : vx_Back l R p e below s args y 3 W9 Pre Post PostX)
    {b : Addr} {cellB : Cell} (hcell : T.heap[b]? = some cellB) (hobj : cellB.vm.isStatics = false) (hcls : s.vm.findClass C = some cellB.cls)
    {g : JFrame} (hg : g.method = m) (hsize : g.locals.size = c.maxLocals) {argsL rest : List Value} (hlen : ∀ sig, parseMethodDescriptor y.desc = some sig → argsL.length = sig.parameters.length)
    (hstack : g.stack = argsL.reverse ++ .ref b :: rest) (hW : 2 * g.monitorRoom + (rest.map fun v => v.category).sum ≤ W9) (hdg : decode c.code g.pc = .ok (.invokevirtual index, 3))
    (hpre : ∀ vm₁, s.WarmedH vm₁ → Pre ⟨T.setVm vm₁, locs, cells, slots⟩ (Value.ref b :: argsL).toArray) :
    (∃ (v : Option Value) (vm₁ : Vm) (B : Pt), s.WarmedH vm₁ ∧ Stand p l e R s m args below meth c B.U B.locs B.cells B.slots ∧ Post ⟨T.setVm vm₁, locs, cells, slots⟩ (Value.ref b :: argsL).toArray v B ∧
      ∀ target, Steps p.tables e below (B.U.setTop { g with pc := g.pc + 3, stack := v.toList ++ rest }) target → Steps p.tables e below (T.setTop g) target) ∨
    (∃ (q : Addr) (vm₁ : Vm) (B : Pt), s.WarmedH vm₁ ∧ Stand p l e R s m args below meth c B.U B.locs B.cells B.slots ∧ PostX ⟨T.setVm vm₁, locs, cells, slots⟩ (Value.ref b :: argsL).toArray q B ∧
      Steps p.tables e below (T.setTop g) ((B.U.setTop { g with stack := rest }).pushFrame (.throwing q))) := by
  obtain ⟨mk, methM, hnamed, hmethM, hstM, habM⟩ := Cond.instanceMethod_spec hinst
  obtain ⟨methM', cM, hmethM', -, -, -, -, -, -, hsigM⟩ := Cond.code_spec hnamed hcode
  cases hmethM.symm.trans hmethM'
  obtain ⟨c2, r2, m2, q1, q2, q3, q4, kP, hkP, hkPi⟩ := Cond.selects_spec hsel
  cases hcls.symm.trans q1
  cases (State.methodFound?_of_named hnamed hy).symm.trans q2
  cases hnamed.symm.trans q3
  have hselP : selectMethod e.platform s.vm cellB.cls mk = .method mk := by rw [Launch.admits_selectMethod X.admits]; exact q4
  obtain ⟨vm₁, X₁, hstep₁⟩ := X.invokevirtual hexec hown hlink hnamed hmethM hstM hkP hkPi hy (a := b) (cell := cellB) hcell
    (fun z h => by rw [h] at hobj; cases hobj) hselP hmethM habM hkP hkPi (g := g) hg (argsL := argsL) (rest := rest) (hlen _ hsigM) hstack hdg
  rcases hK m meth c ⟨T.setVm vm₁, locs, cells, slots⟩ { g with stack := rest } (.invokevirtual index) mk (Value.ref b :: argsL).toArray X₁ hg hsize hdg hW (X₁.named hnamed) (hpre vm₁ X₁.warmed) with ⟨v, B, X', hpost, hsteps⟩ | ⟨q, B, X', hpost, hsteps⟩
  · exact Or.inl ⟨v, vm₁, B, X₁.warmed, X', hpost, fun target h => hstep₁ _ fun acts => by rw [doInvoke_state]; exact hsteps.trans h⟩
  · exact Or.inr ⟨q, vm₁, B, X₁.warmed, X', hpost, hstep₁ _ fun acts => by rw [doInvoke_state]; exact hsteps⟩
theorem vx_callS (X : Stand p l e R s m args below meth c T locs cells slots) (hexec : p.tables.exec = Jvm.exec) {own : String} {index : Nat} {y : MethodName} {bytes : ByteArray} {maxL : Nat} {ret : Option FieldType}
    (hown : s.vm.findClass own = some m.cls) (hlink : (Cond.methodLink own index y).before args s = true) (hstat : (Cond.static y).before args s = true) (hinit : (Cond.initialized y.cls).before args s = true)
    (hcode : (Cond.code y bytes maxL ret).before args s = true) (hy : y.cls ≠ "java/lang/invoke/MethodHandle" ∧ y.cls ≠ "java/lang/invoke/VarHandle")
    {W9 : Nat} {Pre : Pt → Array Value → Prop} {Post : Pt → Array Value → Option Value → Pt → Prop} {PostX : Pt → Array Value → Addr → Pt → Prop} (hK : vx_Back l R p e below s args y 3 W9 Pre Post PostX)
    {g : JFrame} (hg : g.method = m) (hsize : g.locals.size = c.maxLocals) {argsL rest : List Value} (hlen : ∀ sig, parseMethodDescriptor y.desc = some sig → argsL.length = sig.parameters.length)
    (hstack : g.stack = argsL.reverse ++ rest) (hW : 2 * g.monitorRoom + (rest.map fun v => v.category).sum ≤ W9) (hdg : decode c.code g.pc = .ok (.invokestatic index, 3))
    (hpre : ∀ vm₁, s.WarmedH vm₁ → Pre ⟨T.setVm vm₁, locs, cells, slots⟩ argsL.toArray) :
    (∃ (v : Option Value) (vm₁ : Vm) (B : Pt), s.WarmedH vm₁ ∧ Stand p l e R s m args below meth c B.U B.locs B.cells B.slots ∧ Post ⟨T.setVm vm₁, locs, cells, slots⟩ argsL.toArray v B ∧
      ∀ target, Steps p.tables e below (B.U.setTop { g with pc := g.pc + 3, stack := v.toList ++ rest }) target → Steps p.tables e below (T.setTop g) target) ∨
    (∃ (q : Addr) (vm₁ : Vm) (B : Pt), s.WarmedH vm₁ ∧ Stand p l e R s m args below meth c B.U B.locs B.cells B.slots ∧ PostX ⟨T.setVm vm₁, locs, cells, slots⟩ argsL.toArray q B ∧
      Steps p.tables e below (T.setTop g) ((B.U.setTop { g with stack := rest }).pushFrame (.throwing q))) := by
  obtain ⟨mk, hnamed⟩ := Cond.code_named hcode
  obtain ⟨methM, cM, hmethM, -, -, -, -, -, -, hsigM⟩ := Cond.code_spec hnamed hcode
  have hstatic : methM.isStatic = true := Cond.static_spec hnamed hmethM hstat
  obtain ⟨kP, hkP, -⟩ := className_of_methodNamed hnamed
  have hinitP : kP.init = .initialized := Cond.initialized_spec (findClass_of_methodNamed hnamed) hkP hinit
  obtain ⟨vm₁, X₁, hstep₁⟩ := X.invokestatic hexec hown hlink hnamed hmethM hstatic hkP hinitP hy (g := g) hg (argsL := argsL) (rest := rest) (hlen _ hsigM) hstack hdg
  rcases hK m meth c ⟨T.setVm vm₁, locs, cells, slots⟩ { g with stack := rest } (.invokestatic index) mk argsL.toArray X₁ hg hsize hdg hW (X₁.named hnamed) (hpre vm₁ X₁.warmed) with ⟨v, B, X', hpost, hsteps⟩ | ⟨q, B, X', hpost, hsteps⟩
  · exact Or.inl ⟨v, vm₁, B, X₁.warmed, X', hpost, fun target h => hstep₁ _ fun acts => by rw [doInvoke_state]; exact hsteps.trans h⟩
  · exact Or.inr ⟨q, vm₁, B, X₁.warmed, X', hpost, hstep₁ _ fun acts => by rw [doInvoke_state]; exact hsteps⟩
end Calls
theorem vx_cls {s : State} {T : State} {vm₁ : Vm} {E : String} {k : ClassId} (hW : s.WarmedH vm₁) (h : (T.setVm vm₁).vm.findClass E = some k) : s.vm.findClass E = some k := by
  have h1 : vm₁.findClass E = some k := h
  rw [hW.alike.findClass] at h1
  exact h1
/-- the method's frame g, with q thrown over it -/
def vx_W (p : Program) (l : Launch) (e : Env) (R : Room) (s : State) (m : MethodId) (args : Array Value) (below : List Frame) (meth : Method) (c : Code) (H : Heap) (locs : List Loc) (cells slots : Nat) (Q : State → Prop) (g : JFrame) (q : Addr) : Prop :=
  ∀ T : State, T.heap = H → Stand p l e R s m args below meth c T locs cells slots → ∃ t, Steps p.tables e below ((T.setTop g).pushFrame (.throwing q)) t ∧ Q t
def vx_Run (p : Program) (l : Launch) (e : Env) (R : Room) (s : State) (m : MethodId) (args : Array Value) (below : List Frame) (meth : Method) (c : Code) (H : Heap) (locs : List Loc) (cells slots mc ms : Nat) (g : JFrame) (rest : List Value) (Qa : State → Outcome → State → Prop) (XC : String → State → State → Prop) (free : Addr → Prop) : Prop :=
  ∀ T : State, T.heap = H → Stand p l e R s m args below meth c T locs cells slots →
    (∃ (v : Option Value) (st₀ t T' : State) (L : List Loc), st₀.heap = H ∧ Stand p l e R s m args below meth c T' (locs ++ L) (cells + mc) (slots + ms) ∧ (∀ q ∈ L, free q.base) ∧ T'.heap = t.heap ∧ T'.vm = t.vm ∧ Qa st₀ (.returned v) t ∧
      Goes p e below T g T' { g with pc := g.pc + 3, stack := v.toList ++ rest }) ∨
    (∃ (q : Addr) (st₀ t T' : State) (L : List Loc) (E : String) (ce : Cell), st₀.heap = H ∧ Stand p l e R s m args below meth c T' (locs ++ L) (cells + mc) (slots + ms) ∧ (∀ z ∈ L, free z.base) ∧ T'.heap = t.heap ∧ T'.vm = t.vm ∧ XC E st₀ t ∧ t.heap[q]? = some ce ∧ ce.vm = .none ∧ s.vm.findClass E = some ce.cls ∧
      Steps p.tables e below (T.setTop g) ((T'.setTop { g with stack := rest }).pushFrame (.throwing q)))
def vx_X {S : Type} (px : S → Prop) (B : String → S → State → Prop) (A : Nat → Prop) : String → State → State → Prop := fun E st t => ∃ u : S, px u ∧ B E u t ∧ va_F A st t
section Runs
variable {p : Program} {l : Launch} {e : Env} {R : Room} {s : State} {m : MethodId} {args : Array Value} {below : List Frame} {meth : Method} {c : Code} {H : Heap} {locs : List Loc} {cells slots : Nat}
variable {y : MethodName} {bytes cc : ByteArray} {maxL nL mc ms n index : Nat} {ret : Option FieldType} {ws : List Cond} {rm : Room} {Pc : Array Value → State → Prop} {Qc : Array Value → State → Outcome → State → Prop} {XC : String → State → State → Prop} {free : Addr → Prop} {Ts : List Cond} {own C : String} {b : Addr} {As rest : List Value} {g : JFrame}
theorem vx_callBack (cb : CallB R s args own index y bytes maxL ret ws rm mc ms n) (hM : vx_Met l y ws rm Pc Qc XC mc ms free) (hbl : FrameBlind Pc) : vx_Back l R p e below s args y 3 8 (PreOf R mc ms Pc) (PostOf Qc mc ms free) (vx_Post XC mc ms free) := by
  obtain ⟨hrc, hrs, hfr, hlo, hws, hcw, -, hini, -⟩ := cb
  exact vx_back (bytes := bytes) (maxL := maxL) (ret := ret) hM hbl hrc hrs hfr hlo hws hcw (fun a' U hW => word_at hW (Or.inl (by first | rfl | simp [Cond.onTables, Cond.keeps, Cond.steady])) hini)
theorem vx_runV (S : CallFix p m c cc nL s args Ts own) (hM : vx_Met l y ws rm Pc Qc XC mc ms free) (cw : CallW R s args own C index y bytes maxL ret ws rm mc ms n) (hp : PreV s H C b Pc As)
    (hg : g.method = m) (hn : As.length = n) (hsize : g.locals.size = nL) (hstack : g.stack = As.reverse ++ .ref b :: rest) (hW : 2 * g.monitorRoom + (rest.map fun v => v.category).sum ≤ 8) (hdg : decode cc g.pc = .ok (.invokevirtual index, 3)) (hf : cells + mc ≤ R.cells ∧ slots + ms ≤ R.slots) :
    vx_Run p l e R s m args below meth c H locs cells slots mc ms g rest (Qc (Value.ref b :: As).toArray) XC free := by
  have hK : vx_Back l R p e below s args y 3 8 (PreOf R mc ms Pc) (PostOf Qc mc ms free) (vx_Post XC mc ms free) := vx_callBack cw.1 hM hp.1
  obtain ⟨⟨-, -, -, -, -, -, hcode, -, hy, hlen, hl⟩, hin, hse⟩ := cw
  obtain ⟨hx, hb, hml, ho, -⟩ := S
  obtain ⟨-, ⟨cellB, hcB, hoB, hclB⟩, hPc⟩ := hp
  intro T hT X
  rcases vx_callV X hx (C := C) (bytes := bytes) (maxL := maxL) (ret := ret) ho hl hin hse hcode hy hK (by rw [hT]; exact hcB) hoB hclB hg (hsize.trans hml.symm) (argsL := As) (rest := rest) (fun sig h => hn.trans (hlen sig h)) hstack hW (by rw [hb]; exact hdg)
    (fun vm₁ hW₁ => ⟨hf.1, hf.2, hPc (T.setVm vm₁) hT hW₁⟩) with ⟨v, vm₁, ⟨U', l2, c2, s2⟩, hW₁, X', ⟨g', mk, t, L, e1, e2, hq, h1, hL, h2, h3⟩, st⟩ | ⟨q, vm₁, ⟨U', l2, c2, s2⟩, hW₁, X', ⟨g', mk, t, L, E, ce, e1, e2, hq, hce, hcv, hcl, h1, hL, h2, h3⟩, st⟩
  · dsimp only [Pt.U, Pt.locs, Pt.cells, Pt.slots] at X' e1 e2 h1 h2 h3 st
    subst h1; subst h2; subst h3
    exact Or.inl ⟨v, (T.setVm vm₁).calling g' mk (Value.ref b :: As).toArray, t, U', L, hT, X', hL, e1, e2, hq, st⟩
  · dsimp only [Pt.U, Pt.locs, Pt.cells, Pt.slots] at X' e1 e2 h1 h2 h3 st hcl
    subst h1; subst h2; subst h3
    exact Or.inr ⟨q, (T.setVm vm₁).calling g' mk (Value.ref b :: As).toArray, t, U', L, E, ce, hT, X', hL, e1, e2, hq, hce, hcv, vx_cls hW₁ hcl, st⟩
theorem vx_runS (S : CallFix p m c cc nL s args Ts own) (hM : vx_Met l y ws rm Pc Qc XC mc ms free) (cw : CallB R s args own index y bytes maxL ret ws rm mc ms n ∧ (Cond.static y).before args s = true) (hp : PreS s H Pc As)
    (hg : g.method = m) (hn : As.length = n) (hsize : g.locals.size = nL) (hstack : g.stack = As.reverse ++ rest) (hW : 2 * g.monitorRoom + (rest.map fun v => v.category).sum ≤ 8) (hdg : decode cc g.pc = .ok (.invokestatic index, 3)) (hf : cells + mc ≤ R.cells ∧ slots + ms ≤ R.slots) :
    vx_Run p l e R s m args below meth c H locs cells slots mc ms g rest (Qc As.toArray) XC free := by
  have hK : vx_Back l R p e below s args y 3 8 (PreOf R mc ms Pc) (PostOf Qc mc ms free) (vx_Post XC mc ms free) := vx_callBack cw.1 hM hp.1
  obtain ⟨⟨-, -, -, -, -, -, hcode, hini, hy, hlen, hl⟩, hstt⟩ := cw
  obtain ⟨hx, hb, hml, ho, -⟩ := S
  intro T hT X
  rcases vx_callS X hx (bytes := bytes) (maxL := maxL) (ret := ret) ho hl hstt hini hcode hy hK hg (hsize.trans hml.symm) (argsL := As) (rest := rest) (fun sig h => hn.trans (hlen sig h)) hstack hW (by rw [hb]; exact hdg)
    (fun vm₁ hW₁ => ⟨hf.1, hf.2, hp.2 (T.setVm vm₁) hT hW₁⟩) with ⟨v, vm₁, ⟨U', l2, c2, s2⟩, hW₁, X', ⟨g', mk, t, L, e1, e2, hq, h1, hL, h2, h3⟩, st⟩ | ⟨q, vm₁, ⟨U', l2, c2, s2⟩, hW₁, X', ⟨g', mk, t, L, E, ce, e1, e2, hq, hce, hcv, hcl, h1, hL, h2, h3⟩, st⟩
  · dsimp only [Pt.U, Pt.locs, Pt.cells, Pt.slots] at X' e1 e2 h1 h2 h3 st
    subst h1; subst h2; subst h3
    exact Or.inl ⟨v, (T.setVm vm₁).calling g' mk As.toArray, t, U', L, hT, X', hL, e1, e2, hq, st⟩
  · dsimp only [Pt.U, Pt.locs, Pt.cells, Pt.slots] at X' e1 e2 h1 h2 h3 st hcl
    subst h1; subst h2; subst h3
    exact Or.inr ⟨q, (T.setVm vm₁).calling g' mk As.toArray, t, U', L, E, ce, hT, X', hL, e1, e2, hq, hce, hcv, vx_cls hW₁ hcl, st⟩
end Runs
section Rows
variable {p : Program} {l : Launch} {e : Env} {R : Room} {s : State} {m : MethodId} {args : Array Value} {below : List Frame} {meth : Method} {c : Code} {H : Heap} {locs : List Loc} {cells slots : Nat} {Q : State → Prop}
variable {mc ms : Nat} {free : Addr → Prop} {A0 A1 : Nat → Prop} {H0 : Heap} {a : Array Value} {pc : Nat} {ls : Array Slot} {st0 rest : List Value}
theorem vx_keep {st₀ t T' : State} {L : List Loc} (h0 : st₀.heap = H) (e1 : T'.heap = t.heap) (hS : va_S A0 H0 H locs) (hA : ∀ q, q < H.size → A1 q → A0 q) (hf : ∀ q, free q → A0 q) (hL : ∀ q ∈ L, free q.base) (hF : va_F A1 st₀ t) :
    H.size ≤ T'.heap.size ∧ (∀ q : Nat, q < H.size → ¬ A1 q → T'.heap[q]? = H[q]?) ∧ va_S A0 H0 T'.heap (locs ++ L) := by
  obtain ⟨hz, hk⟩ := hF
  rw [h0] at hz hk
  exact ⟨by rw [e1]; exact hz, fun q h1 h2 => by rw [e1]; exact hk q h1 h2,
    ⟨Nat.le_trans hS.1 (by rw [e1]; exact hz), fun q h1 h2 => by rw [e1, hk q (Nat.lt_of_lt_of_le h1 hS.1) (fun z => h2 (hA q (Nat.lt_of_lt_of_le h1 hS.1) z))]; exact hS.2.1 q h1 h2, fun q hq => by
      rcases List.mem_append.mp hq with h | h
      · exact hS.2.2 q h
      · exact hf _ (hL q h)⟩⟩
theorem vx_calli {S SX : Type} {post : Int32 → S → Prop} {px : SX → Prop} {B : S → State → Prop} {BX : String → SX → State → Prop} {AX : Nat → Prop} (hr : vx_Run p l e R s m args below meth c H locs cells slots mc ms (F0 m pc ls st0) rest (va_Qi post B A1 a) (vx_X px BX AX) free) (hS : va_S A0 H0 H locs) (hA : ∀ q, q < H.size → A1 q → A0 q) (hf : ∀ q, free q → A0 q) (hAX : ∀ q, q < H.size → AX q → A0 q)
    (kx : ∀ (E : String) (ce : Cell) (q9 : Addr) (u : SX) (t : State) (H1 : Heap) (locs1 : List Loc), t.heap = H1 → s.vm.Alike t.vm → px u → BX E u t → H.size ≤ H1.size → (∀ q : Nat, q < H.size → ¬ AX q → H1[q]? = H[q]?) → va_S A0 H0 H1 locs1 → H1[q9]? = some ce → ce.vm = .none → s.vm.findClass E = some ce.cls → vx_W p l e R s m args below meth c H1 locs1 (cells + mc) (slots + ms) Q (F0 m pc ls rest) q9)
    (kk : ∀ (r : Int32) (u : S) (t : State) (H1 : Heap) (locs1 : List Loc), t.heap = H1 → s.vm.Alike t.vm → post r u → B u t → H.size ≤ H1.size → (∀ q : Nat, q < H.size → ¬ A1 q → H1[q]? = H[q]?) → va_S A0 H0 H1 locs1 → W p l e R s m args below meth c H1 locs1 (cells + mc) (slots + ms) Q (F0 m (pc + 3) ls (.int r :: rest))) : W p l e R s m args below meth c H locs cells slots Q (F0 m pc ls st0) := by
  intro T hT X
  rcases hr T hT X with ⟨v, st₀, t, T', L, h0, X', hL, e1, e2, ⟨⟨r, u, hv, hp, hb⟩, hF⟩, st⟩ | ⟨q, st₀, t, T', L, E, ce, h0, X', hL, e1, e2, ⟨u, hp, hb, hF⟩, hce, hcv, hcl, st⟩
  · cases hv
    obtain ⟨k1, k2, k3⟩ := vx_keep h0 e1 hS hA hf hL hF
    obtain ⟨t2, a1, b1⟩ := kk r u t T'.heap (locs ++ L) e1.symm (by rw [← e2]; exact X'.warmed.alike) hp hb k1 k2 k3 T' rfl X'
    exact ⟨t2, st t2 a1, b1⟩
  · obtain ⟨k1, k2, k3⟩ := vx_keep h0 e1 hS hAX hf hL hF
    obtain ⟨t2, a1, b1⟩ := kx E ce q u t T'.heap (locs ++ L) e1.symm (by rw [← e2]; exact X'.warmed.alike) hp hb k1 k2 k3 (by rw [e1]; exact hce) hcv hcl T' rfl X'
    exact ⟨t2, st.trans a1, b1⟩
theorem vx_calll {S SX : Type} {post : Int64 → S → Prop} {px : SX → Prop} {B : S → State → Prop} {BX : String → SX → State → Prop} {AX : Nat → Prop} (hr : vx_Run p l e R s m args below meth c H locs cells slots mc ms (F0 m pc ls st0) rest (va_Ql post B A1 a) (vx_X px BX AX) free) (hS : va_S A0 H0 H locs) (hA : ∀ q, q < H.size → A1 q → A0 q) (hf : ∀ q, free q → A0 q) (hAX : ∀ q, q < H.size → AX q → A0 q)
    (kx : ∀ (E : String) (ce : Cell) (q9 : Addr) (u : SX) (t : State) (H1 : Heap) (locs1 : List Loc), t.heap = H1 → s.vm.Alike t.vm → px u → BX E u t → H.size ≤ H1.size → (∀ q : Nat, q < H.size → ¬ AX q → H1[q]? = H[q]?) → va_S A0 H0 H1 locs1 → H1[q9]? = some ce → ce.vm = .none → s.vm.findClass E = some ce.cls → vx_W p l e R s m args below meth c H1 locs1 (cells + mc) (slots + ms) Q (F0 m pc ls rest) q9)
    (kk : ∀ (r : Int64) (u : S) (t : State) (H1 : Heap) (locs1 : List Loc), t.heap = H1 → s.vm.Alike t.vm → post r u → B u t → H.size ≤ H1.size → (∀ q : Nat, q < H.size → ¬ A1 q → H1[q]? = H[q]?) → va_S A0 H0 H1 locs1 → W p l e R s m args below meth c H1 locs1 (cells + mc) (slots + ms) Q (F0 m (pc + 3) ls (.long r :: rest))) : W p l e R s m args below meth c H locs cells slots Q (F0 m pc ls st0) := by
  intro T hT X
  rcases hr T hT X with ⟨v, st₀, t, T', L, h0, X', hL, e1, e2, ⟨⟨r, u, hv, hp, hb⟩, hF⟩, st⟩ | ⟨q, st₀, t, T', L, E, ce, h0, X', hL, e1, e2, ⟨u, hp, hb, hF⟩, hce, hcv, hcl, st⟩
  · cases hv
    obtain ⟨k1, k2, k3⟩ := vx_keep h0 e1 hS hA hf hL hF
    obtain ⟨t2, a1, b1⟩ := kk r u t T'.heap (locs ++ L) e1.symm (by rw [← e2]; exact X'.warmed.alike) hp hb k1 k2 k3 T' rfl X'
    exact ⟨t2, st t2 a1, b1⟩
  · obtain ⟨k1, k2, k3⟩ := vx_keep h0 e1 hS hAX hf hL hF
    obtain ⟨t2, a1, b1⟩ := kx E ce q u t T'.heap (locs ++ L) e1.symm (by rw [← e2]; exact X'.warmed.alike) hp hb k1 k2 k3 (by rw [e1]; exact hce) hcv hcl T' rfl X'
    exact ⟨t2, st.trans a1, b1⟩
theorem vx_callf {S SX : Type} {post : UInt32 → S → Prop} {px : SX → Prop} {B : S → State → Prop} {BX : String → SX → State → Prop} {AX : Nat → Prop} (hr : vx_Run p l e R s m args below meth c H locs cells slots mc ms (F0 m pc ls st0) rest (va_Qf post B A1 a) (vx_X px BX AX) free) (hS : va_S A0 H0 H locs) (hA : ∀ q, q < H.size → A1 q → A0 q) (hf : ∀ q, free q → A0 q) (hAX : ∀ q, q < H.size → AX q → A0 q)
    (kx : ∀ (E : String) (ce : Cell) (q9 : Addr) (u : SX) (t : State) (H1 : Heap) (locs1 : List Loc), t.heap = H1 → s.vm.Alike t.vm → px u → BX E u t → H.size ≤ H1.size → (∀ q : Nat, q < H.size → ¬ AX q → H1[q]? = H[q]?) → va_S A0 H0 H1 locs1 → H1[q9]? = some ce → ce.vm = .none → s.vm.findClass E = some ce.cls → vx_W p l e R s m args below meth c H1 locs1 (cells + mc) (slots + ms) Q (F0 m pc ls rest) q9)
    (kk : ∀ (r : UInt32) (u : S) (t : State) (H1 : Heap) (locs1 : List Loc), t.heap = H1 → s.vm.Alike t.vm → post r u → B u t → H.size ≤ H1.size → (∀ q : Nat, q < H.size → ¬ A1 q → H1[q]? = H[q]?) → va_S A0 H0 H1 locs1 → W p l e R s m args below meth c H1 locs1 (cells + mc) (slots + ms) Q (F0 m (pc + 3) ls (.float r :: rest))) : W p l e R s m args below meth c H locs cells slots Q (F0 m pc ls st0) := by
  intro T hT X
  rcases hr T hT X with ⟨v, st₀, t, T', L, h0, X', hL, e1, e2, ⟨⟨r, u, hv, hp, hb⟩, hF⟩, st⟩ | ⟨q, st₀, t, T', L, E, ce, h0, X', hL, e1, e2, ⟨u, hp, hb, hF⟩, hce, hcv, hcl, st⟩
  · cases hv
    obtain ⟨k1, k2, k3⟩ := vx_keep h0 e1 hS hA hf hL hF
    obtain ⟨t2, a1, b1⟩ := kk r u t T'.heap (locs ++ L) e1.symm (by rw [← e2]; exact X'.warmed.alike) hp hb k1 k2 k3 T' rfl X'
    exact ⟨t2, st t2 a1, b1⟩
  · obtain ⟨k1, k2, k3⟩ := vx_keep h0 e1 hS hAX hf hL hF
    obtain ⟨t2, a1, b1⟩ := kx E ce q u t T'.heap (locs ++ L) e1.symm (by rw [← e2]; exact X'.warmed.alike) hp hb k1 k2 k3 (by rw [e1]; exact hce) hcv hcl T' rfl X'
    exact ⟨t2, st.trans a1, b1⟩
theorem vx_calld {S SX : Type} {post : UInt64 → S → Prop} {px : SX → Prop} {B : S → State → Prop} {BX : String → SX → State → Prop} {AX : Nat → Prop} (hr : vx_Run p l e R s m args below meth c H locs cells slots mc ms (F0 m pc ls st0) rest (va_Qd post B A1 a) (vx_X px BX AX) free) (hS : va_S A0 H0 H locs) (hA : ∀ q, q < H.size → A1 q → A0 q) (hf : ∀ q, free q → A0 q) (hAX : ∀ q, q < H.size → AX q → A0 q)
    (kx : ∀ (E : String) (ce : Cell) (q9 : Addr) (u : SX) (t : State) (H1 : Heap) (locs1 : List Loc), t.heap = H1 → s.vm.Alike t.vm → px u → BX E u t → H.size ≤ H1.size → (∀ q : Nat, q < H.size → ¬ AX q → H1[q]? = H[q]?) → va_S A0 H0 H1 locs1 → H1[q9]? = some ce → ce.vm = .none → s.vm.findClass E = some ce.cls → vx_W p l e R s m args below meth c H1 locs1 (cells + mc) (slots + ms) Q (F0 m pc ls rest) q9)
    (kk : ∀ (r : UInt64) (u : S) (t : State) (H1 : Heap) (locs1 : List Loc), t.heap = H1 → s.vm.Alike t.vm → post r u → B u t → H.size ≤ H1.size → (∀ q : Nat, q < H.size → ¬ A1 q → H1[q]? = H[q]?) → va_S A0 H0 H1 locs1 → W p l e R s m args below meth c H1 locs1 (cells + mc) (slots + ms) Q (F0 m (pc + 3) ls (.double r :: rest))) : W p l e R s m args below meth c H locs cells slots Q (F0 m pc ls st0) := by
  intro T hT X
  rcases hr T hT X with ⟨v, st₀, t, T', L, h0, X', hL, e1, e2, ⟨⟨r, u, hv, hp, hb⟩, hF⟩, st⟩ | ⟨q, st₀, t, T', L, E, ce, h0, X', hL, e1, e2, ⟨u, hp, hb, hF⟩, hce, hcv, hcl, st⟩
  · cases hv
    obtain ⟨k1, k2, k3⟩ := vx_keep h0 e1 hS hA hf hL hF
    obtain ⟨t2, a1, b1⟩ := kk r u t T'.heap (locs ++ L) e1.symm (by rw [← e2]; exact X'.warmed.alike) hp hb k1 k2 k3 T' rfl X'
    exact ⟨t2, st t2 a1, b1⟩
  · obtain ⟨k1, k2, k3⟩ := vx_keep h0 e1 hS hAX hf hL hF
    obtain ⟨t2, a1, b1⟩ := kx E ce q u t T'.heap (locs ++ L) e1.symm (by rw [← e2]; exact X'.warmed.alike) hp hb k1 k2 k3 (by rw [e1]; exact hce) hcv hcl T' rfl X'
    exact ⟨t2, st.trans a1, b1⟩
theorem vx_callv {S SX : Type} {post : S → Prop} {px : SX → Prop} {B : S → State → Prop} {BX : String → SX → State → Prop} {AX : Nat → Prop} (hr : vx_Run p l e R s m args below meth c H locs cells slots mc ms (F0 m pc ls st0) rest (va_Qv post B A1 a) (vx_X px BX AX) free) (hS : va_S A0 H0 H locs) (hA : ∀ q, q < H.size → A1 q → A0 q) (hf : ∀ q, free q → A0 q) (hAX : ∀ q, q < H.size → AX q → A0 q)
    (kx : ∀ (E : String) (ce : Cell) (q9 : Addr) (u : SX) (t : State) (H1 : Heap) (locs1 : List Loc), t.heap = H1 → s.vm.Alike t.vm → px u → BX E u t → H.size ≤ H1.size → (∀ q : Nat, q < H.size → ¬ AX q → H1[q]? = H[q]?) → va_S A0 H0 H1 locs1 → H1[q9]? = some ce → ce.vm = .none → s.vm.findClass E = some ce.cls → vx_W p l e R s m args below meth c H1 locs1 (cells + mc) (slots + ms) Q (F0 m pc ls rest) q9)
    (kk : ∀ (u : S) (t : State) (H1 : Heap) (locs1 : List Loc), t.heap = H1 → s.vm.Alike t.vm → post u → B u t → H.size ≤ H1.size → (∀ q : Nat, q < H.size → ¬ A1 q → H1[q]? = H[q]?) → va_S A0 H0 H1 locs1 → W p l e R s m args below meth c H1 locs1 (cells + mc) (slots + ms) Q (F0 m (pc + 3) ls (rest))) : W p l e R s m args below meth c H locs cells slots Q (F0 m pc ls st0) := by
  intro T hT X
  rcases hr T hT X with ⟨v, st₀, t, T', L, h0, X', hL, e1, e2, ⟨⟨u, hv, hp, hb⟩, hF⟩, st⟩ | ⟨q, st₀, t, T', L, E, ce, h0, X', hL, e1, e2, ⟨u, hp, hb, hF⟩, hce, hcv, hcl, st⟩
  · cases hv
    obtain ⟨k1, k2, k3⟩ := vx_keep h0 e1 hS hA hf hL hF
    obtain ⟨t2, a1, b1⟩ := kk u t T'.heap (locs ++ L) e1.symm (by rw [← e2]; exact X'.warmed.alike) hp hb k1 k2 k3 T' rfl X'
    exact ⟨t2, st t2 a1, b1⟩
  · obtain ⟨k1, k2, k3⟩ := vx_keep h0 e1 hS hAX hf hL hF
    obtain ⟨t2, a1, b1⟩ := kx E ce q u t T'.heap (locs ++ L) e1.symm (by rw [← e2]; exact X'.warmed.alike) hp hb k1 k2 k3 (by rw [e1]; exact hce) hcv hcl T' rfl X'
    exact ⟨t2, st.trans a1, b1⟩
/-- caught by the row x of this method's table; the rows ahead don't take it -/
theorem vx_catch {own name : String} {E : String} {ce : Cell} {q : Addr} (hown : s.vm.findClass own = some m.cls) (pre : List ExceptionTableEntry) (x : ExceptionTableEntry) (suf : List ExceptionTableEntry) (hsplit : c.exceptionTable.toList = pre ++ x :: suf)
    (hpass : ∀ z ∈ pre, covers z pc = false ∨ (z.catchType ≠ 0 ∧ ∃ nm : String, (Cond.classLink own z.catchType nm).before args s = true ∧ va_Nc E nm s)) (hx : covers x pc = true) (h0 : x.catchType ≠ 0)
    (hlink : (Cond.classLink own x.catchType name).before args s = true) (hcast : (Cond.castable E name).before args s = true) (hcell : H[q]? = some ce) (hv : ce.vm = .none) (hcl : s.vm.findClass E = some ce.cls)
    (kk : W p l e R s m args below meth c H locs cells slots Q (F0 m x.handlerPc ls [.ref q])) : vx_W p l e R s m args below meth c H locs cells slots Q (F0 m pc ls rest) q := by
  intro T hT X
  have hpl : e.platform.magicAccessors = ({} : Platform).magicAccessors := by rw [X.admits.platform]
  obtain ⟨c3, c4, hc3, hc4, hasg⟩ := Cond.castable_spec hcast
  cases Option.some.inj (hc3.symm.trans hcl)
  obtain ⟨c5, hc5, hcl5⟩ := Cond.classLink_spec hown hlink e.platform hpl
  cases Option.some.inj (hc4.symm.trans hc5)
  obtain ⟨vm', X', st⟩ := X.thenCaughtThrough q (g := F0 m pc ls rest) rfl (Steps.refl _) (by rw [hT]; exact hcell) (by rw [hv]; rfl) (by obtain ⟨k9, h9, -⟩ := Vm.findClass_spec hcl; exact ⟨k9, h9⟩) pre x suf hsplit
    (fun z hz => by
      rcases hpass z hz with h | ⟨hz0, nm, hl1, hn1⟩
      · exact Or.inl h
      · obtain ⟨c6, hc6, hcl6⟩ := Cond.classLink_spec hown hl1 e.platform hpl
        obtain ⟨a8, b8, h1, h2, h3⟩ := hn1
        cases Option.some.inj (h1.symm.trans hcl)
        cases Option.some.inj (h2.symm.trans hc6)
        exact Or.inr ⟨hz0, _, hcl6, h3⟩) hx (Or.inr ⟨h0, c4, hcl5, hasg⟩)
  obtain ⟨t, a1, b1⟩ := kk (T.setVm vm') hT X'
  exact ⟨t, st.trans a1, b1⟩
end Rows
section Ends
variable {p : Program} {l : Launch} {e : Env} {R : Room} {s : State} {m : MethodId} {args : Array Value} {below : List Frame} {meth : Method} {c : Code} {H : Heap} {locs : List Loc} {cells slots : Nat} {Q : State → Prop}
variable {mc ms : Nat} {free : Addr → Prop} {A0 A1 : Nat → Prop} {H0 : Heap} {a : Array Value} {ls : Array Slot} {st0 rest : List Value}
variable {Qc : Array Value → State → Outcome → State → Prop} {XC : String → State → State → Prop}
/-- what a body that may throw owes at its end -/
def vx_MQ (below : List Frame) (Qc : Array Value → State → Outcome → State → Prop) (XC : String → State → State → Prop) (a : Array Value) (s : State) (mc ms : Nat) (free : Addr → Prop) : State → Prop := fun t =>
  ∃ o, t.status = .running ∧ Ended t below o ∧ vx_Q Qc XC mc ms free a s o t
theorem vx_ret {g : JFrame} {mc ms : Nat} (k : W p l e R s m args below meth c H locs cells slots (MQ below Qc args s mc ms free) g) : W p l e R s m args below meth c H locs cells slots (vx_MQ below Qc XC args s mc ms free) g := by
  intro T hT X
  obtain ⟨t, a1, o, b1, b2, b3, b4⟩ := k T hT X
  exact ⟨t, a1, o, b1, b2, Or.inl ⟨b3, b4⟩⟩
/-- not caught here: it goes on to the caller -/
theorem vx_widen {g : JFrame} {q : Addr} {k n : Nat} (h1 : cells ≤ k) (h2 : slots ≤ n) (kk : vx_W p l e R s m args below meth c H locs k n Q g q) : vx_W p l e R s m args below meth c H locs cells slots Q g q := fun T hT X => kk T hT (stand_widen X h1 h2)
theorem vx_out {pc : Nat} {E : String} {ce : Cell} {q : Addr} {mc ms : Nat} (hout : ∀ x ∈ c.exceptionTable.toList, covers x pc = false) (hlocks : meth.locks = false) (hcell : H[q]? = some ce) (hv : ce.vm = .none) (hcl : s.vm.findClass E = some ce.cls)
    (hx : ∀ t : State, t.heap = H → s.vm.Alike t.vm → XC E s t) (hf : ∀ z ∈ locs, free z.base) (hc : cells ≤ mc) (hs : slots ≤ ms) :
    vx_W p l e R s m args below meth c H locs cells slots (vx_MQ below Qc XC args s mc ms free) (F0 m pc ls rest) q := by
  intro T hT X
  obtain ⟨st1, hrun, hend, hW, hsm⟩ := X.leaveThrown q (g := F0 m pc ls rest) rfl rfl rfl hout hlocks
  have hcell9 : (T.setFrames (.throwing q :: below)).heap[q]? = some ce := by
    show T.heap[q]? = some ce
    rw [hT]; exact hcell
  exact ⟨_, st1, .threw q, hrun, hend, Or.inr ⟨q, rfl, E, ce, locs, hx _ hT hW.alike, hcell9, hv, hcl, hW, hsm.mono hc hs, hf⟩⟩
theorem vx_frame {U : State} {k n : Nat} (h : s.sameButNew ({ U with vm := s.vm } : State) locs k n) : s.heap.size ≤ U.heap.size ∧ ∀ q : Nat, q < s.heap.size → (∀ z ∈ locs, z.base ≠ q) → U.heap[q]? = s.heap[q]? := by
  obtain ⟨-, h2, -, -, -, h6⟩ := h
  refine ⟨h2, fun q hq hz => ?_⟩
  obtain ⟨c9, e1, e2, e3, e4⟩ := h6 q _ (Array.getElem?_eq_getElem hq)
  have hs : c9.slots = (s.heap[q]).slots := Array.ext_getElem? fun i => e4 i fun hm => hz _ hm rfl
  have h9 : c9 = s.heap[q] := by
    rw [hs] at e2
    exact e2
  have e5 : U.heap[q]? = some c9 := e1
  rw [e5, h9, Array.getElem?_eq_getElem hq]
/-- the words of a throw but the four that speak of the heap -/
def vx_no (w : Cond) : Bool := decide (w ≠ .isRef (.static Bundle.tN "UNASSIGNED_STACK" Bundle.steD)) && decide (w ≠ .isRef (.static Bundle.tN "SUPPRESSED_SENTINEL" Bundle.listD)) && decide (w ≠ .laysStatic Bundle.tN "UNASSIGNED_STACK" Bundle.steD) && decide (w ≠ .laysStatic Bundle.tN "SUPPRESSED_SENTINEL" Bundle.listD)
def vx_at0 (own : String) (ic : Nat) (X : String) (names : List String) : List Cond := (Bundle.ownAtoms0 own ic X names).filter vx_no
def vx_atS (own : String) (ic : Nat) (X : String) (names : List String) : List Cond := (Bundle.ownAtoms own ic X names).filter vx_no
/-- a word that the tables alone decide, or a good one -/
def vx_ot (w : Cond) : Bool := w.onTables || goodWord w
theorem vx_ot_at {args a' : Array Value} {s U : State} {w : Cond} (hW : s.WarmedH U.vm) (hvm : s.vm = U.vm) (hg : vx_ot w = true) (h : w.before args s = true) : w.before a' U = true := by
  simp only [vx_ot, Bool.or_eq_true] at hg
  rcases hg with hg | hg
  · exact va_tabs hg hvm h
  · exact word_at hW (good_of_word hg) h
/-- a list's words: the good ones out of the method's own list, the others by premises of their own -/
theorem vx_hat {args : Array Value} {s : State} {L B : List Cond} (h1 : ∀ w ∈ L.filter goodWord, w.before args s = true) (h2 : ∀ w ∈ L.filter (fun w => !goodWord w), w ∈ B) (h3 : ∀ w ∈ B, w.before args s = true) : ∀ w ∈ L, w.before args s = true := by
  intro w hw
  by_cases g : goodWord w = true
  · exact h1 w (List.mem_filter.mpr ⟨hw, g⟩)
  · refine h3 w (h2 w (List.mem_filter.mpr ⟨hw, ?_⟩))
    show (!goodWord w) = true
    cases hgw : goodWord w
    · rfl
    · exact absurd hgw g
theorem vx_c {args : Array Value} {s : State} {w : Cond} {B : List Cond} (h : w.before args s = true) (t : ∀ w ∈ B, w.before args s = true) : ∀ w' ∈ w :: B, w'.before args s = true := fun w' h' => (List.mem_cons.mp h').elim (fun e => by rw [e]; exact h) (t w')
theorem vx_n {args : Array Value} {s : State} : ∀ w ∈ ([] : List Cond), w.before args s = true := fun _ h => nomatch h
theorem vx_own {args : Array Value} {s : State} {L : List Cond} (h1 : ∀ w ∈ L.filter vx_no, w.before args s = true)
    (hU : (Cond.isRef (.static Bundle.tN "UNASSIGNED_STACK" Bundle.steD)).before args s = true) (hN : (Cond.isRef (.static Bundle.tN "SUPPRESSED_SENTINEL" Bundle.listD)).before args s = true)
    (lU : (Cond.laysStatic Bundle.tN "UNASSIGNED_STACK" Bundle.steD).before args s = true) (lN : (Cond.laysStatic Bundle.tN "SUPPRESSED_SENTINEL" Bundle.listD).before args s = true) : ∀ w ∈ L, w.before args s = true := by
  intro w hw
  by_cases e1 : w = .isRef (.static Bundle.tN "UNASSIGNED_STACK" Bundle.steD)
  · rw [e1]; exact hU
  · by_cases e2 : w = .isRef (.static Bundle.tN "SUPPRESSED_SENTINEL" Bundle.listD)
    · rw [e2]; exact hN
    · by_cases e3 : w = .laysStatic Bundle.tN "UNASSIGNED_STACK" Bundle.steD
      · rw [e3]; exact lU
      · by_cases e4 : w = .laysStatic Bundle.tN "SUPPRESSED_SENTINEL" Bundle.listD
        · rw [e4]; exact lN
        · exact h1 w (List.mem_filter.mpr ⟨hw, by unfold vx_no; rw [decide_eq_true e1, decide_eq_true e2, decide_eq_true e3, decide_eq_true e4]; rfl⟩)
/-- where a static field lies, its class's statics cell in H -/
def vx_L (C n d : String) (A : Nat → Prop) (U : State) (H : Heap) : Prop := ∃ (c : ClassId) (k : Class) (i : Nat) (f : Field) (a : Nat) (cell : Cell), U.vm.findClass C = some c ∧ U.fieldFound? C n d = some (c, k, i, f) ∧ f.isStatic = true ∧ k.statics = some a ∧ H[a]? = some cell ∧ cell.vm.isStatics = true ∧ cell.cls = c ∧ f.slot < cell.slots.size ∧ k.staticTypes[f.slot]? = some f.type ∧ ¬ A a
theorem vx_L.moved {C n d : String} {A : Nat → Prop} {u U : State} {H : Heap} (hvm : u.vm.Alike U.vm) (h : vx_L C n d A u H) : vx_L C n d A U H := by
  obtain ⟨c, k, i, f, a, cell, h1, h2, h3, h4, h5, h6, h7, h8, h9, h10⟩ := h
  obtain ⟨k', hi', he⟩ := State.fieldFound?_setVm hvm h2
  exact ⟨c, k', i, f, a, cell, by rw [hvm.findClass]; exact h1, hi', h3, by rw [he]; exact h4, h5, h6, h7, h8, by rw [he]; exact h9, h10⟩
theorem vx_L.kept {C n d : String} {A : Nat → Prop} {U : State} {H H1 : Heap} (h : vx_L C n d A U H) (hq : ∀ a : Nat, a < H.size → ¬ A a → H1[a]? = H[a]?) : vx_L C n d A U H1 := by
  obtain ⟨c, k, i, f, a, cell, h1, h2, h3, h4, h5, h6, h7, h8, h9, h10⟩ := h
  exact ⟨c, k, i, f, a, cell, h1, h2, h3, h4, by rw [hq a (Array.getElem?_eq_some_iff.mp h5).1 h10]; exact h5, h6, h7, h8, h9, h10⟩
theorem vx_L.narrow {C n d : String} {A B : Nat → Prop} {U : State} {H : Heap} (h : vx_L C n d A U H) (hAB : ∀ q, B q → A q) : vx_L C n d B U H := by
  obtain ⟨c, k, i, f, a, cell, h1, h2, h3, h4, h5, h6, h7, h8, h9, h10⟩ := h
  exact ⟨c, k, i, f, a, cell, h1, h2, h3, h4, h5, h6, h7, h8, h9, fun z => h10 (hAB _ z)⟩
theorem vx_L.word {C n d : String} {A : Nat → Prop} {s : State} {args : Array Value} (h : vx_L C n d A s s.heap) : (Cond.laysStatic C n d).before args s = true := by
  obtain ⟨c, k, i, f, a, cell, h1, h2, h3, h4, h5, h6, h7, h8, h9, -⟩ := h
  show (Cond.laysStatic C n d).holds args s none s [] = true
  exact Cond.laysStatic_of h1 h2 h3 h4 h5 h6 h7 h8 h9
/-- .. and what it holds: null or some reference -/
def vx_Zq (C n d : String) (A : Nat → Prop) (U : State) (H : Heap) : Prop := va_Zq C n d A U H ∧ vx_L C n d A U H
theorem vx_Zq.moved {C n d : String} {A : Nat → Prop} {u U : State} {H : Heap} (hvm : u.vm.Alike U.vm) (h : vx_Zq C n d A u H) : vx_Zq C n d A U H := ⟨va_Zq.moved hvm h.1, vx_L.moved hvm h.2⟩
theorem vx_Zq.kept {C n d : String} {A : Nat → Prop} {U : State} {H H1 : Heap} (h : vx_Zq C n d A U H) (hq : ∀ a : Nat, a < H.size → ¬ A a → H1[a]? = H[a]?) : vx_Zq C n d A U H1 := ⟨va_Zq.kept h.1 hq, vx_L.kept h.2 hq⟩
theorem vx_Zq.narrow {C n d : String} {A B : Nat → Prop} {U : State} {H : Heap} (h : vx_Zq C n d A U H) (hAB : ∀ q, B q → A q) : vx_Zq C n d B U H := ⟨va_Zq.narrow h.1 hAB, vx_L.narrow h.2 hAB⟩
theorem vx_Zqof {args : Array Value} {s : State} {C n d : String} {A : Nat → Prop} (hl : (Cond.laysStatic C n d).before args s = true) (hini : (Cond.initialized C).before args s = true) (h : (Cond.isRef (.static C n d)).before args s = true) (hA : ∀ a : Nat, a < s.heap.size → ¬ A a) : vx_Zq C n d A s s.heap := by
  refine ⟨va_Zqof hl hini h hA, ?_⟩
  obtain ⟨c, k, i, f, a, cell, h1, h2, h3, h4, h5, h6, h7, h8, h9⟩ := Cond.laysStatic_spec hl
  exact ⟨c, k, i, f, a, cell, h1, h2, h3, h4, h5, h6, h7, h8, h9, hA a (Array.getElem?_eq_some_iff.mp h5).1⟩
theorem vx_isRef {C n d : String} {v : Value} {A : Nat → Prop} {s : State} {args : Array Value} (h : va_Z C n d v A s s.heap) (hv : v.isRef = true) : (Cond.isRef (.static C n d)).before args s = true := by
  obtain ⟨cf, kf, fi, f, a, cell, h1, h2, h3, h4, h5, h6, h7, -⟩ := h
  have he : (Term.static C n d).eval args s none [] s = some v := by
    simp [Term.eval, State.fieldNamed?, h1, h2, h4, h5, h6, h7]
  simp only [Cond.before, Cond.holds, Cond.value, he]
  cases v <;> simp_all [Value.isRef]
theorem vx_isRefq {C n d : String} {A : Nat → Prop} {s : State} {args : Array Value} (h : va_Zq C n d A s s.heap) : (Cond.isRef (.static C n d)).before args s = true := by
  rcases h with h | ⟨t, h⟩
  · exact vx_isRef h rfl
  · exact vx_isRef h rfl
/-- the same frame, seen from here: as if the method were called anew in this heap -/
theorem vx_rebase {T : State} (X : Stand p l e R s m args below meth c T locs cells slots) {R' : Room} (hf : R'.frames ≤ R.frames) (hl : R'.locals ≤ R.locals) (hc : cells + R'.cells ≤ R.cells) (hs : slots + R'.slots ≤ R.slots) :
    Stand p l e R' ((T.setVm s.vm).setFrames (.invoking m args :: below)) m args below meth c T [] 0 0 := by
  have htop : (T.setVm s.vm).topJava?.isSome := X.here.top
  have hF : ((T.setVm s.vm).setFrames (.invoking m args :: below)).frames = .invoking m args :: below := State.frames_setFrames _ (State.cur_lt_of_top htop)
  obtain ⟨g₀, hg0⟩ := Option.isSome_iff_exists.mp htop
  obtain ⟨r, hr⟩ := State.topJava?_eq_some.mp hg0
  have hl9 : e.platform.stackLimits (T.setVm s.vm).me = e.platform.stackLimits s.me := X.limits
  have hb9 : (T.setVm s.vm).me.stackBytes = s.me.stackBytes := X.bytes
  refine ⟨X.admits, X.cas, X.clock, hF, ?_, X.hears, X.method, X.code, X.here, X.tail, X.warmed, ?_, ?_, ?_⟩
  · have h := X.room
    have hU : ((T.setVm s.vm).setFrames (.invoking m args :: below)).localsInUse = s.localsInUse := by
      rw [State.localsInUse_invoking hF (meth := meth) (c := c) X.method X.code, State.localsInUse_invoking X.frames X.method X.code]
    simp only [State.hasRoom, Bool.and_eq_true, decide_eq_true_eq] at h ⊢
    obtain ⟨⟨⟨⟨h1, h2, h3, h4, h5, h6⟩, h7⟩, h8⟩, h9⟩ := h
    rw [X.frames, List.length_cons] at h2 h3
    have q1 := X.heapSize
    have q2 := X.used
    simp only [hF, hU, List.length_cons, State.stackLimits_setFrames, State.stackBytes_setFrames, hl9, hb9]
    refine ⟨⟨⟨⟨by omega, by omega, by omega, by omega, by omega, h6⟩, ?_⟩, ?_⟩, X.book⟩
    · show T.heap.size + R'.cells ≤ e.platform.maxCells
      omega
    · show T.slotsUsed + R'.slots ≤ e.platform.maxSlots
      omega
  · rw [State.stackLimits_setFrames]; rfl
  · rw [State.stackBytes_setFrames]; rfl
  · refine ⟨?_, Nat.le_refl _, Nat.le_refl _, ?_, ?_, fun a c9 h9 => ⟨c9, h9, rfl, rfl, fun _ _ => rfl⟩⟩
    · obtain ⟨t, ht, -⟩ := State.frames_cons hr
      show T.setVm s.vm = { ((T.setVm s.vm).setFrames (.invoking m args :: below)).setFrames (T.setVm s.vm).frames with heap := T.heap, slotsUsed := T.slotsUsed }
      rw [State.setFrames_setFrames, State.setFrames_self ht]
      rfl
    · show T.slotsUsed = T.slotsUsed + ((T.heap.toList.drop T.heap.size).map (·.slots.size)).sum
      rw [List.drop_eq_nil_of_le (Nat.le_of_eq Array.length_toList)]
      rfl
    · show ((T.heap.toList.drop T.heap.size).map (·.slots.size)).sum ≤ 0
      rw [List.drop_eq_nil_of_le (Nat.le_of_eq Array.length_toList)]
      exact Nat.le_refl _
/-- 'throw new E()': new; dup; invokespecial; athrow -/
theorem vx_throw0 {cc : ByteArray} {pc : Nat} (hexec : p.tables.exec = Jvm.exec) (hb : c.code = cc) (hl : l.stackTraces = false) {own cls : String} {names : List String} {ik ic mc ms : Nat} {A : Nat → Prop}
    (hown : s.vm.findClass own = some m.cls) (hcls : Bundle.fit cls = true) (hnames : ∀ n ∈ names, Bundle.fit n = true)
    (hk : (Cond.classLink own ik cls).before args s = true) (hini : (Cond.initialized cls).before args s = true) (hat : ∀ w ∈ vx_at0 own ic cls names, w.before args s = true)
    (hgood : ∀ w ∈ Cond.classLink own ik cls :: Cond.initialized cls :: vx_at0 own ic cls names, vx_ot w = true)
    (hU : vx_Zq Bundle.tN "UNASSIGNED_STACK" Bundle.steD A s s.heap) (hN : vx_Zq Bundle.tN "SUPPRESSED_SENTINEL" Bundle.listD A s s.heap) (hS : va_S A s.heap H locs) (hsize : ls.size = c.maxLocals)
    (d0 : decode cc pc = .ok (.new ik, 3)) (d3 : decode cc (pc + 3) = .ok (.dup, 1)) (d4 : decode cc (pc + 4) = .ok (.invokespecial ic, 3)) (d7 : decode cc (pc + 7) = .ok (.athrow, 1))
    (hout : ∀ x ∈ c.exceptionTable.toList, covers x (pc + 7) = false)
    (hRframes : names.length + 3 < R.frames) (hRlocals : (rest.map fun v => v.category).sum + (13 * (names.length + 1) + 42) ≤ R.locals) (hRcells : cells + 1 ≤ R.cells) (hRslots : slots + 6 ≤ R.slots) (hlocks : meth.locks = false)
    (hx : ∀ t : State, s.vm.Alike t.vm → H.size ≤ t.heap.size → (∀ q : Nat, q < H.size → t.heap[q]? = H[q]?) → XC cls s t)
    (hf : ∀ z ∈ locs, free z.base) (hc : cells + 1 ≤ mc) (hs : slots + 6 ≤ ms) :
    W p l e R s m args below meth c H locs cells slots (vx_MQ below Qc XC args s mc ms free) (F0 m pc ls rest) := by
  intro T hT X
  have htr : e.platform.stackTraces = false := (show e.platform.stackTraces = l.stackTraces by rw [X.admits.platform]).trans hl
  have Y := vx_rebase X (R' := { frames := R.frames, locals := R.locals, cells := 1, slots := 6 }) (Nat.le_refl _) (Nat.le_refl _) hRcells hRslots
  obtain ⟨s', hA⟩ : ∃ z, z = (T.setVm s.vm).setFrames (.invoking m args :: below) := ⟨_, rfl⟩
  rw [← hA] at Y
  have hvm : s'.vm = s.vm := by rw [hA]; rfl
  have hhp : s'.heap = H := by rw [hA]; exact hT
  have hW0 : s.WarmedH s'.vm := by rw [hvm]; exact State.WarmedH.refl s
  have hat' : ∀ w ∈ vx_at0 own ic cls names, w.before args s' = true := fun w hw => vx_ot_at hW0 hvm.symm (hgood w (List.mem_cons_of_mem _ (List.mem_cons_of_mem _ hw))) (hat w hw)
  have hk' : (Cond.classLink own ik cls).before args s' = true := vx_ot_at hW0 hvm.symm (hgood _ List.mem_cons_self) hk
  have hini' : (Cond.initialized cls).before args s' = true := vx_ot_at hW0 hvm.symm (hgood _ (List.mem_cons_of_mem _ List.mem_cons_self)) hini
  have hU' : vx_Zq Bundle.tN "UNASSIGNED_STACK" Bundle.steD A s' s'.heap := by rw [hhp]; exact vx_Zq.moved hW0.alike (hU.kept hS.2.1)
  have hN' : vx_Zq Bundle.tN "SUPPRESSED_SENTINEL" Bundle.listD A s' s'.heap := by rw [hhp]; exact vx_Zq.moved hW0.alike (hN.kept hS.2.1)
  have h : ∀ w ∈ Bundle.ownAtoms0 own ic cls names, w.before args s' = true := vx_own hat' (vx_isRefq hU'.1) (vx_isRefq hN'.1) hU'.2.word hN'.2.word
  have hown' : s'.vm.findClass own = some m.cls := by rw [hvm]; exact hown
  have hins : (Cond.instantiable cls 6).before args s' = true := h _ (by simp [Bundle.ownAtoms0])
  obtain ⟨vm₁, cX, kX, hfX, hkX, -, -, X₁, st1⟩ := Y.newCold hexec (own := own) (C := cls) (index := ik) (n := 6) hown' hk' hins hini'
    (g := F0 m pc ls rest) rfl (by rw [hb]; exact d0) (Nat.le_refl _) (Nat.le_refl _)
  generalize hT1 : (T.setVm vm₁).pushCell { cls := cX, slots := kX.instanceTypes.map defaultValue, vm := .none } = T1 at X₁ st1
  have hcat : (Value.ref T.heap.size).category = 1 := rfl
  have hcellA : T1.heap[T.heap.size]? = some (freshCell cX kX) := by rw [← hT1]; exact State.heap_pushCell_size _ _
  have d3' : decode c.code (pc + 3) = .ok (.dup, 1) := by rw [hb]; exact d3
  obtain ⟨U, hsteps, hrun, hend, hW, hsame, ce, hce, hO⟩ := X₁.ctorThrow0 hexec htr (own := own) (cls := cls) (names := names) (ic := ic) hown' hcls hnames h (fun x hx => nomatch hx) hfX hkX hcellA (by rw [hhp, hT]; exact Nat.le_refl _)
    (g := { method := m, pc := pc + 4, locals := ls, stack := .ref T.heap.size :: .ref T.heap.size :: rest, locked := none }) rfl hsize rfl rfl (rest := rest) rfl
    (by rw [hb]; exact d4) (by rw [hb]; exact d7) hout hRframes (by simp only [List.map_cons, List.sum_cons, hcat]; omega) hlocks
  obtain ⟨f1, f2⟩ := vx_frame hsame
  rw [hhp] at f1 f2
  have hWs : s.WarmedH U.vm := State.WarmedH.trans hW0 hW
  have hcl : s.vm.findClass cls = some ce.cls := by
    have h9 := hO.cls
    rw [hvm] at h9
    exact h9
  have hall : s.sameButNew ({ U with vm := s.vm } : State) locs mc ms := by
    subst hA
    obtain ⟨e1, e2⟩ := hsame
    rw [State.setFrames_setFrames] at e1
    have h2 : (T.setVm s.vm).sameButNew ({ U with vm := s.vm } : State) [] (0 + 1) (0 + 6) := ⟨e1, e2⟩
    have h3 := X.same.trans h2
    rw [List.append_nil] at h3
    exact h3.mono hc hs
  refine ⟨U, ?_, .threw T.heap.size, hrun, hend, Or.inr ⟨T.heap.size, rfl, cls, ce, locs, hx U hWs.alike f1 (fun q hq => f2 q hq (fun z hz => nomatch hz)), hce, hO.vm, hcl, hWs, hall, hf⟩⟩
  refine st1 _ ?_
  show Steps p.tables e below (T1.setTop { method := m, pc := pc + 3, locals := ls, stack := .ref T.heap.size :: rest, locked := none }) _
  jvm_step X₁.here [X₁.here.top, hexec, d3', Value.category]
  exact hsteps
/-- 'throw new E("text")': new; dup; ldc; invokespecial; athrow -/
theorem vx_throwS {cc : ByteArray} {pc : Nat} (hexec : p.tables.exec = Jvm.exec) (hb : c.code = cc) (hl : l.stackTraces = false) {own cls text : String} {names : List String} {ik is ic mc ms sa : Nat} {A : Nat → Prop}
    (hown : s.vm.findClass own = some m.cls) (hcls : Bundle.fit cls = true) (hnames : ∀ n ∈ names, Bundle.fit n = true)
    (hk : (Cond.classLink own ik cls).before args s = true) (hini : (Cond.initialized cls).before args s = true) (hstr : vk_R own is text sa s) (hat : ∀ w ∈ vx_atS own ic cls names, w.before args s = true)
    (hgood : ∀ w ∈ Cond.classLink own ik cls :: Cond.initialized cls :: vx_atS own ic cls names, vx_ot w = true)
    (hU : vx_Zq Bundle.tN "UNASSIGNED_STACK" Bundle.steD A s s.heap) (hN : vx_Zq Bundle.tN "SUPPRESSED_SENTINEL" Bundle.listD A s s.heap) (hS : va_S A s.heap H locs) (hsize : ls.size = c.maxLocals)
    (d0 : decode cc pc = .ok (.new ik, 3)) (d3 : decode cc (pc + 3) = .ok (.dup, 1)) (d4 : decode cc (pc + 4) = .ok (.ldc is, 2)) (d6 : decode cc (pc + 6) = .ok (.invokespecial ic, 3)) (d9 : decode cc (pc + 9) = .ok (.athrow, 1))
    (hout : ∀ x ∈ c.exceptionTable.toList, covers x (pc + 9) = false)
    (hRframes : names.length + 3 < R.frames) (hRlocals : (rest.map fun v => v.category).sum + (13 * (names.length + 1) + 43) ≤ R.locals) (hRcells : cells + 1 ≤ R.cells) (hRslots : slots + 6 ≤ R.slots) (hlocks : meth.locks = false)
    (hx : ∀ t : State, s.vm.Alike t.vm → H.size ≤ t.heap.size → (∀ q : Nat, q < H.size → t.heap[q]? = H[q]?) → XC cls s t)
    (hf : ∀ z ∈ locs, free z.base) (hc : cells + 1 ≤ mc) (hs : slots + 6 ≤ ms) :
    W p l e R s m args below meth c H locs cells slots (vx_MQ below Qc XC args s mc ms free) (F0 m pc ls rest) := by
  intro T hT X
  have htr : e.platform.stackTraces = false := (show e.platform.stackTraces = l.stackTraces by rw [X.admits.platform]).trans hl
  have Y := vx_rebase X (R' := { frames := R.frames, locals := R.locals, cells := 1, slots := 6 }) (Nat.le_refl _) (Nat.le_refl _) hRcells hRslots
  obtain ⟨s', hA⟩ : ∃ z, z = (T.setVm s.vm).setFrames (.invoking m args :: below) := ⟨_, rfl⟩
  rw [← hA] at Y
  have hvm : s'.vm = s.vm := by rw [hA]; rfl
  have hhp : s'.heap = H := by rw [hA]; exact hT
  have hW0 : s.WarmedH s'.vm := by rw [hvm]; exact State.WarmedH.refl s
  have hat' : ∀ w ∈ vx_atS own ic cls names, w.before args s' = true := fun w hw => vx_ot_at hW0 hvm.symm (hgood w (List.mem_cons_of_mem _ (List.mem_cons_of_mem _ hw))) (hat w hw)
  have hk' : (Cond.classLink own ik cls).before args s' = true := vx_ot_at hW0 hvm.symm (hgood _ List.mem_cons_self) hk
  have hini' : (Cond.initialized cls).before args s' = true := vx_ot_at hW0 hvm.symm (hgood _ (List.mem_cons_of_mem _ List.mem_cons_self)) hini
  have hU' : vx_Zq Bundle.tN "UNASSIGNED_STACK" Bundle.steD A s' s'.heap := by rw [hhp]; exact vx_Zq.moved hW0.alike (hU.kept hS.2.1)
  have hN' : vx_Zq Bundle.tN "SUPPRESSED_SENTINEL" Bundle.listD A s' s'.heap := by rw [hhp]; exact vx_Zq.moved hW0.alike (hN.kept hS.2.1)
  have h : ∀ w ∈ Bundle.ownAtoms own ic cls names, w.before args s' = true := vx_own hat' (vx_isRefq hU'.1) (vx_isRefq hN'.1) hU'.2.word hN'.2.word
  have hown' : s'.vm.findClass own = some m.cls := by rw [hvm]; exact hown
  have hins : (Cond.instantiable cls 6).before args s' = true := h _ (by simp [Bundle.ownAtoms])
  obtain ⟨vm₁, cX, kX, hfX, hkX, -, -, X₁, st1⟩ := Y.newCold hexec (own := own) (C := cls) (index := ik) (n := 6) hown' hk' hins hini'
    (g := F0 m pc ls rest) rfl (by rw [hb]; exact d0) (Nat.le_refl _) (Nat.le_refl _)
  generalize hT1 : (T.setVm vm₁).pushCell { cls := cX, slots := kX.instanceTypes.map defaultValue, vm := .none } = T1 at X₁ st1
  have hcat : (Value.ref T.heap.size).category = 1 := rfl
  have hcellA : T1.heap[T.heap.size]? = some (freshCell cX kX) := by rw [← hT1]; exact State.heap_pushCell_size _ _
  have d3' : decode c.code (pc + 3) = .ok (.dup, 1) := by rw [hb]; exact d3
  have d4' : decode c.code (pc + 4) = .ok (.ldc is, 2) := by rw [hb]; exact d4
  have hstr' : vk_R own is text sa s' := vk_R.warm hW0 hstr
  obtain ⟨U, hsteps, hrun, hend, hW, hsame, ce, hce, hO⟩ := X₁.ctorThrowS hexec htr (own := own) (cls := cls) (names := names) (ic := ic) hown' hcls hnames h (fun x hx => nomatch hx) hfX hkX hcellA (by rw [hhp, hT]; exact Nat.le_refl _) (msg := .ref sa) rfl
    (g := { method := m, pc := pc + 6, locals := ls, stack := .ref sa :: .ref T.heap.size :: .ref T.heap.size :: rest, locked := none }) rfl hsize rfl rfl (rest := rest) rfl
    (by rw [hb]; exact d6) (by rw [hb]; exact d9) hout hRframes (by simp only [List.map_cons, List.sum_cons, hcat]; omega) hlocks
  obtain ⟨f1, f2⟩ := vx_frame hsame
  rw [hhp] at f1 f2
  have hWs : s.WarmedH U.vm := State.WarmedH.trans hW0 hW
  have hcl : s.vm.findClass cls = some ce.cls := by
    have h9 := hO.cls
    rw [hvm] at h9
    exact h9
  have hall : s.sameButNew ({ U with vm := s.vm } : State) locs mc ms := by
    subst hA
    obtain ⟨e1, e2⟩ := hsame
    rw [State.setFrames_setFrames] at e1
    have h2 : (T.setVm s.vm).sameButNew ({ U with vm := s.vm } : State) [] (0 + 1) (0 + 6) := ⟨e1, e2⟩
    have h3 := X.same.trans h2
    rw [List.append_nil] at h3
    exact h3.mono hc hs
  refine ⟨U, ?_, .threw T.heap.size, hrun, hend, Or.inr ⟨T.heap.size, rfl, cls, ce, locs, hx U hWs.alike f1 (fun q hq => f2 q hq (fun z hz => nomatch hz)), hce, hO.vm, hcl, hWs, hall, hf⟩⟩
  refine st1 _ ?_
  show Steps p.tables e below (T1.setTop { method := m, pc := pc + 3, locals := ls, stack := .ref T.heap.size :: rest, locked := none }) _
  jvm_step X₁.here [X₁.here.top, hexec, d3', Value.category]
  exact X₁.ldcString hexec (own := own) (text := text) (index := is) (a := sa) hown' hstr'.1 hstr'.2
    (g := { method := m, pc := pc + 4, locals := ls, stack := .ref T.heap.size :: .ref T.heap.size :: rest, locked := none }) rfl d4' _ hsteps
/-- 'throw new E("text")', the text by a wide index -/
theorem vx_throwSW {cc : ByteArray} {pc : Nat} (hexec : p.tables.exec = Jvm.exec) (hb : c.code = cc) (hl : l.stackTraces = false) {own cls text : String} {names : List String} {ik is ic mc ms sa : Nat} {A : Nat → Prop}
    (hown : s.vm.findClass own = some m.cls) (hcls : Bundle.fit cls = true) (hnames : ∀ n ∈ names, Bundle.fit n = true)
    (hk : (Cond.classLink own ik cls).before args s = true) (hini : (Cond.initialized cls).before args s = true) (hstr : vk_R own is text sa s) (hat : ∀ w ∈ vx_atS own ic cls names, w.before args s = true)
    (hgood : ∀ w ∈ Cond.classLink own ik cls :: Cond.initialized cls :: vx_atS own ic cls names, vx_ot w = true)
    (hU : vx_Zq Bundle.tN "UNASSIGNED_STACK" Bundle.steD A s s.heap) (hN : vx_Zq Bundle.tN "SUPPRESSED_SENTINEL" Bundle.listD A s s.heap) (hS : va_S A s.heap H locs) (hsize : ls.size = c.maxLocals)
    (d0 : decode cc pc = .ok (.new ik, 3)) (d3 : decode cc (pc + 3) = .ok (.dup, 1)) (d4 : decode cc (pc + 4) = .ok (.ldc_w is, 3)) (d7 : decode cc (pc + 7) = .ok (.invokespecial ic, 3)) (d10 : decode cc (pc + 10) = .ok (.athrow, 1))
    (hout : ∀ x ∈ c.exceptionTable.toList, covers x (pc + 10) = false)
    (hRframes : names.length + 3 < R.frames) (hRlocals : (rest.map fun v => v.category).sum + (13 * (names.length + 1) + 43) ≤ R.locals) (hRcells : cells + 1 ≤ R.cells) (hRslots : slots + 6 ≤ R.slots) (hlocks : meth.locks = false)
    (hx : ∀ t : State, s.vm.Alike t.vm → H.size ≤ t.heap.size → (∀ q : Nat, q < H.size → t.heap[q]? = H[q]?) → XC cls s t)
    (hf : ∀ z ∈ locs, free z.base) (hc : cells + 1 ≤ mc) (hs : slots + 6 ≤ ms) :
    W p l e R s m args below meth c H locs cells slots (vx_MQ below Qc XC args s mc ms free) (F0 m pc ls rest) := by
  intro T hT X
  have htr : e.platform.stackTraces = false := (show e.platform.stackTraces = l.stackTraces by rw [X.admits.platform]).trans hl
  have Y := vx_rebase X (R' := { frames := R.frames, locals := R.locals, cells := 1, slots := 6 }) (Nat.le_refl _) (Nat.le_refl _) hRcells hRslots
  obtain ⟨s', hA⟩ : ∃ z, z = (T.setVm s.vm).setFrames (.invoking m args :: below) := ⟨_, rfl⟩
  rw [← hA] at Y
  have hvm : s'.vm = s.vm := by rw [hA]; rfl
  have hhp : s'.heap = H := by rw [hA]; exact hT
  have hW0 : s.WarmedH s'.vm := by rw [hvm]; exact State.WarmedH.refl s
  have hat' : ∀ w ∈ vx_atS own ic cls names, w.before args s' = true := fun w hw => vx_ot_at hW0 hvm.symm (hgood w (List.mem_cons_of_mem _ (List.mem_cons_of_mem _ hw))) (hat w hw)
  have hk' : (Cond.classLink own ik cls).before args s' = true := vx_ot_at hW0 hvm.symm (hgood _ List.mem_cons_self) hk
  have hini' : (Cond.initialized cls).before args s' = true := vx_ot_at hW0 hvm.symm (hgood _ (List.mem_cons_of_mem _ List.mem_cons_self)) hini
  have hU' : vx_Zq Bundle.tN "UNASSIGNED_STACK" Bundle.steD A s' s'.heap := by rw [hhp]; exact vx_Zq.moved hW0.alike (hU.kept hS.2.1)
  have hN' : vx_Zq Bundle.tN "SUPPRESSED_SENTINEL" Bundle.listD A s' s'.heap := by rw [hhp]; exact vx_Zq.moved hW0.alike (hN.kept hS.2.1)
  have h : ∀ w ∈ Bundle.ownAtoms own ic cls names, w.before args s' = true := vx_own hat' (vx_isRefq hU'.1) (vx_isRefq hN'.1) hU'.2.word hN'.2.word
  have hown' : s'.vm.findClass own = some m.cls := by rw [hvm]; exact hown
  have hins : (Cond.instantiable cls 6).before args s' = true := h _ (by simp [Bundle.ownAtoms])
  obtain ⟨vm₁, cX, kX, hfX, hkX, -, -, X₁, st1⟩ := Y.newCold hexec (own := own) (C := cls) (index := ik) (n := 6) hown' hk' hins hini'
    (g := F0 m pc ls rest) rfl (by rw [hb]; exact d0) (Nat.le_refl _) (Nat.le_refl _)
  generalize hT1 : (T.setVm vm₁).pushCell { cls := cX, slots := kX.instanceTypes.map defaultValue, vm := .none } = T1 at X₁ st1
  have hcat : (Value.ref T.heap.size).category = 1 := rfl
  have hcellA : T1.heap[T.heap.size]? = some (freshCell cX kX) := by rw [← hT1]; exact State.heap_pushCell_size _ _
  have d3' : decode c.code (pc + 3) = .ok (.dup, 1) := by rw [hb]; exact d3
  have d4' : decode c.code (pc + 4) = .ok (.ldc_w is, 3) := by rw [hb]; exact d4
  have hstr' : vk_R own is text sa s' := vk_R.warm hW0 hstr
  obtain ⟨U, hsteps, hrun, hend, hW, hsame, ce, hce, hO⟩ := X₁.ctorThrowS hexec htr (own := own) (cls := cls) (names := names) (ic := ic) hown' hcls hnames h (fun x hx => nomatch hx) hfX hkX hcellA (by rw [hhp, hT]; exact Nat.le_refl _) (msg := .ref sa) rfl
    (g := { method := m, pc := pc + 7, locals := ls, stack := .ref sa :: .ref T.heap.size :: .ref T.heap.size :: rest, locked := none }) rfl hsize rfl rfl (rest := rest) rfl
    (by rw [hb]; exact d7) (by rw [hb]; exact d10) hout hRframes (by simp only [List.map_cons, List.sum_cons, hcat]; omega) hlocks
  obtain ⟨f1, f2⟩ := vx_frame hsame
  rw [hhp] at f1 f2
  have hWs : s.WarmedH U.vm := State.WarmedH.trans hW0 hW
  have hcl : s.vm.findClass cls = some ce.cls := by
    have h9 := hO.cls
    rw [hvm] at h9
    exact h9
  have hall : s.sameButNew ({ U with vm := s.vm } : State) locs mc ms := by
    subst hA
    obtain ⟨e1, e2⟩ := hsame
    rw [State.setFrames_setFrames] at e1
    have h2 : (T.setVm s.vm).sameButNew ({ U with vm := s.vm } : State) [] (0 + 1) (0 + 6) := ⟨e1, e2⟩
    have h3 := X.same.trans h2
    rw [List.append_nil] at h3
    exact h3.mono hc hs
  refine ⟨U, ?_, .threw T.heap.size, hrun, hend, Or.inr ⟨T.heap.size, rfl, cls, ce, locs, hx U hWs.alike f1 (fun q hq => f2 q hq (fun z hz => nomatch hz)), hce, hO.vm, hcl, hWs, hall, hf⟩⟩
  refine st1 _ ?_
  show Steps p.tables e below (T1.setTop { method := m, pc := pc + 3, locals := ls, stack := .ref T.heap.size :: rest, locked := none }) _
  jvm_step X₁.here [X₁.here.top, hexec, d3', Value.category]
  exact X₁.ldcStringW hexec (own := own) (text := text) (index := is) (a := sa) hown' hstr'.1 hstr'.2
    (g := { method := m, pc := pc + 4, locals := ls, stack := .ref T.heap.size :: .ref T.heap.size :: rest, locked := none }) rfl d4' _ hsteps
end Ends
section Bodies
variable {l : Launch}
theorem vx_ofW {y : MethodName} {ws ws' : List Cond} {rm : Room} {Pc : Array Value → State → Prop} {Qc : Array Value → State → Outcome → State → Prop} {XC : String → State → State → Prop} {mc ms : Nat} {free : Addr → Prop} {cc : ByteArray} {maxL : Nat} {ret : Option FieldType}
    (hy : plainName y.cls = true) (hw : ws = Cond.code y cc maxL ret :: ws')
    (body : ∀ p e s m args below meth c s₁, BodyLoose p l y (headSpec ws rm) cc maxL ret e s m args below meth c s₁ → c.maxLocals = maxL → (∀ x ∈ c.exceptionTable.toList, False) → Pc args s →
      W p l e (headSpec ws rm).room s m args below meth c s.heap [] 0 0 (vx_MQ below Qc XC args s mc ms free) (entryFrame m args maxL)) : vx_Met l y ws rm Pc Qc XC mc ms free := by
  refine MetFree.of_bodyS (code := cc) (maxLocals := maxL) (ret := ret) hy ?_ ?_
  · intro args s m h hn
    obtain ⟨meth, c, h1, h2, h3, h4, h5, h6, -, -⟩ := Cond.code_spec hn (atoms_spec (ws := ws) h _ (by rw [hw]; exact List.mem_cons_self))
    exact ⟨meth, c, h1, h2, h3, h4, h5, h6⟩
  · intro p e s m args below meth c s₁ B hml hP _
    have hh0 : s₁.heap = s.heap := by rw [B.state]; rfl
    have ht : ∀ x ∈ c.exceptionTable.toList, False := by
      obtain ⟨meth9, c9, h1, h2, -, -, -, -, h7, -⟩ := Cond.code_spec B.named (atoms_spec (ws := ws) B.pre _ (by rw [hw]; exact List.mem_cons_self))
      cases Option.some.inj (h1.symm.trans B.method)
      cases Option.some.inj (h2.symm.trans (Stand.of_body B).code)
      intro x hx
      rw [Array.isEmpty_iff.mp h7] at hx
      cases hx
    obtain ⟨t, a1, o, b1, b2, b3⟩ := body p e s m args below meth c s₁ B hml ht hP s₁ hh0 (Stand.of_body B)
    exact ⟨t, o, a1, b1, b2, b3⟩
/-- the table of a body with handlers -/
theorem vx_table {p : Program} {x y : MethodName} {S : Spec} {cc bytes : ByteArray} {maxL maxL' : Nat} {ret ret' : Option FieldType} {e : Env} {s s₁ : State} {m : MethodId} {args : Array Value} {below : List Frame} {meth : Method} {c : Code} {hh : List (Nat × Nat × Nat × Nat)}
    (B : BodyLoose p l y S cc maxL ret e s m args below meth c s₁) (h : (Cond.codeWith y bytes maxL' ret' hh).before args s = true) : c.exceptionTable.toList = tableOf hh := by
  obtain ⟨m9, meth9, c9, hn9, h1, h2, -, -, h6, -⟩ := Cond.codeWith_spec h
  cases Option.some.inj (hn9.symm.trans B.named)
  cases Option.some.inj (h1.symm.trans B.method)
  cases Option.some.inj (h2.symm.trans (Stand.of_body B).code)
  rw [← h6, table_eq]
end Bodies
end VXA
/-! ===== END ===== -/
/-! ===== BEGIN a static call of a method with an exception table ===== -/
section VXS
variable {p : Program} {l : Launch} {e : Env} {R : Room} {s : State} {m : MethodId} {args : Array Value} {below : List Frame} {meth : Method} {c : Code} {T : State} {H : Heap} {locs : List Loc} {cells slots : Nat}
abbrev vx_CSW (R : Room) (s : State) (args : Array Value) (own : String) (index : Nat) (y : MethodName) (bytes : ByteArray) (maxL : Nat) (ret : Option FieldType) (hh : List (Nat × Nat × Nat × Nat)) (ws : List Cond) (rm : Room) (mc ms n : Nat) : Prop :=
  (rm.cells = mc ∧ rm.slots = ms ∧ rm.frames + 1 ≤ R.frames ∧ 8 + (maxL + 11) + rm.locals ≤ R.locals ∧ (∀ w ∈ ws, ∀ (a' : Array Value) (U : State), s.WarmedH U.vm → w.before a' U = true) ∧ Cond.codeWith y bytes maxL ret hh ∈ ws) ∧
  (Cond.codeWith y bytes maxL ret hh).before args s = true ∧ (Cond.initialized y.cls).before args s = true ∧ (y.cls ≠ "java/lang/invoke/MethodHandle" ∧ y.cls ≠ "java/lang/invoke/VarHandle") ∧
  (∀ sig, parseMethodDescriptor y.desc = some sig → n = sig.parameters.length) ∧ (Cond.methodLink own index y).before args s = true ∧ (Cond.static y).before args s = true
theorem vx_cwSW {own : String} {index maxL mc ms : Nat} {y : MethodName} {bytes : ByteArray} {ret : Option FieldType} {hh : List (Nat × Nat × Nat × Nat)} {Ts ws ws' : List Cond} {rm : Room} (n : Nat) (ht : ∀ w ∈ Ts, w.before args s = true) (hT : GoodIn Ts (va_wsS own index y ws)) (hw : ws = Cond.codeWith y bytes maxL ret hh :: ws') (hrc : rm.cells = mc) (hrs : rm.slots = ms)
    (hd : y.cls ≠ "java/lang/invoke/MethodHandle" ∧ y.cls ≠ "java/lang/invoke/VarHandle" ∧ (parseMethodDescriptor y.desc).map (fun d => d.parameters.length) = some n) (hR : rm.frames + 1 ≤ R.frames ∧ 8 + (maxL + 11) + rm.locals ≤ R.locals) :
    vx_CSW R s args own index y bytes maxL ret hh ws rm mc ms n := by
  have ok : ∀ w ∈ va_wsS own index y ws, w.before args s = true := fun w h => ht w (hT w h).1
  have hG : GoodIn Ts ws := fun w h => hT w (by unfold va_wsS; exact List.mem_append_right _ h)
  have hc : Cond.codeWith y bytes maxL ret hh ∈ ws := by rw [hw]; exact List.mem_cons_self
  refine ⟨⟨hrc, hrs, hR.1, hR.2, pay_in ht hG, hc⟩, ht _ (hG _ hc).1, ok _ (by simp [va_wsS]), ⟨hd.1, hd.2.1⟩, fun sig h => ?_, ok _ (by simp [va_wsS]), ok _ (by simp [va_wsS])⟩
  have h2 := hd.2.2
  rw [h] at h2
  exact (Option.some.inj h2).symm
theorem vx_callSW (X : Stand p l e R s m args below meth c T locs cells slots) (hexec : p.tables.exec = Jvm.exec) {own : String} {index : Nat} {y : MethodName} {bytes : ByteArray} {maxL : Nat} {ret : Option FieldType} {hh : List (Nat × Nat × Nat × Nat)}
    (hown : s.vm.findClass own = some m.cls) (hlink : (Cond.methodLink own index y).before args s = true) (hstat : (Cond.static y).before args s = true) (hinit : (Cond.initialized y.cls).before args s = true)
    (hcode : (Cond.codeWith y bytes maxL ret hh).before args s = true) (hy : y.cls ≠ "java/lang/invoke/MethodHandle" ∧ y.cls ≠ "java/lang/invoke/VarHandle")
    {W9 : Nat} {Pre : Pt → Array Value → Prop} {Post : Pt → Array Value → Option Value → Pt → Prop} (hK : Back l R p e below s args y 3 W9 Pre Post)
    {g : JFrame} (hg : g.method = m) (hsize : g.locals.size = c.maxLocals) {argsL rest : List Value} (hlen : ∀ sig, parseMethodDescriptor y.desc = some sig → argsL.length = sig.parameters.length)
    (hstack : g.stack = argsL.reverse ++ rest) (hW : 2 * g.monitorRoom + (rest.map fun v => v.category).sum ≤ W9) (hdg : decode c.code g.pc = .ok (.invokestatic index, 3))
    (hpre : ∀ vm₁, s.WarmedH vm₁ → Pre ⟨T.setVm vm₁, locs, cells, slots⟩ argsL.toArray) :
    ∃ (v : Option Value) (vm₁ : Vm) (B : Pt), s.WarmedH vm₁ ∧ Stand p l e R s m args below meth c B.U B.locs B.cells B.slots ∧ Post ⟨T.setVm vm₁, locs, cells, slots⟩ argsL.toArray v B ∧
      ∀ target, Steps p.tables e below (B.U.setTop { g with pc := g.pc + 3, stack := v.toList ++ rest }) target → Steps p.tables e below (T.setTop g) target := by
  obtain ⟨mk, methM, cM, hnamed, hmethM, -, -, -, -, -, -, hsigM⟩ := Cond.codeWith_spec hcode
  have hstatic : methM.isStatic = true := Cond.static_spec hnamed hmethM hstat
  obtain ⟨kP, hkP, -⟩ := className_of_methodNamed hnamed
  have hinitP : kP.init = .initialized := Cond.initialized_spec (findClass_of_methodNamed hnamed) hkP hinit
  obtain ⟨vm₁, X₁, hstep₁⟩ := X.invokestatic hexec hown hlink hnamed hmethM hstatic hkP hinitP hy (g := g) hg (argsL := argsL) (rest := rest) (hlen _ hsigM) hstack hdg
  obtain ⟨v, B, X', hpost, hsteps⟩ := hK m meth c ⟨T.setVm vm₁, locs, cells, slots⟩ { g with stack := rest } (.invokestatic index) mk argsL.toArray X₁ hg hsize hdg hW (X₁.named hnamed) (hpre vm₁ X₁.warmed)
  exact ⟨v, vm₁, B, X₁.warmed, X', hpost, fun target h => hstep₁ _ fun acts => by rw [doInvoke_state]; exact hsteps.trans h⟩
theorem vx_runSW {y : MethodName} {bytes cc : ByteArray} {maxL nL mc ms n index : Nat} {ret : Option FieldType} {hh : List (Nat × Nat × Nat × Nat)} {ws : List Cond} {rm : Room} {Pc : Array Value → State → Prop} {Qc : Array Value → State → Outcome → State → Prop} {free : Addr → Prop} {Ts : List Cond} {own : String} {As rest : List Value} {g : JFrame}
    (S : CallFix p m c cc nL s args Ts own) (hM : Met l y ws rm Pc Qc mc ms free) (cw : vx_CSW R s args own index y bytes maxL ret hh ws rm mc ms n) (hp : PreS s H Pc As)
    (hg : g.method = m) (hn : As.length = n) (hsize : g.locals.size = nL) (hstack : g.stack = As.reverse ++ rest) (hW : 2 * g.monitorRoom + (rest.map fun v => v.category).sum ≤ 8) (hdg : decode cc g.pc = .ok (.invokestatic index, 3)) (hf : cells + mc ≤ R.cells ∧ slots + ms ≤ R.slots) :
    va_Run p l e R s m args below meth c H locs cells slots mc ms g rest (Qc As.toArray) (free) := by
  obtain ⟨⟨hrc, hrs, hfr, hlo, hws, hcw⟩, hcode, hini, hy, hlen, hl, hstt⟩ := cw
  have hK : Back l R p e below s args y 3 8 (PreOf R mc ms Pc) (PostOf Qc mc ms free) := va_backW (hh := hh) (bytes := bytes) (maxL := maxL) (ret := ret) hM hp.1 hrc hrs hfr hlo hws hcw (fun a' U hW => word_at hW (Or.inl (by first | rfl | simp [Cond.onTables, Cond.keeps, Cond.steady])) hini)
  obtain ⟨hx, hb, hml, ho, -⟩ := S
  intro T hT X
  obtain ⟨v, vm₁, ⟨U', l2, c2, s2⟩, hW₁, X', ⟨g', mk, t, L, e1, e2, hq, h1, hL, h2, h3⟩, st⟩ := vx_callSW X hx (hh := hh) (bytes := bytes) (maxL := maxL) (ret := ret) ho hl hstt hini hcode hy hK hg (hsize.trans hml.symm) (argsL := As) (rest := rest) (fun sig h => hn.trans (hlen sig h)) hstack hW (by rw [hb]; exact hdg)
    (fun vm₁ hW₁ => ⟨hf.1, hf.2, hp.2 (T.setVm vm₁) hT hW₁⟩)
  dsimp only [Pt.U, Pt.locs, Pt.cells, Pt.slots] at X' e1 e2 h1 h2 h3 st
  subst h1; subst h2; subst h3
  exact ⟨v, (T.setVm vm₁).calling g' mk As.toArray, t, U', L, hT, X', hL, e1, e2, hq, st⟩
/-- not caught here, past rows that name other classes: it goes on to the caller -/
theorem vx_outP {p : Program} {l : Launch} {e : Env} {R : Room} {s : State} {m : MethodId} {args : Array Value} {below : List Frame} {meth : Method} {c : Code} {H : Heap} {locs : List Loc} {cells slots : Nat} {free : Addr → Prop} {ls : Array Slot} {rest : List Value} {Qc : Array Value → State → Outcome → State → Prop} {XC : String → State → State → Prop}
    {pc : Nat} {own E : String} {ce : Cell} {q : Addr} {mc ms : Nat} (hown : s.vm.findClass own = some m.cls) (hlocks : meth.locks = false)
    (hpass : ∀ z ∈ c.exceptionTable.toList, covers z pc = false ∨ (z.catchType ≠ 0 ∧ ∃ nm : String, (Cond.classLink own z.catchType nm).before args s = true ∧ va_Nc E nm s)) (hcell : H[q]? = some ce) (hv : ce.vm = .none) (hcl : s.vm.findClass E = some ce.cls)
    (hx : ∀ t : State, t.heap = H → s.vm.Alike t.vm → XC E s t) (hf : ∀ z ∈ locs, free z.base) (hc : cells ≤ mc) (hs : slots ≤ ms) :
    vx_W p l e R s m args below meth c H locs cells slots (vx_MQ below Qc XC args s mc ms free) (F0 m pc ls rest) q := by
  intro T hT X
  have hpl : e.platform.magicAccessors = ({} : Platform).magicAccessors := by rw [X.admits.platform]
  obtain ⟨vm', hW', X', st⟩ := X.outThrough hlocks q (g := F0 m pc ls rest) rfl rfl rfl (cell := ce) (by rw [hT]; exact hcell) (by rw [hv]; rfl)
    (by obtain ⟨k9, h9, -⟩ := Vm.findClass_spec hcl; exact ⟨k9, h9⟩) (fun z hz => by
      rcases hpass z hz with h | ⟨hz0, nm, hl1, hn1⟩
      · exact Or.inl h
      · obtain ⟨c6, hc6, hcl6⟩ := Cond.classLink_spec hown hl1 e.platform hpl
        obtain ⟨a8, b8, h1, h2, h3⟩ := hn1
        cases Option.some.inj (h1.symm.trans hcl)
        cases Option.some.inj (h2.symm.trans hc6)
        exact Or.inr ⟨hz0, _, hcl6, h3⟩)
  obtain ⟨g₀, hfr⟩ := X'.frames_eq
  have hcell9 : ((T.setVm vm').setFrames (.throwing q :: below)).heap[q]? = some ce := by
    show T.heap[q]? = some ce
    rw [hT]; exact hcell
  have hend : Ended ((T.setVm vm').setFrames (.throwing q :: below)) below (.threw q) := State.frames_setFrames _ (State.cur_lt_of_frames hfr)
  refine ⟨(T.setVm vm').setFrames (.throwing q :: below), ?_, .threw q, X'.here.running, hend, Or.inr ⟨q, rfl, E, ce, locs, hx _ hT (X'.ends _).1.alike, hcell9, hv, hcl, (X'.ends _).1, (X'.ends _).2.mono hc hs, hf⟩⟩
  rw [X.pushThrowing_eq]
  exact st
/-- a thing of a world lies in the heap -/
theorem vx_lt {D : va_G} {cl : List vw_C} {ws : va_W} {H1 : Heap} (h : va_P D cl ws H1) {k : Nat} {q : Nat × va_E} (hk : ws[k]? = some q) : q.1 < H1.size := (h k q hk).lt
end VXS
/-! ===== END ===== -/
/-! ===== BEGIN methods with a table of their own: called by a name, returning or throwing ===== -/
section VXH
/-! vx_backW, vx_callVX, vx_callSX, vx_callVW, vx_runVW, vx_runVX, vx_runSX, vx_ofWH follow the same proofs as their sisters above (Free/Laws.lean, Shelf42/LK1.lean); vx_outP calls Shelf42/NT130.lean (outThrough). -/
section
variable {l : Launch} {R : Room} {p : Program} {e : Env} {below : List Frame} {s : State} {sargs : Array Value} {y : MethodName} {len W9 : Nat}
theorem vx_backW {ws : List Cond} {rm : Room} {Pc : Array Value → State → Prop} {Qc : Array Value → State → Outcome → State → Prop} {XC : String → State → State → Prop} {mc ms : Nat} {free : Addr → Prop} {bytes : ByteArray} {maxL : Nat} {ret : Option FieldType} {hh : List (Nat × Nat × Nat × Nat)}
    (hM : vx_Met l y ws rm Pc Qc XC mc ms free) (hblind : FrameBlind Pc) (hrc : rm.cells = mc) (hrs : rm.slots = ms)
    (hframes : rm.frames + 1 ≤ R.frames) (hlocals : W9 + (maxL + 11) + rm.locals ≤ R.locals)
    (hws : ∀ w ∈ ws, ∀ a' U, s.WarmedH U.vm → w.before a' U = true) (hcode : Cond.codeWith y bytes maxL ret hh ∈ ws) (hinit : ∀ a' U, s.WarmedH U.vm → (Cond.initialized y.cls).before a' U = true) :
    vx_Back l R p e below s sargs y len W9 (PreOf R mc ms Pc) (PostOf Qc mc ms free) (vx_Post XC mc ms free) := by
  intro m meth c A g ig mk a X hg hsize hdg hW hn hp
  have h1 : (headSpec ws rm).pre.before a A.U = true := atoms_intro fun w hw => hws w hw _ _ X.warmed
  have h2 : (Cond.codeWith y bytes maxL ret hh).before a A.U = true := hws _ hcode _ _ X.warmed
  have h3 : (Cond.initialized y.cls).before a A.U = true := hinit _ _ X.warmed
  have h4 : A.cells + (headSpec ws rm).room.cells ≤ R.cells := by rw [show (headSpec ws rm).room.cells = mc from hrc]; exact hp.1
  have h5 : A.slots + (headSpec ws rm).room.slots ≤ R.slots := by rw [show (headSpec ws rm).room.slots = ms from hrs]; exact hp.2.1
  have hPc : Pc a (A.U.calling g mk a) := hblind _ _ _ _ hp.2.2
  obtain ⟨U, Ls, c0, s0⟩ := A
  dsimp only [Pt.U, Pt.locs, Pt.cells, Pt.slots] at h1 h2 h3 h4 h5 X hn hPc ⊢
  obtain ⟨m9, methY, cY, hn9, hmY, hcY, -, hlY, -⟩ := Cond.codeWith_spec h2
  cases Option.some.inj (hn9.symm.trans hn)
  obtain ⟨kY, hkY, -⟩ := className_of_methodNamed hn
  have hinitY : kY.init = .initialized := Cond.initialized_spec (findClass_of_methodNamed hn) hkY h3
  have h : At U g.method c below := by rw [hg]; exact X.here
  have hlocals9 : W9 + (maxL + 11) + (headSpec ws rm).room.locals ≤ R.locals := hlocals
  have happ : (headSpec ws rm).appliesLoose y e.platform (U.calling g mk a) = true :=
    Spec.appliesLoose_calling (g := g) h hdg hn hkY hinitY
      (X.room_calling (g := g) (R' := (headSpec ws rm).room) hsize hmY hcY hframes (by rw [hlY]; omega) h4 h5) h1
  obtain ⟨mid, hmid⟩ := h.above
  have hfr : (U.setTop g).frames = (.java g :: mid) ++ below := by rw [State.frames_setTop' g h.top, hmid]; rfl
  obtain ⟨o, s₂, hsteps, -, hend, hq⟩ := Steps.callFree hM p X.admits X.cas X.clock (acts := []) hfr happ hPc trivial
  have hq' : vx_Q Qc XC mc ms free a (U.calling g mk a) o s₂ := hq
  rw [State.frames_setTop' g h.top] at hend
  obtain ⟨g₀, hg0⟩ := Option.isSome_iff_exists.mp h.top
  obtain ⟨r, hr⟩ := State.topJava?_eq_some.mp hg0
  have hr' : (({ U with heap := s₂.heap, slotsUsed := s₂.slotsUsed } : State).setVm s₂.vm).frames = .java g₀ :: r := hr
  rcases hq' with ⟨hqc, L, hfe, hL⟩ | ⟨q, rfl, E, ce, L, hx, hce, hcv, hcl, hW₂, hsm, hL⟩
  · obtain ⟨⟨v, rfl⟩, hW₂, e2, q2, q3, q4, q5, q6⟩ := id hfe
    have e3 : s₂ = ({ (U.calling g mk a).setFrames s₂.frames with heap := s₂.heap, slotsUsed := s₂.slotsUsed } : State).setVm s₂.vm := by
      have : s₂ = ({ s₂ with vm := (U.calling g mk a).vm } : State).setVm s₂.vm := rfl
      rw [e2] at this
      exact this
    obtain ⟨c₂, i₂, len₂, hc₂, hd₂, hf₂⟩ := hend
    have hW' : U.WarmedH s₂.vm := hW₂
    have hcc : c₂ = c := by
      have h1 : s₂.code? g.method = U.code? g.method := by
        rw [State.code?_eq, State.code?_eq, hW'.alike.method?]
      exact Option.some.inj (hc₂.symm.trans (h1.trans h.code))
    subst hcc
    have hlen : len₂ = len := by rw [hdg] at hd₂; cases hd₂; rfl
    subst hlen
    have hs₂ : s₂ = (({ U with heap := s₂.heap, slotsUsed := s₂.slotsUsed } : State).setVm s₂.vm).setTop { g with pc := g.pc + len₂, stack := v.toList ++ g.stack } := by
      refine e3.trans ?_
      rw [hf₂, State.calling_eq h.top, State.setFrames_setFrames, State.setTop_of_frames _ hr', hr]
      rfl
    have hsame : U.sameButNew ({ U with heap := s₂.heap, slotsUsed := s₂.slotsUsed } : State) L mc ms := by
      refine ⟨?_, q2, q3, q4, q5, q6⟩
      obtain ⟨t, ht, -⟩ := State.frames_cons hr
      show ({ U with heap := s₂.heap, slotsUsed := s₂.slotsUsed } : State) = { U.setFrames U.frames with heap := s₂.heap, slotsUsed := s₂.slotsUsed }
      rw [State.setFrames_self ht]
    subst hg
    refine Or.inl ⟨v, ⟨(({ U with heap := s₂.heap, slotsUsed := s₂.slotsUsed } : State).setVm s₂.vm), Ls ++ L, c0 + mc, s0 + ms⟩,
      ⟨X.admits, X.cas, X.clock, X.frames, X.room, X.hears, X.method, X.code, (X.here.setHeapUsed s₂.heap s₂.slotsUsed).setVm hW'.alike, X.tail, State.WarmedH.trans X.warmed hW', X.limits, X.bytes, X.same.trans (hsame.setVm s.vm)⟩,
      ⟨g, mk, s₂, L, rfl, rfl, hqc, rfl, hL, rfl, rfl⟩, ?_⟩
    show Steps p.tables e below _ ((({ U with heap := s₂.heap, slotsUsed := s₂.slotsUsed } : State).setVm s₂.vm).setTop { g with pc := g.pc + len₂, stack := v.toList ++ g.stack })
    rw [← hs₂]
    exact hsteps
  · obtain ⟨e2, q2, q3, q4, q5, q6⟩ := id hsm
    have e3 : s₂ = ({ (U.calling g mk a).setFrames s₂.frames with heap := s₂.heap, slotsUsed := s₂.slotsUsed } : State).setVm s₂.vm := by
      have : s₂ = ({ s₂ with vm := (U.calling g mk a).vm } : State).setVm s₂.vm := rfl
      rw [e2] at this
      exact this
    have hf₂ : s₂.frames = .throwing q :: .java g :: U.frames.tail := hend
    have hW' : U.WarmedH s₂.vm := hW₂
    have hs₂ : s₂ = ((({ U with heap := s₂.heap, slotsUsed := s₂.slotsUsed } : State).setVm s₂.vm).setTop g).pushFrame (.throwing q) := by
      refine e3.trans ?_
      rw [hf₂, State.calling_eq h.top, State.setFrames_setFrames, State.pushFrame, State.frames_setTop _ hr', State.setTop_of_frames _ hr', State.setFrames_setFrames, hr]
      rfl
    have hsame : U.sameButNew ({ U with heap := s₂.heap, slotsUsed := s₂.slotsUsed } : State) L mc ms := by
      refine ⟨?_, q2, q3, q4, q5, q6⟩
      obtain ⟨t, ht, -⟩ := State.frames_cons hr
      show ({ U with heap := s₂.heap, slotsUsed := s₂.slotsUsed } : State) = { U.setFrames U.frames with heap := s₂.heap, slotsUsed := s₂.slotsUsed }
      rw [State.setFrames_self ht]
    subst hg
    refine Or.inr ⟨q, ⟨(({ U with heap := s₂.heap, slotsUsed := s₂.slotsUsed } : State).setVm s₂.vm), Ls ++ L, c0 + mc, s0 + ms⟩,
      ⟨X.admits, X.cas, X.clock, X.frames, X.room, X.hears, X.method, X.code, (X.here.setHeapUsed s₂.heap s₂.slotsUsed).setVm hW'.alike, X.tail, State.WarmedH.trans X.warmed hW', X.limits, X.bytes, X.same.trans (hsame.setVm s.vm)⟩,
      ⟨g, mk, s₂, L, E, ce, rfl, rfl, hx, hce, hcv, hcl, rfl, hL, rfl, rfl⟩, ?_⟩
    show Steps p.tables e below _ (((({ U with heap := s₂.heap, slotsUsed := s₂.slotsUsed } : State).setVm s₂.vm).setTop g).pushFrame (.throwing q))
    rw [← hs₂]
    exact hsteps
end
variable {p : Program} {l : Launch} {e : Env} {R : Room} {s : State} {m : MethodId} {args : Array Value} {below : List Frame} {meth : Method} {c : Code} {T : State} {H : Heap} {locs : List Loc} {cells slots : Nat}
theorem vx_callVX (X : Stand p l e R s m args below meth c T locs cells slots) (hexec : p.tables.exec = Jvm.exec) {own C : String} {index : Nat} {y : MethodName} {bytes : ByteArray} {maxL : Nat} {ret : Option FieldType} {hh : List (Nat × Nat × Nat × Nat)}
    (hown : s.vm.findClass own = some m.cls) (hlink : (Cond.methodLink own index y).before args s = true) (hinst : (Cond.instanceMethod y).before args s = true) (hsel : (Cond.selects C y y).before args s = true)
    (hcode : (Cond.codeWith y bytes maxL ret hh).before args s = true) (hy : y.cls ≠ "java/lang/invoke/MethodHandle" ∧ y.cls ≠ "java/lang/invoke/VarHandle")
    {W9 : Nat} {Pre : Pt → Array Value → Prop} {Post : Pt → Array Value → Option Value → Pt → Prop} {PostX : Pt → Array Value → Addr → Pt → Prop} (hK : vx_Back l R p e below s args y 3 W9 Pre Post PostX)
    {b : Addr} {cellB : Cell} (hcell : T.heap[b]? = some cellB) (hobj : cellB.vm.isStatics = false) (hcls : s.vm.findClass C = some cellB.cls)
    {g : JFrame} (hg : g.method = m) (hsize : g.locals.size = c.maxLocals) {argsL rest : List Value} (hlen : ∀ sig, parseMethodDescriptor y.desc = some sig → argsL.length = sig.parameters.length)
    (hstack : g.stack = argsL.reverse ++ .ref b :: rest) (hW : 2 * g.monitorRoom + (rest.map fun v => v.category).sum ≤ W9) (hdg : decode c.code g.pc = .ok (.invokevirtual index, 3))
    (hpre : ∀ vm₁, s.WarmedH vm₁ → Pre ⟨T.setVm vm₁, locs, cells, slots⟩ (Value.ref b :: argsL).toArray) :
    (∃ (v : Option Value) (vm₁ : Vm) (B : Pt), s.WarmedH vm₁ ∧ Stand p l e R s m args below meth c B.U B.locs B.cells B.slots ∧ Post ⟨T.setVm vm₁, locs, cells, slots⟩ (Value.ref b :: argsL).toArray v B ∧
      ∀ target, Steps p.tables e below (B.U.setTop { g with pc := g.pc + 3, stack := v.toList ++ rest }) target → Steps p.tables e below (T.setTop g) target) ∨
    (∃ (q : Addr) (vm₁ : Vm) (B : Pt), s.WarmedH vm₁ ∧ Stand p l e R s m args below meth c B.U B.locs B.cells B.slots ∧ PostX ⟨T.setVm vm₁, locs, cells, slots⟩ (Value.ref b :: argsL).toArray q B ∧
      Steps p.tables e below (T.setTop g) ((B.U.setTop { g with stack := rest }).pushFrame (.throwing q))) := by
  obtain ⟨mk, methM, hnamed, hmethM, hstM, habM⟩ := Cond.instanceMethod_spec hinst
  obtain ⟨m8, methM', cM, hn8, hmethM', -, -, -, -, -, -, hsigM⟩ := Cond.codeWith_spec hcode
  cases Option.some.inj (hn8.symm.trans hnamed)
  cases hmethM.symm.trans hmethM'
  obtain ⟨c2, r2, m2, q1, q2, q3, q4, kP, hkP, hkPi⟩ := Cond.selects_spec hsel
  cases hcls.symm.trans q1
  cases (State.methodFound?_of_named hnamed hy).symm.trans q2
  cases hnamed.symm.trans q3
  have hselP : selectMethod e.platform s.vm cellB.cls mk = .method mk := by rw [Launch.admits_selectMethod X.admits]; exact q4
  obtain ⟨vm₁, X₁, hstep₁⟩ := X.invokevirtual hexec hown hlink hnamed hmethM hstM hkP hkPi hy (a := b) (cell := cellB) hcell
    (fun z h => by rw [h] at hobj; cases hobj) hselP hmethM habM hkP hkPi (g := g) hg (argsL := argsL) (rest := rest) (hlen _ hsigM) hstack hdg
  rcases hK m meth c ⟨T.setVm vm₁, locs, cells, slots⟩ { g with stack := rest } (.invokevirtual index) mk (Value.ref b :: argsL).toArray X₁ hg hsize hdg hW (X₁.named hnamed) (hpre vm₁ X₁.warmed) with ⟨v, B, X', hpost, hsteps⟩ | ⟨q, B, X', hpost, hsteps⟩
  · exact Or.inl ⟨v, vm₁, B, X₁.warmed, X', hpost, fun target h => hstep₁ _ fun acts => by rw [doInvoke_state]; exact hsteps.trans h⟩
  · exact Or.inr ⟨q, vm₁, B, X₁.warmed, X', hpost, hstep₁ _ fun acts => by rw [doInvoke_state]; exact hsteps⟩
theorem vx_callSX (X : Stand p l e R s m args below meth c T locs cells slots) (hexec : p.tables.exec = Jvm.exec) {own : String} {index : Nat} {y : MethodName} {bytes : ByteArray} {maxL : Nat} {ret : Option FieldType} {hh : List (Nat × Nat × Nat × Nat)}
    (hown : s.vm.findClass own = some m.cls) (hlink : (Cond.methodLink own index y).before args s = true) (hstat : (Cond.static y).before args s = true) (hinit : (Cond.initialized y.cls).before args s = true)
    (hcode : (Cond.codeWith y bytes maxL ret hh).before args s = true) (hy : y.cls ≠ "java/lang/invoke/MethodHandle" ∧ y.cls ≠ "java/lang/invoke/VarHandle")
    {W9 : Nat} {Pre : Pt → Array Value → Prop} {Post : Pt → Array Value → Option Value → Pt → Prop} {PostX : Pt → Array Value → Addr → Pt → Prop} (hK : vx_Back l R p e below s args y 3 W9 Pre Post PostX)
    {g : JFrame} (hg : g.method = m) (hsize : g.locals.size = c.maxLocals) {argsL rest : List Value} (hlen : ∀ sig, parseMethodDescriptor y.desc = some sig → argsL.length = sig.parameters.length)
    (hstack : g.stack = argsL.reverse ++ rest) (hW : 2 * g.monitorRoom + (rest.map fun v => v.category).sum ≤ W9) (hdg : decode c.code g.pc = .ok (.invokestatic index, 3))
    (hpre : ∀ vm₁, s.WarmedH vm₁ → Pre ⟨T.setVm vm₁, locs, cells, slots⟩ argsL.toArray) :
    (∃ (v : Option Value) (vm₁ : Vm) (B : Pt), s.WarmedH vm₁ ∧ Stand p l e R s m args below meth c B.U B.locs B.cells B.slots ∧ Post ⟨T.setVm vm₁, locs, cells, slots⟩ argsL.toArray v B ∧
      ∀ target, Steps p.tables e below (B.U.setTop { g with pc := g.pc + 3, stack := v.toList ++ rest }) target → Steps p.tables e below (T.setTop g) target) ∨
    (∃ (q : Addr) (vm₁ : Vm) (B : Pt), s.WarmedH vm₁ ∧ Stand p l e R s m args below meth c B.U B.locs B.cells B.slots ∧ PostX ⟨T.setVm vm₁, locs, cells, slots⟩ argsL.toArray q B ∧
      Steps p.tables e below (T.setTop g) ((B.U.setTop { g with stack := rest }).pushFrame (.throwing q))) := by
  obtain ⟨mk, methM, cM, hnamed, hmethM, -, -, -, -, -, -, hsigM⟩ := Cond.codeWith_spec hcode
  have hstatic : methM.isStatic = true := Cond.static_spec hnamed hmethM hstat
  obtain ⟨kP, hkP, -⟩ := className_of_methodNamed hnamed
  have hinitP : kP.init = .initialized := Cond.initialized_spec (findClass_of_methodNamed hnamed) hkP hinit
  obtain ⟨vm₁, X₁, hstep₁⟩ := X.invokestatic hexec hown hlink hnamed hmethM hstatic hkP hinitP hy (g := g) hg (argsL := argsL) (rest := rest) (hlen _ hsigM) hstack hdg
  rcases hK m meth c ⟨T.setVm vm₁, locs, cells, slots⟩ { g with stack := rest } (.invokestatic index) mk argsL.toArray X₁ hg hsize hdg hW (X₁.named hnamed) (hpre vm₁ X₁.warmed) with ⟨v, B, X', hpost, hsteps⟩ | ⟨q, B, X', hpost, hsteps⟩
  · exact Or.inl ⟨v, vm₁, B, X₁.warmed, X', hpost, fun target h => hstep₁ _ fun acts => by rw [doInvoke_state]; exact hsteps.trans h⟩
  · exact Or.inr ⟨q, vm₁, B, X₁.warmed, X', hpost, hstep₁ _ fun acts => by rw [doInvoke_state]; exact hsteps⟩
theorem vx_callVW (X : Stand p l e R s m args below meth c T locs cells slots) (hexec : p.tables.exec = Jvm.exec) {own C : String} {index : Nat} {y : MethodName} {bytes : ByteArray} {maxL : Nat} {ret : Option FieldType} {hh : List (Nat × Nat × Nat × Nat)}
    (hown : s.vm.findClass own = some m.cls) (hlink : (Cond.methodLink own index y).before args s = true) (hinst : (Cond.instanceMethod y).before args s = true) (hsel : (Cond.selects C y y).before args s = true)
    (hcode : (Cond.codeWith y bytes maxL ret hh).before args s = true) (hy : y.cls ≠ "java/lang/invoke/MethodHandle" ∧ y.cls ≠ "java/lang/invoke/VarHandle")
    {W9 : Nat} {Pre : Pt → Array Value → Prop} {Post : Pt → Array Value → Option Value → Pt → Prop} (hK : Back l R p e below s args y 3 W9 Pre Post)
    {b : Addr} {cellB : Cell} (hcell : T.heap[b]? = some cellB) (hobj : cellB.vm.isStatics = false) (hcls : s.vm.findClass C = some cellB.cls)
    {g : JFrame} (hg : g.method = m) (hsize : g.locals.size = c.maxLocals) {argsL rest : List Value} (hlen : ∀ sig, parseMethodDescriptor y.desc = some sig → argsL.length = sig.parameters.length)
    (hstack : g.stack = argsL.reverse ++ .ref b :: rest) (hW : 2 * g.monitorRoom + (rest.map fun v => v.category).sum ≤ W9) (hdg : decode c.code g.pc = .ok (.invokevirtual index, 3))
    (hpre : ∀ vm₁, s.WarmedH vm₁ → Pre ⟨T.setVm vm₁, locs, cells, slots⟩ (Value.ref b :: argsL).toArray) :
    ∃ (v : Option Value) (vm₁ : Vm) (B : Pt), s.WarmedH vm₁ ∧ Stand p l e R s m args below meth c B.U B.locs B.cells B.slots ∧ Post ⟨T.setVm vm₁, locs, cells, slots⟩ (Value.ref b :: argsL).toArray v B ∧
      ∀ target, Steps p.tables e below (B.U.setTop { g with pc := g.pc + 3, stack := v.toList ++ rest }) target → Steps p.tables e below (T.setTop g) target := by
  obtain ⟨mk, methM, hnamed, hmethM, hstM, habM⟩ := Cond.instanceMethod_spec hinst
  obtain ⟨m8, methM', cM, hn8, hmethM', -, -, -, -, -, -, hsigM⟩ := Cond.codeWith_spec hcode
  cases Option.some.inj (hn8.symm.trans hnamed)
  cases hmethM.symm.trans hmethM'
  obtain ⟨c2, r2, m2, q1, q2, q3, q4, kP, hkP, hkPi⟩ := Cond.selects_spec hsel
  cases hcls.symm.trans q1
  cases (State.methodFound?_of_named hnamed hy).symm.trans q2
  cases hnamed.symm.trans q3
  have hselP : selectMethod e.platform s.vm cellB.cls mk = .method mk := by rw [Launch.admits_selectMethod X.admits]; exact q4
  obtain ⟨vm₁, X₁, hstep₁⟩ := X.invokevirtual hexec hown hlink hnamed hmethM hstM hkP hkPi hy (a := b) (cell := cellB) hcell
    (fun z h => by rw [h] at hobj; cases hobj) hselP hmethM habM hkP hkPi (g := g) hg (argsL := argsL) (rest := rest) (hlen _ hsigM) hstack hdg
  obtain ⟨v, B, X', hpost, hsteps⟩ := hK m meth c ⟨T.setVm vm₁, locs, cells, slots⟩ { g with stack := rest } (.invokevirtual index) mk (Value.ref b :: argsL).toArray X₁ hg hsize hdg hW (X₁.named hnamed) (hpre vm₁ X₁.warmed)
  exact ⟨v, vm₁, B, X₁.warmed, X', hpost, fun target h => hstep₁ _ fun acts => by rw [doInvoke_state]; exact hsteps.trans h⟩
abbrev vx_CVW (R : Room) (s : State) (args : Array Value) (own C : String) (index : Nat) (y : MethodName) (bytes : ByteArray) (maxL : Nat) (ret : Option FieldType) (hh : List (Nat × Nat × Nat × Nat)) (ws : List Cond) (rm : Room) (mc ms n : Nat) : Prop :=
  (rm.cells = mc ∧ rm.slots = ms ∧ rm.frames + 1 ≤ R.frames ∧ 8 + (maxL + 11) + rm.locals ≤ R.locals ∧ (∀ w ∈ ws, ∀ (a' : Array Value) (U : State), s.WarmedH U.vm → w.before a' U = true) ∧ Cond.codeWith y bytes maxL ret hh ∈ ws) ∧
  (Cond.codeWith y bytes maxL ret hh).before args s = true ∧ (Cond.initialized y.cls).before args s = true ∧ (y.cls ≠ "java/lang/invoke/MethodHandle" ∧ y.cls ≠ "java/lang/invoke/VarHandle") ∧
  (∀ sig, parseMethodDescriptor y.desc = some sig → n = sig.parameters.length) ∧ (Cond.methodLink own index y).before args s = true ∧ (Cond.instanceMethod y).before args s = true ∧ (Cond.selects C y y).before args s = true
theorem vx_cwVW {own C : String} {index maxL mc ms : Nat} {y : MethodName} {bytes : ByteArray} {ret : Option FieldType} {hh : List (Nat × Nat × Nat × Nat)} {Ts ws ws' : List Cond} {rm : Room} (n : Nat) (ht : ∀ w ∈ Ts, w.before args s = true) (hT : GoodIn Ts (wsV own index C y ws)) (hw : ws = Cond.codeWith y bytes maxL ret hh :: ws') (hrc : rm.cells = mc) (hrs : rm.slots = ms)
    (hd : y.cls = C ∧ y.cls ≠ "java/lang/invoke/MethodHandle" ∧ y.cls ≠ "java/lang/invoke/VarHandle" ∧ (parseMethodDescriptor y.desc).map (fun d => d.parameters.length) = some n) (hR : rm.frames + 1 ≤ R.frames ∧ 8 + (maxL + 11) + rm.locals ≤ R.locals) :
    vx_CVW R s args own C index y bytes maxL ret hh ws rm mc ms n := by
  obtain ⟨hC, hd⟩ := hd
  subst hC
  have ok : ∀ w ∈ wsV own index y.cls y ws, w.before args s = true := fun w h => ht w (hT w h).1
  have hG : GoodIn Ts ws := fun w h => hT w (by unfold wsV; exact List.mem_append_right _ h)
  have hc : Cond.codeWith y bytes maxL ret hh ∈ ws := by rw [hw]; exact List.mem_cons_self
  refine ⟨⟨hrc, hrs, hR.1, hR.2, pay_in ht hG, hc⟩, ht _ (hG _ hc).1, ok _ (by simp [wsV]), ⟨hd.1, hd.2.1⟩, fun sig h => ?_, ok _ (by simp [wsV]), ok _ (by simp [wsV]), ok _ (by simp [wsV])⟩
  have h2 := hd.2.2
  rw [h] at h2
  exact (Option.some.inj h2).symm
theorem vx_runVW {y : MethodName} {bytes cc : ByteArray} {maxL nL mc ms n index : Nat} {ret : Option FieldType} {hh : List (Nat × Nat × Nat × Nat)} {ws : List Cond} {rm : Room} {Pc : Array Value → State → Prop} {Qc : Array Value → State → Outcome → State → Prop} {free : Addr → Prop} {Ts : List Cond} {own C : String} {b : Addr} {As rest : List Value} {g : JFrame}
    (S : CallFix p m c cc nL s args Ts own) (hM : Met l y ws rm Pc Qc mc ms free) (cw : vx_CVW R s args own C index y bytes maxL ret hh ws rm mc ms n) (hp : PreV s H C b Pc As)
    (hg : g.method = m) (hn : As.length = n) (hsize : g.locals.size = nL) (hstack : g.stack = As.reverse ++ .ref b :: rest) (hW : 2 * g.monitorRoom + (rest.map fun v => v.category).sum ≤ 8) (hdg : decode cc g.pc = .ok (.invokevirtual index, 3)) (hf : cells + mc ≤ R.cells ∧ slots + ms ≤ R.slots) :
    va_Run p l e R s m args below meth c H locs cells slots mc ms g rest (Qc (Value.ref b :: As).toArray) free := by
  obtain ⟨⟨hrc, hrs, hfr, hlo, hws, hcw⟩, hcode, hini, hy, hlen, hl, hin, hse⟩ := cw
  have hK : Back l R p e below s args y 3 8 (PreOf R mc ms Pc) (PostOf Qc mc ms free) := va_backW (hh := hh) (bytes := bytes) (maxL := maxL) (ret := ret) hM hp.1 hrc hrs hfr hlo hws hcw (fun a' U hW => word_at hW (Or.inl (by first | rfl | simp [Cond.onTables, Cond.keeps, Cond.steady])) hini)
  obtain ⟨hx, hb, hml, ho, -⟩ := S
  obtain ⟨-, ⟨cellB, hcB, hoB, hclB⟩, hPc⟩ := hp
  intro T hT X
  obtain ⟨v, vm₁, ⟨U', l2, c2, s2⟩, hW₁, X', ⟨g', mk, t, L, e1, e2, hq, h1, hL, h2, h3⟩, st⟩ := vx_callVW X hx (C := C) (hh := hh) (bytes := bytes) (maxL := maxL) (ret := ret) ho hl hin hse hcode hy hK (by rw [hT]; exact hcB) hoB hclB hg (hsize.trans hml.symm) (argsL := As) (rest := rest) (fun sig h => hn.trans (hlen sig h)) hstack hW (by rw [hb]; exact hdg)
    (fun vm₁ hW₁ => ⟨hf.1, hf.2, hPc (T.setVm vm₁) hT hW₁⟩)
  dsimp only [Pt.U, Pt.locs, Pt.cells, Pt.slots] at X' e1 e2 h1 h2 h3 st
  subst h1; subst h2; subst h3
  exact ⟨v, (T.setVm vm₁).calling g' mk (Value.ref b :: As).toArray, t, U', L, hT, X', hL, e1, e2, hq, st⟩
section
variable {y : MethodName} {bytes cc : ByteArray} {maxL nL mc ms n index : Nat} {ret : Option FieldType} {ws : List Cond} {rm : Room} {Pc : Array Value → State → Prop} {Qc : Array Value → State → Outcome → State → Prop} {XC : String → State → State → Prop} {free : Addr → Prop} {Ts : List Cond} {own C : String} {b : Addr} {As rest : List Value} {g : JFrame}
theorem vx_runVX {hh : List (Nat × Nat × Nat × Nat)} (S : CallFix p m c cc nL s args Ts own) (hM : vx_Met l y ws rm Pc Qc XC mc ms free) (cw : vx_CVW R s args own C index y bytes maxL ret hh ws rm mc ms n) (hp : PreV s H C b Pc As)
    (hg : g.method = m) (hn : As.length = n) (hsize : g.locals.size = nL) (hstack : g.stack = As.reverse ++ .ref b :: rest) (hW : 2 * g.monitorRoom + (rest.map fun v => v.category).sum ≤ 8) (hdg : decode cc g.pc = .ok (.invokevirtual index, 3)) (hf : cells + mc ≤ R.cells ∧ slots + ms ≤ R.slots) :
    vx_Run p l e R s m args below meth c H locs cells slots mc ms g rest (Qc (Value.ref b :: As).toArray) XC free := by
  obtain ⟨⟨hrc, hrs, hfr, hlo, hws, hcw⟩, hcode, hini, hy, hlen, hl, hin, hse⟩ := cw
  have hK : vx_Back l R p e below s args y 3 8 (PreOf R mc ms Pc) (PostOf Qc mc ms free) (vx_Post XC mc ms free) := vx_backW (hh := hh) (bytes := bytes) (maxL := maxL) (ret := ret) hM hp.1 hrc hrs hfr hlo hws hcw (fun a' U hW => word_at hW (Or.inl (by first | rfl | simp [Cond.onTables, Cond.keeps, Cond.steady])) hini)
  obtain ⟨hx, hb, hml, ho, -⟩ := S
  obtain ⟨-, ⟨cellB, hcB, hoB, hclB⟩, hPc⟩ := hp
  intro T hT X
  rcases vx_callVX X hx (C := C) (hh := hh) (bytes := bytes) (maxL := maxL) (ret := ret) ho hl hin hse hcode hy hK (by rw [hT]; exact hcB) hoB hclB hg (hsize.trans hml.symm) (argsL := As) (rest := rest) (fun sig h => hn.trans (hlen sig h)) hstack hW (by rw [hb]; exact hdg)
    (fun vm₁ hW₁ => ⟨hf.1, hf.2, hPc (T.setVm vm₁) hT hW₁⟩) with ⟨v, vm₁, ⟨U', l2, c2, s2⟩, hW₁, X', ⟨g', mk, t, L, e1, e2, hq, h1, hL, h2, h3⟩, st⟩ | ⟨q, vm₁, ⟨U', l2, c2, s2⟩, hW₁, X', ⟨g', mk, t, L, E, ce, e1, e2, hq, hce, hcv, hcl, h1, hL, h2, h3⟩, st⟩
  · dsimp only [Pt.U, Pt.locs, Pt.cells, Pt.slots] at X' e1 e2 h1 h2 h3 st
    subst h1; subst h2; subst h3
    exact Or.inl ⟨v, (T.setVm vm₁).calling g' mk (Value.ref b :: As).toArray, t, U', L, hT, X', hL, e1, e2, hq, st⟩
  · dsimp only [Pt.U, Pt.locs, Pt.cells, Pt.slots] at X' e1 e2 h1 h2 h3 st hcl
    subst h1; subst h2; subst h3
    exact Or.inr ⟨q, (T.setVm vm₁).calling g' mk (Value.ref b :: As).toArray, t, U', L, E, ce, hT, X', hL, e1, e2, hq, hce, hcv, vx_cls hW₁ hcl, st⟩
theorem vx_runSX {hh : List (Nat × Nat × Nat × Nat)} (S : CallFix p m c cc nL s args Ts own) (hM : vx_Met l y ws rm Pc Qc XC mc ms free) (cw : vx_CSW R s args own index y bytes maxL ret hh ws rm mc ms n) (hp : PreS s H Pc As)
    (hg : g.method = m) (hn : As.length = n) (hsize : g.locals.size = nL) (hstack : g.stack = As.reverse ++ rest) (hW : 2 * g.monitorRoom + (rest.map fun v => v.category).sum ≤ 8) (hdg : decode cc g.pc = .ok (.invokestatic index, 3)) (hf : cells + mc ≤ R.cells ∧ slots + ms ≤ R.slots) :
    vx_Run p l e R s m args below meth c H locs cells slots mc ms g rest (Qc As.toArray) XC free := by
  obtain ⟨⟨hrc, hrs, hfr, hlo, hws, hcw⟩, hcode, hini, hy, hlen, hl, hstt⟩ := cw
  have hK : vx_Back l R p e below s args y 3 8 (PreOf R mc ms Pc) (PostOf Qc mc ms free) (vx_Post XC mc ms free) := vx_backW (hh := hh) (bytes := bytes) (maxL := maxL) (ret := ret) hM hp.1 hrc hrs hfr hlo hws hcw (fun a' U hW => word_at hW (Or.inl (by first | rfl | simp [Cond.onTables, Cond.keeps, Cond.steady])) hini)
  obtain ⟨hx, hb, hml, ho, -⟩ := S
  intro T hT X
  rcases vx_callSX X hx (hh := hh) (bytes := bytes) (maxL := maxL) (ret := ret) ho hl hstt hini hcode hy hK hg (hsize.trans hml.symm) (argsL := As) (rest := rest) (fun sig h => hn.trans (hlen sig h)) hstack hW (by rw [hb]; exact hdg)
    (fun vm₁ hW₁ => ⟨hf.1, hf.2, hp.2 (T.setVm vm₁) hT hW₁⟩) with ⟨v, vm₁, ⟨U', l2, c2, s2⟩, hW₁, X', ⟨g', mk, t, L, e1, e2, hq, h1, hL, h2, h3⟩, st⟩ | ⟨q, vm₁, ⟨U', l2, c2, s2⟩, hW₁, X', ⟨g', mk, t, L, E, ce, e1, e2, hq, hce, hcv, hcl, h1, hL, h2, h3⟩, st⟩
  · dsimp only [Pt.U, Pt.locs, Pt.cells, Pt.slots] at X' e1 e2 h1 h2 h3 st
    subst h1; subst h2; subst h3
    exact Or.inl ⟨v, (T.setVm vm₁).calling g' mk As.toArray, t, U', L, hT, X', hL, e1, e2, hq, st⟩
  · dsimp only [Pt.U, Pt.locs, Pt.cells, Pt.slots] at X' e1 e2 h1 h2 h3 st hcl
    subst h1; subst h2; subst h3
    exact Or.inr ⟨q, (T.setVm vm₁).calling g' mk As.toArray, t, U', L, E, ce, hT, X', hL, e1, e2, hq, hce, hcv, vx_cls hW₁ hcl, st⟩
end
end VXH
theorem vx_ofWH {l : Launch} {y : MethodName} {ws ws' : List Cond} {rm : Room} {Pc : Array Value → State → Prop} {Qc : Array Value → State → Outcome → State → Prop} {XC : String → State → State → Prop} {mc ms : Nat} {free : Addr → Prop} {cc : ByteArray} {maxL : Nat} {ret : Option FieldType} {hh : List (Nat × Nat × Nat × Nat)}
    (hy : plainName y.cls = true) (hw : ws = Cond.codeWith y cc maxL ret hh :: ws')
    (body : ∀ p e s m args below meth c s₁, BodyLoose p l y (headSpec ws rm) cc maxL ret e s m args below meth c s₁ → c.maxLocals = maxL → Pc args s →
      W p l e (headSpec ws rm).room s m args below meth c s.heap [] 0 0 (vx_MQ below Qc XC args s mc ms free) (entryFrame m args maxL)) : vx_Met l y ws rm Pc Qc XC mc ms free := by
  refine MetFree.of_bodyS (code := cc) (maxLocals := maxL) (ret := ret) hy ?_ ?_
  · intro args s m h hn
    obtain ⟨m9, meth, c, hn9, h1, h2, h3, h4, -, h5, h6, -⟩ := Cond.codeWith_spec (atoms_spec (ws := ws) h _ (by rw [hw]; exact List.mem_cons_self))
    cases hn.symm.trans hn9
    exact ⟨meth, c, h1, h2, h3, h4, h5, h6⟩
  · intro p e s m args below meth c s₁ B hml hP _
    have hh0 : s₁.heap = s.heap := by rw [B.state]; rfl
    obtain ⟨t, a1, o, b1, b2, b3⟩ := body p e s m args below meth c s₁ B hml hP s₁ hh0 (Stand.of_body B)
    exact ⟨t, o, a1, b1, b2, b3⟩
/-! ===== END ===== -/
end
section
/-! ===== BEGIN printed: names, fields, word lists, decode rows ===== -/
def RX0 : String := "StampVendor$PrintTable"
def TX0 : u_T := fun k => match k with
  | 0 => ("StampVendor$PrintTable", "fewestFor", "[I", true)
  | 1 => ("StampVendor$PrintTable", "fewestWithValue", "[I", true)
  | _ => ("StampVendor$PrintTable", "choices", "[[I", true)
def tyX0 : Nat → FieldType := fun k => match k with
  | 0 => .array .int
  | 1 => .array .int
  | _ => .array (.array .int)
abbrev wsX00 : List Cond := u_ws RX0 TX0 3
theorem nmX0 : ∀ a, a < 3 → ∀ b, b < 3 → a ≠ b → (TX0 a).2.1 ≠ (TX0 b).2.1 := by decide +kernel
theorem tyX0_ok : ∀ k, k < 3 → parseFieldDescriptor (TX0 k).2.2.1 = some (tyX0 k) := by decide +kernel
abbrev cX0_init : ByteArray := prog_2_method_1_code
def yX0_init : MethodName := ⟨RX0, "<init>", "()V"⟩
abbrev cX0_fill : ByteArray := prog_2_method_2_code
def yX0_fill : MethodName := ⟨RX0, "fill", "(LStampVendor$Stamps;)V"⟩
abbrev cX0_fewestWithin : ByteArray := prog_2_method_3_code
def yX0_fewestWithin : MethodName := ⟨RX0, "fewestWithin", "(II)I"⟩
abbrev cX0_reachWithin : ByteArray := prog_2_method_4_code
def yX0_reachWithin : MethodName := ⟨RX0, "reachWithin", "(I)I"⟩
abbrev cX0_firstGap : ByteArray := prog_2_method_5_code
def yX0_firstGap : MethodName := ⟨RX0, "firstGap", "(II)I"⟩
abbrev cX0_countGaps : ByteArray := prog_2_method_6_code
def yX0_countGaps : MethodName := ⟨RX0, "countGaps", "(II)I"⟩
abbrev cX0_reachWithValue : ByteArray := prog_2_method_7_code
def yX0_reachWithValue : MethodName := ⟨RX0, "reachWithValue", "(II)I"⟩
abbrev cX0_countChoices : ByteArray := prog_2_method_8_code
def yX0_countChoices : MethodName := ⟨RX0, "countChoices", "(LStampVendor$Stamps;II)I"⟩
abbrev cX0_clearChoices : ByteArray := prog_2_method_9_code
def yX0_clearChoices : MethodName := ⟨RX0, "clearChoices", "(II)V"⟩
abbrev cX0_addChoicesWith : ByteArray := prog_2_method_10_code
def yX0_addChoicesWith : MethodName := ⟨RX0, "addChoicesWith", "(III)V"⟩
def RX1 : String := "StampVendor$Stamps"
def TX1 : u_T := fun k => match k with
  | 0 => ("StampVendor$Stamps", "value", "[I", true)
  | 1 => ("StampVendor$Stamps", "stock", "[I", true)
  | 2 => ("StampVendor$Stamps", "vended", "[I", true)
  | _ => ("StampVendor$Stamps", "count", "I", false)
def tyX1 : Nat → FieldType := fun k => match k with
  | 0 => .array .int
  | 1 => .array .int
  | 2 => .array .int
  | _ => .int
abbrev wsX10 : List Cond := u_ws RX1 TX1 4
theorem nmX1 : ∀ a, a < 4 → ∀ b, b < 4 → a ≠ b → (TX1 a).2.1 ≠ (TX1 b).2.1 := by decide +kernel
theorem tyX1_ok : ∀ k, k < 4 → parseFieldDescriptor (TX1 k).2.2.1 = some (tyX1 k) := by decide +kernel
abbrev cX1_init : ByteArray := prog_3_method_1_code
def yX1_init : MethodName := ⟨RX1, "<init>", "()V"⟩
abbrev cX1_hasValue : ByteArray := prog_3_method_2_code
def yX1_hasValue : MethodName := ⟨RX1, "hasValue", "(I)Z"⟩
abbrev cX1_countAbove : ByteArray := prog_3_method_3_code
def yX1_countAbove : MethodName := ⟨RX1, "countAbove", "(I)I"⟩
abbrev cX1_append : ByteArray := prog_3_method_4_code
def yX1_append : MethodName := ⟨RX1, "append", "(II)I"⟩
abbrev cX1_removeAt : ByteArray := prog_3_method_5_code
def yX1_removeAt : MethodName := ⟨RX1, "removeAt", "(I)V"⟩
abbrev cX1_copyFrom : ByteArray := prog_3_method_6_code
def yX1_copyFrom : MethodName := ⟨RX1, "copyFrom", "(LStampVendor$Stamps;)V"⟩
abbrev cX1_holds : ByteArray := prog_3_method_7_code
def yX1_holds : MethodName := ⟨RX1, "holds", "([I)Z"⟩
abbrev cX1_take : ByteArray := prog_3_method_8_code
def yX1_take : MethodName := ⟨RX1, "take", "([I)V"⟩
def RX2 : String := "StampVendor$StockTable"
def TX2 : u_T := fun k => match k with
  | 0 => ("StampVendor$StockTable", "fewestFrom", "[[I", true)
  | 1 => ("StampVendor$StockTable", "stampAt", "[I", true)
  | 2 => ("StampVendor$StockTable", "valueAt", "[I", true)
  | 3 => ("StampVendor$StockTable", "usableAt", "[I", true)
  | 4 => ("StampVendor$StockTable", "count", "I", false)
  | 5 => ("StampVendor$StockTable", "room", "I", false)
  | _ => ("StampVendor$StockTable", "chosen", "[I", true)
def tyX2 : Nat → FieldType := fun k => match k with
  | 0 => .array (.array .int)
  | 1 => .array .int
  | 2 => .array .int
  | 3 => .array .int
  | 4 => .int
  | 5 => .int
  | _ => .array .int
abbrev wsX20 : List Cond := u_ws RX2 TX2 7
theorem nmX2 : ∀ a, a < 7 → ∀ b, b < 7 → a ≠ b → (TX2 a).2.1 ≠ (TX2 b).2.1 := by decide +kernel
theorem tyX2_ok : ∀ k, k < 7 → parseFieldDescriptor (TX2 k).2.2.1 = some (tyX2 k) := by decide +kernel
abbrev cX2_init : ByteArray := prog_4_method_1_code
def yX2_init : MethodName := ⟨RX2, "<init>", "()V"⟩
abbrev cX2_rank : ByteArray := prog_4_method_2_code
def yX2_rank : MethodName := ⟨RX2, "rank", "(LStampVendor$Stamps;I)V"⟩
abbrev cX2_fill : ByteArray := prog_4_method_3_code
def yX2_fill : MethodName := ⟨RX2, "fill", "(LStampVendor$Stamps;I)V"⟩
abbrev cX2_fillRow : ByteArray := prog_4_method_4_code
def yX2_fillRow : MethodName := ⟨RX2, "fillRow", "(I)V"⟩
abbrev cX2_pays : ByteArray := prog_4_method_5_code
def yX2_pays : MethodName := ⟨RX2, "pays", "(I)Z"⟩
abbrev cX2_leastSum : ByteArray := prog_4_method_6_code
def yX2_leastSum : MethodName := ⟨RX2, "leastSum", "(I)I"⟩
abbrev cX2_moreThan : ByteArray := prog_4_method_7_code
def yX2_moreThan : MethodName := ⟨RX2, "moreThan", "(I)I"⟩
abbrev cX2_stampsOnLetter : ByteArray := prog_4_method_8_code
def yX2_stampsOnLetter : MethodName := ⟨RX2, "stampsOnLetter", "(I)I"⟩
abbrev cX2_choose : ByteArray := prog_4_method_9_code
def yX2_choose : MethodName := ⟨RX2, "choose", "(I)V"⟩
abbrev cX2_mostOf : ByteArray := prog_4_method_10_code
def yX2_mostOf : MethodName := ⟨RX2, "mostOf", "(II)I"⟩
abbrev cX2_reachOfStock : ByteArray := prog_4_method_11_code
def yX2_reachOfStock : MethodName := ⟨RX2, "reachOfStock", "()I"⟩
abbrev cX2_greatestSum : ByteArray := prog_4_method_12_code
def yX2_greatestSum : MethodName := ⟨RX2, "greatestSum", "()I"⟩
def RX3 : String := "StampVendor"
def TX3 : u_T := fun k => match k with
  | 0 => ("StampVendor", "stamps", "LStampVendor$Stamps;", true)
  | 1 => ("StampVendor", "trial", "LStampVendor$Stamps;", true)
  | 2 => ("StampVendor", "byStock", "LStampVendor$StockTable;", true)
  | 3 => ("StampVendor", "byPrint", "LStampVendor$PrintTable;", true)
  | 4 => ("StampVendor", "room", "I", false)
  | 5 => ("StampVendor", "letters", "I", false)
  | 6 => ("StampVendor", "taken", "I", false)
  | _ => ("StampVendor", "overpaid", "I", false)
def tyX3 : Nat → FieldType := fun k => match k with
  | 0 => .object "StampVendor$Stamps"
  | 1 => .object "StampVendor$Stamps"
  | 2 => .object "StampVendor$StockTable"
  | 3 => .object "StampVendor$PrintTable"
  | 4 => .int
  | 5 => .int
  | 6 => .int
  | _ => .int
abbrev wsX30 : List Cond := u_ws RX3 TX3 8
theorem nmX3 : ∀ a, a < 8 → ∀ b, b < 8 → a ≠ b → (TX3 a).2.1 ≠ (TX3 b).2.1 := by decide +kernel
theorem tyX3_ok : ∀ k, k < 8 → parseFieldDescriptor (TX3 k).2.2.1 = some (tyX3 k) := by decide +kernel
abbrev cX3_init : ByteArray := prog_1_method_1_code
def yX3_init : MethodName := ⟨RX3, "<init>", "()V"⟩
abbrev cX3_addStamp : ByteArray := prog_1_method_2_code
def yX3_addStamp : MethodName := ⟨RX3, "addStamp", "(II)I"⟩
abbrev cX3_withdraw : ByteArray := prog_1_method_3_code
def yX3_withdraw : MethodName := ⟨RX3, "withdraw", "(I)I"⟩
abbrev cX3_print : ByteArray := prog_1_method_4_code
def yX3_print : MethodName := ⟨RX3, "print", "(II)I"⟩
abbrev cX3_setRoom : ByteArray := prog_1_method_5_code
def yX3_setRoom : MethodName := ⟨RX3, "setRoom", "(I)I"⟩
abbrev cX3_vend : ByteArray := prog_1_method_6_code
def yX3_vend : MethodName := ⟨RX3, "vend", "(I)I"⟩
abbrev cX3_stamps : ByteArray := prog_1_method_7_code
def yX3_stamps : MethodName := ⟨RX3, "stamps", "()I"⟩
abbrev cX3_room : ByteArray := prog_1_method_8_code
def yX3_room : MethodName := ⟨RX3, "room", "()I"⟩
abbrev cX3_valueOf : ByteArray := prog_1_method_9_code
def yX3_valueOf : MethodName := ⟨RX3, "valueOf", "(I)I"⟩
abbrev cX3_stockOf : ByteArray := prog_1_method_10_code
def yX3_stockOf : MethodName := ⟨RX3, "stockOf", "(I)I"⟩
abbrev cX3_vendedOf : ByteArray := prog_1_method_11_code
def yX3_vendedOf : MethodName := ⟨RX3, "vendedOf", "(I)I"⟩
abbrev cX3_letters : ByteArray := prog_1_method_12_code
def yX3_letters : MethodName := ⟨RX3, "letters", "()I"⟩
abbrev cX3_taken : ByteArray := prog_1_method_13_code
def yX3_taken : MethodName := ⟨RX3, "taken", "()I"⟩
abbrev cX3_overpaid : ByteArray := prog_1_method_14_code
def yX3_overpaid : MethodName := ⟨RX3, "overpaid", "()I"⟩
abbrev cX3_scarcest : ByteArray := prog_1_method_15_code
def yX3_scarcest : MethodName := ⟨RX3, "scarcest", "()I"⟩
abbrev cX3_canPay : ByteArray := prog_1_method_16_code
def yX3_canPay : MethodName := ⟨RX3, "canPay", "(I)Z"⟩
abbrev cX3_overpay : ByteArray := prog_1_method_17_code
def yX3_overpay : MethodName := ⟨RX3, "overpay", "(I)I"⟩
abbrev cX3_stampsFor : ByteArray := prog_1_method_18_code
def yX3_stampsFor : MethodName := ⟨RX3, "stampsFor", "(I)I"⟩
abbrev cX3_ofStampFor : ByteArray := prog_1_method_19_code
def yX3_ofStampFor : MethodName := ⟨RX3, "ofStampFor", "(II)I"⟩
abbrev cX3_reachNow : ByteArray := prog_1_method_20_code
def yX3_reachNow : MethodName := ⟨RX3, "reachNow", "()I"⟩
abbrev cX3_most : ByteArray := prog_1_method_21_code
def yX3_most : MethodName := ⟨RX3, "most", "()I"⟩
abbrev cX3_fewest : ByteArray := prog_1_method_22_code
def yX3_fewest : MethodName := ⟨RX3, "fewest", "(I)I"⟩
abbrev cX3_ways : ByteArray := prog_1_method_23_code
def yX3_ways : MethodName := ⟨RX3, "ways", "(I)I"⟩
abbrev cX3_reach : ByteArray := prog_1_method_24_code
def yX3_reach : MethodName := ⟨RX3, "reach", "()I"⟩
abbrev cX3_gapFrom : ByteArray := prog_1_method_25_code
def yX3_gapFrom : MethodName := ⟨RX3, "gapFrom", "(I)I"⟩
abbrev cX3_gapsTo : ByteArray := prog_1_method_26_code
def yX3_gapsTo : MethodName := ⟨RX3, "gapsTo", "(I)I"⟩
abbrev cX3_lettersOf : ByteArray := prog_1_method_27_code
def yX3_lettersOf : MethodName := ⟨RX3, "lettersOf", "(I)I"⟩
abbrev cX3_bestValue : ByteArray := prog_1_method_28_code
def yX3_bestValue : MethodName := ⟨RX3, "bestValue", "()I"⟩
abbrev cX3_bestToPrint : ByteArray := prog_1_method_29_code
def yX3_bestToPrint : MethodName := ⟨RX3, "bestToPrint", "()I"⟩
abbrev cX3_reachWithRoom : ByteArray := prog_1_method_30_code
def yX3_reachWithRoom : MethodName := ⟨RX3, "reachWithRoom", "(I)I"⟩
abbrev cX3_meanValue : ByteArray := prog_1_method_31_code
def yX3_meanValue : MethodName := ⟨RX3, "meanValue", "()D"⟩
abbrev cX3_digest : ByteArray := prog_1_method_32_code
def yX3_digest : MethodName := ⟨RX3, "digest", "()J"⟩
abbrev cX3_digestStamps : ByteArray := prog_1_method_33_code
def yX3_digestStamps : MethodName := ⟨RX3, "digestStamps", "(J)J"⟩
abbrev cX3_digestPostages : ByteArray := prog_1_method_34_code
def yX3_digestPostages : MethodName := ⟨RX3, "digestPostages", "(J)J"⟩
abbrev cX3_checkStamp : ByteArray := prog_1_method_35_code
def yX3_checkStamp : MethodName := ⟨RX3, "checkStamp", "(I)V"⟩
abbrev cX3_checkPostage : ByteArray := prog_1_method_36_code
def yX3_checkPostage : MethodName := ⟨RX3, "checkPostage", "(I)V"⟩
abbrev cX3_checkRoom : ByteArray := prog_1_method_37_code
def yX3_checkRoom : MethodName := ⟨RX3, "checkRoom", "(I)V"⟩
def RX4 : String := "StampVendorModel"
def TX4 : u_T := fun k => match k with
  | 0 => ("StampVendorModel", "thrown", "I", false)
  | 1 => ("StampVendorModel", "stamps", "I", false)
  | 2 => ("StampVendorModel", "room", "I", false)
  | 3 => ("StampVendorModel", "letters", "I", false)
  | 4 => ("StampVendorModel", "taken", "I", false)
  | 5 => ("StampVendorModel", "overpaid", "I", false)
  | 6 => ("StampVendorModel", "value", "[I", true)
  | 7 => ("StampVendorModel", "stock", "[I", true)
  | 8 => ("StampVendorModel", "vended", "[I", true)
  | 9 => ("StampVendorModel", "order", "[I", true)
  | 10 => ("StampVendorModel", "few", "[[I", true)
  | 11 => ("StampVendorModel", "gets", "[I", true)
  | 12 => ("StampVendorModel", "print", "[I", true)
  | _ => ("StampVendorModel", "ways", "[[I", true)
def tyX4 : Nat → FieldType := fun k => match k with
  | 0 => .int
  | 1 => .int
  | 2 => .int
  | 3 => .int
  | 4 => .int
  | 5 => .int
  | 6 => .array .int
  | 7 => .array .int
  | 8 => .array .int
  | 9 => .array .int
  | 10 => .array (.array .int)
  | 11 => .array .int
  | 12 => .array .int
  | _ => .array (.array .int)
abbrev wsX40 : List Cond := u_ws RX4 TX4 14
theorem nmX4 : ∀ a, a < 14 → ∀ b, b < 14 → a ≠ b → (TX4 a).2.1 ≠ (TX4 b).2.1 := by decide +kernel
theorem tyX4_ok : ∀ k, k < 14 → parseFieldDescriptor (TX4 k).2.2.1 = some (tyX4 k) := by decide +kernel
abbrev cX4_init : ByteArray := prog_6_method_1_code
def yX4_init : MethodName := ⟨RX4, "<init>", "()V"⟩
abbrev cX4_thrown : ByteArray := prog_6_method_2_code
def yX4_thrown : MethodName := ⟨RX4, "thrown", "()I"⟩
abbrev cX4_no : ByteArray := prog_6_method_3_code
def yX4_no : MethodName := ⟨RX4, "no", "(I)I"⟩
abbrev cX4_isNot : ByteArray := prog_6_method_4_code
def yX4_isNot : MethodName := ⟨RX4, "isNot", "(I)Z"⟩
abbrev cX4_ok : ByteArray := prog_6_method_5_code
def yX4_ok : MethodName := ⟨RX4, "ok", "(I)I"⟩
abbrev cX4_isIn : ByteArray := prog_6_method_6_code
def yX4_isIn : MethodName := ⟨RX4, "isIn", "(III)Z"⟩
abbrev cX4_isStamp : ByteArray := prog_6_method_7_code
def yX4_isStamp : MethodName := ⟨RX4, "isStamp", "(I)Z"⟩
abbrev cX4_isPostage : ByteArray := prog_6_method_8_code
def yX4_isPostage : MethodName := ⟨RX4, "isPostage", "(I)Z"⟩
abbrev cX4_isThere : ByteArray := prog_6_method_9_code
def yX4_isThere : MethodName := ⟨RX4, "isThere", "(I)Z"⟩
abbrev cX4_sort : ByteArray := prog_6_method_10_code
def yX4_sort : MethodName := ⟨RX4, "sort", "()V"⟩
abbrev cX4_with : ByteArray := prog_6_method_11_code
def yX4_with : MethodName := ⟨RX4, "with", "(I)V"⟩
abbrev cX4_table : ByteArray := prog_6_method_12_code
def yX4_table : MethodName := ⟨RX4, "table", "()V"⟩
abbrev cX4_pays : ByteArray := prog_6_method_13_code
def yX4_pays : MethodName := ⟨RX4, "pays", "(I)Z"⟩
abbrev cX4_covers : ByteArray := prog_6_method_14_code
def yX4_covers : MethodName := ⟨RX4, "covers", "(I)I"⟩
abbrev cX4_take : ByteArray := prog_6_method_15_code
def yX4_take : MethodName := ⟨RX4, "take", "(I)V"⟩
abbrev cX4_reached : ByteArray := prog_6_method_16_code
def yX4_reached : MethodName := ⟨RX4, "reached", "()I"⟩
abbrev cX4_give : ByteArray := prog_6_method_17_code
def yX4_give : MethodName := ⟨RX4, "give", "(I)I"⟩
abbrev cX4_printed : ByteArray := prog_6_method_18_code
def yX4_printed : MethodName := ⟨RX4, "printed", "(I)V"⟩
abbrev cX4_printReach : ByteArray := prog_6_method_19_code
def yX4_printReach : MethodName := ⟨RX4, "printReach", "(II)I"⟩
abbrev cX4_allWays : ByteArray := prog_6_method_20_code
def yX4_allWays : MethodName := ⟨RX4, "allWays", "(I)I"⟩
abbrev cX4_addStamp : ByteArray := prog_6_method_21_code
def yX4_addStamp : MethodName := ⟨RX4, "addStamp", "(II)I"⟩
abbrev cX4_close : ByteArray := prog_6_method_22_code
def yX4_close : MethodName := ⟨RX4, "close", "([III)V"⟩
abbrev cX4_withdraw : ByteArray := prog_6_method_23_code
def yX4_withdraw : MethodName := ⟨RX4, "withdraw", "(I)I"⟩
abbrev cX4_print : ByteArray := prog_6_method_24_code
def yX4_print : MethodName := ⟨RX4, "print", "(II)I"⟩
abbrev cX4_setRoom : ByteArray := prog_6_method_25_code
def yX4_setRoom : MethodName := ⟨RX4, "setRoom", "(I)I"⟩
abbrev cX4_vend : ByteArray := prog_6_method_26_code
def yX4_vend : MethodName := ⟨RX4, "vend", "(I)I"⟩
abbrev cX4_stamps : ByteArray := prog_6_method_27_code
def yX4_stamps : MethodName := ⟨RX4, "stamps", "()I"⟩
abbrev cX4_room : ByteArray := prog_6_method_28_code
def yX4_room : MethodName := ⟨RX4, "room", "()I"⟩
abbrev cX4_of : ByteArray := prog_6_method_29_code
def yX4_of : MethodName := ⟨RX4, "of", "(I[I)I"⟩
abbrev cX4_valueOf : ByteArray := prog_6_method_30_code
def yX4_valueOf : MethodName := ⟨RX4, "valueOf", "(I)I"⟩
abbrev cX4_stockOf : ByteArray := prog_6_method_31_code
def yX4_stockOf : MethodName := ⟨RX4, "stockOf", "(I)I"⟩
abbrev cX4_vendedOf : ByteArray := prog_6_method_32_code
def yX4_vendedOf : MethodName := ⟨RX4, "vendedOf", "(I)I"⟩
abbrev cX4_letters : ByteArray := prog_6_method_33_code
def yX4_letters : MethodName := ⟨RX4, "letters", "()I"⟩
abbrev cX4_taken : ByteArray := prog_6_method_34_code
def yX4_taken : MethodName := ⟨RX4, "taken", "()I"⟩
abbrev cX4_overpaid : ByteArray := prog_6_method_35_code
def yX4_overpaid : MethodName := ⟨RX4, "overpaid", "()I"⟩
abbrev cX4_scarce : ByteArray := prog_6_method_36_code
def yX4_scarce : MethodName := ⟨RX4, "scarce", "()I"⟩
abbrev cX4_scarcest : ByteArray := prog_6_method_37_code
def yX4_scarcest : MethodName := ⟨RX4, "scarcest", "()I"⟩
abbrev cX4_canPay : ByteArray := prog_6_method_38_code
def yX4_canPay : MethodName := ⟨RX4, "canPay", "(I)Z"⟩
abbrev cX4_over : ByteArray := prog_6_method_39_code
def yX4_over : MethodName := ⟨RX4, "over", "(I)I"⟩
abbrev cX4_overpay : ByteArray := prog_6_method_40_code
def yX4_overpay : MethodName := ⟨RX4, "overpay", "(I)I"⟩
abbrev cX4_many : ByteArray := prog_6_method_41_code
def yX4_many : MethodName := ⟨RX4, "many", "(I)I"⟩
abbrev cX4_stampsFor : ByteArray := prog_6_method_42_code
def yX4_stampsFor : MethodName := ⟨RX4, "stampsFor", "(I)I"⟩
abbrev cX4_ofStampFor : ByteArray := prog_6_method_43_code
def yX4_ofStampFor : MethodName := ⟨RX4, "ofStampFor", "(II)I"⟩
abbrev cX4_reachNow : ByteArray := prog_6_method_44_code
def yX4_reachNow : MethodName := ⟨RX4, "reachNow", "()I"⟩
abbrev cX4_greatest : ByteArray := prog_6_method_45_code
def yX4_greatest : MethodName := ⟨RX4, "greatest", "()I"⟩
abbrev cX4_most : ByteArray := prog_6_method_46_code
def yX4_most : MethodName := ⟨RX4, "most", "()I"⟩
abbrev cX4_fewestFor : ByteArray := prog_6_method_47_code
def yX4_fewestFor : MethodName := ⟨RX4, "fewestFor", "(I)I"⟩
abbrev cX4_fewest : ByteArray := prog_6_method_48_code
def yX4_fewest : MethodName := ⟨RX4, "fewest", "(I)I"⟩
abbrev cX4_ways : ByteArray := prog_6_method_49_code
def yX4_ways : MethodName := ⟨RX4, "ways", "(I)I"⟩
abbrev cX4_reach : ByteArray := prog_6_method_50_code
def yX4_reach : MethodName := ⟨RX4, "reach", "()I"⟩
abbrev cX4_gapFrom : ByteArray := prog_6_method_51_code
def yX4_gapFrom : MethodName := ⟨RX4, "gapFrom", "(I)I"⟩
abbrev cX4_gapsTo : ByteArray := prog_6_method_52_code
def yX4_gapsTo : MethodName := ⟨RX4, "gapsTo", "(I)I"⟩
abbrev cX4_lettersOf : ByteArray := prog_6_method_53_code
def yX4_lettersOf : MethodName := ⟨RX4, "lettersOf", "(I)I"⟩
abbrev cX4_valueBest : ByteArray := prog_6_method_54_code
def yX4_valueBest : MethodName := ⟨RX4, "valueBest", "()I"⟩
abbrev cX4_bestValue : ByteArray := prog_6_method_55_code
def yX4_bestValue : MethodName := ⟨RX4, "bestValue", "()I"⟩
abbrev cX4_toPrint : ByteArray := prog_6_method_56_code
def yX4_toPrint : MethodName := ⟨RX4, "toPrint", "()I"⟩
abbrev cX4_bestToPrint : ByteArray := prog_6_method_57_code
def yX4_bestToPrint : MethodName := ⟨RX4, "bestToPrint", "()I"⟩
abbrev cX4_reachWithRoom : ByteArray := prog_6_method_58_code
def yX4_reachWithRoom : MethodName := ⟨RX4, "reachWithRoom", "(I)I"⟩
abbrev cX4_meanValue : ByteArray := prog_6_method_59_code
def yX4_meanValue : MethodName := ⟨RX4, "meanValue", "()D"⟩
abbrev cX4_digest : ByteArray := prog_6_method_60_code
def yX4_digest : MethodName := ⟨RX4, "digest", "()J"⟩
def RJ9 : String := "java/lang/Math"
def TJ9 : u_T := fun k => match k with
  | _ => ("", "", "", false)
def tyJ9 : Nat → FieldType := fun k => match k with
  | _ => .int
abbrev wsJ90 : List Cond := u_ws RJ9 TJ9 0
theorem nmJ9 : ∀ a, a < 0 → ∀ b, b < 0 → a ≠ b → (TJ9 a).2.1 ≠ (TJ9 b).2.1 := by decide +kernel
theorem tyJ9_ok : ∀ k, k < 0 → parseFieldDescriptor (TJ9 k).2.2.1 = some (tyJ9 k) := by decide +kernel
abbrev cJ9_min_7cf53 : ByteArray := prog_11_method_69_code
def yJ9_min_7cf53 : MethodName := ⟨RJ9, "min", "(II)I"⟩
def RJ10 : String := "java/lang/System"
def TJ10 : u_T := fun k => match k with
  | _ => ("", "", "", false)
def tyJ10 : Nat → FieldType := fun k => match k with
  | _ => .int
abbrev wsJ100 : List Cond := u_ws RJ10 TJ10 0
theorem nmJ10 : ∀ a, a < 0 → ∀ b, b < 0 → a ≠ b → (TJ10 a).2.1 ≠ (TJ10 b).2.1 := by decide +kernel
theorem tyJ10_ok : ∀ k, k < 0 → parseFieldDescriptor (TJ10 k).2.2.1 = some (tyJ10 k) := by decide +kernel
def RL : String := "StampVendorLaw"
abbrev cL_addStamp : ByteArray := method_3_code
def yL_addStamp : MethodName := ⟨RL, "addStamp", "(LStampVendor;II[J)I"⟩
abbrev cL_withdraw : ByteArray := method_4_code
def yL_withdraw : MethodName := ⟨RL, "withdraw", "(LStampVendor;I[J)I"⟩
abbrev cL_print : ByteArray := method_5_code
def yL_print : MethodName := ⟨RL, "print", "(LStampVendor;II[J)I"⟩
abbrev cL_setRoom : ByteArray := method_6_code
def yL_setRoom : MethodName := ⟨RL, "setRoom", "(LStampVendor;I[J)I"⟩
abbrev cL_vend : ByteArray := method_7_code
def yL_vend : MethodName := ⟨RL, "vend", "(LStampVendor;I[J)I"⟩
abbrev cL_valueOf : ByteArray := method_8_code
def yL_valueOf : MethodName := ⟨RL, "valueOf", "(LStampVendor;I[J)I"⟩
abbrev cL_stockOf : ByteArray := method_9_code
def yL_stockOf : MethodName := ⟨RL, "stockOf", "(LStampVendor;I[J)I"⟩
abbrev cL_vendedOf : ByteArray := method_10_code
def yL_vendedOf : MethodName := ⟨RL, "vendedOf", "(LStampVendor;I[J)I"⟩
abbrev cL_canPay : ByteArray := method_11_code
def yL_canPay : MethodName := ⟨RL, "canPay", "(LStampVendor;I[J)I"⟩
abbrev cL_overpay : ByteArray := method_12_code
def yL_overpay : MethodName := ⟨RL, "overpay", "(LStampVendor;I[J)I"⟩
abbrev cL_stampsFor : ByteArray := method_13_code
def yL_stampsFor : MethodName := ⟨RL, "stampsFor", "(LStampVendor;I[J)I"⟩
abbrev cL_ofStampFor : ByteArray := method_14_code
def yL_ofStampFor : MethodName := ⟨RL, "ofStampFor", "(LStampVendor;II[J)I"⟩
abbrev cL_fewest : ByteArray := method_15_code
def yL_fewest : MethodName := ⟨RL, "fewest", "(LStampVendor;I[J)I"⟩
abbrev cL_ways : ByteArray := method_16_code
def yL_ways : MethodName := ⟨RL, "ways", "(LStampVendor;I[J)I"⟩
abbrev cL_gapFrom : ByteArray := method_17_code
def yL_gapFrom : MethodName := ⟨RL, "gapFrom", "(LStampVendor;I[J)I"⟩
abbrev cL_gapsTo : ByteArray := method_18_code
def yL_gapsTo : MethodName := ⟨RL, "gapsTo", "(LStampVendor;I[J)I"⟩
abbrev cL_lettersOf : ByteArray := method_19_code
def yL_lettersOf : MethodName := ⟨RL, "lettersOf", "(LStampVendor;I[J)I"⟩
abbrev cL_reachWithRoom : ByteArray := method_20_code
def yL_reachWithRoom : MethodName := ⟨RL, "reachWithRoom", "(LStampVendor;I[J)I"⟩
abbrev cL_law : ByteArray := code
def yL_law : MethodName := ⟨RL, "law", "([I)Z"⟩
def wsL_law0_r1 : List Cond := [Cond.classLink RL 8 RX3, Cond.instantiable RX3 8, Cond.initialized RX3, Cond.classLink RL 73 RX4, Cond.instantiable RX4 14, Cond.initialized RX4, Cond.arrayClass .long, Cond.methodLink RL 72 yX3_init, Cond.instanceMethod yX3_init, Cond.code yX3_init cX3_init 1 none, Cond.methodLink RX3 3 objectInit, Cond.instanceMethod objectInit, Cond.code objectInit ⟨#[0xb1]⟩ 1 none, Cond.classLink RX3 9 RX1, Cond.instantiable RX1 4, Cond.initialized RX1, Cond.fieldLink RX3 12 "StampVendor" "stamps" "LStampVendor$Stamps;", Cond.fieldLink RX3 16 "StampVendor" "trial" "LStampVendor$Stamps;", Cond.classLink RX3 19 RX2, Cond.instantiable RX2 7, Cond.initialized RX2, Cond.fieldLink RX3 22 "StampVendor" "byStock" "LStampVendor$StockTable;", Cond.classLink RX3 26 RX0, Cond.instantiable RX0 3]
def wsL_law0_r2 : List Cond := [Cond.initialized RX0, Cond.fieldLink RX3 29 "StampVendor" "byPrint" "LStampVendor$PrintTable;", Cond.fieldLink RX3 33 "StampVendor" "room" "I", Cond.fieldLink RX3 37 "StampVendor" "letters" "I", Cond.fieldLink RX3 40 "StampVendor" "taken" "I", Cond.fieldLink RX3 43 "StampVendor" "overpaid" "I", Cond.instanceMethod yX1_init, Cond.code yX1_init cX1_init 1 none, Cond.methodLink RX1 3 objectInit, Cond.arrayClass .int, Cond.fieldLink RX1 9 "StampVendor$Stamps" "value" "[I", Cond.fieldLink RX1 15 "StampVendor$Stamps" "stock" "[I", Cond.fieldLink RX1 18 "StampVendor$Stamps" "vended" "[I", Cond.fieldLink RX1 21 "StampVendor$Stamps" "count" "I", Cond.instanceMethod yX2_init, Cond.code yX2_init cX2_init 1 none, Cond.methodLink RX2 3 objectInit, Cond.classLink RX2 9 "[[I", Cond.fieldLink RX2 11 "StampVendor$StockTable" "fewestFrom" "[[I", Cond.fieldLink RX2 16 "StampVendor$StockTable" "stampAt" "[I", Cond.fieldLink RX2 20 "StampVendor$StockTable" "valueAt" "[I", Cond.fieldLink RX2 23 "StampVendor$StockTable" "usableAt" "[I", Cond.fieldLink RX2 26 "StampVendor$StockTable" "count" "I", Cond.fieldLink RX2 30 "StampVendor$StockTable" "room" "I"]
def wsL_law0_r3 : List Cond := [Cond.fieldLink RX2 33 "StampVendor$StockTable" "chosen" "[I", Cond.instanceMethod yX0_init, Cond.code yX0_init cX0_init 1 none, Cond.methodLink RX0 3 objectInit, Cond.fieldLink RX0 9 "StampVendor$PrintTable" "fewestFor" "[I", Cond.fieldLink RX0 15 "StampVendor$PrintTable" "fewestWithValue" "[I", Cond.classLink RX0 18 "[[I", Cond.fieldLink RX0 20 "StampVendor$PrintTable" "choices" "[[I", Cond.methodLink RL 75 yX4_init, Cond.instanceMethod yX4_init, Cond.code yX4_init cX4_init 1 none, Cond.methodLink RX4 3 objectInit, Cond.fieldLink RX4 9 "StampVendorModel" "room" "I", Cond.fieldLink RX4 13 "StampVendorModel" "value" "[I", Cond.fieldLink RX4 17 "StampVendorModel" "stock" "[I", Cond.fieldLink RX4 20 "StampVendorModel" "vended" "[I", Cond.fieldLink RX4 23 "StampVendorModel" "order" "[I", Cond.classLink RX4 26 "[[I", Cond.fieldLink RX4 28 "StampVendorModel" "few" "[[I", Cond.fieldLink RX4 31 "StampVendorModel" "gets" "[I", Cond.fieldLink RX4 34 "StampVendorModel" "print" "[I", Cond.fieldLink RX4 37 "StampVendorModel" "ways" "[[I", Cond.methodLink RL 76 yL_addStamp, Cond.static yL_addStamp]
def wsL_law0_r4 : List Cond := [Cond.initialized RL, Cond.codeWith yL_addStamp cL_addStamp 5 (some .int) [(0, 10, 13, 13), (0, 10, 17, 15)], Cond.classLink RL 13 "java/lang/IllegalArgumentException", Cond.classLink RL 15 "java/lang/IllegalStateException", Cond.methodLink RL 7 yX3_addStamp, Cond.instanceMethod yX3_addStamp, Cond.selects RX3 yX3_addStamp yX3_addStamp, Cond.code yX3_addStamp cX3_addStamp 3 (some .int), Cond.classLink RX3 46 "java/lang/IllegalArgumentException", Cond.initialized "java/lang/IllegalArgumentException", Cond.classLink RX3 56 "java/lang/IllegalStateException", Cond.initialized "java/lang/IllegalStateException", Cond.fieldLink RX3 49 "StampVendor$Stamps" "count" "I", Cond.methodLink RX3 52 yX1_hasValue, Cond.instanceMethod yX1_hasValue, Cond.selects RX1 yX1_hasValue yX1_hasValue, Cond.code yX1_hasValue cX1_hasValue 3 (some .boolean), Cond.methodLink RX3 59 yX1_append, Cond.instanceMethod yX1_append, Cond.selects RX1 yX1_append yX1_append, Cond.code yX1_append cX1_append 4 (some .int), Cond.methodLink RL 81 yX4_addStamp, Cond.instanceMethod yX4_addStamp, Cond.selects RX4 yX4_addStamp yX4_addStamp]
def wsL_law0_r5 : List Cond := [Cond.code yX4_addStamp cX4_addStamp 3 (some .int), Cond.fieldLink RX4 40 "StampVendorModel" "thrown" "I", Cond.fieldLink RX4 43 "StampVendorModel" "stamps" "I", Cond.methodLink RX4 46 yX4_isIn, Cond.static yX4_isIn, Cond.code yX4_isIn cX4_isIn 3 (some .boolean), Cond.methodLink RX4 80 yX4_no, Cond.instanceMethod yX4_no, Cond.selects RX4 yX4_no yX4_no, Cond.code yX4_no cX4_no 2 (some .int), Cond.methodLink RX4 83 yX4_isThere, Cond.instanceMethod yX4_isThere, Cond.selects RX4 yX4_isThere yX4_isThere, Cond.code yX4_isThere cX4_isThere 3 (some .boolean), Cond.methodLink RL 82 yX4_thrown, Cond.instanceMethod yX4_thrown, Cond.selects RX4 yX4_thrown yX4_thrown, Cond.code yX4_thrown cX4_thrown 1 (some .int), Cond.methodLink RL 86 yL_withdraw, Cond.static yL_withdraw, Cond.codeWith yL_withdraw cL_withdraw 4 (some .int) [(0, 9, 12, 21)], Cond.classLink RL 21 "java/lang/IndexOutOfBoundsException", Cond.methodLink RL 17 yX3_withdraw, Cond.instanceMethod yX3_withdraw]
def wsL_law0_r6 : List Cond := [Cond.selects RX3 yX3_withdraw yX3_withdraw, Cond.code yX3_withdraw cX3_withdraw 3 (some .int), Cond.fieldLink RX3 67 "StampVendor$Stamps" "stock" "[I", Cond.methodLink RX3 63 yX3_checkStamp, Cond.instanceMethod yX3_checkStamp, Cond.selects RX3 yX3_checkStamp yX3_checkStamp, Cond.code yX3_checkStamp cX3_checkStamp 2 none, Cond.classLink RX3 196 "java/lang/IndexOutOfBoundsException", Cond.initialized "java/lang/IndexOutOfBoundsException", Cond.methodLink RX3 71 yX1_removeAt, Cond.instanceMethod yX1_removeAt, Cond.selects RX1 yX1_removeAt yX1_removeAt, Cond.code yX1_removeAt cX1_removeAt 3 none, Cond.methodLink RL 89 yX4_withdraw, Cond.instanceMethod yX4_withdraw, Cond.selects RX4 yX4_withdraw yX4_withdraw, Cond.code yX4_withdraw cX4_withdraw 3 (some .int), Cond.methodLink RX4 86 yX4_isStamp, Cond.instanceMethod yX4_isStamp, Cond.selects RX4 yX4_isStamp yX4_isStamp, Cond.code yX4_isStamp cX4_isStamp 2 (some .boolean), Cond.methodLink RX4 89 yX4_close, Cond.static yX4_close, Cond.code yX4_close cX4_close 4 none]
def wsL_law0_r7 : List Cond := [Cond.methodLink RL 90 yL_print, Cond.static yL_print, Cond.codeWith yL_print cL_print 5 (some .int) [(0, 10, 13, 21), (0, 10, 17, 13)], Cond.methodLink RL 23 yX3_print, Cond.instanceMethod yX3_print, Cond.selects RX3 yX3_print yX3_print, Cond.code yX3_print cX3_print 3 (some .int), Cond.methodLink RX3 74 Lib.Math.min.name, Cond.static Lib.Math.min.name, Cond.initialized "java/lang/Math", Cond.code Lib.Math.min.name Lib.Math.min.code 2 (some .int), Cond.methodLink RL 92 yX4_print, Cond.instanceMethod yX4_print, Cond.selects RX4 yX4_print yX4_print, Cond.code yX4_print cX4_print 3 (some .int), Cond.methodLink RX4 50 Lib.Math.min.name, Cond.methodLink RL 93 yL_setRoom, Cond.static yL_setRoom, Cond.codeWith yL_setRoom cL_setRoom 4 (some .int) [(0, 9, 12, 13)], Cond.methodLink RL 26 yX3_setRoom, Cond.instanceMethod yX3_setRoom, Cond.selects RX3 yX3_setRoom yX3_setRoom, Cond.code yX3_setRoom cX3_setRoom 3 (some .int), Cond.methodLink RX3 79 yX3_checkRoom]
def wsL_law0_r8 : List Cond := [Cond.static yX3_checkRoom, Cond.code yX3_checkRoom cX3_checkRoom 1 none, Cond.methodLink RL 95 yX4_setRoom, Cond.instanceMethod yX4_setRoom, Cond.selects RX4 yX4_setRoom yX4_setRoom, Cond.code yX4_setRoom cX4_setRoom 3 (some .int), Cond.methodLink RL 96 yL_vend, Cond.static yL_vend, Cond.codeWith yL_vend cL_vend 4 (some .int) [(0, 9, 12, 13), (0, 9, 15, 15)], Cond.methodLink RL 29 yX3_vend, Cond.instanceMethod yX3_vend, Cond.selects RX3 yX3_vend yX3_vend, Cond.code yX3_vend cX3_vend 4 (some .int), Cond.fieldLink RX3 96 "StampVendor$StockTable" "chosen" "[I", Cond.methodLink RX3 82 yX3_checkPostage, Cond.static yX3_checkPostage, Cond.code yX3_checkPostage cX3_checkPostage 1 none, Cond.methodLink RX3 85 yX2_fill, Cond.instanceMethod yX2_fill, Cond.selects RX2 yX2_fill yX2_fill, Cond.code yX2_fill cX2_fill 5 none, Cond.methodLink RX2 55 yX2_rank, Cond.instanceMethod yX2_rank, Cond.selects RX2 yX2_rank yX2_rank]
def wsL_law0_r9 : List Cond := [Cond.code yX2_rank cX2_rank 5 none, Cond.fieldLink RX2 36 "StampVendor$Stamps" "count" "I", Cond.fieldLink RX2 43 "StampVendor$Stamps" "value" "[I", Cond.fieldLink RX2 46 "StampVendor$Stamps" "stock" "[I", Cond.methodLink RX2 49 Lib.Math.min.name, Cond.methodLink RX2 39 yX1_countAbove, Cond.instanceMethod yX1_countAbove, Cond.selects RX1 yX1_countAbove yX1_countAbove, Cond.code yX1_countAbove cX1_countAbove 4 (some .int), Cond.methodLink RX2 59 yX2_fillRow, Cond.instanceMethod yX2_fillRow, Cond.selects RX2 yX2_fillRow yX2_fillRow, Cond.code yX2_fillRow cX2_fillRow 9 none, Cond.methodLink RX3 89 yX2_leastSum, Cond.instanceMethod yX2_leastSum, Cond.selects RX2 yX2_leastSum yX2_leastSum, Cond.code yX2_leastSum cX2_leastSum 3 (some .int), Cond.methodLink RX2 63 yX2_pays, Cond.instanceMethod yX2_pays, Cond.selects RX2 yX2_pays yX2_pays, Cond.code yX2_pays cX2_pays 2 (some .boolean), Cond.methodLink RX3 93 yX2_choose, Cond.instanceMethod yX2_choose, Cond.selects RX2 yX2_choose yX2_choose]
def wsL_law0_r10 : List Cond := [Cond.code yX2_choose cX2_choose 5 none, Cond.methodLink RX2 70 yX2_mostOf, Cond.instanceMethod yX2_mostOf, Cond.selects RX2 yX2_mostOf yX2_mostOf, Cond.code yX2_mostOf cX2_mostOf 8 (some .int), Cond.methodLink RX3 99 yX1_take, Cond.instanceMethod yX1_take, Cond.selects RX1 yX1_take yX1_take, Cond.code yX1_take cX1_take 3 none, Cond.methodLink RL 98 yX4_vend, Cond.instanceMethod yX4_vend, Cond.selects RX4 yX4_vend yX4_vend, Cond.code yX4_vend cX4_vend 4 (some .int), Cond.fieldLink RX4 99 "StampVendorModel" "letters" "I", Cond.fieldLink RX4 102 "StampVendorModel" "taken" "I", Cond.fieldLink RX4 105 "StampVendorModel" "overpaid" "I", Cond.methodLink RX4 93 yX4_isPostage, Cond.static yX4_isPostage, Cond.code yX4_isPostage cX4_isPostage 1 (some .boolean), Cond.methodLink RX4 96 yX4_give, Cond.instanceMethod yX4_give, Cond.selects RX4 yX4_give yX4_give, Cond.code yX4_give cX4_give 4 (some .int), Cond.methodLink RX4 67 yX4_table]
def wsL_law0_r11 : List Cond := [Cond.instanceMethod yX4_table, Cond.selects RX4 yX4_table yX4_table, Cond.code yX4_table cX4_table 2 none, Cond.methodLink RX4 56 yX4_sort, Cond.instanceMethod yX4_sort, Cond.selects RX4 yX4_sort yX4_sort, Cond.code yX4_sort cX4_sort 3 none, Cond.methodLink RX4 59 yX4_with, Cond.instanceMethod yX4_with, Cond.selects RX4 yX4_with yX4_with, Cond.code yX4_with cX4_with 7 none, Cond.methodLink RX4 70 yX4_covers, Cond.instanceMethod yX4_covers, Cond.selects RX4 yX4_covers yX4_covers, Cond.code yX4_covers cX4_covers 3 (some .int), Cond.methodLink RX4 63 yX4_pays, Cond.instanceMethod yX4_pays, Cond.selects RX4 yX4_pays yX4_pays, Cond.code yX4_pays cX4_pays 2 (some .boolean), Cond.methodLink RX4 74 yX4_take, Cond.instanceMethod yX4_take, Cond.selects RX4 yX4_take yX4_take, Cond.code yX4_take cX4_take 6 none, Cond.methodLink RL 99 yX3_stamps]
def wsL_law0_r12 : List Cond := [Cond.instanceMethod yX3_stamps, Cond.selects RX3 yX3_stamps yX3_stamps, Cond.code yX3_stamps cX3_stamps 1 (some .int), Cond.methodLink RL 102 yX4_stamps, Cond.instanceMethod yX4_stamps, Cond.selects RX4 yX4_stamps yX4_stamps, Cond.code yX4_stamps cX4_stamps 1 (some .int), Cond.methodLink RX4 108 yX4_ok, Cond.instanceMethod yX4_ok, Cond.selects RX4 yX4_ok yX4_ok, Cond.code yX4_ok cX4_ok 2 (some .int), Cond.methodLink RL 103 yX3_room, Cond.instanceMethod yX3_room, Cond.selects RX3 yX3_room yX3_room, Cond.code yX3_room cX3_room 1 (some .int), Cond.methodLink RL 106 yX4_room, Cond.instanceMethod yX4_room, Cond.selects RX4 yX4_room yX4_room, Cond.code yX4_room cX4_room 1 (some .int), Cond.methodLink RL 107 yL_valueOf, Cond.static yL_valueOf, Cond.codeWith yL_valueOf cL_valueOf 4 (some .int) [(0, 9, 12, 21)], Cond.methodLink RL 32 yX3_valueOf, Cond.instanceMethod yX3_valueOf]
def wsL_law0_r13 : List Cond := [Cond.selects RX3 yX3_valueOf yX3_valueOf, Cond.code yX3_valueOf cX3_valueOf 2 (some .int), Cond.fieldLink RX3 103 "StampVendor$Stamps" "value" "[I", Cond.methodLink RL 109 yX4_valueOf, Cond.instanceMethod yX4_valueOf, Cond.selects RX4 yX4_valueOf yX4_valueOf, Cond.code yX4_valueOf cX4_valueOf 2 (some .int), Cond.methodLink RX4 111 yX4_of, Cond.instanceMethod yX4_of, Cond.selects RX4 yX4_of yX4_of, Cond.code yX4_of cX4_of 3 (some .int), Cond.methodLink RL 110 yL_stockOf, Cond.static yL_stockOf, Cond.codeWith yL_stockOf cL_stockOf 4 (some .int) [(0, 9, 12, 21)], Cond.methodLink RL 35 yX3_stockOf, Cond.instanceMethod yX3_stockOf, Cond.selects RX3 yX3_stockOf yX3_stockOf, Cond.code yX3_stockOf cX3_stockOf 2 (some .int), Cond.methodLink RL 112 yX4_stockOf, Cond.instanceMethod yX4_stockOf, Cond.selects RX4 yX4_stockOf yX4_stockOf, Cond.code yX4_stockOf cX4_stockOf 2 (some .int), Cond.methodLink RL 113 yL_vendedOf, Cond.static yL_vendedOf]
def wsL_law0_r14 : List Cond := [Cond.codeWith yL_vendedOf cL_vendedOf 4 (some .int) [(0, 9, 12, 21)], Cond.methodLink RL 38 yX3_vendedOf, Cond.instanceMethod yX3_vendedOf, Cond.selects RX3 yX3_vendedOf yX3_vendedOf, Cond.code yX3_vendedOf cX3_vendedOf 2 (some .int), Cond.fieldLink RX3 106 "StampVendor$Stamps" "vended" "[I", Cond.methodLink RL 115 yX4_vendedOf, Cond.instanceMethod yX4_vendedOf, Cond.selects RX4 yX4_vendedOf yX4_vendedOf, Cond.code yX4_vendedOf cX4_vendedOf 2 (some .int), Cond.methodLink RL 116 yX3_letters, Cond.instanceMethod yX3_letters, Cond.selects RX3 yX3_letters yX3_letters, Cond.code yX3_letters cX3_letters 1 (some .int), Cond.methodLink RL 119 yX4_letters, Cond.instanceMethod yX4_letters, Cond.selects RX4 yX4_letters yX4_letters, Cond.code yX4_letters cX4_letters 1 (some .int), Cond.methodLink RL 120 yX3_taken, Cond.instanceMethod yX3_taken, Cond.selects RX3 yX3_taken yX3_taken, Cond.code yX3_taken cX3_taken 1 (some .int), Cond.methodLink RL 123 yX4_taken, Cond.instanceMethod yX4_taken]
def wsL_law0_r15 : List Cond := [Cond.selects RX4 yX4_taken yX4_taken, Cond.code yX4_taken cX4_taken 1 (some .int), Cond.methodLink RL 124 yX3_overpaid, Cond.instanceMethod yX3_overpaid, Cond.selects RX3 yX3_overpaid yX3_overpaid, Cond.code yX3_overpaid cX3_overpaid 1 (some .int), Cond.methodLink RL 127 yX4_overpaid, Cond.instanceMethod yX4_overpaid, Cond.selects RX4 yX4_overpaid yX4_overpaid, Cond.code yX4_overpaid cX4_overpaid 1 (some .int), Cond.methodLink RL 128 yX3_scarcest, Cond.instanceMethod yX3_scarcest, Cond.selects RX3 yX3_scarcest yX3_scarcest, Cond.code yX3_scarcest cX3_scarcest 4 (some .int), Cond.methodLink RL 131 yX4_scarcest, Cond.instanceMethod yX4_scarcest, Cond.selects RX4 yX4_scarcest yX4_scarcest, Cond.code yX4_scarcest cX4_scarcest 1 (some .int), Cond.methodLink RX4 115 yX4_scarce, Cond.instanceMethod yX4_scarce, Cond.selects RX4 yX4_scarce yX4_scarce, Cond.code yX4_scarce cX4_scarce 3 (some .int), Cond.methodLink RL 132 yL_canPay, Cond.static yL_canPay]
def wsL_law0_r16 : List Cond := [Cond.codeWith yL_canPay cL_canPay 4 (some .int) [(0, 16, 19, 13)], Cond.methodLink RL 41 yX3_canPay, Cond.instanceMethod yX3_canPay, Cond.selects RX3 yX3_canPay yX3_canPay, Cond.code yX3_canPay cX3_canPay 2 (some .boolean), Cond.methodLink RX3 109 yX2_pays, Cond.methodLink RL 134 yX4_canPay, Cond.instanceMethod yX4_canPay, Cond.selects RX4 yX4_canPay yX4_canPay, Cond.code yX4_canPay cX4_canPay 2 (some .boolean), Cond.methodLink RX4 119 yX4_isNot, Cond.instanceMethod yX4_isNot, Cond.selects RX4 yX4_isNot yX4_isNot, Cond.code yX4_isNot cX4_isNot 2 (some .boolean), Cond.methodLink RL 135 yL_overpay, Cond.static yL_overpay, Cond.codeWith yL_overpay cL_overpay 4 (some .int) [(0, 9, 12, 13)], Cond.methodLink RL 45 yX3_overpay, Cond.instanceMethod yX3_overpay, Cond.selects RX3 yX3_overpay yX3_overpay, Cond.code yX3_overpay cX3_overpay 2 (some .int), Cond.methodLink RX3 112 yX2_moreThan, Cond.instanceMethod yX2_moreThan, Cond.selects RX2 yX2_moreThan yX2_moreThan]
def wsL_law0_r17 : List Cond := [Cond.code yX2_moreThan cX2_moreThan 3 (some .int), Cond.methodLink RX2 67 yX2_leastSum, Cond.methodLink RL 137 yX4_overpay, Cond.instanceMethod yX4_overpay, Cond.selects RX4 yX4_overpay yX4_overpay, Cond.code yX4_overpay cX4_overpay 2 (some .int), Cond.methodLink RX4 122 yX4_over, Cond.instanceMethod yX4_over, Cond.selects RX4 yX4_over yX4_over, Cond.code yX4_over cX4_over 3 (some .int), Cond.methodLink RL 138 yL_stampsFor, Cond.static yL_stampsFor, Cond.codeWith yL_stampsFor cL_stampsFor 4 (some .int) [(0, 9, 12, 13)], Cond.methodLink RL 48 yX3_stampsFor, Cond.instanceMethod yX3_stampsFor, Cond.selects RX3 yX3_stampsFor yX3_stampsFor, Cond.code yX3_stampsFor cX3_stampsFor 2 (some .int), Cond.methodLink RX3 115 yX2_stampsOnLetter, Cond.instanceMethod yX2_stampsOnLetter, Cond.selects RX2 yX2_stampsOnLetter yX2_stampsOnLetter, Cond.code yX2_stampsOnLetter cX2_stampsOnLetter 3 (some .int), Cond.methodLink RL 140 yX4_stampsFor, Cond.instanceMethod yX4_stampsFor, Cond.selects RX4 yX4_stampsFor yX4_stampsFor]
def wsL_law0_r18 : List Cond := [Cond.code yX4_stampsFor cX4_stampsFor 2 (some .int), Cond.methodLink RX4 125 yX4_many, Cond.instanceMethod yX4_many, Cond.selects RX4 yX4_many yX4_many, Cond.code yX4_many cX4_many 3 (some .int), Cond.methodLink RL 141 yL_ofStampFor, Cond.static yL_ofStampFor, Cond.codeWith yL_ofStampFor cL_ofStampFor 5 (some .int) [(0, 10, 13, 21), (0, 10, 17, 13)], Cond.methodLink RL 51 yX3_ofStampFor, Cond.instanceMethod yX3_ofStampFor, Cond.selects RX3 yX3_ofStampFor yX3_ofStampFor, Cond.code yX3_ofStampFor cX3_ofStampFor 4 (some .int), Cond.methodLink RL 143 yX4_ofStampFor, Cond.instanceMethod yX4_ofStampFor, Cond.selects RX4 yX4_ofStampFor yX4_ofStampFor, Cond.code yX4_ofStampFor cX4_ofStampFor 4 (some .int), Cond.methodLink RL 144 yX3_reachNow, Cond.instanceMethod yX3_reachNow, Cond.selects RX3 yX3_reachNow yX3_reachNow, Cond.code yX3_reachNow cX3_reachNow 1 (some .int), Cond.methodLink RX3 118 yX2_reachOfStock, Cond.instanceMethod yX2_reachOfStock, Cond.selects RX2 yX2_reachOfStock yX2_reachOfStock, Cond.code yX2_reachOfStock cX2_reachOfStock 2 (some .int)]
def wsL_law0_r19 : List Cond := [Cond.methodLink RL 147 yX4_reachNow, Cond.instanceMethod yX4_reachNow, Cond.selects RX4 yX4_reachNow yX4_reachNow, Cond.code yX4_reachNow cX4_reachNow 1 (some .int), Cond.methodLink RX4 128 yX4_reached, Cond.instanceMethod yX4_reached, Cond.selects RX4 yX4_reached yX4_reached, Cond.code yX4_reached cX4_reached 2 (some .int), Cond.methodLink RL 148 yX3_most, Cond.instanceMethod yX3_most, Cond.selects RX3 yX3_most yX3_most, Cond.code yX3_most cX3_most 1 (some .int), Cond.methodLink RX3 122 yX2_rank, Cond.methodLink RX3 125 yX2_greatestSum, Cond.instanceMethod yX2_greatestSum, Cond.selects RX2 yX2_greatestSum yX2_greatestSum, Cond.code yX2_greatestSum cX2_greatestSum 5 (some .int), Cond.methodLink RL 151 yX4_most, Cond.instanceMethod yX4_most, Cond.selects RX4 yX4_most yX4_most, Cond.code yX4_most cX4_most 1 (some .int), Cond.methodLink RX4 131 yX4_greatest, Cond.instanceMethod yX4_greatest, Cond.selects RX4 yX4_greatest yX4_greatest]
def wsL_law0_r20 : List Cond := [Cond.code yX4_greatest cX4_greatest 5 (some .int), Cond.methodLink RL 152 yL_fewest, Cond.static yL_fewest, Cond.codeWith yL_fewest cL_fewest 4 (some .int) [(0, 9, 12, 13)], Cond.methodLink RL 54 yX3_fewest, Cond.instanceMethod yX3_fewest, Cond.selects RX3 yX3_fewest yX3_fewest, Cond.code yX3_fewest cX3_fewest 2 (some .int), Cond.methodLink RX3 128 yX0_fill, Cond.instanceMethod yX0_fill, Cond.selects RX0 yX0_fill yX0_fill, Cond.code yX0_fill cX0_fill 6 none, Cond.fieldLink RX0 23 "StampVendor$Stamps" "count" "I", Cond.fieldLink RX0 29 "StampVendor$Stamps" "value" "[I", Cond.methodLink RX0 32 Lib.Math.min.name, Cond.methodLink RX3 131 yX0_fewestWithin, Cond.instanceMethod yX0_fewestWithin, Cond.selects RX0 yX0_fewestWithin yX0_fewestWithin, Cond.code yX0_fewestWithin cX0_fewestWithin 3 (some .int), Cond.methodLink RL 154 yX4_fewest, Cond.instanceMethod yX4_fewest, Cond.selects RX4 yX4_fewest yX4_fewest, Cond.code yX4_fewest cX4_fewest 2 (some .int), Cond.methodLink RX4 77 yX4_printed]
def wsL_law0_r21 : List Cond := [Cond.instanceMethod yX4_printed, Cond.selects RX4 yX4_printed yX4_printed, Cond.code yX4_printed cX4_printed 5 none, Cond.methodLink RX4 134 yX4_fewestFor, Cond.instanceMethod yX4_fewestFor, Cond.selects RX4 yX4_fewestFor yX4_fewestFor, Cond.code yX4_fewestFor cX4_fewestFor 2 (some .int), Cond.methodLink RL 155 yL_ways, Cond.static yL_ways, Cond.codeWith yL_ways cL_ways 4 (some .int) [(0, 9, 12, 13)], Cond.methodLink RL 57 yX3_ways, Cond.instanceMethod yX3_ways, Cond.selects RX3 yX3_ways yX3_ways, Cond.code yX3_ways cX3_ways 2 (some .int), Cond.methodLink RX3 134 yX0_countChoices, Cond.instanceMethod yX0_countChoices, Cond.selects RX0 yX0_countChoices yX0_countChoices, Cond.code yX0_countChoices cX0_countChoices 6 (some .int), Cond.methodLink RX0 41 yX0_clearChoices, Cond.instanceMethod yX0_clearChoices, Cond.selects RX0 yX0_clearChoices yX0_clearChoices, Cond.code yX0_clearChoices cX0_clearChoices 5 none, Cond.methodLink RX0 45 yX0_addChoicesWith, Cond.instanceMethod yX0_addChoicesWith]
def wsL_law0_r22 : List Cond := [Cond.selects RX0 yX0_addChoicesWith yX0_addChoicesWith, Cond.code yX0_addChoicesWith cX0_addChoicesWith 6 none, Cond.methodLink RL 157 yX4_ways, Cond.instanceMethod yX4_ways, Cond.selects RX4 yX4_ways yX4_ways, Cond.code yX4_ways cX4_ways 2 (some .int), Cond.methodLink RX4 137 yX4_allWays, Cond.instanceMethod yX4_allWays, Cond.selects RX4 yX4_allWays yX4_allWays, Cond.code yX4_allWays cX4_allWays 5 (some .int), Cond.methodLink RL 158 yX3_reach, Cond.instanceMethod yX3_reach, Cond.selects RX3 yX3_reach yX3_reach, Cond.code yX3_reach cX3_reach 1 (some .int), Cond.methodLink RX3 138 yX0_reachWithin, Cond.instanceMethod yX0_reachWithin, Cond.selects RX0 yX0_reachWithin yX0_reachWithin, Cond.code yX0_reachWithin cX0_reachWithin 3 (some .int), Cond.methodLink RX0 38 yX0_firstGap, Cond.instanceMethod yX0_firstGap, Cond.selects RX0 yX0_firstGap yX0_firstGap, Cond.code yX0_firstGap cX0_firstGap 4 (some .int), Cond.methodLink RL 161 yX4_reach, Cond.instanceMethod yX4_reach]
def wsL_law0_r23 : List Cond := [Cond.selects RX4 yX4_reach yX4_reach, Cond.code yX4_reach cX4_reach 1 (some .int), Cond.methodLink RX4 140 yX4_printReach, Cond.instanceMethod yX4_printReach, Cond.selects RX4 yX4_printReach yX4_printReach, Cond.code yX4_printReach cX4_printReach 4 (some .int), Cond.methodLink RL 162 yL_gapFrom, Cond.static yL_gapFrom, Cond.codeWith yL_gapFrom cL_gapFrom 4 (some .int) [(0, 9, 12, 13)], Cond.methodLink RL 60 yX3_gapFrom, Cond.instanceMethod yX3_gapFrom, Cond.selects RX3 yX3_gapFrom yX3_gapFrom, Cond.code yX3_gapFrom cX3_gapFrom 2 (some .int), Cond.methodLink RX3 141 yX0_firstGap, Cond.methodLink RL 164 yX4_gapFrom, Cond.instanceMethod yX4_gapFrom, Cond.selects RX4 yX4_gapFrom yX4_gapFrom, Cond.code yX4_gapFrom cX4_gapFrom 3 (some .int), Cond.methodLink RL 165 yL_gapsTo, Cond.static yL_gapsTo, Cond.codeWith yL_gapsTo cL_gapsTo 4 (some .int) [(0, 9, 12, 13)], Cond.methodLink RL 63 yX3_gapsTo, Cond.instanceMethod yX3_gapsTo, Cond.selects RX3 yX3_gapsTo yX3_gapsTo]
def wsL_law0_r24 : List Cond := [Cond.code yX3_gapsTo cX3_gapsTo 2 (some .int), Cond.methodLink RX3 144 yX0_countGaps, Cond.instanceMethod yX0_countGaps, Cond.selects RX0 yX0_countGaps yX0_countGaps, Cond.code yX0_countGaps cX0_countGaps 5 (some .int), Cond.methodLink RL 167 yX4_gapsTo, Cond.instanceMethod yX4_gapsTo, Cond.selects RX4 yX4_gapsTo yX4_gapsTo, Cond.code yX4_gapsTo cX4_gapsTo 4 (some .int), Cond.methodLink RL 168 yL_lettersOf, Cond.static yL_lettersOf, Cond.codeWith yL_lettersOf cL_lettersOf 4 (some .int) [(0, 9, 12, 13)], Cond.methodLink RL 66 yX3_lettersOf, Cond.instanceMethod yX3_lettersOf, Cond.selects RX3 yX3_lettersOf yX3_lettersOf, Cond.code yX3_lettersOf cX3_lettersOf 5 (some .int), Cond.methodLink RX3 147 yX1_copyFrom, Cond.instanceMethod yX1_copyFrom, Cond.selects RX1 yX1_copyFrom yX1_copyFrom, Cond.code yX1_copyFrom cX1_copyFrom 3 none, Cond.methodLink RX3 150 yX1_holds, Cond.instanceMethod yX1_holds, Cond.selects RX1 yX1_holds yX1_holds, Cond.code yX1_holds cX1_holds 3 (some .boolean)]
def wsL_law0_r25 : List Cond := [Cond.methodLink RL 170 yX4_lettersOf, Cond.instanceMethod yX4_lettersOf, Cond.selects RX4 yX4_lettersOf yX4_lettersOf, Cond.code yX4_lettersOf cX4_lettersOf 4 (some .int), Cond.methodLink RX4 143 arraycopyName, Cond.native arraycopyName, Cond.static arraycopyName, Cond.initialized "java/lang/System", Cond.methodLink RL 171 yX3_bestValue, Cond.instanceMethod yX3_bestValue, Cond.selects RX3 yX3_bestValue yX3_bestValue, Cond.code yX3_bestValue cX3_bestValue 5 (some .int), Cond.methodLink RX3 154 yX0_reachWithValue, Cond.instanceMethod yX0_reachWithValue, Cond.selects RX0 yX0_reachWithValue yX0_reachWithValue, Cond.code yX0_reachWithValue cX0_reachWithValue 5 (some .int), Cond.methodLink RL 174 yX4_bestValue, Cond.instanceMethod yX4_bestValue, Cond.selects RX4 yX4_bestValue yX4_bestValue, Cond.code yX4_bestValue cX4_bestValue 1 (some .int), Cond.methodLink RX4 149 yX4_valueBest, Cond.instanceMethod yX4_valueBest, Cond.selects RX4 yX4_valueBest yX4_valueBest, Cond.code yX4_valueBest cX4_valueBest 5 (some .int)]
def wsL_law0_r26 : List Cond := [Cond.methodLink RL 175 yX3_bestToPrint, Cond.instanceMethod yX3_bestToPrint, Cond.selects RX3 yX3_bestToPrint yX3_bestToPrint, Cond.code yX3_bestToPrint cX3_bestToPrint 5 (some .int), Cond.methodLink RL 178 yX4_bestToPrint, Cond.instanceMethod yX4_bestToPrint, Cond.selects RX4 yX4_bestToPrint yX4_bestToPrint, Cond.code yX4_bestToPrint cX4_bestToPrint 1 (some .int), Cond.methodLink RX4 152 yX4_toPrint, Cond.instanceMethod yX4_toPrint, Cond.selects RX4 yX4_toPrint yX4_toPrint, Cond.code yX4_toPrint cX4_toPrint 6 (some .int), Cond.methodLink RL 179 yL_reachWithRoom, Cond.static yL_reachWithRoom, Cond.codeWith yL_reachWithRoom cL_reachWithRoom 4 (some .int) [(0, 9, 12, 13)], Cond.methodLink RL 69 yX3_reachWithRoom, Cond.instanceMethod yX3_reachWithRoom, Cond.selects RX3 yX3_reachWithRoom yX3_reachWithRoom, Cond.code yX3_reachWithRoom cX3_reachWithRoom 2 (some .int), Cond.methodLink RL 181 yX4_reachWithRoom, Cond.instanceMethod yX4_reachWithRoom, Cond.selects RX4 yX4_reachWithRoom yX4_reachWithRoom, Cond.code yX4_reachWithRoom cX4_reachWithRoom 2 (some .int), Cond.methodLink RL 182 yX3_meanValue]
def wsL_law0_r27 : List Cond := [Cond.instanceMethod yX3_meanValue, Cond.selects RX3 yX3_meanValue yX3_meanValue, Cond.code yX3_meanValue cX3_meanValue 3 (some .double), Cond.methodLink RL 186 yX4_meanValue, Cond.instanceMethod yX4_meanValue, Cond.selects RX4 yX4_meanValue yX4_meanValue, Cond.code yX4_meanValue cX4_meanValue 3 (some .double), Cond.methodLink RL 187 yX3_digest, Cond.instanceMethod yX3_digest, Cond.selects RX3 yX3_digest yX3_digest, Cond.code yX3_digest cX3_digest 3 (some .long), Cond.constantLong RX3 157 (2129), Cond.constantLong RX3 159 (31), Cond.methodLink RX3 161 yX3_stamps, Cond.methodLink RX3 163 yX3_room, Cond.methodLink RX3 165 yX3_letters, Cond.methodLink RX3 167 yX3_taken, Cond.methodLink RX3 169 yX3_overpaid, Cond.methodLink RX3 171 yX3_scarcest, Cond.methodLink RX3 174 yX3_reachNow, Cond.methodLink RX3 177 yX3_most, Cond.methodLink RX3 180 yX3_reach, Cond.methodLink RX3 183 yX3_bestValue, Cond.methodLink RX3 186 yX3_bestToPrint]
def wsL_law0_r28 : List Cond := [Cond.methodLink RX3 189 yX3_digestStamps, Cond.instanceMethod yX3_digestStamps, Cond.selects RX3 yX3_digestStamps yX3_digestStamps, Cond.code yX3_digestStamps cX3_digestStamps 6 (some .long), Cond.methodLink RX3 193 yX3_digestPostages, Cond.instanceMethod yX3_digestPostages, Cond.selects RX3 yX3_digestPostages yX3_digestPostages, Cond.code yX3_digestPostages cX3_digestPostages 6 (some .long), Cond.methodLink RL 191 yX4_digest, Cond.instanceMethod yX4_digest, Cond.selects RX4 yX4_digest yX4_digest, Cond.code yX4_digest cX4_digest 8 (some .long), Cond.constantLong RX4 155 (2129), Cond.constantLong RX4 157 (31)]
def wsL_law0 : List Cond := (wsL_law0_r1 ++ (wsL_law0_r2 ++ (wsL_law0_r3 ++ (wsL_law0_r4 ++ (wsL_law0_r5 ++ (wsL_law0_r6 ++ (wsL_law0_r7 ++ (wsL_law0_r8 ++ (wsL_law0_r9 ++ (wsL_law0_r10 ++ (wsL_law0_r11 ++ (wsL_law0_r12 ++ (wsL_law0_r13 ++ (wsL_law0_r14 ++ (wsL_law0_r15 ++ (wsL_law0_r16 ++ (wsL_law0_r17 ++ (wsL_law0_r18 ++ (wsL_law0_r19 ++ (wsL_law0_r20 ++ (wsL_law0_r21 ++ (wsL_law0_r22 ++ (wsL_law0_r23 ++ (wsL_law0_r24 ++ (wsL_law0_r25 ++ (wsL_law0_r26 ++ (wsL_law0_r27 ++ wsL_law0_r28))))))))))))))))))))))))))) ++ wsX30 ++ wsX40 ++ wsX10 ++ wsX20 ++ wsX00 ++ ([] : List Cond)
def wsL_law : List Cond := wsL_law0 ++ (vx_at0 RX3 48 "java/lang/IllegalArgumentException" ["java/lang/RuntimeException", "java/lang/Exception"]).filter goodWord ++ (vx_at0 RX3 58 "java/lang/IllegalStateException" ["java/lang/RuntimeException", "java/lang/Exception"]).filter goodWord ++ (vx_at0 RX3 198 "java/lang/IndexOutOfBoundsException" ["java/lang/RuntimeException", "java/lang/Exception"]).filter goodWord
theorem inlX0 : ∀ w ∈ wsX00, w ∈ wsL_law := fun _ h => List.mem_append_left _ (List.mem_append_left _ (List.mem_append_left _ (List.mem_append_left _ (List.mem_append_right _ h))))
theorem inlX1 : ∀ w ∈ wsX10, w ∈ wsL_law := fun _ h => List.mem_append_left _ (List.mem_append_left _ (List.mem_append_left _ (List.mem_append_left _ (List.mem_append_left _ (List.mem_append_left _ (List.mem_append_right _ h))))))
theorem inlX2 : ∀ w ∈ wsX20, w ∈ wsL_law := fun _ h => List.mem_append_left _ (List.mem_append_left _ (List.mem_append_left _ (List.mem_append_left _ (List.mem_append_left _ (List.mem_append_right _ h)))))
theorem inlX3 : ∀ w ∈ wsX30, w ∈ wsL_law := fun _ h => List.mem_append_left _ (List.mem_append_left _ (List.mem_append_left _ (List.mem_append_left _ (List.mem_append_left _ (List.mem_append_left _ (List.mem_append_left _ (List.mem_append_left _ (List.mem_append_right _ h))))))))
theorem inlX4 : ∀ w ∈ wsX40, w ∈ wsL_law := fun _ h => List.mem_append_left _ (List.mem_append_left _ (List.mem_append_left _ (List.mem_append_left _ (List.mem_append_left _ (List.mem_append_left _ (List.mem_append_left _ (List.mem_append_right _ h)))))))
abbrev vwCl : List vw_C := [(RX0, TX0, 3), (RX1, TX1, 4), (RX2, TX2, 7), (RX3, TX3, 8), (RX4, TX4, 14)]
/-! ===== END printed: names ===== -/
end
section
theorem dX0_init_0 : decode cX0_init 0 = .ok (.aload_n 0, 1) := by decide +kernel
theorem dX0_init_1 : decode cX0_init 1 = .ok (.invokespecial 3, 3) := by decide +kernel
theorem dX0_init_4 : decode cX0_init 4 = .ok (.aload_n 0, 1) := by decide +kernel
theorem dX0_init_5 : decode cX0_init 5 = .ok (.sipush 301, 3) := by decide +kernel
theorem dX0_init_8 : decode cX0_init 8 = .ok (.newarray .int, 2) := by decide +kernel
theorem dX0_init_10 : decode cX0_init 10 = .ok (.putfield 9, 3) := by decide +kernel
theorem dX0_init_13 : decode cX0_init 13 = .ok (.aload_n 0, 1) := by decide +kernel
theorem dX0_init_14 : decode cX0_init 14 = .ok (.sipush 301, 3) := by decide +kernel
theorem dX0_init_17 : decode cX0_init 17 = .ok (.newarray .int, 2) := by decide +kernel
theorem dX0_init_19 : decode cX0_init 19 = .ok (.putfield 15, 3) := by decide +kernel
theorem dX0_init_22 : decode cX0_init 22 = .ok (.aload_n 0, 1) := by decide +kernel
theorem dX0_init_23 : decode cX0_init 23 = .ok (.bipush 13, 2) := by decide +kernel
theorem dX0_init_25 : decode cX0_init 25 = .ok (.sipush 301, 3) := by decide +kernel
theorem dX0_init_28 : decode cX0_init 28 = .ok (.multianewarray 18 2, 4) := by decide +kernel
theorem dX0_init_32 : decode cX0_init 32 = .ok (.putfield 20, 3) := by decide +kernel
theorem dX0_init_35 : decode cX0_init 35 = .ok (.return_, 1) := by decide +kernel
theorem dX0_fill_0 : decode cX0_fill 0 = .ok (.aload_n 0, 1) := by decide +kernel
theorem dX0_fill_1 : decode cX0_fill 1 = .ok (.getfield 9, 3) := by decide +kernel
theorem dX0_fill_4 : decode cX0_fill 4 = .ok (.iconst 0, 1) := by decide +kernel
theorem dX0_fill_5 : decode cX0_fill 5 = .ok (.iconst 0, 1) := by decide +kernel
theorem dX0_fill_6 : decode cX0_fill 6 = .ok (.iastore, 1) := by decide +kernel
theorem dX0_fill_7 : decode cX0_fill 7 = .ok (.iconst 1, 1) := by decide +kernel
theorem dX0_fill_8 : decode cX0_fill 8 = .ok (.istore_n 2, 1) := by decide +kernel
theorem dX0_fill_9 : decode cX0_fill 9 = .ok (.iload_n 2, 1) := by decide +kernel
theorem dX0_fill_10 : decode cX0_fill 10 = .ok (.sipush 300, 3) := by decide +kernel
theorem dX0_fill_13 : decode cX0_fill 13 = .ok (.if_icmp .gt 68, 3) := by decide +kernel
theorem dX0_fill_16 : decode cX0_fill 16 = .ok (.sipush 1000, 3) := by decide +kernel
theorem dX0_fill_19 : decode cX0_fill 19 = .ok (.istore_n 3, 1) := by decide +kernel
theorem dX0_fill_20 : decode cX0_fill 20 = .ok (.iconst 0, 1) := by decide +kernel
theorem dX0_fill_21 : decode cX0_fill 21 = .ok (.istore 4, 2) := by decide +kernel
theorem dX0_fill_23 : decode cX0_fill 23 = .ok (.iload 4, 2) := by decide +kernel
theorem dX0_fill_25 : decode cX0_fill 25 = .ok (.aload_n 1, 1) := by decide +kernel
theorem dX0_fill_26 : decode cX0_fill 26 = .ok (.getfield 23, 3) := by decide +kernel
theorem dX0_fill_29 : decode cX0_fill 29 = .ok (.if_icmp .ge 39, 3) := by decide +kernel
theorem dX0_fill_32 : decode cX0_fill 32 = .ok (.iload_n 2, 1) := by decide +kernel
theorem dX0_fill_33 : decode cX0_fill 33 = .ok (.aload_n 1, 1) := by decide +kernel
theorem dX0_fill_34 : decode cX0_fill 34 = .ok (.getfield 29, 3) := by decide +kernel
theorem dX0_fill_37 : decode cX0_fill 37 = .ok (.iload 4, 2) := by decide +kernel
theorem dX0_fill_39 : decode cX0_fill 39 = .ok (.iaload, 1) := by decide +kernel
theorem dX0_fill_40 : decode cX0_fill 40 = .ok (.isub, 1) := by decide +kernel
theorem dX0_fill_41 : decode cX0_fill 41 = .ok (.istore 5, 2) := by decide +kernel
theorem dX0_fill_43 : decode cX0_fill 43 = .ok (.iload 5, 2) := by decide +kernel
theorem dX0_fill_45 : decode cX0_fill 45 = .ok (.ifCond .lt 17, 3) := by decide +kernel
theorem dX0_fill_48 : decode cX0_fill 48 = .ok (.iload_n 3, 1) := by decide +kernel
theorem dX0_fill_49 : decode cX0_fill 49 = .ok (.aload_n 0, 1) := by decide +kernel
theorem dX0_fill_50 : decode cX0_fill 50 = .ok (.getfield 9, 3) := by decide +kernel
theorem dX0_fill_53 : decode cX0_fill 53 = .ok (.iload 5, 2) := by decide +kernel
theorem dX0_fill_55 : decode cX0_fill 55 = .ok (.iaload, 1) := by decide +kernel
theorem dX0_fill_56 : decode cX0_fill 56 = .ok (.iconst 1, 1) := by decide +kernel
theorem dX0_fill_57 : decode cX0_fill 57 = .ok (.iadd, 1) := by decide +kernel
theorem dX0_fill_58 : decode cX0_fill 58 = .ok (.invokestatic 32, 3) := by decide +kernel
theorem dX0_fill_61 : decode cX0_fill 61 = .ok (.istore_n 3, 1) := by decide +kernel
theorem dX0_fill_62 : decode cX0_fill 62 = .ok (.iinc 4 1, 3) := by decide +kernel
theorem dX0_fill_65 : decode cX0_fill 65 = .ok (.goto (-42), 3) := by decide +kernel
theorem dX0_fill_68 : decode cX0_fill 68 = .ok (.aload_n 0, 1) := by decide +kernel
theorem dX0_fill_69 : decode cX0_fill 69 = .ok (.getfield 9, 3) := by decide +kernel
theorem dX0_fill_72 : decode cX0_fill 72 = .ok (.iload_n 2, 1) := by decide +kernel
theorem dX0_fill_73 : decode cX0_fill 73 = .ok (.iload_n 3, 1) := by decide +kernel
theorem dX0_fill_74 : decode cX0_fill 74 = .ok (.iastore, 1) := by decide +kernel
theorem dX0_fill_75 : decode cX0_fill 75 = .ok (.iinc 2 1, 3) := by decide +kernel
theorem dX0_fill_78 : decode cX0_fill 78 = .ok (.goto (-69), 3) := by decide +kernel
theorem dX0_fill_81 : decode cX0_fill 81 = .ok (.return_, 1) := by decide +kernel
theorem dX0_fewestWithin_0 : decode cX0_fewestWithin 0 = .ok (.aload_n 0, 1) := by decide +kernel
theorem dX0_fewestWithin_1 : decode cX0_fewestWithin 1 = .ok (.getfield 9, 3) := by decide +kernel
theorem dX0_fewestWithin_4 : decode cX0_fewestWithin 4 = .ok (.iload_n 1, 1) := by decide +kernel
theorem dX0_fewestWithin_5 : decode cX0_fewestWithin 5 = .ok (.iaload, 1) := by decide +kernel
theorem dX0_fewestWithin_6 : decode cX0_fewestWithin 6 = .ok (.iload_n 2, 1) := by decide +kernel
theorem dX0_fewestWithin_7 : decode cX0_fewestWithin 7 = .ok (.if_icmp .gt 12, 3) := by decide +kernel
theorem dX0_fewestWithin_10 : decode cX0_fewestWithin 10 = .ok (.aload_n 0, 1) := by decide +kernel
theorem dX0_fewestWithin_11 : decode cX0_fewestWithin 11 = .ok (.getfield 9, 3) := by decide +kernel
theorem dX0_fewestWithin_14 : decode cX0_fewestWithin 14 = .ok (.iload_n 1, 1) := by decide +kernel
theorem dX0_fewestWithin_15 : decode cX0_fewestWithin 15 = .ok (.iaload, 1) := by decide +kernel
theorem dX0_fewestWithin_16 : decode cX0_fewestWithin 16 = .ok (.goto 4, 3) := by decide +kernel
theorem dX0_fewestWithin_19 : decode cX0_fewestWithin 19 = .ok (.iconst (-1), 1) := by decide +kernel
theorem dX0_fewestWithin_20 : decode cX0_fewestWithin 20 = .ok (.ireturn, 1) := by decide +kernel
theorem dX0_reachWithin_0 : decode cX0_reachWithin 0 = .ok (.aload_n 0, 1) := by decide +kernel
theorem dX0_reachWithin_1 : decode cX0_reachWithin 1 = .ok (.iconst 1, 1) := by decide +kernel
theorem dX0_reachWithin_2 : decode cX0_reachWithin 2 = .ok (.iload_n 1, 1) := by decide +kernel
theorem dX0_reachWithin_3 : decode cX0_reachWithin 3 = .ok (.invokevirtual 38, 3) := by decide +kernel
theorem dX0_reachWithin_6 : decode cX0_reachWithin 6 = .ok (.istore_n 2, 1) := by decide +kernel
theorem dX0_reachWithin_7 : decode cX0_reachWithin 7 = .ok (.iload_n 2, 1) := by decide +kernel
theorem dX0_reachWithin_8 : decode cX0_reachWithin 8 = .ok (.iconst (-1), 1) := by decide +kernel
theorem dX0_reachWithin_9 : decode cX0_reachWithin 9 = .ok (.if_icmp .ne 9, 3) := by decide +kernel
theorem dX0_reachWithin_12 : decode cX0_reachWithin 12 = .ok (.sipush 300, 3) := by decide +kernel
theorem dX0_reachWithin_15 : decode cX0_reachWithin 15 = .ok (.goto 6, 3) := by decide +kernel
theorem dX0_reachWithin_18 : decode cX0_reachWithin 18 = .ok (.iload_n 2, 1) := by decide +kernel
theorem dX0_reachWithin_19 : decode cX0_reachWithin 19 = .ok (.iconst 1, 1) := by decide +kernel
theorem dX0_reachWithin_20 : decode cX0_reachWithin 20 = .ok (.isub, 1) := by decide +kernel
theorem dX0_reachWithin_21 : decode cX0_reachWithin 21 = .ok (.ireturn, 1) := by decide +kernel
theorem dX0_firstGap_0 : decode cX0_firstGap 0 = .ok (.iload_n 1, 1) := by decide +kernel
theorem dX0_firstGap_1 : decode cX0_firstGap 1 = .ok (.istore_n 3, 1) := by decide +kernel
theorem dX0_firstGap_2 : decode cX0_firstGap 2 = .ok (.iload_n 3, 1) := by decide +kernel
theorem dX0_firstGap_3 : decode cX0_firstGap 3 = .ok (.sipush 300, 3) := by decide +kernel
theorem dX0_firstGap_6 : decode cX0_firstGap 6 = .ok (.if_icmp .gt 21, 3) := by decide +kernel
theorem dX0_firstGap_9 : decode cX0_firstGap 9 = .ok (.aload_n 0, 1) := by decide +kernel
theorem dX0_firstGap_10 : decode cX0_firstGap 10 = .ok (.getfield 9, 3) := by decide +kernel
theorem dX0_firstGap_13 : decode cX0_firstGap 13 = .ok (.iload_n 3, 1) := by decide +kernel
theorem dX0_firstGap_14 : decode cX0_firstGap 14 = .ok (.iaload, 1) := by decide +kernel
theorem dX0_firstGap_15 : decode cX0_firstGap 15 = .ok (.iload_n 2, 1) := by decide +kernel
theorem dX0_firstGap_16 : decode cX0_firstGap 16 = .ok (.if_icmp .le 5, 3) := by decide +kernel
theorem dX0_firstGap_19 : decode cX0_firstGap 19 = .ok (.iload_n 3, 1) := by decide +kernel
theorem dX0_firstGap_20 : decode cX0_firstGap 20 = .ok (.ireturn, 1) := by decide +kernel
theorem dX0_firstGap_21 : decode cX0_firstGap 21 = .ok (.iinc 3 1, 3) := by decide +kernel
theorem dX0_firstGap_24 : decode cX0_firstGap 24 = .ok (.goto (-22), 3) := by decide +kernel
theorem dX0_firstGap_27 : decode cX0_firstGap 27 = .ok (.iconst (-1), 1) := by decide +kernel
theorem dX0_firstGap_28 : decode cX0_firstGap 28 = .ok (.ireturn, 1) := by decide +kernel
theorem dX0_countGaps_0 : decode cX0_countGaps 0 = .ok (.iconst 0, 1) := by decide +kernel
theorem dX0_countGaps_1 : decode cX0_countGaps 1 = .ok (.istore_n 3, 1) := by decide +kernel
theorem dX0_countGaps_2 : decode cX0_countGaps 2 = .ok (.iconst 1, 1) := by decide +kernel
theorem dX0_countGaps_3 : decode cX0_countGaps 3 = .ok (.istore 4, 2) := by decide +kernel
theorem dX0_countGaps_5 : decode cX0_countGaps 5 = .ok (.iload 4, 2) := by decide +kernel
theorem dX0_countGaps_7 : decode cX0_countGaps 7 = .ok (.iload_n 1, 1) := by decide +kernel
theorem dX0_countGaps_8 : decode cX0_countGaps 8 = .ok (.if_icmp .gt 23, 3) := by decide +kernel
theorem dX0_countGaps_11 : decode cX0_countGaps 11 = .ok (.aload_n 0, 1) := by decide +kernel
theorem dX0_countGaps_12 : decode cX0_countGaps 12 = .ok (.getfield 9, 3) := by decide +kernel
theorem dX0_countGaps_15 : decode cX0_countGaps 15 = .ok (.iload 4, 2) := by decide +kernel
theorem dX0_countGaps_17 : decode cX0_countGaps 17 = .ok (.iaload, 1) := by decide +kernel
theorem dX0_countGaps_18 : decode cX0_countGaps 18 = .ok (.iload_n 2, 1) := by decide +kernel
theorem dX0_countGaps_19 : decode cX0_countGaps 19 = .ok (.if_icmp .le 6, 3) := by decide +kernel
theorem dX0_countGaps_22 : decode cX0_countGaps 22 = .ok (.iinc 3 1, 3) := by decide +kernel
theorem dX0_countGaps_25 : decode cX0_countGaps 25 = .ok (.iinc 4 1, 3) := by decide +kernel
theorem dX0_countGaps_28 : decode cX0_countGaps 28 = .ok (.goto (-23), 3) := by decide +kernel
theorem dX0_countGaps_31 : decode cX0_countGaps 31 = .ok (.iload_n 3, 1) := by decide +kernel
theorem dX0_countGaps_32 : decode cX0_countGaps 32 = .ok (.ireturn, 1) := by decide +kernel
theorem dX0_reachWithValue_0 : decode cX0_reachWithValue 0 = .ok (.aload_n 0, 1) := by decide +kernel
theorem dX0_reachWithValue_1 : decode cX0_reachWithValue 1 = .ok (.getfield 15, 3) := by decide +kernel
theorem dX0_reachWithValue_4 : decode cX0_reachWithValue 4 = .ok (.iconst 0, 1) := by decide +kernel
theorem dX0_reachWithValue_5 : decode cX0_reachWithValue 5 = .ok (.iconst 0, 1) := by decide +kernel
theorem dX0_reachWithValue_6 : decode cX0_reachWithValue 6 = .ok (.iastore, 1) := by decide +kernel
theorem dX0_reachWithValue_7 : decode cX0_reachWithValue 7 = .ok (.iconst 1, 1) := by decide +kernel
theorem dX0_reachWithValue_8 : decode cX0_reachWithValue 8 = .ok (.istore_n 3, 1) := by decide +kernel
theorem dX0_reachWithValue_9 : decode cX0_reachWithValue 9 = .ok (.iload_n 3, 1) := by decide +kernel
theorem dX0_reachWithValue_10 : decode cX0_reachWithValue 10 = .ok (.sipush 300, 3) := by decide +kernel
theorem dX0_reachWithValue_13 : decode cX0_reachWithValue 13 = .ok (.if_icmp .gt 57, 3) := by decide +kernel
theorem dX0_reachWithValue_16 : decode cX0_reachWithValue 16 = .ok (.aload_n 0, 1) := by decide +kernel
theorem dX0_reachWithValue_17 : decode cX0_reachWithValue 17 = .ok (.getfield 9, 3) := by decide +kernel
theorem dX0_reachWithValue_20 : decode cX0_reachWithValue 20 = .ok (.iload_n 3, 1) := by decide +kernel
theorem dX0_reachWithValue_21 : decode cX0_reachWithValue 21 = .ok (.iaload, 1) := by decide +kernel
theorem dX0_reachWithValue_22 : decode cX0_reachWithValue 22 = .ok (.istore 4, 2) := by decide +kernel
theorem dX0_reachWithValue_24 : decode cX0_reachWithValue 24 = .ok (.iload_n 3, 1) := by decide +kernel
theorem dX0_reachWithValue_25 : decode cX0_reachWithValue 25 = .ok (.iload_n 1, 1) := by decide +kernel
theorem dX0_reachWithValue_26 : decode cX0_reachWithValue 26 = .ok (.if_icmp .lt 20, 3) := by decide +kernel
theorem dX0_reachWithValue_29 : decode cX0_reachWithValue 29 = .ok (.iload 4, 2) := by decide +kernel
theorem dX0_reachWithValue_31 : decode cX0_reachWithValue 31 = .ok (.aload_n 0, 1) := by decide +kernel
theorem dX0_reachWithValue_32 : decode cX0_reachWithValue 32 = .ok (.getfield 15, 3) := by decide +kernel
theorem dX0_reachWithValue_35 : decode cX0_reachWithValue 35 = .ok (.iload_n 3, 1) := by decide +kernel
theorem dX0_reachWithValue_36 : decode cX0_reachWithValue 36 = .ok (.iload_n 1, 1) := by decide +kernel
theorem dX0_reachWithValue_37 : decode cX0_reachWithValue 37 = .ok (.isub, 1) := by decide +kernel
theorem dX0_reachWithValue_38 : decode cX0_reachWithValue 38 = .ok (.iaload, 1) := by decide +kernel
theorem dX0_reachWithValue_39 : decode cX0_reachWithValue 39 = .ok (.iconst 1, 1) := by decide +kernel
theorem dX0_reachWithValue_40 : decode cX0_reachWithValue 40 = .ok (.iadd, 1) := by decide +kernel
theorem dX0_reachWithValue_41 : decode cX0_reachWithValue 41 = .ok (.invokestatic 32, 3) := by decide +kernel
theorem dX0_reachWithValue_44 : decode cX0_reachWithValue 44 = .ok (.istore 4, 2) := by decide +kernel
theorem dX0_reachWithValue_46 : decode cX0_reachWithValue 46 = .ok (.iload 4, 2) := by decide +kernel
theorem dX0_reachWithValue_48 : decode cX0_reachWithValue 48 = .ok (.iload_n 2, 1) := by decide +kernel
theorem dX0_reachWithValue_49 : decode cX0_reachWithValue 49 = .ok (.if_icmp .le 7, 3) := by decide +kernel
theorem dX0_reachWithValue_52 : decode cX0_reachWithValue 52 = .ok (.iload_n 3, 1) := by decide +kernel
theorem dX0_reachWithValue_53 : decode cX0_reachWithValue 53 = .ok (.iconst 1, 1) := by decide +kernel
theorem dX0_reachWithValue_54 : decode cX0_reachWithValue 54 = .ok (.isub, 1) := by decide +kernel
theorem dX0_reachWithValue_55 : decode cX0_reachWithValue 55 = .ok (.ireturn, 1) := by decide +kernel
theorem dX0_reachWithValue_56 : decode cX0_reachWithValue 56 = .ok (.aload_n 0, 1) := by decide +kernel
theorem dX0_reachWithValue_57 : decode cX0_reachWithValue 57 = .ok (.getfield 15, 3) := by decide +kernel
theorem dX0_reachWithValue_60 : decode cX0_reachWithValue 60 = .ok (.iload_n 3, 1) := by decide +kernel
theorem dX0_reachWithValue_61 : decode cX0_reachWithValue 61 = .ok (.iload 4, 2) := by decide +kernel
theorem dX0_reachWithValue_63 : decode cX0_reachWithValue 63 = .ok (.iastore, 1) := by decide +kernel
theorem dX0_reachWithValue_64 : decode cX0_reachWithValue 64 = .ok (.iinc 3 1, 3) := by decide +kernel
theorem dX0_reachWithValue_67 : decode cX0_reachWithValue 67 = .ok (.goto (-58), 3) := by decide +kernel
theorem dX0_reachWithValue_70 : decode cX0_reachWithValue 70 = .ok (.sipush 300, 3) := by decide +kernel
theorem dX0_reachWithValue_73 : decode cX0_reachWithValue 73 = .ok (.ireturn, 1) := by decide +kernel
theorem dX0_countChoices_0 : decode cX0_countChoices 0 = .ok (.aload_n 0, 1) := by decide +kernel
theorem dX0_countChoices_1 : decode cX0_countChoices 1 = .ok (.iload_n 2, 1) := by decide +kernel
theorem dX0_countChoices_2 : decode cX0_countChoices 2 = .ok (.iload_n 3, 1) := by decide +kernel
theorem dX0_countChoices_3 : decode cX0_countChoices 3 = .ok (.invokevirtual 41, 3) := by decide +kernel
theorem dX0_countChoices_6 : decode cX0_countChoices 6 = .ok (.iconst 0, 1) := by decide +kernel
theorem dX0_countChoices_7 : decode cX0_countChoices 7 = .ok (.istore 4, 2) := by decide +kernel
theorem dX0_countChoices_9 : decode cX0_countChoices 9 = .ok (.iload 4, 2) := by decide +kernel
theorem dX0_countChoices_11 : decode cX0_countChoices 11 = .ok (.aload_n 1, 1) := by decide +kernel
theorem dX0_countChoices_12 : decode cX0_countChoices 12 = .ok (.getfield 23, 3) := by decide +kernel
theorem dX0_countChoices_15 : decode cX0_countChoices 15 = .ok (.if_icmp .ge 22, 3) := by decide +kernel
theorem dX0_countChoices_18 : decode cX0_countChoices 18 = .ok (.aload_n 0, 1) := by decide +kernel
theorem dX0_countChoices_19 : decode cX0_countChoices 19 = .ok (.aload_n 1, 1) := by decide +kernel
theorem dX0_countChoices_20 : decode cX0_countChoices 20 = .ok (.getfield 29, 3) := by decide +kernel
theorem dX0_countChoices_23 : decode cX0_countChoices 23 = .ok (.iload 4, 2) := by decide +kernel
theorem dX0_countChoices_25 : decode cX0_countChoices 25 = .ok (.iaload, 1) := by decide +kernel
theorem dX0_countChoices_26 : decode cX0_countChoices 26 = .ok (.iload_n 2, 1) := by decide +kernel
theorem dX0_countChoices_27 : decode cX0_countChoices 27 = .ok (.iload_n 3, 1) := by decide +kernel
theorem dX0_countChoices_28 : decode cX0_countChoices 28 = .ok (.invokevirtual 45, 3) := by decide +kernel
theorem dX0_countChoices_31 : decode cX0_countChoices 31 = .ok (.iinc 4 1, 3) := by decide +kernel
theorem dX0_countChoices_34 : decode cX0_countChoices 34 = .ok (.goto (-25), 3) := by decide +kernel
theorem dX0_countChoices_37 : decode cX0_countChoices 37 = .ok (.iconst 0, 1) := by decide +kernel
theorem dX0_countChoices_38 : decode cX0_countChoices 38 = .ok (.istore 4, 2) := by decide +kernel
theorem dX0_countChoices_40 : decode cX0_countChoices 40 = .ok (.iconst 0, 1) := by decide +kernel
theorem dX0_countChoices_41 : decode cX0_countChoices 41 = .ok (.istore 5, 2) := by decide +kernel
theorem dX0_countChoices_43 : decode cX0_countChoices 43 = .ok (.iload 5, 2) := by decide +kernel
theorem dX0_countChoices_45 : decode cX0_countChoices 45 = .ok (.iload_n 2, 1) := by decide +kernel
theorem dX0_countChoices_46 : decode cX0_countChoices 46 = .ok (.if_icmp .gt 23, 3) := by decide +kernel
theorem dX0_countChoices_49 : decode cX0_countChoices 49 = .ok (.iload 4, 2) := by decide +kernel
theorem dX0_countChoices_51 : decode cX0_countChoices 51 = .ok (.aload_n 0, 1) := by decide +kernel
theorem dX0_countChoices_52 : decode cX0_countChoices 52 = .ok (.getfield 20, 3) := by decide +kernel
theorem dX0_countChoices_55 : decode cX0_countChoices 55 = .ok (.iload 5, 2) := by decide +kernel
theorem dX0_countChoices_57 : decode cX0_countChoices 57 = .ok (.aaload, 1) := by decide +kernel
theorem dX0_countChoices_58 : decode cX0_countChoices 58 = .ok (.iload_n 3, 1) := by decide +kernel
theorem dX0_countChoices_59 : decode cX0_countChoices 59 = .ok (.iaload, 1) := by decide +kernel
theorem dX0_countChoices_60 : decode cX0_countChoices 60 = .ok (.iadd, 1) := by decide +kernel
theorem dX0_countChoices_61 : decode cX0_countChoices 61 = .ok (.istore 4, 2) := by decide +kernel
theorem dX0_countChoices_63 : decode cX0_countChoices 63 = .ok (.iinc 5 1, 3) := by decide +kernel
theorem dX0_countChoices_66 : decode cX0_countChoices 66 = .ok (.goto (-23), 3) := by decide +kernel
theorem dX0_countChoices_69 : decode cX0_countChoices 69 = .ok (.iload 4, 2) := by decide +kernel
theorem dX0_countChoices_71 : decode cX0_countChoices 71 = .ok (.ireturn, 1) := by decide +kernel
theorem dX0_clearChoices_0 : decode cX0_clearChoices 0 = .ok (.iconst 0, 1) := by decide +kernel
theorem dX0_clearChoices_1 : decode cX0_clearChoices 1 = .ok (.istore_n 3, 1) := by decide +kernel
theorem dX0_clearChoices_2 : decode cX0_clearChoices 2 = .ok (.iload_n 3, 1) := by decide +kernel
theorem dX0_clearChoices_3 : decode cX0_clearChoices 3 = .ok (.iload_n 1, 1) := by decide +kernel
theorem dX0_clearChoices_4 : decode cX0_clearChoices 4 = .ok (.if_icmp .gt 34, 3) := by decide +kernel
theorem dX0_clearChoices_7 : decode cX0_clearChoices 7 = .ok (.iconst 0, 1) := by decide +kernel
theorem dX0_clearChoices_8 : decode cX0_clearChoices 8 = .ok (.istore 4, 2) := by decide +kernel
theorem dX0_clearChoices_10 : decode cX0_clearChoices 10 = .ok (.iload 4, 2) := by decide +kernel
theorem dX0_clearChoices_12 : decode cX0_clearChoices 12 = .ok (.iload_n 2, 1) := by decide +kernel
theorem dX0_clearChoices_13 : decode cX0_clearChoices 13 = .ok (.if_icmp .gt 19, 3) := by decide +kernel
theorem dX0_clearChoices_16 : decode cX0_clearChoices 16 = .ok (.aload_n 0, 1) := by decide +kernel
theorem dX0_clearChoices_17 : decode cX0_clearChoices 17 = .ok (.getfield 20, 3) := by decide +kernel
theorem dX0_clearChoices_20 : decode cX0_clearChoices 20 = .ok (.iload_n 3, 1) := by decide +kernel
theorem dX0_clearChoices_21 : decode cX0_clearChoices 21 = .ok (.aaload, 1) := by decide +kernel
theorem dX0_clearChoices_22 : decode cX0_clearChoices 22 = .ok (.iload 4, 2) := by decide +kernel
theorem dX0_clearChoices_24 : decode cX0_clearChoices 24 = .ok (.iconst 0, 1) := by decide +kernel
theorem dX0_clearChoices_25 : decode cX0_clearChoices 25 = .ok (.iastore, 1) := by decide +kernel
theorem dX0_clearChoices_26 : decode cX0_clearChoices 26 = .ok (.iinc 4 1, 3) := by decide +kernel
theorem dX0_clearChoices_29 : decode cX0_clearChoices 29 = .ok (.goto (-19), 3) := by decide +kernel
theorem dX0_clearChoices_32 : decode cX0_clearChoices 32 = .ok (.iinc 3 1, 3) := by decide +kernel
theorem dX0_clearChoices_35 : decode cX0_clearChoices 35 = .ok (.goto (-33), 3) := by decide +kernel
theorem dX0_clearChoices_38 : decode cX0_clearChoices 38 = .ok (.aload_n 0, 1) := by decide +kernel
theorem dX0_clearChoices_39 : decode cX0_clearChoices 39 = .ok (.getfield 20, 3) := by decide +kernel
theorem dX0_clearChoices_42 : decode cX0_clearChoices 42 = .ok (.iconst 0, 1) := by decide +kernel
theorem dX0_clearChoices_43 : decode cX0_clearChoices 43 = .ok (.aaload, 1) := by decide +kernel
theorem dX0_clearChoices_44 : decode cX0_clearChoices 44 = .ok (.iconst 0, 1) := by decide +kernel
theorem dX0_clearChoices_45 : decode cX0_clearChoices 45 = .ok (.iconst 1, 1) := by decide +kernel
theorem dX0_clearChoices_46 : decode cX0_clearChoices 46 = .ok (.iastore, 1) := by decide +kernel
theorem dX0_clearChoices_47 : decode cX0_clearChoices 47 = .ok (.return_, 1) := by decide +kernel
theorem dX0_addChoicesWith_0 : decode cX0_addChoicesWith 0 = .ok (.iconst 1, 1) := by decide +kernel
theorem dX0_addChoicesWith_1 : decode cX0_addChoicesWith 1 = .ok (.istore 4, 2) := by decide +kernel
theorem dX0_addChoicesWith_3 : decode cX0_addChoicesWith 3 = .ok (.iload 4, 2) := by decide +kernel
theorem dX0_addChoicesWith_5 : decode cX0_addChoicesWith 5 = .ok (.iload_n 2, 1) := by decide +kernel
theorem dX0_addChoicesWith_6 : decode cX0_addChoicesWith 6 = .ok (.if_icmp .gt 51, 3) := by decide +kernel
theorem dX0_addChoicesWith_9 : decode cX0_addChoicesWith 9 = .ok (.iload_n 1, 1) := by decide +kernel
theorem dX0_addChoicesWith_10 : decode cX0_addChoicesWith 10 = .ok (.istore 5, 2) := by decide +kernel
theorem dX0_addChoicesWith_12 : decode cX0_addChoicesWith 12 = .ok (.iload 5, 2) := by decide +kernel
theorem dX0_addChoicesWith_14 : decode cX0_addChoicesWith 14 = .ok (.iload_n 3, 1) := by decide +kernel
theorem dX0_addChoicesWith_15 : decode cX0_addChoicesWith 15 = .ok (.if_icmp .gt 36, 3) := by decide +kernel
theorem dX0_addChoicesWith_18 : decode cX0_addChoicesWith 18 = .ok (.aload_n 0, 1) := by decide +kernel
theorem dX0_addChoicesWith_19 : decode cX0_addChoicesWith 19 = .ok (.getfield 20, 3) := by decide +kernel
theorem dX0_addChoicesWith_22 : decode cX0_addChoicesWith 22 = .ok (.iload 4, 2) := by decide +kernel
theorem dX0_addChoicesWith_24 : decode cX0_addChoicesWith 24 = .ok (.aaload, 1) := by decide +kernel
theorem dX0_addChoicesWith_25 : decode cX0_addChoicesWith 25 = .ok (.iload 5, 2) := by decide +kernel
theorem dX0_addChoicesWith_27 : decode cX0_addChoicesWith 27 = .ok (.dup2, 1) := by decide +kernel
theorem dX0_addChoicesWith_28 : decode cX0_addChoicesWith 28 = .ok (.iaload, 1) := by decide +kernel
theorem dX0_addChoicesWith_29 : decode cX0_addChoicesWith 29 = .ok (.aload_n 0, 1) := by decide +kernel
theorem dX0_addChoicesWith_30 : decode cX0_addChoicesWith 30 = .ok (.getfield 20, 3) := by decide +kernel
theorem dX0_addChoicesWith_33 : decode cX0_addChoicesWith 33 = .ok (.iload 4, 2) := by decide +kernel
theorem dX0_addChoicesWith_35 : decode cX0_addChoicesWith 35 = .ok (.iconst 1, 1) := by decide +kernel
theorem dX0_addChoicesWith_36 : decode cX0_addChoicesWith 36 = .ok (.isub, 1) := by decide +kernel
theorem dX0_addChoicesWith_37 : decode cX0_addChoicesWith 37 = .ok (.aaload, 1) := by decide +kernel
theorem dX0_addChoicesWith_38 : decode cX0_addChoicesWith 38 = .ok (.iload 5, 2) := by decide +kernel
theorem dX0_addChoicesWith_40 : decode cX0_addChoicesWith 40 = .ok (.iload_n 1, 1) := by decide +kernel
theorem dX0_addChoicesWith_41 : decode cX0_addChoicesWith 41 = .ok (.isub, 1) := by decide +kernel
theorem dX0_addChoicesWith_42 : decode cX0_addChoicesWith 42 = .ok (.iaload, 1) := by decide +kernel
theorem dX0_addChoicesWith_43 : decode cX0_addChoicesWith 43 = .ok (.iadd, 1) := by decide +kernel
theorem dX0_addChoicesWith_44 : decode cX0_addChoicesWith 44 = .ok (.iastore, 1) := by decide +kernel
theorem dX0_addChoicesWith_45 : decode cX0_addChoicesWith 45 = .ok (.iinc 5 1, 3) := by decide +kernel
theorem dX0_addChoicesWith_48 : decode cX0_addChoicesWith 48 = .ok (.goto (-36), 3) := by decide +kernel
theorem dX0_addChoicesWith_51 : decode cX0_addChoicesWith 51 = .ok (.iinc 4 1, 3) := by decide +kernel
theorem dX0_addChoicesWith_54 : decode cX0_addChoicesWith 54 = .ok (.goto (-51), 3) := by decide +kernel
theorem dX0_addChoicesWith_57 : decode cX0_addChoicesWith 57 = .ok (.return_, 1) := by decide +kernel
theorem dX1_init_0 : decode cX1_init 0 = .ok (.aload_n 0, 1) := by decide +kernel
theorem dX1_init_1 : decode cX1_init 1 = .ok (.invokespecial 3, 3) := by decide +kernel
theorem dX1_init_4 : decode cX1_init 4 = .ok (.aload_n 0, 1) := by decide +kernel
theorem dX1_init_5 : decode cX1_init 5 = .ok (.bipush 8, 2) := by decide +kernel
theorem dX1_init_7 : decode cX1_init 7 = .ok (.newarray .int, 2) := by decide +kernel
theorem dX1_init_9 : decode cX1_init 9 = .ok (.putfield 9, 3) := by decide +kernel
theorem dX1_init_12 : decode cX1_init 12 = .ok (.aload_n 0, 1) := by decide +kernel
theorem dX1_init_13 : decode cX1_init 13 = .ok (.bipush 8, 2) := by decide +kernel
theorem dX1_init_15 : decode cX1_init 15 = .ok (.newarray .int, 2) := by decide +kernel
theorem dX1_init_17 : decode cX1_init 17 = .ok (.putfield 15, 3) := by decide +kernel
theorem dX1_init_20 : decode cX1_init 20 = .ok (.aload_n 0, 1) := by decide +kernel
theorem dX1_init_21 : decode cX1_init 21 = .ok (.bipush 8, 2) := by decide +kernel
theorem dX1_init_23 : decode cX1_init 23 = .ok (.newarray .int, 2) := by decide +kernel
theorem dX1_init_25 : decode cX1_init 25 = .ok (.putfield 18, 3) := by decide +kernel
theorem dX1_init_28 : decode cX1_init 28 = .ok (.aload_n 0, 1) := by decide +kernel
theorem dX1_init_29 : decode cX1_init 29 = .ok (.iconst 0, 1) := by decide +kernel
theorem dX1_init_30 : decode cX1_init 30 = .ok (.putfield 21, 3) := by decide +kernel
theorem dX1_init_33 : decode cX1_init 33 = .ok (.return_, 1) := by decide +kernel
theorem dX1_hasValue_0 : decode cX1_hasValue 0 = .ok (.iconst 0, 1) := by decide +kernel
theorem dX1_hasValue_1 : decode cX1_hasValue 1 = .ok (.istore_n 2, 1) := by decide +kernel
theorem dX1_hasValue_2 : decode cX1_hasValue 2 = .ok (.iload_n 2, 1) := by decide +kernel
theorem dX1_hasValue_3 : decode cX1_hasValue 3 = .ok (.aload_n 0, 1) := by decide +kernel
theorem dX1_hasValue_4 : decode cX1_hasValue 4 = .ok (.getfield 21, 3) := by decide +kernel
theorem dX1_hasValue_7 : decode cX1_hasValue 7 = .ok (.if_icmp .ge 21, 3) := by decide +kernel
theorem dX1_hasValue_10 : decode cX1_hasValue 10 = .ok (.aload_n 0, 1) := by decide +kernel
theorem dX1_hasValue_11 : decode cX1_hasValue 11 = .ok (.getfield 9, 3) := by decide +kernel
theorem dX1_hasValue_14 : decode cX1_hasValue 14 = .ok (.iload_n 2, 1) := by decide +kernel
theorem dX1_hasValue_15 : decode cX1_hasValue 15 = .ok (.iaload, 1) := by decide +kernel
theorem dX1_hasValue_16 : decode cX1_hasValue 16 = .ok (.iload_n 1, 1) := by decide +kernel
theorem dX1_hasValue_17 : decode cX1_hasValue 17 = .ok (.if_icmp .ne 5, 3) := by decide +kernel
theorem dX1_hasValue_20 : decode cX1_hasValue 20 = .ok (.iconst 1, 1) := by decide +kernel
theorem dX1_hasValue_21 : decode cX1_hasValue 21 = .ok (.ireturn, 1) := by decide +kernel
theorem dX1_hasValue_22 : decode cX1_hasValue 22 = .ok (.iinc 2 1, 3) := by decide +kernel
theorem dX1_hasValue_25 : decode cX1_hasValue 25 = .ok (.goto (-23), 3) := by decide +kernel
theorem dX1_hasValue_28 : decode cX1_hasValue 28 = .ok (.iconst 0, 1) := by decide +kernel
theorem dX1_hasValue_29 : decode cX1_hasValue 29 = .ok (.ireturn, 1) := by decide +kernel
theorem dX1_countAbove_0 : decode cX1_countAbove 0 = .ok (.iconst 0, 1) := by decide +kernel
theorem dX1_countAbove_1 : decode cX1_countAbove 1 = .ok (.istore_n 2, 1) := by decide +kernel
theorem dX1_countAbove_2 : decode cX1_countAbove 2 = .ok (.iconst 0, 1) := by decide +kernel
theorem dX1_countAbove_3 : decode cX1_countAbove 3 = .ok (.istore_n 3, 1) := by decide +kernel
theorem dX1_countAbove_4 : decode cX1_countAbove 4 = .ok (.iload_n 3, 1) := by decide +kernel
theorem dX1_countAbove_5 : decode cX1_countAbove 5 = .ok (.aload_n 0, 1) := by decide +kernel
theorem dX1_countAbove_6 : decode cX1_countAbove 6 = .ok (.getfield 21, 3) := by decide +kernel
theorem dX1_countAbove_9 : decode cX1_countAbove 9 = .ok (.if_icmp .ge 27, 3) := by decide +kernel
theorem dX1_countAbove_12 : decode cX1_countAbove 12 = .ok (.aload_n 0, 1) := by decide +kernel
theorem dX1_countAbove_13 : decode cX1_countAbove 13 = .ok (.getfield 9, 3) := by decide +kernel
theorem dX1_countAbove_16 : decode cX1_countAbove 16 = .ok (.iload_n 3, 1) := by decide +kernel
theorem dX1_countAbove_17 : decode cX1_countAbove 17 = .ok (.iaload, 1) := by decide +kernel
theorem dX1_countAbove_18 : decode cX1_countAbove 18 = .ok (.aload_n 0, 1) := by decide +kernel
theorem dX1_countAbove_19 : decode cX1_countAbove 19 = .ok (.getfield 9, 3) := by decide +kernel
theorem dX1_countAbove_22 : decode cX1_countAbove 22 = .ok (.iload_n 1, 1) := by decide +kernel
theorem dX1_countAbove_23 : decode cX1_countAbove 23 = .ok (.iaload, 1) := by decide +kernel
theorem dX1_countAbove_24 : decode cX1_countAbove 24 = .ok (.if_icmp .le 6, 3) := by decide +kernel
theorem dX1_countAbove_27 : decode cX1_countAbove 27 = .ok (.iinc 2 1, 3) := by decide +kernel
theorem dX1_countAbove_30 : decode cX1_countAbove 30 = .ok (.iinc 3 1, 3) := by decide +kernel
theorem dX1_countAbove_33 : decode cX1_countAbove 33 = .ok (.goto (-29), 3) := by decide +kernel
theorem dX1_countAbove_36 : decode cX1_countAbove 36 = .ok (.iload_n 2, 1) := by decide +kernel
theorem dX1_countAbove_37 : decode cX1_countAbove 37 = .ok (.ireturn, 1) := by decide +kernel
theorem dX1_append_0 : decode cX1_append 0 = .ok (.aload_n 0, 1) := by decide +kernel
theorem dX1_append_1 : decode cX1_append 1 = .ok (.getfield 21, 3) := by decide +kernel
theorem dX1_append_4 : decode cX1_append 4 = .ok (.istore_n 3, 1) := by decide +kernel
theorem dX1_append_5 : decode cX1_append 5 = .ok (.iload_n 3, 1) := by decide +kernel
theorem dX1_append_6 : decode cX1_append 6 = .ok (.bipush 8, 2) := by decide +kernel
theorem dX1_append_8 : decode cX1_append 8 = .ok (.if_icmp .lt 5, 3) := by decide +kernel
theorem dX1_append_11 : decode cX1_append 11 = .ok (.iconst (-1), 1) := by decide +kernel
theorem dX1_append_12 : decode cX1_append 12 = .ok (.ireturn, 1) := by decide +kernel
theorem dX1_append_13 : decode cX1_append 13 = .ok (.aload_n 0, 1) := by decide +kernel
theorem dX1_append_14 : decode cX1_append 14 = .ok (.getfield 9, 3) := by decide +kernel
theorem dX1_append_17 : decode cX1_append 17 = .ok (.iload_n 3, 1) := by decide +kernel
theorem dX1_append_18 : decode cX1_append 18 = .ok (.iload_n 1, 1) := by decide +kernel
theorem dX1_append_19 : decode cX1_append 19 = .ok (.iastore, 1) := by decide +kernel
theorem dX1_append_20 : decode cX1_append 20 = .ok (.aload_n 0, 1) := by decide +kernel
theorem dX1_append_21 : decode cX1_append 21 = .ok (.getfield 15, 3) := by decide +kernel
theorem dX1_append_24 : decode cX1_append 24 = .ok (.iload_n 3, 1) := by decide +kernel
theorem dX1_append_25 : decode cX1_append 25 = .ok (.iload_n 2, 1) := by decide +kernel
theorem dX1_append_26 : decode cX1_append 26 = .ok (.iastore, 1) := by decide +kernel
theorem dX1_append_27 : decode cX1_append 27 = .ok (.aload_n 0, 1) := by decide +kernel
theorem dX1_append_28 : decode cX1_append 28 = .ok (.getfield 18, 3) := by decide +kernel
theorem dX1_append_31 : decode cX1_append 31 = .ok (.iload_n 3, 1) := by decide +kernel
theorem dX1_append_32 : decode cX1_append 32 = .ok (.iconst 0, 1) := by decide +kernel
theorem dX1_append_33 : decode cX1_append 33 = .ok (.iastore, 1) := by decide +kernel
theorem dX1_append_34 : decode cX1_append 34 = .ok (.aload_n 0, 1) := by decide +kernel
theorem dX1_append_35 : decode cX1_append 35 = .ok (.iload_n 3, 1) := by decide +kernel
theorem dX1_append_36 : decode cX1_append 36 = .ok (.iconst 1, 1) := by decide +kernel
theorem dX1_append_37 : decode cX1_append 37 = .ok (.iadd, 1) := by decide +kernel
theorem dX1_append_38 : decode cX1_append 38 = .ok (.putfield 21, 3) := by decide +kernel
theorem dX1_append_41 : decode cX1_append 41 = .ok (.iload_n 3, 1) := by decide +kernel
theorem dX1_append_42 : decode cX1_append 42 = .ok (.ireturn, 1) := by decide +kernel
theorem dX1_removeAt_0 : decode cX1_removeAt 0 = .ok (.iload_n 1, 1) := by decide +kernel
theorem dX1_removeAt_1 : decode cX1_removeAt 1 = .ok (.iconst 1, 1) := by decide +kernel
theorem dX1_removeAt_2 : decode cX1_removeAt 2 = .ok (.iadd, 1) := by decide +kernel
theorem dX1_removeAt_3 : decode cX1_removeAt 3 = .ok (.istore_n 2, 1) := by decide +kernel
theorem dX1_removeAt_4 : decode cX1_removeAt 4 = .ok (.iload_n 2, 1) := by decide +kernel
theorem dX1_removeAt_5 : decode cX1_removeAt 5 = .ok (.aload_n 0, 1) := by decide +kernel
theorem dX1_removeAt_6 : decode cX1_removeAt 6 = .ok (.getfield 21, 3) := by decide +kernel
theorem dX1_removeAt_9 : decode cX1_removeAt 9 = .ok (.if_icmp .ge 51, 3) := by decide +kernel
theorem dX1_removeAt_12 : decode cX1_removeAt 12 = .ok (.aload_n 0, 1) := by decide +kernel
theorem dX1_removeAt_13 : decode cX1_removeAt 13 = .ok (.getfield 9, 3) := by decide +kernel
theorem dX1_removeAt_16 : decode cX1_removeAt 16 = .ok (.iload_n 2, 1) := by decide +kernel
theorem dX1_removeAt_17 : decode cX1_removeAt 17 = .ok (.iconst 1, 1) := by decide +kernel
theorem dX1_removeAt_18 : decode cX1_removeAt 18 = .ok (.isub, 1) := by decide +kernel
theorem dX1_removeAt_19 : decode cX1_removeAt 19 = .ok (.aload_n 0, 1) := by decide +kernel
theorem dX1_removeAt_20 : decode cX1_removeAt 20 = .ok (.getfield 9, 3) := by decide +kernel
theorem dX1_removeAt_23 : decode cX1_removeAt 23 = .ok (.iload_n 2, 1) := by decide +kernel
theorem dX1_removeAt_24 : decode cX1_removeAt 24 = .ok (.iaload, 1) := by decide +kernel
theorem dX1_removeAt_25 : decode cX1_removeAt 25 = .ok (.iastore, 1) := by decide +kernel
theorem dX1_removeAt_26 : decode cX1_removeAt 26 = .ok (.aload_n 0, 1) := by decide +kernel
theorem dX1_removeAt_27 : decode cX1_removeAt 27 = .ok (.getfield 15, 3) := by decide +kernel
theorem dX1_removeAt_30 : decode cX1_removeAt 30 = .ok (.iload_n 2, 1) := by decide +kernel
theorem dX1_removeAt_31 : decode cX1_removeAt 31 = .ok (.iconst 1, 1) := by decide +kernel
theorem dX1_removeAt_32 : decode cX1_removeAt 32 = .ok (.isub, 1) := by decide +kernel
theorem dX1_removeAt_33 : decode cX1_removeAt 33 = .ok (.aload_n 0, 1) := by decide +kernel
theorem dX1_removeAt_34 : decode cX1_removeAt 34 = .ok (.getfield 15, 3) := by decide +kernel
theorem dX1_removeAt_37 : decode cX1_removeAt 37 = .ok (.iload_n 2, 1) := by decide +kernel
theorem dX1_removeAt_38 : decode cX1_removeAt 38 = .ok (.iaload, 1) := by decide +kernel
theorem dX1_removeAt_39 : decode cX1_removeAt 39 = .ok (.iastore, 1) := by decide +kernel
theorem dX1_removeAt_40 : decode cX1_removeAt 40 = .ok (.aload_n 0, 1) := by decide +kernel
theorem dX1_removeAt_41 : decode cX1_removeAt 41 = .ok (.getfield 18, 3) := by decide +kernel
theorem dX1_removeAt_44 : decode cX1_removeAt 44 = .ok (.iload_n 2, 1) := by decide +kernel
theorem dX1_removeAt_45 : decode cX1_removeAt 45 = .ok (.iconst 1, 1) := by decide +kernel
theorem dX1_removeAt_46 : decode cX1_removeAt 46 = .ok (.isub, 1) := by decide +kernel
theorem dX1_removeAt_47 : decode cX1_removeAt 47 = .ok (.aload_n 0, 1) := by decide +kernel
theorem dX1_removeAt_48 : decode cX1_removeAt 48 = .ok (.getfield 18, 3) := by decide +kernel
theorem dX1_removeAt_51 : decode cX1_removeAt 51 = .ok (.iload_n 2, 1) := by decide +kernel
theorem dX1_removeAt_52 : decode cX1_removeAt 52 = .ok (.iaload, 1) := by decide +kernel
theorem dX1_removeAt_53 : decode cX1_removeAt 53 = .ok (.iastore, 1) := by decide +kernel
theorem dX1_removeAt_54 : decode cX1_removeAt 54 = .ok (.iinc 2 1, 3) := by decide +kernel
theorem dX1_removeAt_57 : decode cX1_removeAt 57 = .ok (.goto (-53), 3) := by decide +kernel
theorem dX1_removeAt_60 : decode cX1_removeAt 60 = .ok (.aload_n 0, 1) := by decide +kernel
theorem dX1_removeAt_61 : decode cX1_removeAt 61 = .ok (.dup, 1) := by decide +kernel
theorem dX1_removeAt_62 : decode cX1_removeAt 62 = .ok (.getfield 21, 3) := by decide +kernel
theorem dX1_removeAt_65 : decode cX1_removeAt 65 = .ok (.iconst 1, 1) := by decide +kernel
theorem dX1_removeAt_66 : decode cX1_removeAt 66 = .ok (.isub, 1) := by decide +kernel
theorem dX1_removeAt_67 : decode cX1_removeAt 67 = .ok (.putfield 21, 3) := by decide +kernel
theorem dX1_removeAt_70 : decode cX1_removeAt 70 = .ok (.return_, 1) := by decide +kernel
theorem dX1_copyFrom_0 : decode cX1_copyFrom 0 = .ok (.aload_n 0, 1) := by decide +kernel
theorem dX1_copyFrom_1 : decode cX1_copyFrom 1 = .ok (.aload_n 1, 1) := by decide +kernel
theorem dX1_copyFrom_2 : decode cX1_copyFrom 2 = .ok (.getfield 21, 3) := by decide +kernel
theorem dX1_copyFrom_5 : decode cX1_copyFrom 5 = .ok (.putfield 21, 3) := by decide +kernel
theorem dX1_copyFrom_8 : decode cX1_copyFrom 8 = .ok (.iconst 0, 1) := by decide +kernel
theorem dX1_copyFrom_9 : decode cX1_copyFrom 9 = .ok (.istore_n 2, 1) := by decide +kernel
theorem dX1_copyFrom_10 : decode cX1_copyFrom 10 = .ok (.iload_n 2, 1) := by decide +kernel
theorem dX1_copyFrom_11 : decode cX1_copyFrom 11 = .ok (.aload_n 0, 1) := by decide +kernel
theorem dX1_copyFrom_12 : decode cX1_copyFrom 12 = .ok (.getfield 21, 3) := by decide +kernel
theorem dX1_copyFrom_15 : decode cX1_copyFrom 15 = .ok (.if_icmp .ge 45, 3) := by decide +kernel
theorem dX1_copyFrom_18 : decode cX1_copyFrom 18 = .ok (.aload_n 0, 1) := by decide +kernel
theorem dX1_copyFrom_19 : decode cX1_copyFrom 19 = .ok (.getfield 9, 3) := by decide +kernel
theorem dX1_copyFrom_22 : decode cX1_copyFrom 22 = .ok (.iload_n 2, 1) := by decide +kernel
theorem dX1_copyFrom_23 : decode cX1_copyFrom 23 = .ok (.aload_n 1, 1) := by decide +kernel
theorem dX1_copyFrom_24 : decode cX1_copyFrom 24 = .ok (.getfield 9, 3) := by decide +kernel
theorem dX1_copyFrom_27 : decode cX1_copyFrom 27 = .ok (.iload_n 2, 1) := by decide +kernel
theorem dX1_copyFrom_28 : decode cX1_copyFrom 28 = .ok (.iaload, 1) := by decide +kernel
theorem dX1_copyFrom_29 : decode cX1_copyFrom 29 = .ok (.iastore, 1) := by decide +kernel
theorem dX1_copyFrom_30 : decode cX1_copyFrom 30 = .ok (.aload_n 0, 1) := by decide +kernel
theorem dX1_copyFrom_31 : decode cX1_copyFrom 31 = .ok (.getfield 15, 3) := by decide +kernel
theorem dX1_copyFrom_34 : decode cX1_copyFrom 34 = .ok (.iload_n 2, 1) := by decide +kernel
theorem dX1_copyFrom_35 : decode cX1_copyFrom 35 = .ok (.aload_n 1, 1) := by decide +kernel
theorem dX1_copyFrom_36 : decode cX1_copyFrom 36 = .ok (.getfield 15, 3) := by decide +kernel
theorem dX1_copyFrom_39 : decode cX1_copyFrom 39 = .ok (.iload_n 2, 1) := by decide +kernel
theorem dX1_copyFrom_40 : decode cX1_copyFrom 40 = .ok (.iaload, 1) := by decide +kernel
theorem dX1_copyFrom_41 : decode cX1_copyFrom 41 = .ok (.iastore, 1) := by decide +kernel
theorem dX1_copyFrom_42 : decode cX1_copyFrom 42 = .ok (.aload_n 0, 1) := by decide +kernel
theorem dX1_copyFrom_43 : decode cX1_copyFrom 43 = .ok (.getfield 18, 3) := by decide +kernel
theorem dX1_copyFrom_46 : decode cX1_copyFrom 46 = .ok (.iload_n 2, 1) := by decide +kernel
theorem dX1_copyFrom_47 : decode cX1_copyFrom 47 = .ok (.aload_n 1, 1) := by decide +kernel
theorem dX1_copyFrom_48 : decode cX1_copyFrom 48 = .ok (.getfield 18, 3) := by decide +kernel
theorem dX1_copyFrom_51 : decode cX1_copyFrom 51 = .ok (.iload_n 2, 1) := by decide +kernel
theorem dX1_copyFrom_52 : decode cX1_copyFrom 52 = .ok (.iaload, 1) := by decide +kernel
theorem dX1_copyFrom_53 : decode cX1_copyFrom 53 = .ok (.iastore, 1) := by decide +kernel
theorem dX1_copyFrom_54 : decode cX1_copyFrom 54 = .ok (.iinc 2 1, 3) := by decide +kernel
theorem dX1_copyFrom_57 : decode cX1_copyFrom 57 = .ok (.goto (-47), 3) := by decide +kernel
theorem dX1_copyFrom_60 : decode cX1_copyFrom 60 = .ok (.return_, 1) := by decide +kernel
theorem dX1_holds_0 : decode cX1_holds 0 = .ok (.iconst 0, 1) := by decide +kernel
theorem dX1_holds_1 : decode cX1_holds 1 = .ok (.istore_n 2, 1) := by decide +kernel
theorem dX1_holds_2 : decode cX1_holds 2 = .ok (.iload_n 2, 1) := by decide +kernel
theorem dX1_holds_3 : decode cX1_holds 3 = .ok (.aload_n 0, 1) := by decide +kernel
theorem dX1_holds_4 : decode cX1_holds 4 = .ok (.getfield 21, 3) := by decide +kernel
theorem dX1_holds_7 : decode cX1_holds 7 = .ok (.if_icmp .ge 23, 3) := by decide +kernel
theorem dX1_holds_10 : decode cX1_holds 10 = .ok (.aload_n 1, 1) := by decide +kernel
theorem dX1_holds_11 : decode cX1_holds 11 = .ok (.iload_n 2, 1) := by decide +kernel
theorem dX1_holds_12 : decode cX1_holds 12 = .ok (.iaload, 1) := by decide +kernel
theorem dX1_holds_13 : decode cX1_holds 13 = .ok (.aload_n 0, 1) := by decide +kernel
theorem dX1_holds_14 : decode cX1_holds 14 = .ok (.getfield 15, 3) := by decide +kernel
theorem dX1_holds_17 : decode cX1_holds 17 = .ok (.iload_n 2, 1) := by decide +kernel
theorem dX1_holds_18 : decode cX1_holds 18 = .ok (.iaload, 1) := by decide +kernel
theorem dX1_holds_19 : decode cX1_holds 19 = .ok (.if_icmp .le 5, 3) := by decide +kernel
theorem dX1_holds_22 : decode cX1_holds 22 = .ok (.iconst 0, 1) := by decide +kernel
theorem dX1_holds_23 : decode cX1_holds 23 = .ok (.ireturn, 1) := by decide +kernel
theorem dX1_holds_24 : decode cX1_holds 24 = .ok (.iinc 2 1, 3) := by decide +kernel
theorem dX1_holds_27 : decode cX1_holds 27 = .ok (.goto (-25), 3) := by decide +kernel
theorem dX1_holds_30 : decode cX1_holds 30 = .ok (.iconst 1, 1) := by decide +kernel
theorem dX1_holds_31 : decode cX1_holds 31 = .ok (.ireturn, 1) := by decide +kernel
theorem dX1_take_0 : decode cX1_take 0 = .ok (.iconst 0, 1) := by decide +kernel
theorem dX1_take_1 : decode cX1_take 1 = .ok (.istore_n 2, 1) := by decide +kernel
theorem dX1_take_2 : decode cX1_take 2 = .ok (.iload_n 2, 1) := by decide +kernel
theorem dX1_take_3 : decode cX1_take 3 = .ok (.aload_n 0, 1) := by decide +kernel
theorem dX1_take_4 : decode cX1_take 4 = .ok (.getfield 21, 3) := by decide +kernel
theorem dX1_take_7 : decode cX1_take 7 = .ok (.if_icmp .ge 33, 3) := by decide +kernel
theorem dX1_take_10 : decode cX1_take 10 = .ok (.aload_n 0, 1) := by decide +kernel
theorem dX1_take_11 : decode cX1_take 11 = .ok (.getfield 15, 3) := by decide +kernel
theorem dX1_take_14 : decode cX1_take 14 = .ok (.iload_n 2, 1) := by decide +kernel
theorem dX1_take_15 : decode cX1_take 15 = .ok (.dup2, 1) := by decide +kernel
theorem dX1_take_16 : decode cX1_take 16 = .ok (.iaload, 1) := by decide +kernel
theorem dX1_take_17 : decode cX1_take 17 = .ok (.aload_n 1, 1) := by decide +kernel
theorem dX1_take_18 : decode cX1_take 18 = .ok (.iload_n 2, 1) := by decide +kernel
theorem dX1_take_19 : decode cX1_take 19 = .ok (.iaload, 1) := by decide +kernel
theorem dX1_take_20 : decode cX1_take 20 = .ok (.isub, 1) := by decide +kernel
theorem dX1_take_21 : decode cX1_take 21 = .ok (.iastore, 1) := by decide +kernel
theorem dX1_take_22 : decode cX1_take 22 = .ok (.aload_n 0, 1) := by decide +kernel
theorem dX1_take_23 : decode cX1_take 23 = .ok (.getfield 18, 3) := by decide +kernel
theorem dX1_take_26 : decode cX1_take 26 = .ok (.iload_n 2, 1) := by decide +kernel
theorem dX1_take_27 : decode cX1_take 27 = .ok (.dup2, 1) := by decide +kernel
theorem dX1_take_28 : decode cX1_take 28 = .ok (.iaload, 1) := by decide +kernel
theorem dX1_take_29 : decode cX1_take 29 = .ok (.aload_n 1, 1) := by decide +kernel
theorem dX1_take_30 : decode cX1_take 30 = .ok (.iload_n 2, 1) := by decide +kernel
theorem dX1_take_31 : decode cX1_take 31 = .ok (.iaload, 1) := by decide +kernel
theorem dX1_take_32 : decode cX1_take 32 = .ok (.iadd, 1) := by decide +kernel
theorem dX1_take_33 : decode cX1_take 33 = .ok (.iastore, 1) := by decide +kernel
theorem dX1_take_34 : decode cX1_take 34 = .ok (.iinc 2 1, 3) := by decide +kernel
theorem dX1_take_37 : decode cX1_take 37 = .ok (.goto (-35), 3) := by decide +kernel
theorem dX1_take_40 : decode cX1_take 40 = .ok (.return_, 1) := by decide +kernel
theorem dX2_init_0 : decode cX2_init 0 = .ok (.aload_n 0, 1) := by decide +kernel
theorem dX2_init_1 : decode cX2_init 1 = .ok (.invokespecial 3, 3) := by decide +kernel
theorem dX2_init_4 : decode cX2_init 4 = .ok (.aload_n 0, 1) := by decide +kernel
theorem dX2_init_5 : decode cX2_init 5 = .ok (.bipush 9, 2) := by decide +kernel
theorem dX2_init_7 : decode cX2_init 7 = .ok (.sipush 360, 3) := by decide +kernel
theorem dX2_init_10 : decode cX2_init 10 = .ok (.multianewarray 9 2, 4) := by decide +kernel
theorem dX2_init_14 : decode cX2_init 14 = .ok (.putfield 11, 3) := by decide +kernel
theorem dX2_init_17 : decode cX2_init 17 = .ok (.aload_n 0, 1) := by decide +kernel
theorem dX2_init_18 : decode cX2_init 18 = .ok (.bipush 8, 2) := by decide +kernel
theorem dX2_init_20 : decode cX2_init 20 = .ok (.newarray .int, 2) := by decide +kernel
theorem dX2_init_22 : decode cX2_init 22 = .ok (.putfield 16, 3) := by decide +kernel
theorem dX2_init_25 : decode cX2_init 25 = .ok (.aload_n 0, 1) := by decide +kernel
theorem dX2_init_26 : decode cX2_init 26 = .ok (.bipush 8, 2) := by decide +kernel
theorem dX2_init_28 : decode cX2_init 28 = .ok (.newarray .int, 2) := by decide +kernel
theorem dX2_init_30 : decode cX2_init 30 = .ok (.putfield 20, 3) := by decide +kernel
theorem dX2_init_33 : decode cX2_init 33 = .ok (.aload_n 0, 1) := by decide +kernel
theorem dX2_init_34 : decode cX2_init 34 = .ok (.bipush 8, 2) := by decide +kernel
theorem dX2_init_36 : decode cX2_init 36 = .ok (.newarray .int, 2) := by decide +kernel
theorem dX2_init_38 : decode cX2_init 38 = .ok (.putfield 23, 3) := by decide +kernel
theorem dX2_init_41 : decode cX2_init 41 = .ok (.aload_n 0, 1) := by decide +kernel
theorem dX2_init_42 : decode cX2_init 42 = .ok (.iconst 0, 1) := by decide +kernel
theorem dX2_init_43 : decode cX2_init 43 = .ok (.putfield 26, 3) := by decide +kernel
theorem dX2_init_46 : decode cX2_init 46 = .ok (.aload_n 0, 1) := by decide +kernel
theorem dX2_init_47 : decode cX2_init 47 = .ok (.iconst 0, 1) := by decide +kernel
theorem dX2_init_48 : decode cX2_init 48 = .ok (.putfield 30, 3) := by decide +kernel
theorem dX2_init_51 : decode cX2_init 51 = .ok (.aload_n 0, 1) := by decide +kernel
theorem dX2_init_52 : decode cX2_init 52 = .ok (.bipush 8, 2) := by decide +kernel
theorem dX2_init_54 : decode cX2_init 54 = .ok (.newarray .int, 2) := by decide +kernel
theorem dX2_init_56 : decode cX2_init 56 = .ok (.putfield 33, 3) := by decide +kernel
theorem dX2_init_59 : decode cX2_init 59 = .ok (.return_, 1) := by decide +kernel
theorem dX2_rank_0 : decode cX2_rank 0 = .ok (.aload_n 0, 1) := by decide +kernel
theorem dX2_rank_1 : decode cX2_rank 1 = .ok (.aload_n 1, 1) := by decide +kernel
theorem dX2_rank_2 : decode cX2_rank 2 = .ok (.getfield 36, 3) := by decide +kernel
theorem dX2_rank_5 : decode cX2_rank 5 = .ok (.putfield 26, 3) := by decide +kernel
theorem dX2_rank_8 : decode cX2_rank 8 = .ok (.aload_n 0, 1) := by decide +kernel
theorem dX2_rank_9 : decode cX2_rank 9 = .ok (.iload_n 2, 1) := by decide +kernel
theorem dX2_rank_10 : decode cX2_rank 10 = .ok (.putfield 30, 3) := by decide +kernel
theorem dX2_rank_13 : decode cX2_rank 13 = .ok (.iconst 0, 1) := by decide +kernel
theorem dX2_rank_14 : decode cX2_rank 14 = .ok (.istore_n 3, 1) := by decide +kernel
theorem dX2_rank_15 : decode cX2_rank 15 = .ok (.iload_n 3, 1) := by decide +kernel
theorem dX2_rank_16 : decode cX2_rank 16 = .ok (.aload_n 0, 1) := by decide +kernel
theorem dX2_rank_17 : decode cX2_rank 17 = .ok (.getfield 26, 3) := by decide +kernel
theorem dX2_rank_20 : decode cX2_rank 20 = .ok (.if_icmp .ge 54, 3) := by decide +kernel
theorem dX2_rank_23 : decode cX2_rank 23 = .ok (.aload_n 1, 1) := by decide +kernel
theorem dX2_rank_24 : decode cX2_rank 24 = .ok (.iload_n 3, 1) := by decide +kernel
theorem dX2_rank_25 : decode cX2_rank 25 = .ok (.invokevirtual 39, 3) := by decide +kernel
theorem dX2_rank_28 : decode cX2_rank 28 = .ok (.istore 4, 2) := by decide +kernel
theorem dX2_rank_30 : decode cX2_rank 30 = .ok (.aload_n 0, 1) := by decide +kernel
theorem dX2_rank_31 : decode cX2_rank 31 = .ok (.getfield 16, 3) := by decide +kernel
theorem dX2_rank_34 : decode cX2_rank 34 = .ok (.iload 4, 2) := by decide +kernel
theorem dX2_rank_36 : decode cX2_rank 36 = .ok (.iload_n 3, 1) := by decide +kernel
theorem dX2_rank_37 : decode cX2_rank 37 = .ok (.iastore, 1) := by decide +kernel
theorem dX2_rank_38 : decode cX2_rank 38 = .ok (.aload_n 0, 1) := by decide +kernel
theorem dX2_rank_39 : decode cX2_rank 39 = .ok (.getfield 20, 3) := by decide +kernel
theorem dX2_rank_42 : decode cX2_rank 42 = .ok (.iload 4, 2) := by decide +kernel
theorem dX2_rank_44 : decode cX2_rank 44 = .ok (.aload_n 1, 1) := by decide +kernel
theorem dX2_rank_45 : decode cX2_rank 45 = .ok (.getfield 43, 3) := by decide +kernel
theorem dX2_rank_48 : decode cX2_rank 48 = .ok (.iload_n 3, 1) := by decide +kernel
theorem dX2_rank_49 : decode cX2_rank 49 = .ok (.iaload, 1) := by decide +kernel
theorem dX2_rank_50 : decode cX2_rank 50 = .ok (.iastore, 1) := by decide +kernel
theorem dX2_rank_51 : decode cX2_rank 51 = .ok (.aload_n 0, 1) := by decide +kernel
theorem dX2_rank_52 : decode cX2_rank 52 = .ok (.getfield 23, 3) := by decide +kernel
theorem dX2_rank_55 : decode cX2_rank 55 = .ok (.iload 4, 2) := by decide +kernel
theorem dX2_rank_57 : decode cX2_rank 57 = .ok (.aload_n 1, 1) := by decide +kernel
theorem dX2_rank_58 : decode cX2_rank 58 = .ok (.getfield 46, 3) := by decide +kernel
theorem dX2_rank_61 : decode cX2_rank 61 = .ok (.iload_n 3, 1) := by decide +kernel
theorem dX2_rank_62 : decode cX2_rank 62 = .ok (.iaload, 1) := by decide +kernel
theorem dX2_rank_63 : decode cX2_rank 63 = .ok (.iload_n 2, 1) := by decide +kernel
theorem dX2_rank_64 : decode cX2_rank 64 = .ok (.invokestatic 49, 3) := by decide +kernel
theorem dX2_rank_67 : decode cX2_rank 67 = .ok (.iastore, 1) := by decide +kernel
theorem dX2_rank_68 : decode cX2_rank 68 = .ok (.iinc 3 1, 3) := by decide +kernel
theorem dX2_rank_71 : decode cX2_rank 71 = .ok (.goto (-56), 3) := by decide +kernel
theorem dX2_rank_74 : decode cX2_rank 74 = .ok (.return_, 1) := by decide +kernel
theorem dX2_fill_0 : decode cX2_fill 0 = .ok (.aload_n 0, 1) := by decide +kernel
theorem dX2_fill_1 : decode cX2_fill 1 = .ok (.aload_n 1, 1) := by decide +kernel
theorem dX2_fill_2 : decode cX2_fill 2 = .ok (.iload_n 2, 1) := by decide +kernel
theorem dX2_fill_3 : decode cX2_fill 3 = .ok (.invokevirtual 55, 3) := by decide +kernel
theorem dX2_fill_6 : decode cX2_fill 6 = .ok (.aload_n 0, 1) := by decide +kernel
theorem dX2_fill_7 : decode cX2_fill 7 = .ok (.getfield 11, 3) := by decide +kernel
theorem dX2_fill_10 : decode cX2_fill 10 = .ok (.aload_n 0, 1) := by decide +kernel
theorem dX2_fill_11 : decode cX2_fill 11 = .ok (.getfield 26, 3) := by decide +kernel
theorem dX2_fill_14 : decode cX2_fill 14 = .ok (.aaload, 1) := by decide +kernel
theorem dX2_fill_15 : decode cX2_fill 15 = .ok (.astore_n 3, 1) := by decide +kernel
theorem dX2_fill_16 : decode cX2_fill 16 = .ok (.iconst 1, 1) := by decide +kernel
theorem dX2_fill_17 : decode cX2_fill 17 = .ok (.istore 4, 2) := by decide +kernel
theorem dX2_fill_19 : decode cX2_fill 19 = .ok (.iload 4, 2) := by decide +kernel
theorem dX2_fill_21 : decode cX2_fill 21 = .ok (.sipush 359, 3) := by decide +kernel
theorem dX2_fill_24 : decode cX2_fill 24 = .ok (.if_icmp .gt 16, 3) := by decide +kernel
theorem dX2_fill_27 : decode cX2_fill 27 = .ok (.aload_n 3, 1) := by decide +kernel
theorem dX2_fill_28 : decode cX2_fill 28 = .ok (.iload 4, 2) := by decide +kernel
theorem dX2_fill_30 : decode cX2_fill 30 = .ok (.sipush 1000, 3) := by decide +kernel
theorem dX2_fill_33 : decode cX2_fill 33 = .ok (.iastore, 1) := by decide +kernel
theorem dX2_fill_34 : decode cX2_fill 34 = .ok (.iinc 4 1, 3) := by decide +kernel
theorem dX2_fill_37 : decode cX2_fill 37 = .ok (.goto (-18), 3) := by decide +kernel
theorem dX2_fill_40 : decode cX2_fill 40 = .ok (.aload_n 3, 1) := by decide +kernel
theorem dX2_fill_41 : decode cX2_fill 41 = .ok (.iconst 0, 1) := by decide +kernel
theorem dX2_fill_42 : decode cX2_fill 42 = .ok (.iconst 0, 1) := by decide +kernel
theorem dX2_fill_43 : decode cX2_fill 43 = .ok (.iastore, 1) := by decide +kernel
theorem dX2_fill_44 : decode cX2_fill 44 = .ok (.aload_n 0, 1) := by decide +kernel
theorem dX2_fill_45 : decode cX2_fill 45 = .ok (.getfield 26, 3) := by decide +kernel
theorem dX2_fill_48 : decode cX2_fill 48 = .ok (.iconst 1, 1) := by decide +kernel
theorem dX2_fill_49 : decode cX2_fill 49 = .ok (.isub, 1) := by decide +kernel
theorem dX2_fill_50 : decode cX2_fill 50 = .ok (.istore 4, 2) := by decide +kernel
theorem dX2_fill_52 : decode cX2_fill 52 = .ok (.iload 4, 2) := by decide +kernel
theorem dX2_fill_54 : decode cX2_fill 54 = .ok (.ifCond .lt 15, 3) := by decide +kernel
theorem dX2_fill_57 : decode cX2_fill 57 = .ok (.aload_n 0, 1) := by decide +kernel
theorem dX2_fill_58 : decode cX2_fill 58 = .ok (.iload 4, 2) := by decide +kernel
theorem dX2_fill_60 : decode cX2_fill 60 = .ok (.invokevirtual 59, 3) := by decide +kernel
theorem dX2_fill_63 : decode cX2_fill 63 = .ok (.iinc 4 (-1), 3) := by decide +kernel
theorem dX2_fill_66 : decode cX2_fill 66 = .ok (.goto (-14), 3) := by decide +kernel
theorem dX2_fill_69 : decode cX2_fill 69 = .ok (.return_, 1) := by decide +kernel
theorem dX2_fillRow_0 : decode cX2_fillRow 0 = .ok (.aload_n 0, 1) := by decide +kernel
theorem dX2_fillRow_1 : decode cX2_fillRow 1 = .ok (.getfield 11, 3) := by decide +kernel
theorem dX2_fillRow_4 : decode cX2_fillRow 4 = .ok (.iload_n 1, 1) := by decide +kernel
theorem dX2_fillRow_5 : decode cX2_fillRow 5 = .ok (.aaload, 1) := by decide +kernel
theorem dX2_fillRow_6 : decode cX2_fillRow 6 = .ok (.astore_n 2, 1) := by decide +kernel
theorem dX2_fillRow_7 : decode cX2_fillRow 7 = .ok (.aload_n 0, 1) := by decide +kernel
theorem dX2_fillRow_8 : decode cX2_fillRow 8 = .ok (.getfield 11, 3) := by decide +kernel
theorem dX2_fillRow_11 : decode cX2_fillRow 11 = .ok (.iload_n 1, 1) := by decide +kernel
theorem dX2_fillRow_12 : decode cX2_fillRow 12 = .ok (.iconst 1, 1) := by decide +kernel
theorem dX2_fillRow_13 : decode cX2_fillRow 13 = .ok (.iadd, 1) := by decide +kernel
theorem dX2_fillRow_14 : decode cX2_fillRow 14 = .ok (.aaload, 1) := by decide +kernel
theorem dX2_fillRow_15 : decode cX2_fillRow 15 = .ok (.astore_n 3, 1) := by decide +kernel
theorem dX2_fillRow_16 : decode cX2_fillRow 16 = .ok (.aload_n 0, 1) := by decide +kernel
theorem dX2_fillRow_17 : decode cX2_fillRow 17 = .ok (.getfield 20, 3) := by decide +kernel
theorem dX2_fillRow_20 : decode cX2_fillRow 20 = .ok (.iload_n 1, 1) := by decide +kernel
theorem dX2_fillRow_21 : decode cX2_fillRow 21 = .ok (.iaload, 1) := by decide +kernel
theorem dX2_fillRow_22 : decode cX2_fillRow 22 = .ok (.istore 4, 2) := by decide +kernel
theorem dX2_fillRow_24 : decode cX2_fillRow 24 = .ok (.aload_n 0, 1) := by decide +kernel
theorem dX2_fillRow_25 : decode cX2_fillRow 25 = .ok (.getfield 23, 3) := by decide +kernel
theorem dX2_fillRow_28 : decode cX2_fillRow 28 = .ok (.iload_n 1, 1) := by decide +kernel
theorem dX2_fillRow_29 : decode cX2_fillRow 29 = .ok (.iaload, 1) := by decide +kernel
theorem dX2_fillRow_30 : decode cX2_fillRow 30 = .ok (.istore 5, 2) := by decide +kernel
theorem dX2_fillRow_32 : decode cX2_fillRow 32 = .ok (.iconst 0, 1) := by decide +kernel
theorem dX2_fillRow_33 : decode cX2_fillRow 33 = .ok (.istore 6, 2) := by decide +kernel
theorem dX2_fillRow_35 : decode cX2_fillRow 35 = .ok (.iload 6, 2) := by decide +kernel
theorem dX2_fillRow_37 : decode cX2_fillRow 37 = .ok (.sipush 359, 3) := by decide +kernel
theorem dX2_fillRow_40 : decode cX2_fillRow 40 = .ok (.if_icmp .gt 67, 3) := by decide +kernel
theorem dX2_fillRow_43 : decode cX2_fillRow 43 = .ok (.aload_n 3, 1) := by decide +kernel
theorem dX2_fillRow_44 : decode cX2_fillRow 44 = .ok (.iload 6, 2) := by decide +kernel
theorem dX2_fillRow_46 : decode cX2_fillRow 46 = .ok (.iaload, 1) := by decide +kernel
theorem dX2_fillRow_47 : decode cX2_fillRow 47 = .ok (.istore 7, 2) := by decide +kernel
theorem dX2_fillRow_49 : decode cX2_fillRow 49 = .ok (.iconst 1, 1) := by decide +kernel
theorem dX2_fillRow_50 : decode cX2_fillRow 50 = .ok (.istore 8, 2) := by decide +kernel
theorem dX2_fillRow_52 : decode cX2_fillRow 52 = .ok (.iload 8, 2) := by decide +kernel
theorem dX2_fillRow_54 : decode cX2_fillRow 54 = .ok (.iload 5, 2) := by decide +kernel
theorem dX2_fillRow_56 : decode cX2_fillRow 56 = .ok (.if_icmp .gt 39, 3) := by decide +kernel
theorem dX2_fillRow_59 : decode cX2_fillRow 59 = .ok (.iload 8, 2) := by decide +kernel
theorem dX2_fillRow_61 : decode cX2_fillRow 61 = .ok (.iload 4, 2) := by decide +kernel
theorem dX2_fillRow_63 : decode cX2_fillRow 63 = .ok (.imul, 1) := by decide +kernel
theorem dX2_fillRow_64 : decode cX2_fillRow 64 = .ok (.iload 6, 2) := by decide +kernel
theorem dX2_fillRow_66 : decode cX2_fillRow 66 = .ok (.if_icmp .gt 29, 3) := by decide +kernel
theorem dX2_fillRow_69 : decode cX2_fillRow 69 = .ok (.iload 7, 2) := by decide +kernel
theorem dX2_fillRow_71 : decode cX2_fillRow 71 = .ok (.aload_n 3, 1) := by decide +kernel
theorem dX2_fillRow_72 : decode cX2_fillRow 72 = .ok (.iload 6, 2) := by decide +kernel
theorem dX2_fillRow_74 : decode cX2_fillRow 74 = .ok (.iload 8, 2) := by decide +kernel
theorem dX2_fillRow_76 : decode cX2_fillRow 76 = .ok (.iload 4, 2) := by decide +kernel
theorem dX2_fillRow_78 : decode cX2_fillRow 78 = .ok (.imul, 1) := by decide +kernel
theorem dX2_fillRow_79 : decode cX2_fillRow 79 = .ok (.isub, 1) := by decide +kernel
theorem dX2_fillRow_80 : decode cX2_fillRow 80 = .ok (.iaload, 1) := by decide +kernel
theorem dX2_fillRow_81 : decode cX2_fillRow 81 = .ok (.iload 8, 2) := by decide +kernel
theorem dX2_fillRow_83 : decode cX2_fillRow 83 = .ok (.iadd, 1) := by decide +kernel
theorem dX2_fillRow_84 : decode cX2_fillRow 84 = .ok (.invokestatic 49, 3) := by decide +kernel
theorem dX2_fillRow_87 : decode cX2_fillRow 87 = .ok (.istore 7, 2) := by decide +kernel
theorem dX2_fillRow_89 : decode cX2_fillRow 89 = .ok (.iinc 8 1, 3) := by decide +kernel
theorem dX2_fillRow_92 : decode cX2_fillRow 92 = .ok (.goto (-40), 3) := by decide +kernel
theorem dX2_fillRow_95 : decode cX2_fillRow 95 = .ok (.aload_n 2, 1) := by decide +kernel
theorem dX2_fillRow_96 : decode cX2_fillRow 96 = .ok (.iload 6, 2) := by decide +kernel
theorem dX2_fillRow_98 : decode cX2_fillRow 98 = .ok (.iload 7, 2) := by decide +kernel
theorem dX2_fillRow_100 : decode cX2_fillRow 100 = .ok (.iastore, 1) := by decide +kernel
theorem dX2_fillRow_101 : decode cX2_fillRow 101 = .ok (.iinc 6 1, 3) := by decide +kernel
theorem dX2_fillRow_104 : decode cX2_fillRow 104 = .ok (.goto (-69), 3) := by decide +kernel
theorem dX2_fillRow_107 : decode cX2_fillRow 107 = .ok (.return_, 1) := by decide +kernel
theorem dX2_pays_0 : decode cX2_pays 0 = .ok (.aload_n 0, 1) := by decide +kernel
theorem dX2_pays_1 : decode cX2_pays 1 = .ok (.getfield 11, 3) := by decide +kernel
theorem dX2_pays_4 : decode cX2_pays 4 = .ok (.iconst 0, 1) := by decide +kernel
theorem dX2_pays_5 : decode cX2_pays 5 = .ok (.aaload, 1) := by decide +kernel
theorem dX2_pays_6 : decode cX2_pays 6 = .ok (.iload_n 1, 1) := by decide +kernel
theorem dX2_pays_7 : decode cX2_pays 7 = .ok (.iaload, 1) := by decide +kernel
theorem dX2_pays_8 : decode cX2_pays 8 = .ok (.aload_n 0, 1) := by decide +kernel
theorem dX2_pays_9 : decode cX2_pays 9 = .ok (.getfield 30, 3) := by decide +kernel
theorem dX2_pays_12 : decode cX2_pays 12 = .ok (.if_icmp .gt 7, 3) := by decide +kernel
theorem dX2_pays_15 : decode cX2_pays 15 = .ok (.iconst 1, 1) := by decide +kernel
theorem dX2_pays_16 : decode cX2_pays 16 = .ok (.goto 4, 3) := by decide +kernel
theorem dX2_pays_19 : decode cX2_pays 19 = .ok (.iconst 0, 1) := by decide +kernel
theorem dX2_pays_20 : decode cX2_pays 20 = .ok (.ireturn, 1) := by decide +kernel
theorem dX2_leastSum_0 : decode cX2_leastSum 0 = .ok (.iload_n 1, 1) := by decide +kernel
theorem dX2_leastSum_1 : decode cX2_leastSum 1 = .ok (.istore_n 2, 1) := by decide +kernel
theorem dX2_leastSum_2 : decode cX2_leastSum 2 = .ok (.iload_n 2, 1) := by decide +kernel
theorem dX2_leastSum_3 : decode cX2_leastSum 3 = .ok (.sipush 359, 3) := by decide +kernel
theorem dX2_leastSum_6 : decode cX2_leastSum 6 = .ok (.if_icmp .gt 19, 3) := by decide +kernel
theorem dX2_leastSum_9 : decode cX2_leastSum 9 = .ok (.aload_n 0, 1) := by decide +kernel
theorem dX2_leastSum_10 : decode cX2_leastSum 10 = .ok (.iload_n 2, 1) := by decide +kernel
theorem dX2_leastSum_11 : decode cX2_leastSum 11 = .ok (.invokevirtual 63, 3) := by decide +kernel
theorem dX2_leastSum_14 : decode cX2_leastSum 14 = .ok (.ifCond .eq 5, 3) := by decide +kernel
theorem dX2_leastSum_17 : decode cX2_leastSum 17 = .ok (.iload_n 2, 1) := by decide +kernel
theorem dX2_leastSum_18 : decode cX2_leastSum 18 = .ok (.ireturn, 1) := by decide +kernel
theorem dX2_leastSum_19 : decode cX2_leastSum 19 = .ok (.iinc 2 1, 3) := by decide +kernel
theorem dX2_leastSum_22 : decode cX2_leastSum 22 = .ok (.goto (-20), 3) := by decide +kernel
theorem dX2_leastSum_25 : decode cX2_leastSum 25 = .ok (.iconst (-1), 1) := by decide +kernel
theorem dX2_leastSum_26 : decode cX2_leastSum 26 = .ok (.ireturn, 1) := by decide +kernel
theorem dX2_moreThan_0 : decode cX2_moreThan 0 = .ok (.aload_n 0, 1) := by decide +kernel
theorem dX2_moreThan_1 : decode cX2_moreThan 1 = .ok (.iload_n 1, 1) := by decide +kernel
theorem dX2_moreThan_2 : decode cX2_moreThan 2 = .ok (.invokevirtual 67, 3) := by decide +kernel
theorem dX2_moreThan_5 : decode cX2_moreThan 5 = .ok (.istore_n 2, 1) := by decide +kernel
theorem dX2_moreThan_6 : decode cX2_moreThan 6 = .ok (.iload_n 2, 1) := by decide +kernel
theorem dX2_moreThan_7 : decode cX2_moreThan 7 = .ok (.iconst (-1), 1) := by decide +kernel
theorem dX2_moreThan_8 : decode cX2_moreThan 8 = .ok (.if_icmp .ne 7, 3) := by decide +kernel
theorem dX2_moreThan_11 : decode cX2_moreThan 11 = .ok (.iconst (-1), 1) := by decide +kernel
theorem dX2_moreThan_12 : decode cX2_moreThan 12 = .ok (.goto 6, 3) := by decide +kernel
theorem dX2_moreThan_15 : decode cX2_moreThan 15 = .ok (.iload_n 2, 1) := by decide +kernel
theorem dX2_moreThan_16 : decode cX2_moreThan 16 = .ok (.iload_n 1, 1) := by decide +kernel
theorem dX2_moreThan_17 : decode cX2_moreThan 17 = .ok (.isub, 1) := by decide +kernel
theorem dX2_moreThan_18 : decode cX2_moreThan 18 = .ok (.ireturn, 1) := by decide +kernel
theorem dX2_stampsOnLetter_0 : decode cX2_stampsOnLetter 0 = .ok (.aload_n 0, 1) := by decide +kernel
theorem dX2_stampsOnLetter_1 : decode cX2_stampsOnLetter 1 = .ok (.iload_n 1, 1) := by decide +kernel
theorem dX2_stampsOnLetter_2 : decode cX2_stampsOnLetter 2 = .ok (.invokevirtual 67, 3) := by decide +kernel
theorem dX2_stampsOnLetter_5 : decode cX2_stampsOnLetter 5 = .ok (.istore_n 2, 1) := by decide +kernel
theorem dX2_stampsOnLetter_6 : decode cX2_stampsOnLetter 6 = .ok (.iload_n 2, 1) := by decide +kernel
theorem dX2_stampsOnLetter_7 : decode cX2_stampsOnLetter 7 = .ok (.iconst (-1), 1) := by decide +kernel
theorem dX2_stampsOnLetter_8 : decode cX2_stampsOnLetter 8 = .ok (.if_icmp .ne 7, 3) := by decide +kernel
theorem dX2_stampsOnLetter_11 : decode cX2_stampsOnLetter 11 = .ok (.iconst 0, 1) := by decide +kernel
theorem dX2_stampsOnLetter_12 : decode cX2_stampsOnLetter 12 = .ok (.goto 11, 3) := by decide +kernel
theorem dX2_stampsOnLetter_15 : decode cX2_stampsOnLetter 15 = .ok (.aload_n 0, 1) := by decide +kernel
theorem dX2_stampsOnLetter_16 : decode cX2_stampsOnLetter 16 = .ok (.getfield 11, 3) := by decide +kernel
theorem dX2_stampsOnLetter_19 : decode cX2_stampsOnLetter 19 = .ok (.iconst 0, 1) := by decide +kernel
theorem dX2_stampsOnLetter_20 : decode cX2_stampsOnLetter 20 = .ok (.aaload, 1) := by decide +kernel
theorem dX2_stampsOnLetter_21 : decode cX2_stampsOnLetter 21 = .ok (.iload_n 2, 1) := by decide +kernel
theorem dX2_stampsOnLetter_22 : decode cX2_stampsOnLetter 22 = .ok (.iaload, 1) := by decide +kernel
theorem dX2_stampsOnLetter_23 : decode cX2_stampsOnLetter 23 = .ok (.ireturn, 1) := by decide +kernel
theorem dX2_choose_0 : decode cX2_choose 0 = .ok (.iload_n 1, 1) := by decide +kernel
theorem dX2_choose_1 : decode cX2_choose 1 = .ok (.istore_n 2, 1) := by decide +kernel
theorem dX2_choose_2 : decode cX2_choose 2 = .ok (.iconst 0, 1) := by decide +kernel
theorem dX2_choose_3 : decode cX2_choose 3 = .ok (.istore_n 3, 1) := by decide +kernel
theorem dX2_choose_4 : decode cX2_choose 4 = .ok (.iload_n 3, 1) := by decide +kernel
theorem dX2_choose_5 : decode cX2_choose 5 = .ok (.aload_n 0, 1) := by decide +kernel
theorem dX2_choose_6 : decode cX2_choose 6 = .ok (.getfield 26, 3) := by decide +kernel
theorem dX2_choose_9 : decode cX2_choose 9 = .ok (.if_icmp .ge 42, 3) := by decide +kernel
theorem dX2_choose_12 : decode cX2_choose 12 = .ok (.aload_n 0, 1) := by decide +kernel
theorem dX2_choose_13 : decode cX2_choose 13 = .ok (.iload_n 3, 1) := by decide +kernel
theorem dX2_choose_14 : decode cX2_choose 14 = .ok (.iload_n 2, 1) := by decide +kernel
theorem dX2_choose_15 : decode cX2_choose 15 = .ok (.invokevirtual 70, 3) := by decide +kernel
theorem dX2_choose_18 : decode cX2_choose 18 = .ok (.istore 4, 2) := by decide +kernel
theorem dX2_choose_20 : decode cX2_choose 20 = .ok (.aload_n 0, 1) := by decide +kernel
theorem dX2_choose_21 : decode cX2_choose 21 = .ok (.getfield 33, 3) := by decide +kernel
theorem dX2_choose_24 : decode cX2_choose 24 = .ok (.aload_n 0, 1) := by decide +kernel
theorem dX2_choose_25 : decode cX2_choose 25 = .ok (.getfield 16, 3) := by decide +kernel
theorem dX2_choose_28 : decode cX2_choose 28 = .ok (.iload_n 3, 1) := by decide +kernel
theorem dX2_choose_29 : decode cX2_choose 29 = .ok (.iaload, 1) := by decide +kernel
theorem dX2_choose_30 : decode cX2_choose 30 = .ok (.iload 4, 2) := by decide +kernel
theorem dX2_choose_32 : decode cX2_choose 32 = .ok (.iastore, 1) := by decide +kernel
theorem dX2_choose_33 : decode cX2_choose 33 = .ok (.iload_n 2, 1) := by decide +kernel
theorem dX2_choose_34 : decode cX2_choose 34 = .ok (.iload 4, 2) := by decide +kernel
theorem dX2_choose_36 : decode cX2_choose 36 = .ok (.aload_n 0, 1) := by decide +kernel
theorem dX2_choose_37 : decode cX2_choose 37 = .ok (.getfield 20, 3) := by decide +kernel
theorem dX2_choose_40 : decode cX2_choose 40 = .ok (.iload_n 3, 1) := by decide +kernel
theorem dX2_choose_41 : decode cX2_choose 41 = .ok (.iaload, 1) := by decide +kernel
theorem dX2_choose_42 : decode cX2_choose 42 = .ok (.imul, 1) := by decide +kernel
theorem dX2_choose_43 : decode cX2_choose 43 = .ok (.isub, 1) := by decide +kernel
theorem dX2_choose_44 : decode cX2_choose 44 = .ok (.istore_n 2, 1) := by decide +kernel
theorem dX2_choose_45 : decode cX2_choose 45 = .ok (.iinc 3 1, 3) := by decide +kernel
theorem dX2_choose_48 : decode cX2_choose 48 = .ok (.goto (-44), 3) := by decide +kernel
theorem dX2_choose_51 : decode cX2_choose 51 = .ok (.return_, 1) := by decide +kernel
theorem dX2_mostOf_0 : decode cX2_mostOf 0 = .ok (.aload_n 0, 1) := by decide +kernel
theorem dX2_mostOf_1 : decode cX2_mostOf 1 = .ok (.getfield 20, 3) := by decide +kernel
theorem dX2_mostOf_4 : decode cX2_mostOf 4 = .ok (.iload_n 1, 1) := by decide +kernel
theorem dX2_mostOf_5 : decode cX2_mostOf 5 = .ok (.iaload, 1) := by decide +kernel
theorem dX2_mostOf_6 : decode cX2_mostOf 6 = .ok (.istore_n 3, 1) := by decide +kernel
theorem dX2_mostOf_7 : decode cX2_mostOf 7 = .ok (.aload_n 0, 1) := by decide +kernel
theorem dX2_mostOf_8 : decode cX2_mostOf 8 = .ok (.getfield 11, 3) := by decide +kernel
theorem dX2_mostOf_11 : decode cX2_mostOf 11 = .ok (.iload_n 1, 1) := by decide +kernel
theorem dX2_mostOf_12 : decode cX2_mostOf 12 = .ok (.aaload, 1) := by decide +kernel
theorem dX2_mostOf_13 : decode cX2_mostOf 13 = .ok (.iload_n 2, 1) := by decide +kernel
theorem dX2_mostOf_14 : decode cX2_mostOf 14 = .ok (.iaload, 1) := by decide +kernel
theorem dX2_mostOf_15 : decode cX2_mostOf 15 = .ok (.istore 4, 2) := by decide +kernel
theorem dX2_mostOf_17 : decode cX2_mostOf 17 = .ok (.aload_n 0, 1) := by decide +kernel
theorem dX2_mostOf_18 : decode cX2_mostOf 18 = .ok (.getfield 11, 3) := by decide +kernel
theorem dX2_mostOf_21 : decode cX2_mostOf 21 = .ok (.iload_n 1, 1) := by decide +kernel
theorem dX2_mostOf_22 : decode cX2_mostOf 22 = .ok (.iconst 1, 1) := by decide +kernel
theorem dX2_mostOf_23 : decode cX2_mostOf 23 = .ok (.iadd, 1) := by decide +kernel
theorem dX2_mostOf_24 : decode cX2_mostOf 24 = .ok (.aaload, 1) := by decide +kernel
theorem dX2_mostOf_25 : decode cX2_mostOf 25 = .ok (.astore 5, 2) := by decide +kernel
theorem dX2_mostOf_27 : decode cX2_mostOf 27 = .ok (.aload_n 0, 1) := by decide +kernel
theorem dX2_mostOf_28 : decode cX2_mostOf 28 = .ok (.getfield 23, 3) := by decide +kernel
theorem dX2_mostOf_31 : decode cX2_mostOf 31 = .ok (.iload_n 1, 1) := by decide +kernel
theorem dX2_mostOf_32 : decode cX2_mostOf 32 = .ok (.iaload, 1) := by decide +kernel
theorem dX2_mostOf_33 : decode cX2_mostOf 33 = .ok (.istore 6, 2) := by decide +kernel
theorem dX2_mostOf_35 : decode cX2_mostOf 35 = .ok (.iload 6, 2) := by decide +kernel
theorem dX2_mostOf_37 : decode cX2_mostOf 37 = .ok (.ifCond .le 38, 3) := by decide +kernel
theorem dX2_mostOf_40 : decode cX2_mostOf 40 = .ok (.iload_n 2, 1) := by decide +kernel
theorem dX2_mostOf_41 : decode cX2_mostOf 41 = .ok (.iload 6, 2) := by decide +kernel
theorem dX2_mostOf_43 : decode cX2_mostOf 43 = .ok (.iload_n 3, 1) := by decide +kernel
theorem dX2_mostOf_44 : decode cX2_mostOf 44 = .ok (.imul, 1) := by decide +kernel
theorem dX2_mostOf_45 : decode cX2_mostOf 45 = .ok (.isub, 1) := by decide +kernel
theorem dX2_mostOf_46 : decode cX2_mostOf 46 = .ok (.istore 7, 2) := by decide +kernel
theorem dX2_mostOf_48 : decode cX2_mostOf 48 = .ok (.iload 7, 2) := by decide +kernel
theorem dX2_mostOf_50 : decode cX2_mostOf 50 = .ok (.ifCond .lt 19, 3) := by decide +kernel
theorem dX2_mostOf_53 : decode cX2_mostOf 53 = .ok (.aload 5, 2) := by decide +kernel
theorem dX2_mostOf_55 : decode cX2_mostOf 55 = .ok (.iload 7, 2) := by decide +kernel
theorem dX2_mostOf_57 : decode cX2_mostOf 57 = .ok (.iaload, 1) := by decide +kernel
theorem dX2_mostOf_58 : decode cX2_mostOf 58 = .ok (.iload 6, 2) := by decide +kernel
theorem dX2_mostOf_60 : decode cX2_mostOf 60 = .ok (.iadd, 1) := by decide +kernel
theorem dX2_mostOf_61 : decode cX2_mostOf 61 = .ok (.iload 4, 2) := by decide +kernel
theorem dX2_mostOf_63 : decode cX2_mostOf 63 = .ok (.if_icmp .ne 6, 3) := by decide +kernel
theorem dX2_mostOf_66 : decode cX2_mostOf 66 = .ok (.iload 6, 2) := by decide +kernel
theorem dX2_mostOf_68 : decode cX2_mostOf 68 = .ok (.ireturn, 1) := by decide +kernel
theorem dX2_mostOf_69 : decode cX2_mostOf 69 = .ok (.iinc 6 (-1), 3) := by decide +kernel
theorem dX2_mostOf_72 : decode cX2_mostOf 72 = .ok (.goto (-37), 3) := by decide +kernel
theorem dX2_mostOf_75 : decode cX2_mostOf 75 = .ok (.iconst 0, 1) := by decide +kernel
theorem dX2_mostOf_76 : decode cX2_mostOf 76 = .ok (.ireturn, 1) := by decide +kernel
theorem dX2_reachOfStock_0 : decode cX2_reachOfStock 0 = .ok (.iconst 0, 1) := by decide +kernel
theorem dX2_reachOfStock_1 : decode cX2_reachOfStock 1 = .ok (.istore_n 1, 1) := by decide +kernel
theorem dX2_reachOfStock_2 : decode cX2_reachOfStock 2 = .ok (.iload_n 1, 1) := by decide +kernel
theorem dX2_reachOfStock_3 : decode cX2_reachOfStock 3 = .ok (.sipush 300, 3) := by decide +kernel
theorem dX2_reachOfStock_6 : decode cX2_reachOfStock 6 = .ok (.if_icmp .ge 19, 3) := by decide +kernel
theorem dX2_reachOfStock_9 : decode cX2_reachOfStock 9 = .ok (.aload_n 0, 1) := by decide +kernel
theorem dX2_reachOfStock_10 : decode cX2_reachOfStock 10 = .ok (.iload_n 1, 1) := by decide +kernel
theorem dX2_reachOfStock_11 : decode cX2_reachOfStock 11 = .ok (.iconst 1, 1) := by decide +kernel
theorem dX2_reachOfStock_12 : decode cX2_reachOfStock 12 = .ok (.iadd, 1) := by decide +kernel
theorem dX2_reachOfStock_13 : decode cX2_reachOfStock 13 = .ok (.invokevirtual 63, 3) := by decide +kernel
theorem dX2_reachOfStock_16 : decode cX2_reachOfStock 16 = .ok (.ifCond .eq 9, 3) := by decide +kernel
theorem dX2_reachOfStock_19 : decode cX2_reachOfStock 19 = .ok (.iinc 1 1, 3) := by decide +kernel
theorem dX2_reachOfStock_22 : decode cX2_reachOfStock 22 = .ok (.goto (-20), 3) := by decide +kernel
theorem dX2_reachOfStock_25 : decode cX2_reachOfStock 25 = .ok (.iload_n 1, 1) := by decide +kernel
theorem dX2_reachOfStock_26 : decode cX2_reachOfStock 26 = .ok (.ireturn, 1) := by decide +kernel
theorem dX2_greatestSum_0 : decode cX2_greatestSum 0 = .ok (.aload_n 0, 1) := by decide +kernel
theorem dX2_greatestSum_1 : decode cX2_greatestSum 1 = .ok (.getfield 30, 3) := by decide +kernel
theorem dX2_greatestSum_4 : decode cX2_greatestSum 4 = .ok (.istore_n 1, 1) := by decide +kernel
theorem dX2_greatestSum_5 : decode cX2_greatestSum 5 = .ok (.iconst 0, 1) := by decide +kernel
theorem dX2_greatestSum_6 : decode cX2_greatestSum 6 = .ok (.istore_n 2, 1) := by decide +kernel
theorem dX2_greatestSum_7 : decode cX2_greatestSum 7 = .ok (.iconst 0, 1) := by decide +kernel
theorem dX2_greatestSum_8 : decode cX2_greatestSum 8 = .ok (.istore_n 3, 1) := by decide +kernel
theorem dX2_greatestSum_9 : decode cX2_greatestSum 9 = .ok (.iload_n 3, 1) := by decide +kernel
theorem dX2_greatestSum_10 : decode cX2_greatestSum 10 = .ok (.aload_n 0, 1) := by decide +kernel
theorem dX2_greatestSum_11 : decode cX2_greatestSum 11 = .ok (.getfield 26, 3) := by decide +kernel
theorem dX2_greatestSum_14 : decode cX2_greatestSum 14 = .ok (.if_icmp .ge 38, 3) := by decide +kernel
theorem dX2_greatestSum_17 : decode cX2_greatestSum 17 = .ok (.aload_n 0, 1) := by decide +kernel
theorem dX2_greatestSum_18 : decode cX2_greatestSum 18 = .ok (.getfield 23, 3) := by decide +kernel
theorem dX2_greatestSum_21 : decode cX2_greatestSum 21 = .ok (.iload_n 3, 1) := by decide +kernel
theorem dX2_greatestSum_22 : decode cX2_greatestSum 22 = .ok (.iaload, 1) := by decide +kernel
theorem dX2_greatestSum_23 : decode cX2_greatestSum 23 = .ok (.iload_n 1, 1) := by decide +kernel
theorem dX2_greatestSum_24 : decode cX2_greatestSum 24 = .ok (.invokestatic 49, 3) := by decide +kernel
theorem dX2_greatestSum_27 : decode cX2_greatestSum 27 = .ok (.istore 4, 2) := by decide +kernel
theorem dX2_greatestSum_29 : decode cX2_greatestSum 29 = .ok (.iload_n 2, 1) := by decide +kernel
theorem dX2_greatestSum_30 : decode cX2_greatestSum 30 = .ok (.iload 4, 2) := by decide +kernel
theorem dX2_greatestSum_32 : decode cX2_greatestSum 32 = .ok (.aload_n 0, 1) := by decide +kernel
theorem dX2_greatestSum_33 : decode cX2_greatestSum 33 = .ok (.getfield 20, 3) := by decide +kernel
theorem dX2_greatestSum_36 : decode cX2_greatestSum 36 = .ok (.iload_n 3, 1) := by decide +kernel
theorem dX2_greatestSum_37 : decode cX2_greatestSum 37 = .ok (.iaload, 1) := by decide +kernel
theorem dX2_greatestSum_38 : decode cX2_greatestSum 38 = .ok (.imul, 1) := by decide +kernel
theorem dX2_greatestSum_39 : decode cX2_greatestSum 39 = .ok (.iadd, 1) := by decide +kernel
theorem dX2_greatestSum_40 : decode cX2_greatestSum 40 = .ok (.istore_n 2, 1) := by decide +kernel
theorem dX2_greatestSum_41 : decode cX2_greatestSum 41 = .ok (.iload_n 1, 1) := by decide +kernel
theorem dX2_greatestSum_42 : decode cX2_greatestSum 42 = .ok (.iload 4, 2) := by decide +kernel
theorem dX2_greatestSum_44 : decode cX2_greatestSum 44 = .ok (.isub, 1) := by decide +kernel
theorem dX2_greatestSum_45 : decode cX2_greatestSum 45 = .ok (.istore_n 1, 1) := by decide +kernel
theorem dX2_greatestSum_46 : decode cX2_greatestSum 46 = .ok (.iinc 3 1, 3) := by decide +kernel
end
section
theorem dX2_greatestSum_49 : decode cX2_greatestSum 49 = .ok (.goto (-40), 3) := by decide +kernel
theorem dX2_greatestSum_52 : decode cX2_greatestSum 52 = .ok (.iload_n 2, 1) := by decide +kernel
theorem dX2_greatestSum_53 : decode cX2_greatestSum 53 = .ok (.ireturn, 1) := by decide +kernel
theorem dX3_init_0 : decode cX3_init 0 = .ok (.aload_n 0, 1) := by decide +kernel
theorem dX3_init_1 : decode cX3_init 1 = .ok (.invokespecial 3, 3) := by decide +kernel
theorem dX3_init_4 : decode cX3_init 4 = .ok (.aload_n 0, 1) := by decide +kernel
theorem dX3_init_5 : decode cX3_init 5 = .ok (.new 9, 3) := by decide +kernel
theorem dX3_init_8 : decode cX3_init 8 = .ok (.dup, 1) := by decide +kernel
theorem dX3_init_9 : decode cX3_init 9 = .ok (.invokespecial 11, 3) := by decide +kernel
theorem dX3_init_12 : decode cX3_init 12 = .ok (.putfield 12, 3) := by decide +kernel
theorem dX3_init_15 : decode cX3_init 15 = .ok (.aload_n 0, 1) := by decide +kernel
theorem dX3_init_16 : decode cX3_init 16 = .ok (.new 9, 3) := by decide +kernel
theorem dX3_init_19 : decode cX3_init 19 = .ok (.dup, 1) := by decide +kernel
theorem dX3_init_20 : decode cX3_init 20 = .ok (.invokespecial 11, 3) := by decide +kernel
theorem dX3_init_23 : decode cX3_init 23 = .ok (.putfield 16, 3) := by decide +kernel
theorem dX3_init_26 : decode cX3_init 26 = .ok (.aload_n 0, 1) := by decide +kernel
theorem dX3_init_27 : decode cX3_init 27 = .ok (.new 19, 3) := by decide +kernel
theorem dX3_init_30 : decode cX3_init 30 = .ok (.dup, 1) := by decide +kernel
theorem dX3_init_31 : decode cX3_init 31 = .ok (.invokespecial 21, 3) := by decide +kernel
theorem dX3_init_34 : decode cX3_init 34 = .ok (.putfield 22, 3) := by decide +kernel
theorem dX3_init_37 : decode cX3_init 37 = .ok (.aload_n 0, 1) := by decide +kernel
theorem dX3_init_38 : decode cX3_init 38 = .ok (.new 26, 3) := by decide +kernel
theorem dX3_init_41 : decode cX3_init 41 = .ok (.dup, 1) := by decide +kernel
theorem dX3_init_42 : decode cX3_init 42 = .ok (.invokespecial 28, 3) := by decide +kernel
theorem dX3_init_45 : decode cX3_init 45 = .ok (.putfield 29, 3) := by decide +kernel
theorem dX3_init_48 : decode cX3_init 48 = .ok (.aload_n 0, 1) := by decide +kernel
theorem dX3_init_49 : decode cX3_init 49 = .ok (.bipush 6, 2) := by decide +kernel
theorem dX3_init_51 : decode cX3_init 51 = .ok (.putfield 33, 3) := by decide +kernel
theorem dX3_init_54 : decode cX3_init 54 = .ok (.aload_n 0, 1) := by decide +kernel
theorem dX3_init_55 : decode cX3_init 55 = .ok (.iconst 0, 1) := by decide +kernel
theorem dX3_init_56 : decode cX3_init 56 = .ok (.putfield 37, 3) := by decide +kernel
theorem dX3_init_59 : decode cX3_init 59 = .ok (.aload_n 0, 1) := by decide +kernel
theorem dX3_init_60 : decode cX3_init 60 = .ok (.iconst 0, 1) := by decide +kernel
theorem dX3_init_61 : decode cX3_init 61 = .ok (.putfield 40, 3) := by decide +kernel
theorem dX3_init_64 : decode cX3_init 64 = .ok (.aload_n 0, 1) := by decide +kernel
theorem dX3_init_65 : decode cX3_init 65 = .ok (.iconst 0, 1) := by decide +kernel
theorem dX3_init_66 : decode cX3_init 66 = .ok (.putfield 43, 3) := by decide +kernel
theorem dX3_init_69 : decode cX3_init 69 = .ok (.return_, 1) := by decide +kernel
theorem dX3_addStamp_0 : decode cX3_addStamp 0 = .ok (.iload_n 1, 1) := by decide +kernel
theorem dX3_addStamp_1 : decode cX3_addStamp 1 = .ok (.iconst 1, 1) := by decide +kernel
theorem dX3_addStamp_2 : decode cX3_addStamp 2 = .ok (.if_icmp .lt 19, 3) := by decide +kernel
theorem dX3_addStamp_5 : decode cX3_addStamp 5 = .ok (.iload_n 1, 1) := by decide +kernel
theorem dX3_addStamp_6 : decode cX3_addStamp 6 = .ok (.bipush 60, 2) := by decide +kernel
theorem dX3_addStamp_8 : decode cX3_addStamp 8 = .ok (.if_icmp .gt 13, 3) := by decide +kernel
theorem dX3_addStamp_11 : decode cX3_addStamp 11 = .ok (.iload_n 2, 1) := by decide +kernel
theorem dX3_addStamp_12 : decode cX3_addStamp 12 = .ok (.ifCond .lt 9, 3) := by decide +kernel
theorem dX3_addStamp_15 : decode cX3_addStamp 15 = .ok (.iload_n 2, 1) := by decide +kernel
theorem dX3_addStamp_16 : decode cX3_addStamp 16 = .ok (.bipush 99, 2) := by decide +kernel
theorem dX3_addStamp_18 : decode cX3_addStamp 18 = .ok (.if_icmp .le 11, 3) := by decide +kernel
theorem dX3_addStamp_21 : decode cX3_addStamp 21 = .ok (.new 46, 3) := by decide +kernel
theorem dX3_addStamp_24 : decode cX3_addStamp 24 = .ok (.dup, 1) := by decide +kernel
theorem dX3_addStamp_25 : decode cX3_addStamp 25 = .ok (.invokespecial 48, 3) := by decide +kernel
theorem dX3_addStamp_28 : decode cX3_addStamp 28 = .ok (.athrow, 1) := by decide +kernel
theorem dX3_addStamp_29 : decode cX3_addStamp 29 = .ok (.aload_n 0, 1) := by decide +kernel
theorem dX3_addStamp_30 : decode cX3_addStamp 30 = .ok (.getfield 12, 3) := by decide +kernel
theorem dX3_addStamp_33 : decode cX3_addStamp 33 = .ok (.getfield 49, 3) := by decide +kernel
theorem dX3_addStamp_36 : decode cX3_addStamp 36 = .ok (.bipush 8, 2) := by decide +kernel
theorem dX3_addStamp_38 : decode cX3_addStamp 38 = .ok (.if_icmp .ge 14, 3) := by decide +kernel
theorem dX3_addStamp_41 : decode cX3_addStamp 41 = .ok (.aload_n 0, 1) := by decide +kernel
theorem dX3_addStamp_42 : decode cX3_addStamp 42 = .ok (.getfield 12, 3) := by decide +kernel
theorem dX3_addStamp_45 : decode cX3_addStamp 45 = .ok (.iload_n 1, 1) := by decide +kernel
theorem dX3_addStamp_46 : decode cX3_addStamp 46 = .ok (.invokevirtual 52, 3) := by decide +kernel
theorem dX3_addStamp_49 : decode cX3_addStamp 49 = .ok (.ifCond .eq 11, 3) := by decide +kernel
theorem dX3_addStamp_52 : decode cX3_addStamp 52 = .ok (.new 56, 3) := by decide +kernel
theorem dX3_addStamp_55 : decode cX3_addStamp 55 = .ok (.dup, 1) := by decide +kernel
theorem dX3_addStamp_56 : decode cX3_addStamp 56 = .ok (.invokespecial 58, 3) := by decide +kernel
theorem dX3_addStamp_59 : decode cX3_addStamp 59 = .ok (.athrow, 1) := by decide +kernel
theorem dX3_addStamp_60 : decode cX3_addStamp 60 = .ok (.aload_n 0, 1) := by decide +kernel
theorem dX3_addStamp_61 : decode cX3_addStamp 61 = .ok (.getfield 12, 3) := by decide +kernel
theorem dX3_addStamp_64 : decode cX3_addStamp 64 = .ok (.iload_n 1, 1) := by decide +kernel
theorem dX3_addStamp_65 : decode cX3_addStamp 65 = .ok (.iload_n 2, 1) := by decide +kernel
theorem dX3_addStamp_66 : decode cX3_addStamp 66 = .ok (.invokevirtual 59, 3) := by decide +kernel
theorem dX3_addStamp_69 : decode cX3_addStamp 69 = .ok (.ireturn, 1) := by decide +kernel
theorem dX3_withdraw_0 : decode cX3_withdraw 0 = .ok (.aload_n 0, 1) := by decide +kernel
theorem dX3_withdraw_1 : decode cX3_withdraw 1 = .ok (.iload_n 1, 1) := by decide +kernel
theorem dX3_withdraw_2 : decode cX3_withdraw 2 = .ok (.invokevirtual 63, 3) := by decide +kernel
theorem dX3_withdraw_5 : decode cX3_withdraw 5 = .ok (.aload_n 0, 1) := by decide +kernel
theorem dX3_withdraw_6 : decode cX3_withdraw 6 = .ok (.getfield 12, 3) := by decide +kernel
theorem dX3_withdraw_9 : decode cX3_withdraw 9 = .ok (.getfield 67, 3) := by decide +kernel
theorem dX3_withdraw_12 : decode cX3_withdraw 12 = .ok (.iload_n 1, 1) := by decide +kernel
theorem dX3_withdraw_13 : decode cX3_withdraw 13 = .ok (.iaload, 1) := by decide +kernel
theorem dX3_withdraw_14 : decode cX3_withdraw 14 = .ok (.istore_n 2, 1) := by decide +kernel
theorem dX3_withdraw_15 : decode cX3_withdraw 15 = .ok (.aload_n 0, 1) := by decide +kernel
theorem dX3_withdraw_16 : decode cX3_withdraw 16 = .ok (.getfield 12, 3) := by decide +kernel
theorem dX3_withdraw_19 : decode cX3_withdraw 19 = .ok (.iload_n 1, 1) := by decide +kernel
theorem dX3_withdraw_20 : decode cX3_withdraw 20 = .ok (.invokevirtual 71, 3) := by decide +kernel
theorem dX3_withdraw_23 : decode cX3_withdraw 23 = .ok (.iload_n 2, 1) := by decide +kernel
theorem dX3_withdraw_24 : decode cX3_withdraw 24 = .ok (.ireturn, 1) := by decide +kernel
theorem dX3_print_0 : decode cX3_print 0 = .ok (.aload_n 0, 1) := by decide +kernel
theorem dX3_print_1 : decode cX3_print 1 = .ok (.iload_n 1, 1) := by decide +kernel
theorem dX3_print_2 : decode cX3_print 2 = .ok (.invokevirtual 63, 3) := by decide +kernel
theorem dX3_print_5 : decode cX3_print 5 = .ok (.iload_n 2, 1) := by decide +kernel
theorem dX3_print_6 : decode cX3_print 6 = .ok (.iconst 1, 1) := by decide +kernel
theorem dX3_print_7 : decode cX3_print 7 = .ok (.if_icmp .lt 9, 3) := by decide +kernel
theorem dX3_print_10 : decode cX3_print 10 = .ok (.iload_n 2, 1) := by decide +kernel
theorem dX3_print_11 : decode cX3_print 11 = .ok (.bipush 99, 2) := by decide +kernel
theorem dX3_print_13 : decode cX3_print 13 = .ok (.if_icmp .le 11, 3) := by decide +kernel
theorem dX3_print_16 : decode cX3_print 16 = .ok (.new 46, 3) := by decide +kernel
theorem dX3_print_19 : decode cX3_print 19 = .ok (.dup, 1) := by decide +kernel
theorem dX3_print_20 : decode cX3_print 20 = .ok (.invokespecial 48, 3) := by decide +kernel
theorem dX3_print_23 : decode cX3_print 23 = .ok (.athrow, 1) := by decide +kernel
theorem dX3_print_24 : decode cX3_print 24 = .ok (.aload_n 0, 1) := by decide +kernel
theorem dX3_print_25 : decode cX3_print 25 = .ok (.getfield 12, 3) := by decide +kernel
theorem dX3_print_28 : decode cX3_print 28 = .ok (.getfield 67, 3) := by decide +kernel
theorem dX3_print_31 : decode cX3_print 31 = .ok (.iload_n 1, 1) := by decide +kernel
theorem dX3_print_32 : decode cX3_print 32 = .ok (.aload_n 0, 1) := by decide +kernel
theorem dX3_print_33 : decode cX3_print 33 = .ok (.getfield 12, 3) := by decide +kernel
theorem dX3_print_36 : decode cX3_print 36 = .ok (.getfield 67, 3) := by decide +kernel
theorem dX3_print_39 : decode cX3_print 39 = .ok (.iload_n 1, 1) := by decide +kernel
theorem dX3_print_40 : decode cX3_print 40 = .ok (.iaload, 1) := by decide +kernel
theorem dX3_print_41 : decode cX3_print 41 = .ok (.iload_n 2, 1) := by decide +kernel
theorem dX3_print_42 : decode cX3_print 42 = .ok (.iadd, 1) := by decide +kernel
theorem dX3_print_43 : decode cX3_print 43 = .ok (.bipush 99, 2) := by decide +kernel
theorem dX3_print_45 : decode cX3_print 45 = .ok (.invokestatic 74, 3) := by decide +kernel
theorem dX3_print_48 : decode cX3_print 48 = .ok (.iastore, 1) := by decide +kernel
theorem dX3_print_49 : decode cX3_print 49 = .ok (.aload_n 0, 1) := by decide +kernel
theorem dX3_print_50 : decode cX3_print 50 = .ok (.getfield 12, 3) := by decide +kernel
theorem dX3_print_53 : decode cX3_print 53 = .ok (.getfield 67, 3) := by decide +kernel
theorem dX3_print_56 : decode cX3_print 56 = .ok (.iload_n 1, 1) := by decide +kernel
theorem dX3_print_57 : decode cX3_print 57 = .ok (.iaload, 1) := by decide +kernel
theorem dX3_print_58 : decode cX3_print 58 = .ok (.ireturn, 1) := by decide +kernel
theorem dX3_setRoom_0 : decode cX3_setRoom 0 = .ok (.iload_n 1, 1) := by decide +kernel
theorem dX3_setRoom_1 : decode cX3_setRoom 1 = .ok (.invokestatic 79, 3) := by decide +kernel
theorem dX3_setRoom_4 : decode cX3_setRoom 4 = .ok (.aload_n 0, 1) := by decide +kernel
theorem dX3_setRoom_5 : decode cX3_setRoom 5 = .ok (.getfield 33, 3) := by decide +kernel
theorem dX3_setRoom_8 : decode cX3_setRoom 8 = .ok (.istore_n 2, 1) := by decide +kernel
theorem dX3_setRoom_9 : decode cX3_setRoom 9 = .ok (.aload_n 0, 1) := by decide +kernel
theorem dX3_setRoom_10 : decode cX3_setRoom 10 = .ok (.iload_n 1, 1) := by decide +kernel
theorem dX3_setRoom_11 : decode cX3_setRoom 11 = .ok (.putfield 33, 3) := by decide +kernel
theorem dX3_setRoom_14 : decode cX3_setRoom 14 = .ok (.iload_n 2, 1) := by decide +kernel
theorem dX3_setRoom_15 : decode cX3_setRoom 15 = .ok (.ireturn, 1) := by decide +kernel
theorem dX3_vend_0 : decode cX3_vend 0 = .ok (.iload_n 1, 1) := by decide +kernel
theorem dX3_vend_1 : decode cX3_vend 1 = .ok (.invokestatic 82, 3) := by decide +kernel
theorem dX3_vend_4 : decode cX3_vend 4 = .ok (.aload_n 0, 1) := by decide +kernel
theorem dX3_vend_5 : decode cX3_vend 5 = .ok (.getfield 22, 3) := by decide +kernel
theorem dX3_vend_8 : decode cX3_vend 8 = .ok (.aload_n 0, 1) := by decide +kernel
theorem dX3_vend_9 : decode cX3_vend 9 = .ok (.getfield 12, 3) := by decide +kernel
theorem dX3_vend_12 : decode cX3_vend 12 = .ok (.aload_n 0, 1) := by decide +kernel
theorem dX3_vend_13 : decode cX3_vend 13 = .ok (.getfield 33, 3) := by decide +kernel
theorem dX3_vend_16 : decode cX3_vend 16 = .ok (.invokevirtual 85, 3) := by decide +kernel
theorem dX3_vend_19 : decode cX3_vend 19 = .ok (.aload_n 0, 1) := by decide +kernel
theorem dX3_vend_20 : decode cX3_vend 20 = .ok (.getfield 22, 3) := by decide +kernel
theorem dX3_vend_23 : decode cX3_vend 23 = .ok (.iload_n 1, 1) := by decide +kernel
theorem dX3_vend_24 : decode cX3_vend 24 = .ok (.invokevirtual 89, 3) := by decide +kernel
theorem dX3_vend_27 : decode cX3_vend 27 = .ok (.istore_n 2, 1) := by decide +kernel
theorem dX3_vend_28 : decode cX3_vend 28 = .ok (.iload_n 2, 1) := by decide +kernel
theorem dX3_vend_29 : decode cX3_vend 29 = .ok (.iconst (-1), 1) := by decide +kernel
theorem dX3_vend_30 : decode cX3_vend 30 = .ok (.if_icmp .ne 11, 3) := by decide +kernel
theorem dX3_vend_33 : decode cX3_vend 33 = .ok (.new 56, 3) := by decide +kernel
theorem dX3_vend_36 : decode cX3_vend 36 = .ok (.dup, 1) := by decide +kernel
theorem dX3_vend_37 : decode cX3_vend 37 = .ok (.invokespecial 58, 3) := by decide +kernel
theorem dX3_vend_40 : decode cX3_vend 40 = .ok (.athrow, 1) := by decide +kernel
theorem dX3_vend_41 : decode cX3_vend 41 = .ok (.aload_n 0, 1) := by decide +kernel
theorem dX3_vend_42 : decode cX3_vend 42 = .ok (.getfield 22, 3) := by decide +kernel
theorem dX3_vend_45 : decode cX3_vend 45 = .ok (.iload_n 2, 1) := by decide +kernel
theorem dX3_vend_46 : decode cX3_vend 46 = .ok (.invokevirtual 93, 3) := by decide +kernel
theorem dX3_vend_49 : decode cX3_vend 49 = .ok (.aload_n 0, 1) := by decide +kernel
theorem dX3_vend_50 : decode cX3_vend 50 = .ok (.getfield 12, 3) := by decide +kernel
theorem dX3_vend_53 : decode cX3_vend 53 = .ok (.aload_n 0, 1) := by decide +kernel
theorem dX3_vend_54 : decode cX3_vend 54 = .ok (.getfield 22, 3) := by decide +kernel
theorem dX3_vend_57 : decode cX3_vend 57 = .ok (.getfield 96, 3) := by decide +kernel
theorem dX3_vend_60 : decode cX3_vend 60 = .ok (.invokevirtual 99, 3) := by decide +kernel
theorem dX3_vend_63 : decode cX3_vend 63 = .ok (.iload_n 2, 1) := by decide +kernel
theorem dX3_vend_64 : decode cX3_vend 64 = .ok (.iload_n 1, 1) := by decide +kernel
theorem dX3_vend_65 : decode cX3_vend 65 = .ok (.isub, 1) := by decide +kernel
theorem dX3_vend_66 : decode cX3_vend 66 = .ok (.istore_n 3, 1) := by decide +kernel
theorem dX3_vend_67 : decode cX3_vend 67 = .ok (.aload_n 0, 1) := by decide +kernel
theorem dX3_vend_68 : decode cX3_vend 68 = .ok (.dup, 1) := by decide +kernel
theorem dX3_vend_69 : decode cX3_vend 69 = .ok (.getfield 37, 3) := by decide +kernel
theorem dX3_vend_72 : decode cX3_vend 72 = .ok (.iconst 1, 1) := by decide +kernel
theorem dX3_vend_73 : decode cX3_vend 73 = .ok (.iadd, 1) := by decide +kernel
theorem dX3_vend_74 : decode cX3_vend 74 = .ok (.putfield 37, 3) := by decide +kernel
theorem dX3_vend_77 : decode cX3_vend 77 = .ok (.aload_n 0, 1) := by decide +kernel
theorem dX3_vend_78 : decode cX3_vend 78 = .ok (.dup, 1) := by decide +kernel
theorem dX3_vend_79 : decode cX3_vend 79 = .ok (.getfield 40, 3) := by decide +kernel
theorem dX3_vend_82 : decode cX3_vend 82 = .ok (.iload_n 2, 1) := by decide +kernel
theorem dX3_vend_83 : decode cX3_vend 83 = .ok (.iadd, 1) := by decide +kernel
theorem dX3_vend_84 : decode cX3_vend 84 = .ok (.putfield 40, 3) := by decide +kernel
theorem dX3_vend_87 : decode cX3_vend 87 = .ok (.aload_n 0, 1) := by decide +kernel
theorem dX3_vend_88 : decode cX3_vend 88 = .ok (.dup, 1) := by decide +kernel
theorem dX3_vend_89 : decode cX3_vend 89 = .ok (.getfield 43, 3) := by decide +kernel
theorem dX3_vend_92 : decode cX3_vend 92 = .ok (.iload_n 3, 1) := by decide +kernel
theorem dX3_vend_93 : decode cX3_vend 93 = .ok (.iadd, 1) := by decide +kernel
theorem dX3_vend_94 : decode cX3_vend 94 = .ok (.putfield 43, 3) := by decide +kernel
theorem dX3_vend_97 : decode cX3_vend 97 = .ok (.iload_n 3, 1) := by decide +kernel
theorem dX3_vend_98 : decode cX3_vend 98 = .ok (.ireturn, 1) := by decide +kernel
theorem dX3_stamps_0 : decode cX3_stamps 0 = .ok (.aload_n 0, 1) := by decide +kernel
theorem dX3_stamps_1 : decode cX3_stamps 1 = .ok (.getfield 12, 3) := by decide +kernel
theorem dX3_stamps_4 : decode cX3_stamps 4 = .ok (.getfield 49, 3) := by decide +kernel
theorem dX3_stamps_7 : decode cX3_stamps 7 = .ok (.ireturn, 1) := by decide +kernel
theorem dX3_room_0 : decode cX3_room 0 = .ok (.aload_n 0, 1) := by decide +kernel
theorem dX3_room_1 : decode cX3_room 1 = .ok (.getfield 33, 3) := by decide +kernel
theorem dX3_room_4 : decode cX3_room 4 = .ok (.ireturn, 1) := by decide +kernel
theorem dX3_valueOf_0 : decode cX3_valueOf 0 = .ok (.aload_n 0, 1) := by decide +kernel
theorem dX3_valueOf_1 : decode cX3_valueOf 1 = .ok (.iload_n 1, 1) := by decide +kernel
theorem dX3_valueOf_2 : decode cX3_valueOf 2 = .ok (.invokevirtual 63, 3) := by decide +kernel
theorem dX3_valueOf_5 : decode cX3_valueOf 5 = .ok (.aload_n 0, 1) := by decide +kernel
theorem dX3_valueOf_6 : decode cX3_valueOf 6 = .ok (.getfield 12, 3) := by decide +kernel
theorem dX3_valueOf_9 : decode cX3_valueOf 9 = .ok (.getfield 103, 3) := by decide +kernel
theorem dX3_valueOf_12 : decode cX3_valueOf 12 = .ok (.iload_n 1, 1) := by decide +kernel
theorem dX3_valueOf_13 : decode cX3_valueOf 13 = .ok (.iaload, 1) := by decide +kernel
theorem dX3_valueOf_14 : decode cX3_valueOf 14 = .ok (.ireturn, 1) := by decide +kernel
theorem dX3_stockOf_0 : decode cX3_stockOf 0 = .ok (.aload_n 0, 1) := by decide +kernel
theorem dX3_stockOf_1 : decode cX3_stockOf 1 = .ok (.iload_n 1, 1) := by decide +kernel
theorem dX3_stockOf_2 : decode cX3_stockOf 2 = .ok (.invokevirtual 63, 3) := by decide +kernel
theorem dX3_stockOf_5 : decode cX3_stockOf 5 = .ok (.aload_n 0, 1) := by decide +kernel
theorem dX3_stockOf_6 : decode cX3_stockOf 6 = .ok (.getfield 12, 3) := by decide +kernel
theorem dX3_stockOf_9 : decode cX3_stockOf 9 = .ok (.getfield 67, 3) := by decide +kernel
theorem dX3_stockOf_12 : decode cX3_stockOf 12 = .ok (.iload_n 1, 1) := by decide +kernel
theorem dX3_stockOf_13 : decode cX3_stockOf 13 = .ok (.iaload, 1) := by decide +kernel
theorem dX3_stockOf_14 : decode cX3_stockOf 14 = .ok (.ireturn, 1) := by decide +kernel
theorem dX3_vendedOf_0 : decode cX3_vendedOf 0 = .ok (.aload_n 0, 1) := by decide +kernel
theorem dX3_vendedOf_1 : decode cX3_vendedOf 1 = .ok (.iload_n 1, 1) := by decide +kernel
theorem dX3_vendedOf_2 : decode cX3_vendedOf 2 = .ok (.invokevirtual 63, 3) := by decide +kernel
theorem dX3_vendedOf_5 : decode cX3_vendedOf 5 = .ok (.aload_n 0, 1) := by decide +kernel
theorem dX3_vendedOf_6 : decode cX3_vendedOf 6 = .ok (.getfield 12, 3) := by decide +kernel
theorem dX3_vendedOf_9 : decode cX3_vendedOf 9 = .ok (.getfield 106, 3) := by decide +kernel
theorem dX3_vendedOf_12 : decode cX3_vendedOf 12 = .ok (.iload_n 1, 1) := by decide +kernel
theorem dX3_vendedOf_13 : decode cX3_vendedOf 13 = .ok (.iaload, 1) := by decide +kernel
theorem dX3_vendedOf_14 : decode cX3_vendedOf 14 = .ok (.ireturn, 1) := by decide +kernel
theorem dX3_letters_0 : decode cX3_letters 0 = .ok (.aload_n 0, 1) := by decide +kernel
theorem dX3_letters_1 : decode cX3_letters 1 = .ok (.getfield 37, 3) := by decide +kernel
theorem dX3_letters_4 : decode cX3_letters 4 = .ok (.ireturn, 1) := by decide +kernel
theorem dX3_taken_0 : decode cX3_taken 0 = .ok (.aload_n 0, 1) := by decide +kernel
theorem dX3_taken_1 : decode cX3_taken 1 = .ok (.getfield 40, 3) := by decide +kernel
theorem dX3_taken_4 : decode cX3_taken 4 = .ok (.ireturn, 1) := by decide +kernel
theorem dX3_overpaid_0 : decode cX3_overpaid 0 = .ok (.aload_n 0, 1) := by decide +kernel
theorem dX3_overpaid_1 : decode cX3_overpaid 1 = .ok (.getfield 43, 3) := by decide +kernel
theorem dX3_overpaid_4 : decode cX3_overpaid 4 = .ok (.ireturn, 1) := by decide +kernel
theorem dX3_scarcest_0 : decode cX3_scarcest 0 = .ok (.iconst (-1), 1) := by decide +kernel
theorem dX3_scarcest_1 : decode cX3_scarcest 1 = .ok (.istore_n 1, 1) := by decide +kernel
theorem dX3_scarcest_2 : decode cX3_scarcest 2 = .ok (.bipush 100, 2) := by decide +kernel
theorem dX3_scarcest_4 : decode cX3_scarcest 4 = .ok (.istore_n 2, 1) := by decide +kernel
theorem dX3_scarcest_5 : decode cX3_scarcest 5 = .ok (.iconst 0, 1) := by decide +kernel
theorem dX3_scarcest_6 : decode cX3_scarcest 6 = .ok (.istore_n 3, 1) := by decide +kernel
theorem dX3_scarcest_7 : decode cX3_scarcest 7 = .ok (.iload_n 3, 1) := by decide +kernel
theorem dX3_scarcest_8 : decode cX3_scarcest 8 = .ok (.aload_n 0, 1) := by decide +kernel
theorem dX3_scarcest_9 : decode cX3_scarcest 9 = .ok (.getfield 12, 3) := by decide +kernel
theorem dX3_scarcest_12 : decode cX3_scarcest 12 = .ok (.getfield 49, 3) := by decide +kernel
theorem dX3_scarcest_15 : decode cX3_scarcest 15 = .ok (.if_icmp .ge 34, 3) := by decide +kernel
theorem dX3_scarcest_18 : decode cX3_scarcest 18 = .ok (.aload_n 0, 1) := by decide +kernel
theorem dX3_scarcest_19 : decode cX3_scarcest 19 = .ok (.getfield 12, 3) := by decide +kernel
theorem dX3_scarcest_22 : decode cX3_scarcest 22 = .ok (.getfield 67, 3) := by decide +kernel
theorem dX3_scarcest_25 : decode cX3_scarcest 25 = .ok (.iload_n 3, 1) := by decide +kernel
theorem dX3_scarcest_26 : decode cX3_scarcest 26 = .ok (.iaload, 1) := by decide +kernel
theorem dX3_scarcest_27 : decode cX3_scarcest 27 = .ok (.iload_n 2, 1) := by decide +kernel
theorem dX3_scarcest_28 : decode cX3_scarcest 28 = .ok (.if_icmp .ge 15, 3) := by decide +kernel
theorem dX3_scarcest_31 : decode cX3_scarcest 31 = .ok (.aload_n 0, 1) := by decide +kernel
theorem dX3_scarcest_32 : decode cX3_scarcest 32 = .ok (.getfield 12, 3) := by decide +kernel
theorem dX3_scarcest_35 : decode cX3_scarcest 35 = .ok (.getfield 67, 3) := by decide +kernel
theorem dX3_scarcest_38 : decode cX3_scarcest 38 = .ok (.iload_n 3, 1) := by decide +kernel
theorem dX3_scarcest_39 : decode cX3_scarcest 39 = .ok (.iaload, 1) := by decide +kernel
theorem dX3_scarcest_40 : decode cX3_scarcest 40 = .ok (.istore_n 2, 1) := by decide +kernel
theorem dX3_scarcest_41 : decode cX3_scarcest 41 = .ok (.iload_n 3, 1) := by decide +kernel
theorem dX3_scarcest_42 : decode cX3_scarcest 42 = .ok (.istore_n 1, 1) := by decide +kernel
theorem dX3_scarcest_43 : decode cX3_scarcest 43 = .ok (.iinc 3 1, 3) := by decide +kernel
theorem dX3_scarcest_46 : decode cX3_scarcest 46 = .ok (.goto (-39), 3) := by decide +kernel
theorem dX3_scarcest_49 : decode cX3_scarcest 49 = .ok (.iload_n 1, 1) := by decide +kernel
theorem dX3_scarcest_50 : decode cX3_scarcest 50 = .ok (.ireturn, 1) := by decide +kernel
theorem dX3_canPay_0 : decode cX3_canPay 0 = .ok (.iload_n 1, 1) := by decide +kernel
theorem dX3_canPay_1 : decode cX3_canPay 1 = .ok (.invokestatic 82, 3) := by decide +kernel
theorem dX3_canPay_4 : decode cX3_canPay 4 = .ok (.aload_n 0, 1) := by decide +kernel
theorem dX3_canPay_5 : decode cX3_canPay 5 = .ok (.getfield 22, 3) := by decide +kernel
theorem dX3_canPay_8 : decode cX3_canPay 8 = .ok (.aload_n 0, 1) := by decide +kernel
theorem dX3_canPay_9 : decode cX3_canPay 9 = .ok (.getfield 12, 3) := by decide +kernel
theorem dX3_canPay_12 : decode cX3_canPay 12 = .ok (.aload_n 0, 1) := by decide +kernel
theorem dX3_canPay_13 : decode cX3_canPay 13 = .ok (.getfield 33, 3) := by decide +kernel
theorem dX3_canPay_16 : decode cX3_canPay 16 = .ok (.invokevirtual 85, 3) := by decide +kernel
theorem dX3_canPay_19 : decode cX3_canPay 19 = .ok (.aload_n 0, 1) := by decide +kernel
theorem dX3_canPay_20 : decode cX3_canPay 20 = .ok (.getfield 22, 3) := by decide +kernel
theorem dX3_canPay_23 : decode cX3_canPay 23 = .ok (.iload_n 1, 1) := by decide +kernel
theorem dX3_canPay_24 : decode cX3_canPay 24 = .ok (.invokevirtual 109, 3) := by decide +kernel
theorem dX3_canPay_27 : decode cX3_canPay 27 = .ok (.ireturn, 1) := by decide +kernel
theorem dX3_overpay_0 : decode cX3_overpay 0 = .ok (.iload_n 1, 1) := by decide +kernel
theorem dX3_overpay_1 : decode cX3_overpay 1 = .ok (.invokestatic 82, 3) := by decide +kernel
theorem dX3_overpay_4 : decode cX3_overpay 4 = .ok (.aload_n 0, 1) := by decide +kernel
theorem dX3_overpay_5 : decode cX3_overpay 5 = .ok (.getfield 22, 3) := by decide +kernel
theorem dX3_overpay_8 : decode cX3_overpay 8 = .ok (.aload_n 0, 1) := by decide +kernel
theorem dX3_overpay_9 : decode cX3_overpay 9 = .ok (.getfield 12, 3) := by decide +kernel
theorem dX3_overpay_12 : decode cX3_overpay 12 = .ok (.aload_n 0, 1) := by decide +kernel
theorem dX3_overpay_13 : decode cX3_overpay 13 = .ok (.getfield 33, 3) := by decide +kernel
theorem dX3_overpay_16 : decode cX3_overpay 16 = .ok (.invokevirtual 85, 3) := by decide +kernel
theorem dX3_overpay_19 : decode cX3_overpay 19 = .ok (.aload_n 0, 1) := by decide +kernel
theorem dX3_overpay_20 : decode cX3_overpay 20 = .ok (.getfield 22, 3) := by decide +kernel
theorem dX3_overpay_23 : decode cX3_overpay 23 = .ok (.iload_n 1, 1) := by decide +kernel
theorem dX3_overpay_24 : decode cX3_overpay 24 = .ok (.invokevirtual 112, 3) := by decide +kernel
theorem dX3_overpay_27 : decode cX3_overpay 27 = .ok (.ireturn, 1) := by decide +kernel
theorem dX3_stampsFor_0 : decode cX3_stampsFor 0 = .ok (.iload_n 1, 1) := by decide +kernel
theorem dX3_stampsFor_1 : decode cX3_stampsFor 1 = .ok (.invokestatic 82, 3) := by decide +kernel
theorem dX3_stampsFor_4 : decode cX3_stampsFor 4 = .ok (.aload_n 0, 1) := by decide +kernel
theorem dX3_stampsFor_5 : decode cX3_stampsFor 5 = .ok (.getfield 22, 3) := by decide +kernel
theorem dX3_stampsFor_8 : decode cX3_stampsFor 8 = .ok (.aload_n 0, 1) := by decide +kernel
theorem dX3_stampsFor_9 : decode cX3_stampsFor 9 = .ok (.getfield 12, 3) := by decide +kernel
theorem dX3_stampsFor_12 : decode cX3_stampsFor 12 = .ok (.aload_n 0, 1) := by decide +kernel
theorem dX3_stampsFor_13 : decode cX3_stampsFor 13 = .ok (.getfield 33, 3) := by decide +kernel
theorem dX3_stampsFor_16 : decode cX3_stampsFor 16 = .ok (.invokevirtual 85, 3) := by decide +kernel
theorem dX3_stampsFor_19 : decode cX3_stampsFor 19 = .ok (.aload_n 0, 1) := by decide +kernel
theorem dX3_stampsFor_20 : decode cX3_stampsFor 20 = .ok (.getfield 22, 3) := by decide +kernel
theorem dX3_stampsFor_23 : decode cX3_stampsFor 23 = .ok (.iload_n 1, 1) := by decide +kernel
theorem dX3_stampsFor_24 : decode cX3_stampsFor 24 = .ok (.invokevirtual 115, 3) := by decide +kernel
theorem dX3_stampsFor_27 : decode cX3_stampsFor 27 = .ok (.ireturn, 1) := by decide +kernel
theorem dX3_ofStampFor_0 : decode cX3_ofStampFor 0 = .ok (.aload_n 0, 1) := by decide +kernel
theorem dX3_ofStampFor_1 : decode cX3_ofStampFor 1 = .ok (.iload_n 2, 1) := by decide +kernel
theorem dX3_ofStampFor_2 : decode cX3_ofStampFor 2 = .ok (.invokevirtual 63, 3) := by decide +kernel
theorem dX3_ofStampFor_5 : decode cX3_ofStampFor 5 = .ok (.iload_n 1, 1) := by decide +kernel
theorem dX3_ofStampFor_6 : decode cX3_ofStampFor 6 = .ok (.invokestatic 82, 3) := by decide +kernel
theorem dX3_ofStampFor_9 : decode cX3_ofStampFor 9 = .ok (.aload_n 0, 1) := by decide +kernel
theorem dX3_ofStampFor_10 : decode cX3_ofStampFor 10 = .ok (.getfield 22, 3) := by decide +kernel
theorem dX3_ofStampFor_13 : decode cX3_ofStampFor 13 = .ok (.aload_n 0, 1) := by decide +kernel
theorem dX3_ofStampFor_14 : decode cX3_ofStampFor 14 = .ok (.getfield 12, 3) := by decide +kernel
theorem dX3_ofStampFor_17 : decode cX3_ofStampFor 17 = .ok (.aload_n 0, 1) := by decide +kernel
theorem dX3_ofStampFor_18 : decode cX3_ofStampFor 18 = .ok (.getfield 33, 3) := by decide +kernel
theorem dX3_ofStampFor_21 : decode cX3_ofStampFor 21 = .ok (.invokevirtual 85, 3) := by decide +kernel
theorem dX3_ofStampFor_24 : decode cX3_ofStampFor 24 = .ok (.aload_n 0, 1) := by decide +kernel
theorem dX3_ofStampFor_25 : decode cX3_ofStampFor 25 = .ok (.getfield 22, 3) := by decide +kernel
theorem dX3_ofStampFor_28 : decode cX3_ofStampFor 28 = .ok (.iload_n 1, 1) := by decide +kernel
theorem dX3_ofStampFor_29 : decode cX3_ofStampFor 29 = .ok (.invokevirtual 89, 3) := by decide +kernel
theorem dX3_ofStampFor_32 : decode cX3_ofStampFor 32 = .ok (.istore_n 3, 1) := by decide +kernel
theorem dX3_ofStampFor_33 : decode cX3_ofStampFor 33 = .ok (.iload_n 3, 1) := by decide +kernel
theorem dX3_ofStampFor_34 : decode cX3_ofStampFor 34 = .ok (.iconst (-1), 1) := by decide +kernel
theorem dX3_ofStampFor_35 : decode cX3_ofStampFor 35 = .ok (.if_icmp .ne 5, 3) := by decide +kernel
theorem dX3_ofStampFor_38 : decode cX3_ofStampFor 38 = .ok (.iconst 0, 1) := by decide +kernel
theorem dX3_ofStampFor_39 : decode cX3_ofStampFor 39 = .ok (.ireturn, 1) := by decide +kernel
theorem dX3_ofStampFor_40 : decode cX3_ofStampFor 40 = .ok (.aload_n 0, 1) := by decide +kernel
theorem dX3_ofStampFor_41 : decode cX3_ofStampFor 41 = .ok (.getfield 22, 3) := by decide +kernel
theorem dX3_ofStampFor_44 : decode cX3_ofStampFor 44 = .ok (.iload_n 3, 1) := by decide +kernel
theorem dX3_ofStampFor_45 : decode cX3_ofStampFor 45 = .ok (.invokevirtual 93, 3) := by decide +kernel
theorem dX3_ofStampFor_48 : decode cX3_ofStampFor 48 = .ok (.aload_n 0, 1) := by decide +kernel
theorem dX3_ofStampFor_49 : decode cX3_ofStampFor 49 = .ok (.getfield 22, 3) := by decide +kernel
theorem dX3_ofStampFor_52 : decode cX3_ofStampFor 52 = .ok (.getfield 96, 3) := by decide +kernel
theorem dX3_ofStampFor_55 : decode cX3_ofStampFor 55 = .ok (.iload_n 2, 1) := by decide +kernel
theorem dX3_ofStampFor_56 : decode cX3_ofStampFor 56 = .ok (.iaload, 1) := by decide +kernel
theorem dX3_ofStampFor_57 : decode cX3_ofStampFor 57 = .ok (.ireturn, 1) := by decide +kernel
theorem dX3_reachNow_0 : decode cX3_reachNow 0 = .ok (.aload_n 0, 1) := by decide +kernel
theorem dX3_reachNow_1 : decode cX3_reachNow 1 = .ok (.getfield 22, 3) := by decide +kernel
theorem dX3_reachNow_4 : decode cX3_reachNow 4 = .ok (.aload_n 0, 1) := by decide +kernel
theorem dX3_reachNow_5 : decode cX3_reachNow 5 = .ok (.getfield 12, 3) := by decide +kernel
theorem dX3_reachNow_8 : decode cX3_reachNow 8 = .ok (.aload_n 0, 1) := by decide +kernel
theorem dX3_reachNow_9 : decode cX3_reachNow 9 = .ok (.getfield 33, 3) := by decide +kernel
theorem dX3_reachNow_12 : decode cX3_reachNow 12 = .ok (.invokevirtual 85, 3) := by decide +kernel
theorem dX3_reachNow_15 : decode cX3_reachNow 15 = .ok (.aload_n 0, 1) := by decide +kernel
theorem dX3_reachNow_16 : decode cX3_reachNow 16 = .ok (.getfield 22, 3) := by decide +kernel
theorem dX3_reachNow_19 : decode cX3_reachNow 19 = .ok (.invokevirtual 118, 3) := by decide +kernel
theorem dX3_reachNow_22 : decode cX3_reachNow 22 = .ok (.ireturn, 1) := by decide +kernel
theorem dX3_most_0 : decode cX3_most 0 = .ok (.aload_n 0, 1) := by decide +kernel
theorem dX3_most_1 : decode cX3_most 1 = .ok (.getfield 22, 3) := by decide +kernel
theorem dX3_most_4 : decode cX3_most 4 = .ok (.aload_n 0, 1) := by decide +kernel
theorem dX3_most_5 : decode cX3_most 5 = .ok (.getfield 12, 3) := by decide +kernel
theorem dX3_most_8 : decode cX3_most 8 = .ok (.aload_n 0, 1) := by decide +kernel
theorem dX3_most_9 : decode cX3_most 9 = .ok (.getfield 33, 3) := by decide +kernel
theorem dX3_most_12 : decode cX3_most 12 = .ok (.invokevirtual 122, 3) := by decide +kernel
theorem dX3_most_15 : decode cX3_most 15 = .ok (.aload_n 0, 1) := by decide +kernel
theorem dX3_most_16 : decode cX3_most 16 = .ok (.getfield 22, 3) := by decide +kernel
theorem dX3_most_19 : decode cX3_most 19 = .ok (.invokevirtual 125, 3) := by decide +kernel
theorem dX3_most_22 : decode cX3_most 22 = .ok (.ireturn, 1) := by decide +kernel
theorem dX3_fewest_0 : decode cX3_fewest 0 = .ok (.iload_n 1, 1) := by decide +kernel
theorem dX3_fewest_1 : decode cX3_fewest 1 = .ok (.invokestatic 82, 3) := by decide +kernel
theorem dX3_fewest_4 : decode cX3_fewest 4 = .ok (.aload_n 0, 1) := by decide +kernel
theorem dX3_fewest_5 : decode cX3_fewest 5 = .ok (.getfield 29, 3) := by decide +kernel
theorem dX3_fewest_8 : decode cX3_fewest 8 = .ok (.aload_n 0, 1) := by decide +kernel
theorem dX3_fewest_9 : decode cX3_fewest 9 = .ok (.getfield 12, 3) := by decide +kernel
theorem dX3_fewest_12 : decode cX3_fewest 12 = .ok (.invokevirtual 128, 3) := by decide +kernel
theorem dX3_fewest_15 : decode cX3_fewest 15 = .ok (.aload_n 0, 1) := by decide +kernel
theorem dX3_fewest_16 : decode cX3_fewest 16 = .ok (.getfield 29, 3) := by decide +kernel
theorem dX3_fewest_19 : decode cX3_fewest 19 = .ok (.iload_n 1, 1) := by decide +kernel
theorem dX3_fewest_20 : decode cX3_fewest 20 = .ok (.aload_n 0, 1) := by decide +kernel
theorem dX3_fewest_21 : decode cX3_fewest 21 = .ok (.getfield 33, 3) := by decide +kernel
theorem dX3_fewest_24 : decode cX3_fewest 24 = .ok (.invokevirtual 131, 3) := by decide +kernel
theorem dX3_fewest_27 : decode cX3_fewest 27 = .ok (.ireturn, 1) := by decide +kernel
theorem dX3_ways_0 : decode cX3_ways 0 = .ok (.iload_n 1, 1) := by decide +kernel
theorem dX3_ways_1 : decode cX3_ways 1 = .ok (.invokestatic 82, 3) := by decide +kernel
theorem dX3_ways_4 : decode cX3_ways 4 = .ok (.aload_n 0, 1) := by decide +kernel
theorem dX3_ways_5 : decode cX3_ways 5 = .ok (.getfield 29, 3) := by decide +kernel
theorem dX3_ways_8 : decode cX3_ways 8 = .ok (.aload_n 0, 1) := by decide +kernel
theorem dX3_ways_9 : decode cX3_ways 9 = .ok (.getfield 12, 3) := by decide +kernel
theorem dX3_ways_12 : decode cX3_ways 12 = .ok (.aload_n 0, 1) := by decide +kernel
theorem dX3_ways_13 : decode cX3_ways 13 = .ok (.getfield 33, 3) := by decide +kernel
theorem dX3_ways_16 : decode cX3_ways 16 = .ok (.iload_n 1, 1) := by decide +kernel
theorem dX3_ways_17 : decode cX3_ways 17 = .ok (.invokevirtual 134, 3) := by decide +kernel
theorem dX3_ways_20 : decode cX3_ways 20 = .ok (.ireturn, 1) := by decide +kernel
theorem dX3_reach_0 : decode cX3_reach 0 = .ok (.aload_n 0, 1) := by decide +kernel
theorem dX3_reach_1 : decode cX3_reach 1 = .ok (.getfield 29, 3) := by decide +kernel
theorem dX3_reach_4 : decode cX3_reach 4 = .ok (.aload_n 0, 1) := by decide +kernel
theorem dX3_reach_5 : decode cX3_reach 5 = .ok (.getfield 12, 3) := by decide +kernel
theorem dX3_reach_8 : decode cX3_reach 8 = .ok (.invokevirtual 128, 3) := by decide +kernel
theorem dX3_reach_11 : decode cX3_reach 11 = .ok (.aload_n 0, 1) := by decide +kernel
theorem dX3_reach_12 : decode cX3_reach 12 = .ok (.getfield 29, 3) := by decide +kernel
theorem dX3_reach_15 : decode cX3_reach 15 = .ok (.aload_n 0, 1) := by decide +kernel
theorem dX3_reach_16 : decode cX3_reach 16 = .ok (.getfield 33, 3) := by decide +kernel
theorem dX3_reach_19 : decode cX3_reach 19 = .ok (.invokevirtual 138, 3) := by decide +kernel
theorem dX3_reach_22 : decode cX3_reach 22 = .ok (.ireturn, 1) := by decide +kernel
theorem dX3_gapFrom_0 : decode cX3_gapFrom 0 = .ok (.iload_n 1, 1) := by decide +kernel
theorem dX3_gapFrom_1 : decode cX3_gapFrom 1 = .ok (.invokestatic 82, 3) := by decide +kernel
theorem dX3_gapFrom_4 : decode cX3_gapFrom 4 = .ok (.aload_n 0, 1) := by decide +kernel
theorem dX3_gapFrom_5 : decode cX3_gapFrom 5 = .ok (.getfield 29, 3) := by decide +kernel
theorem dX3_gapFrom_8 : decode cX3_gapFrom 8 = .ok (.aload_n 0, 1) := by decide +kernel
theorem dX3_gapFrom_9 : decode cX3_gapFrom 9 = .ok (.getfield 12, 3) := by decide +kernel
theorem dX3_gapFrom_12 : decode cX3_gapFrom 12 = .ok (.invokevirtual 128, 3) := by decide +kernel
theorem dX3_gapFrom_15 : decode cX3_gapFrom 15 = .ok (.aload_n 0, 1) := by decide +kernel
theorem dX3_gapFrom_16 : decode cX3_gapFrom 16 = .ok (.getfield 29, 3) := by decide +kernel
theorem dX3_gapFrom_19 : decode cX3_gapFrom 19 = .ok (.iload_n 1, 1) := by decide +kernel
theorem dX3_gapFrom_20 : decode cX3_gapFrom 20 = .ok (.aload_n 0, 1) := by decide +kernel
theorem dX3_gapFrom_21 : decode cX3_gapFrom 21 = .ok (.getfield 33, 3) := by decide +kernel
theorem dX3_gapFrom_24 : decode cX3_gapFrom 24 = .ok (.invokevirtual 141, 3) := by decide +kernel
theorem dX3_gapFrom_27 : decode cX3_gapFrom 27 = .ok (.ireturn, 1) := by decide +kernel
theorem dX3_gapsTo_0 : decode cX3_gapsTo 0 = .ok (.iload_n 1, 1) := by decide +kernel
theorem dX3_gapsTo_1 : decode cX3_gapsTo 1 = .ok (.invokestatic 82, 3) := by decide +kernel
theorem dX3_gapsTo_4 : decode cX3_gapsTo 4 = .ok (.aload_n 0, 1) := by decide +kernel
theorem dX3_gapsTo_5 : decode cX3_gapsTo 5 = .ok (.getfield 29, 3) := by decide +kernel
theorem dX3_gapsTo_8 : decode cX3_gapsTo 8 = .ok (.aload_n 0, 1) := by decide +kernel
theorem dX3_gapsTo_9 : decode cX3_gapsTo 9 = .ok (.getfield 12, 3) := by decide +kernel
theorem dX3_gapsTo_12 : decode cX3_gapsTo 12 = .ok (.invokevirtual 128, 3) := by decide +kernel
theorem dX3_gapsTo_15 : decode cX3_gapsTo 15 = .ok (.aload_n 0, 1) := by decide +kernel
theorem dX3_gapsTo_16 : decode cX3_gapsTo 16 = .ok (.getfield 29, 3) := by decide +kernel
theorem dX3_gapsTo_19 : decode cX3_gapsTo 19 = .ok (.iload_n 1, 1) := by decide +kernel
theorem dX3_gapsTo_20 : decode cX3_gapsTo 20 = .ok (.aload_n 0, 1) := by decide +kernel
theorem dX3_gapsTo_21 : decode cX3_gapsTo 21 = .ok (.getfield 33, 3) := by decide +kernel
theorem dX3_gapsTo_24 : decode cX3_gapsTo 24 = .ok (.invokevirtual 144, 3) := by decide +kernel
theorem dX3_gapsTo_27 : decode cX3_gapsTo 27 = .ok (.ireturn, 1) := by decide +kernel
theorem dX3_lettersOf_0 : decode cX3_lettersOf 0 = .ok (.iload_n 1, 1) := by decide +kernel
theorem dX3_lettersOf_1 : decode cX3_lettersOf 1 = .ok (.invokestatic 82, 3) := by decide +kernel
theorem dX3_lettersOf_4 : decode cX3_lettersOf 4 = .ok (.aload_n 0, 1) := by decide +kernel
theorem dX3_lettersOf_5 : decode cX3_lettersOf 5 = .ok (.getfield 16, 3) := by decide +kernel
theorem dX3_lettersOf_8 : decode cX3_lettersOf 8 = .ok (.aload_n 0, 1) := by decide +kernel
theorem dX3_lettersOf_9 : decode cX3_lettersOf 9 = .ok (.getfield 12, 3) := by decide +kernel
theorem dX3_lettersOf_12 : decode cX3_lettersOf 12 = .ok (.invokevirtual 147, 3) := by decide +kernel
theorem dX3_lettersOf_15 : decode cX3_lettersOf 15 = .ok (.iconst 0, 1) := by decide +kernel
theorem dX3_lettersOf_16 : decode cX3_lettersOf 16 = .ok (.istore_n 2, 1) := by decide +kernel
theorem dX3_lettersOf_17 : decode cX3_lettersOf 17 = .ok (.iconst 0, 1) := by decide +kernel
theorem dX3_lettersOf_18 : decode cX3_lettersOf 18 = .ok (.istore_n 3, 1) := by decide +kernel
theorem dX3_lettersOf_19 : decode cX3_lettersOf 19 = .ok (.iload_n 3, 1) := by decide +kernel
theorem dX3_lettersOf_20 : decode cX3_lettersOf 20 = .ok (.bipush 50, 2) := by decide +kernel
theorem dX3_lettersOf_22 : decode cX3_lettersOf 22 = .ok (.if_icmp .ge 101, 3) := by decide +kernel
theorem dX3_lettersOf_25 : decode cX3_lettersOf 25 = .ok (.iload_n 2, 1) := by decide +kernel
theorem dX3_lettersOf_26 : decode cX3_lettersOf 26 = .ok (.bipush 50, 2) := by decide +kernel
theorem dX3_lettersOf_28 : decode cX3_lettersOf 28 = .ok (.if_icmp .ge 95, 3) := by decide +kernel
theorem dX3_lettersOf_31 : decode cX3_lettersOf 31 = .ok (.aload_n 0, 1) := by decide +kernel
theorem dX3_lettersOf_32 : decode cX3_lettersOf 32 = .ok (.getfield 22, 3) := by decide +kernel
theorem dX3_lettersOf_35 : decode cX3_lettersOf 35 = .ok (.aload_n 0, 1) := by decide +kernel
theorem dX3_lettersOf_36 : decode cX3_lettersOf 36 = .ok (.getfield 16, 3) := by decide +kernel
theorem dX3_lettersOf_39 : decode cX3_lettersOf 39 = .ok (.aload_n 0, 1) := by decide +kernel
theorem dX3_lettersOf_40 : decode cX3_lettersOf 40 = .ok (.getfield 33, 3) := by decide +kernel
theorem dX3_lettersOf_43 : decode cX3_lettersOf 43 = .ok (.invokevirtual 85, 3) := by decide +kernel
theorem dX3_lettersOf_46 : decode cX3_lettersOf 46 = .ok (.aload_n 0, 1) := by decide +kernel
theorem dX3_lettersOf_47 : decode cX3_lettersOf 47 = .ok (.getfield 22, 3) := by decide +kernel
theorem dX3_lettersOf_50 : decode cX3_lettersOf 50 = .ok (.iload_n 1, 1) := by decide +kernel
theorem dX3_lettersOf_51 : decode cX3_lettersOf 51 = .ok (.invokevirtual 89, 3) := by decide +kernel
theorem dX3_lettersOf_54 : decode cX3_lettersOf 54 = .ok (.istore 4, 2) := by decide +kernel
theorem dX3_lettersOf_56 : decode cX3_lettersOf 56 = .ok (.iload 4, 2) := by decide +kernel
theorem dX3_lettersOf_58 : decode cX3_lettersOf 58 = .ok (.iconst (-1), 1) := by decide +kernel
theorem dX3_lettersOf_59 : decode cX3_lettersOf 59 = .ok (.if_icmp .ne 6, 3) := by decide +kernel
theorem dX3_lettersOf_62 : decode cX3_lettersOf 62 = .ok (.goto 61, 3) := by decide +kernel
theorem dX3_lettersOf_65 : decode cX3_lettersOf 65 = .ok (.aload_n 0, 1) := by decide +kernel
theorem dX3_lettersOf_66 : decode cX3_lettersOf 66 = .ok (.getfield 22, 3) := by decide +kernel
theorem dX3_lettersOf_69 : decode cX3_lettersOf 69 = .ok (.iload 4, 2) := by decide +kernel
theorem dX3_lettersOf_71 : decode cX3_lettersOf 71 = .ok (.invokevirtual 93, 3) := by decide +kernel
theorem dX3_lettersOf_74 : decode cX3_lettersOf 74 = .ok (.iload_n 2, 1) := by decide +kernel
theorem dX3_lettersOf_75 : decode cX3_lettersOf 75 = .ok (.bipush 50, 2) := by decide +kernel
theorem dX3_lettersOf_77 : decode cX3_lettersOf 77 = .ok (.if_icmp .ge 40, 3) := by decide +kernel
theorem dX3_lettersOf_80 : decode cX3_lettersOf 80 = .ok (.aload_n 0, 1) := by decide +kernel
theorem dX3_lettersOf_81 : decode cX3_lettersOf 81 = .ok (.getfield 16, 3) := by decide +kernel
theorem dX3_lettersOf_84 : decode cX3_lettersOf 84 = .ok (.aload_n 0, 1) := by decide +kernel
theorem dX3_lettersOf_85 : decode cX3_lettersOf 85 = .ok (.getfield 22, 3) := by decide +kernel
theorem dX3_lettersOf_88 : decode cX3_lettersOf 88 = .ok (.getfield 96, 3) := by decide +kernel
theorem dX3_lettersOf_91 : decode cX3_lettersOf 91 = .ok (.invokevirtual 150, 3) := by decide +kernel
theorem dX3_lettersOf_94 : decode cX3_lettersOf 94 = .ok (.ifCond .eq 23, 3) := by decide +kernel
theorem dX3_lettersOf_97 : decode cX3_lettersOf 97 = .ok (.aload_n 0, 1) := by decide +kernel
theorem dX3_lettersOf_98 : decode cX3_lettersOf 98 = .ok (.getfield 16, 3) := by decide +kernel
theorem dX3_lettersOf_101 : decode cX3_lettersOf 101 = .ok (.aload_n 0, 1) := by decide +kernel
theorem dX3_lettersOf_102 : decode cX3_lettersOf 102 = .ok (.getfield 22, 3) := by decide +kernel
theorem dX3_lettersOf_105 : decode cX3_lettersOf 105 = .ok (.getfield 96, 3) := by decide +kernel
theorem dX3_lettersOf_108 : decode cX3_lettersOf 108 = .ok (.invokevirtual 99, 3) := by decide +kernel
theorem dX3_lettersOf_111 : decode cX3_lettersOf 111 = .ok (.iinc 2 1, 3) := by decide +kernel
theorem dX3_lettersOf_114 : decode cX3_lettersOf 114 = .ok (.goto (-40), 3) := by decide +kernel
theorem dX3_lettersOf_117 : decode cX3_lettersOf 117 = .ok (.iinc 3 1, 3) := by decide +kernel
theorem dX3_lettersOf_120 : decode cX3_lettersOf 120 = .ok (.goto (-101), 3) := by decide +kernel
theorem dX3_lettersOf_123 : decode cX3_lettersOf 123 = .ok (.iload_n 2, 1) := by decide +kernel
theorem dX3_lettersOf_124 : decode cX3_lettersOf 124 = .ok (.ireturn, 1) := by decide +kernel
theorem dX3_bestValue_0 : decode cX3_bestValue 0 = .ok (.aload_n 0, 1) := by decide +kernel
theorem dX3_bestValue_1 : decode cX3_bestValue 1 = .ok (.getfield 29, 3) := by decide +kernel
theorem dX3_bestValue_4 : decode cX3_bestValue 4 = .ok (.aload_n 0, 1) := by decide +kernel
theorem dX3_bestValue_5 : decode cX3_bestValue 5 = .ok (.getfield 12, 3) := by decide +kernel
theorem dX3_bestValue_8 : decode cX3_bestValue 8 = .ok (.invokevirtual 128, 3) := by decide +kernel
theorem dX3_bestValue_11 : decode cX3_bestValue 11 = .ok (.iconst (-1), 1) := by decide +kernel
theorem dX3_bestValue_12 : decode cX3_bestValue 12 = .ok (.istore_n 1, 1) := by decide +kernel
theorem dX3_bestValue_13 : decode cX3_bestValue 13 = .ok (.iconst (-1), 1) := by decide +kernel
theorem dX3_bestValue_14 : decode cX3_bestValue 14 = .ok (.istore_n 2, 1) := by decide +kernel
theorem dX3_bestValue_15 : decode cX3_bestValue 15 = .ok (.iconst 1, 1) := by decide +kernel
theorem dX3_bestValue_16 : decode cX3_bestValue 16 = .ok (.istore_n 3, 1) := by decide +kernel
theorem dX3_bestValue_17 : decode cX3_bestValue 17 = .ok (.iload_n 3, 1) := by decide +kernel
theorem dX3_bestValue_18 : decode cX3_bestValue 18 = .ok (.bipush 60, 2) := by decide +kernel
theorem dX3_bestValue_20 : decode cX3_bestValue 20 = .ok (.if_icmp .gt 45, 3) := by decide +kernel
theorem dX3_bestValue_23 : decode cX3_bestValue 23 = .ok (.aload_n 0, 1) := by decide +kernel
theorem dX3_bestValue_24 : decode cX3_bestValue 24 = .ok (.getfield 12, 3) := by decide +kernel
theorem dX3_bestValue_27 : decode cX3_bestValue 27 = .ok (.iload_n 3, 1) := by decide +kernel
theorem dX3_bestValue_28 : decode cX3_bestValue 28 = .ok (.invokevirtual 52, 3) := by decide +kernel
theorem dX3_bestValue_31 : decode cX3_bestValue 31 = .ok (.ifCond .ne 28, 3) := by decide +kernel
theorem dX3_bestValue_34 : decode cX3_bestValue 34 = .ok (.aload_n 0, 1) := by decide +kernel
theorem dX3_bestValue_35 : decode cX3_bestValue 35 = .ok (.getfield 29, 3) := by decide +kernel
theorem dX3_bestValue_38 : decode cX3_bestValue 38 = .ok (.iload_n 3, 1) := by decide +kernel
theorem dX3_bestValue_39 : decode cX3_bestValue 39 = .ok (.aload_n 0, 1) := by decide +kernel
theorem dX3_bestValue_40 : decode cX3_bestValue 40 = .ok (.getfield 33, 3) := by decide +kernel
theorem dX3_bestValue_43 : decode cX3_bestValue 43 = .ok (.invokevirtual 154, 3) := by decide +kernel
theorem dX3_bestValue_46 : decode cX3_bestValue 46 = .ok (.istore 4, 2) := by decide +kernel
theorem dX3_bestValue_48 : decode cX3_bestValue 48 = .ok (.iload 4, 2) := by decide +kernel
theorem dX3_bestValue_50 : decode cX3_bestValue 50 = .ok (.iload_n 2, 1) := by decide +kernel
theorem dX3_bestValue_51 : decode cX3_bestValue 51 = .ok (.if_icmp .le 8, 3) := by decide +kernel
theorem dX3_bestValue_54 : decode cX3_bestValue 54 = .ok (.iload 4, 2) := by decide +kernel
theorem dX3_bestValue_56 : decode cX3_bestValue 56 = .ok (.istore_n 2, 1) := by decide +kernel
theorem dX3_bestValue_57 : decode cX3_bestValue 57 = .ok (.iload_n 3, 1) := by decide +kernel
theorem dX3_bestValue_58 : decode cX3_bestValue 58 = .ok (.istore_n 1, 1) := by decide +kernel
theorem dX3_bestValue_59 : decode cX3_bestValue 59 = .ok (.iinc 3 1, 3) := by decide +kernel
theorem dX3_bestValue_62 : decode cX3_bestValue 62 = .ok (.goto (-45), 3) := by decide +kernel
theorem dX3_bestValue_65 : decode cX3_bestValue 65 = .ok (.iload_n 1, 1) := by decide +kernel
theorem dX3_bestValue_66 : decode cX3_bestValue 66 = .ok (.ireturn, 1) := by decide +kernel
theorem dX3_bestToPrint_0 : decode cX3_bestToPrint 0 = .ok (.aload_n 0, 1) := by decide +kernel
theorem dX3_bestToPrint_1 : decode cX3_bestToPrint 1 = .ok (.getfield 16, 3) := by decide +kernel
theorem dX3_bestToPrint_4 : decode cX3_bestToPrint 4 = .ok (.aload_n 0, 1) := by decide +kernel
theorem dX3_bestToPrint_5 : decode cX3_bestToPrint 5 = .ok (.getfield 12, 3) := by decide +kernel
theorem dX3_bestToPrint_8 : decode cX3_bestToPrint 8 = .ok (.invokevirtual 147, 3) := by decide +kernel
theorem dX3_bestToPrint_11 : decode cX3_bestToPrint 11 = .ok (.iconst (-1), 1) := by decide +kernel
theorem dX3_bestToPrint_12 : decode cX3_bestToPrint 12 = .ok (.istore_n 1, 1) := by decide +kernel
theorem dX3_bestToPrint_13 : decode cX3_bestToPrint 13 = .ok (.iconst (-1), 1) := by decide +kernel
theorem dX3_bestToPrint_14 : decode cX3_bestToPrint 14 = .ok (.istore_n 2, 1) := by decide +kernel
theorem dX3_bestToPrint_15 : decode cX3_bestToPrint 15 = .ok (.iconst 0, 1) := by decide +kernel
theorem dX3_bestToPrint_16 : decode cX3_bestToPrint 16 = .ok (.istore_n 3, 1) := by decide +kernel
theorem dX3_bestToPrint_17 : decode cX3_bestToPrint 17 = .ok (.iload_n 3, 1) := by decide +kernel
theorem dX3_bestToPrint_18 : decode cX3_bestToPrint 18 = .ok (.aload_n 0, 1) := by decide +kernel
theorem dX3_bestToPrint_19 : decode cX3_bestToPrint 19 = .ok (.getfield 12, 3) := by decide +kernel
theorem dX3_bestToPrint_22 : decode cX3_bestToPrint 22 = .ok (.getfield 49, 3) := by decide +kernel
theorem dX3_bestToPrint_25 : decode cX3_bestToPrint 25 = .ok (.if_icmp .ge 83, 3) := by decide +kernel
theorem dX3_bestToPrint_28 : decode cX3_bestToPrint 28 = .ok (.aload_n 0, 1) := by decide +kernel
theorem dX3_bestToPrint_29 : decode cX3_bestToPrint 29 = .ok (.getfield 16, 3) := by decide +kernel
theorem dX3_bestToPrint_32 : decode cX3_bestToPrint 32 = .ok (.getfield 67, 3) := by decide +kernel
theorem dX3_bestToPrint_35 : decode cX3_bestToPrint 35 = .ok (.iload_n 3, 1) := by decide +kernel
theorem dX3_bestToPrint_36 : decode cX3_bestToPrint 36 = .ok (.aload_n 0, 1) := by decide +kernel
theorem dX3_bestToPrint_37 : decode cX3_bestToPrint 37 = .ok (.getfield 12, 3) := by decide +kernel
theorem dX3_bestToPrint_40 : decode cX3_bestToPrint 40 = .ok (.getfield 67, 3) := by decide +kernel
theorem dX3_bestToPrint_43 : decode cX3_bestToPrint 43 = .ok (.iload_n 3, 1) := by decide +kernel
theorem dX3_bestToPrint_44 : decode cX3_bestToPrint 44 = .ok (.iaload, 1) := by decide +kernel
theorem dX3_bestToPrint_45 : decode cX3_bestToPrint 45 = .ok (.bipush 20, 2) := by decide +kernel
theorem dX3_bestToPrint_47 : decode cX3_bestToPrint 47 = .ok (.iadd, 1) := by decide +kernel
theorem dX3_bestToPrint_48 : decode cX3_bestToPrint 48 = .ok (.iastore, 1) := by decide +kernel
theorem dX3_bestToPrint_49 : decode cX3_bestToPrint 49 = .ok (.aload_n 0, 1) := by decide +kernel
theorem dX3_bestToPrint_50 : decode cX3_bestToPrint 50 = .ok (.getfield 22, 3) := by decide +kernel
theorem dX3_bestToPrint_53 : decode cX3_bestToPrint 53 = .ok (.aload_n 0, 1) := by decide +kernel
theorem dX3_bestToPrint_54 : decode cX3_bestToPrint 54 = .ok (.getfield 16, 3) := by decide +kernel
theorem dX3_bestToPrint_57 : decode cX3_bestToPrint 57 = .ok (.aload_n 0, 1) := by decide +kernel
theorem dX3_bestToPrint_58 : decode cX3_bestToPrint 58 = .ok (.getfield 33, 3) := by decide +kernel
theorem dX3_bestToPrint_61 : decode cX3_bestToPrint 61 = .ok (.invokevirtual 85, 3) := by decide +kernel
theorem dX3_bestToPrint_64 : decode cX3_bestToPrint 64 = .ok (.aload_n 0, 1) := by decide +kernel
theorem dX3_bestToPrint_65 : decode cX3_bestToPrint 65 = .ok (.getfield 16, 3) := by decide +kernel
theorem dX3_bestToPrint_68 : decode cX3_bestToPrint 68 = .ok (.getfield 67, 3) := by decide +kernel
theorem dX3_bestToPrint_71 : decode cX3_bestToPrint 71 = .ok (.iload_n 3, 1) := by decide +kernel
theorem dX3_bestToPrint_72 : decode cX3_bestToPrint 72 = .ok (.aload_n 0, 1) := by decide +kernel
theorem dX3_bestToPrint_73 : decode cX3_bestToPrint 73 = .ok (.getfield 12, 3) := by decide +kernel
theorem dX3_bestToPrint_76 : decode cX3_bestToPrint 76 = .ok (.getfield 67, 3) := by decide +kernel
theorem dX3_bestToPrint_79 : decode cX3_bestToPrint 79 = .ok (.iload_n 3, 1) := by decide +kernel
theorem dX3_bestToPrint_80 : decode cX3_bestToPrint 80 = .ok (.iaload, 1) := by decide +kernel
theorem dX3_bestToPrint_81 : decode cX3_bestToPrint 81 = .ok (.iastore, 1) := by decide +kernel
theorem dX3_bestToPrint_82 : decode cX3_bestToPrint 82 = .ok (.aload_n 0, 1) := by decide +kernel
theorem dX3_bestToPrint_83 : decode cX3_bestToPrint 83 = .ok (.getfield 22, 3) := by decide +kernel
theorem dX3_bestToPrint_86 : decode cX3_bestToPrint 86 = .ok (.invokevirtual 118, 3) := by decide +kernel
theorem dX3_bestToPrint_89 : decode cX3_bestToPrint 89 = .ok (.istore 4, 2) := by decide +kernel
theorem dX3_bestToPrint_91 : decode cX3_bestToPrint 91 = .ok (.iload 4, 2) := by decide +kernel
theorem dX3_bestToPrint_93 : decode cX3_bestToPrint 93 = .ok (.iload_n 2, 1) := by decide +kernel
theorem dX3_bestToPrint_94 : decode cX3_bestToPrint 94 = .ok (.if_icmp .le 8, 3) := by decide +kernel
theorem dX3_bestToPrint_97 : decode cX3_bestToPrint 97 = .ok (.iload 4, 2) := by decide +kernel
theorem dX3_bestToPrint_99 : decode cX3_bestToPrint 99 = .ok (.istore_n 2, 1) := by decide +kernel
theorem dX3_bestToPrint_100 : decode cX3_bestToPrint 100 = .ok (.iload_n 3, 1) := by decide +kernel
theorem dX3_bestToPrint_101 : decode cX3_bestToPrint 101 = .ok (.istore_n 1, 1) := by decide +kernel
theorem dX3_bestToPrint_102 : decode cX3_bestToPrint 102 = .ok (.iinc 3 1, 3) := by decide +kernel
theorem dX3_bestToPrint_105 : decode cX3_bestToPrint 105 = .ok (.goto (-88), 3) := by decide +kernel
theorem dX3_bestToPrint_108 : decode cX3_bestToPrint 108 = .ok (.iload_n 1, 1) := by decide +kernel
theorem dX3_bestToPrint_109 : decode cX3_bestToPrint 109 = .ok (.ireturn, 1) := by decide +kernel
theorem dX3_reachWithRoom_0 : decode cX3_reachWithRoom 0 = .ok (.iload_n 1, 1) := by decide +kernel
theorem dX3_reachWithRoom_1 : decode cX3_reachWithRoom 1 = .ok (.invokestatic 79, 3) := by decide +kernel
theorem dX3_reachWithRoom_4 : decode cX3_reachWithRoom 4 = .ok (.aload_n 0, 1) := by decide +kernel
theorem dX3_reachWithRoom_5 : decode cX3_reachWithRoom 5 = .ok (.getfield 29, 3) := by decide +kernel
theorem dX3_reachWithRoom_8 : decode cX3_reachWithRoom 8 = .ok (.aload_n 0, 1) := by decide +kernel
theorem dX3_reachWithRoom_9 : decode cX3_reachWithRoom 9 = .ok (.getfield 12, 3) := by decide +kernel
theorem dX3_reachWithRoom_12 : decode cX3_reachWithRoom 12 = .ok (.invokevirtual 128, 3) := by decide +kernel
theorem dX3_reachWithRoom_15 : decode cX3_reachWithRoom 15 = .ok (.aload_n 0, 1) := by decide +kernel
theorem dX3_reachWithRoom_16 : decode cX3_reachWithRoom 16 = .ok (.getfield 29, 3) := by decide +kernel
theorem dX3_reachWithRoom_19 : decode cX3_reachWithRoom 19 = .ok (.iload_n 1, 1) := by decide +kernel
theorem dX3_reachWithRoom_20 : decode cX3_reachWithRoom 20 = .ok (.invokevirtual 138, 3) := by decide +kernel
theorem dX3_reachWithRoom_23 : decode cX3_reachWithRoom 23 = .ok (.ireturn, 1) := by decide +kernel
theorem dX3_meanValue_0 : decode cX3_meanValue 0 = .ok (.aload_n 0, 1) := by decide +kernel
theorem dX3_meanValue_1 : decode cX3_meanValue 1 = .ok (.getfield 12, 3) := by decide +kernel
theorem dX3_meanValue_4 : decode cX3_meanValue 4 = .ok (.getfield 49, 3) := by decide +kernel
theorem dX3_meanValue_7 : decode cX3_meanValue 7 = .ok (.ifCond .ne 5, 3) := by decide +kernel
theorem dX3_meanValue_10 : decode cX3_meanValue 10 = .ok (.dconst 0, 1) := by decide +kernel
theorem dX3_meanValue_11 : decode cX3_meanValue 11 = .ok (.dreturn, 1) := by decide +kernel
theorem dX3_meanValue_12 : decode cX3_meanValue 12 = .ok (.iconst 0, 1) := by decide +kernel
theorem dX3_meanValue_13 : decode cX3_meanValue 13 = .ok (.istore_n 1, 1) := by decide +kernel
theorem dX3_meanValue_14 : decode cX3_meanValue 14 = .ok (.iconst 0, 1) := by decide +kernel
theorem dX3_meanValue_15 : decode cX3_meanValue 15 = .ok (.istore_n 2, 1) := by decide +kernel
theorem dX3_meanValue_16 : decode cX3_meanValue 16 = .ok (.iload_n 2, 1) := by decide +kernel
theorem dX3_meanValue_17 : decode cX3_meanValue 17 = .ok (.aload_n 0, 1) := by decide +kernel
theorem dX3_meanValue_18 : decode cX3_meanValue 18 = .ok (.getfield 12, 3) := by decide +kernel
theorem dX3_meanValue_21 : decode cX3_meanValue 21 = .ok (.getfield 49, 3) := by decide +kernel
theorem dX3_meanValue_24 : decode cX3_meanValue 24 = .ok (.if_icmp .ge 21, 3) := by decide +kernel
theorem dX3_meanValue_27 : decode cX3_meanValue 27 = .ok (.iload_n 1, 1) := by decide +kernel
theorem dX3_meanValue_28 : decode cX3_meanValue 28 = .ok (.aload_n 0, 1) := by decide +kernel
theorem dX3_meanValue_29 : decode cX3_meanValue 29 = .ok (.getfield 12, 3) := by decide +kernel
theorem dX3_meanValue_32 : decode cX3_meanValue 32 = .ok (.getfield 103, 3) := by decide +kernel
theorem dX3_meanValue_35 : decode cX3_meanValue 35 = .ok (.iload_n 2, 1) := by decide +kernel
theorem dX3_meanValue_36 : decode cX3_meanValue 36 = .ok (.iaload, 1) := by decide +kernel
theorem dX3_meanValue_37 : decode cX3_meanValue 37 = .ok (.iadd, 1) := by decide +kernel
theorem dX3_meanValue_38 : decode cX3_meanValue 38 = .ok (.istore_n 1, 1) := by decide +kernel
theorem dX3_meanValue_39 : decode cX3_meanValue 39 = .ok (.iinc 2 1, 3) := by decide +kernel
theorem dX3_meanValue_42 : decode cX3_meanValue 42 = .ok (.goto (-26), 3) := by decide +kernel
theorem dX3_meanValue_45 : decode cX3_meanValue 45 = .ok (.iload_n 1, 1) := by decide +kernel
theorem dX3_meanValue_46 : decode cX3_meanValue 46 = .ok (.i2d, 1) := by decide +kernel
theorem dX3_meanValue_47 : decode cX3_meanValue 47 = .ok (.aload_n 0, 1) := by decide +kernel
theorem dX3_meanValue_48 : decode cX3_meanValue 48 = .ok (.getfield 12, 3) := by decide +kernel
theorem dX3_meanValue_51 : decode cX3_meanValue 51 = .ok (.getfield 49, 3) := by decide +kernel
theorem dX3_meanValue_54 : decode cX3_meanValue 54 = .ok (.i2d, 1) := by decide +kernel
theorem dX3_meanValue_55 : decode cX3_meanValue 55 = .ok (.ddiv, 1) := by decide +kernel
theorem dX3_meanValue_56 : decode cX3_meanValue 56 = .ok (.dreturn, 1) := by decide +kernel
theorem dX3_digest_0 : decode cX3_digest 0 = .ok (.ldc2_w 157, 3) := by decide +kernel
theorem dX3_digest_3 : decode cX3_digest 3 = .ok (.lstore_n 1, 1) := by decide +kernel
theorem dX3_digest_4 : decode cX3_digest 4 = .ok (.lload_n 1, 1) := by decide +kernel
theorem dX3_digest_5 : decode cX3_digest 5 = .ok (.ldc2_w 159, 3) := by decide +kernel
theorem dX3_digest_8 : decode cX3_digest 8 = .ok (.lmul, 1) := by decide +kernel
theorem dX3_digest_9 : decode cX3_digest 9 = .ok (.aload_n 0, 1) := by decide +kernel
theorem dX3_digest_10 : decode cX3_digest 10 = .ok (.invokevirtual 161, 3) := by decide +kernel
theorem dX3_digest_13 : decode cX3_digest 13 = .ok (.i2l, 1) := by decide +kernel
theorem dX3_digest_14 : decode cX3_digest 14 = .ok (.ladd, 1) := by decide +kernel
theorem dX3_digest_15 : decode cX3_digest 15 = .ok (.lstore_n 1, 1) := by decide +kernel
theorem dX3_digest_16 : decode cX3_digest 16 = .ok (.lload_n 1, 1) := by decide +kernel
theorem dX3_digest_17 : decode cX3_digest 17 = .ok (.ldc2_w 159, 3) := by decide +kernel
theorem dX3_digest_20 : decode cX3_digest 20 = .ok (.lmul, 1) := by decide +kernel
theorem dX3_digest_21 : decode cX3_digest 21 = .ok (.aload_n 0, 1) := by decide +kernel
theorem dX3_digest_22 : decode cX3_digest 22 = .ok (.invokevirtual 163, 3) := by decide +kernel
theorem dX3_digest_25 : decode cX3_digest 25 = .ok (.i2l, 1) := by decide +kernel
theorem dX3_digest_26 : decode cX3_digest 26 = .ok (.ladd, 1) := by decide +kernel
theorem dX3_digest_27 : decode cX3_digest 27 = .ok (.lstore_n 1, 1) := by decide +kernel
theorem dX3_digest_28 : decode cX3_digest 28 = .ok (.lload_n 1, 1) := by decide +kernel
theorem dX3_digest_29 : decode cX3_digest 29 = .ok (.ldc2_w 159, 3) := by decide +kernel
theorem dX3_digest_32 : decode cX3_digest 32 = .ok (.lmul, 1) := by decide +kernel
theorem dX3_digest_33 : decode cX3_digest 33 = .ok (.aload_n 0, 1) := by decide +kernel
theorem dX3_digest_34 : decode cX3_digest 34 = .ok (.invokevirtual 165, 3) := by decide +kernel
theorem dX3_digest_37 : decode cX3_digest 37 = .ok (.i2l, 1) := by decide +kernel
theorem dX3_digest_38 : decode cX3_digest 38 = .ok (.ladd, 1) := by decide +kernel
theorem dX3_digest_39 : decode cX3_digest 39 = .ok (.lstore_n 1, 1) := by decide +kernel
theorem dX3_digest_40 : decode cX3_digest 40 = .ok (.lload_n 1, 1) := by decide +kernel
theorem dX3_digest_41 : decode cX3_digest 41 = .ok (.ldc2_w 159, 3) := by decide +kernel
theorem dX3_digest_44 : decode cX3_digest 44 = .ok (.lmul, 1) := by decide +kernel
theorem dX3_digest_45 : decode cX3_digest 45 = .ok (.aload_n 0, 1) := by decide +kernel
theorem dX3_digest_46 : decode cX3_digest 46 = .ok (.invokevirtual 167, 3) := by decide +kernel
theorem dX3_digest_49 : decode cX3_digest 49 = .ok (.i2l, 1) := by decide +kernel
theorem dX3_digest_50 : decode cX3_digest 50 = .ok (.ladd, 1) := by decide +kernel
theorem dX3_digest_51 : decode cX3_digest 51 = .ok (.lstore_n 1, 1) := by decide +kernel
theorem dX3_digest_52 : decode cX3_digest 52 = .ok (.lload_n 1, 1) := by decide +kernel
theorem dX3_digest_53 : decode cX3_digest 53 = .ok (.ldc2_w 159, 3) := by decide +kernel
theorem dX3_digest_56 : decode cX3_digest 56 = .ok (.lmul, 1) := by decide +kernel
theorem dX3_digest_57 : decode cX3_digest 57 = .ok (.aload_n 0, 1) := by decide +kernel
theorem dX3_digest_58 : decode cX3_digest 58 = .ok (.invokevirtual 169, 3) := by decide +kernel
theorem dX3_digest_61 : decode cX3_digest 61 = .ok (.i2l, 1) := by decide +kernel
theorem dX3_digest_62 : decode cX3_digest 62 = .ok (.ladd, 1) := by decide +kernel
theorem dX3_digest_63 : decode cX3_digest 63 = .ok (.lstore_n 1, 1) := by decide +kernel
theorem dX3_digest_64 : decode cX3_digest 64 = .ok (.lload_n 1, 1) := by decide +kernel
theorem dX3_digest_65 : decode cX3_digest 65 = .ok (.ldc2_w 159, 3) := by decide +kernel
theorem dX3_digest_68 : decode cX3_digest 68 = .ok (.lmul, 1) := by decide +kernel
theorem dX3_digest_69 : decode cX3_digest 69 = .ok (.aload_n 0, 1) := by decide +kernel
theorem dX3_digest_70 : decode cX3_digest 70 = .ok (.invokevirtual 171, 3) := by decide +kernel
theorem dX3_digest_73 : decode cX3_digest 73 = .ok (.i2l, 1) := by decide +kernel
theorem dX3_digest_74 : decode cX3_digest 74 = .ok (.ladd, 1) := by decide +kernel
theorem dX3_digest_75 : decode cX3_digest 75 = .ok (.lstore_n 1, 1) := by decide +kernel
theorem dX3_digest_76 : decode cX3_digest 76 = .ok (.lload_n 1, 1) := by decide +kernel
theorem dX3_digest_77 : decode cX3_digest 77 = .ok (.ldc2_w 159, 3) := by decide +kernel
theorem dX3_digest_80 : decode cX3_digest 80 = .ok (.lmul, 1) := by decide +kernel
theorem dX3_digest_81 : decode cX3_digest 81 = .ok (.aload_n 0, 1) := by decide +kernel
theorem dX3_digest_82 : decode cX3_digest 82 = .ok (.invokevirtual 174, 3) := by decide +kernel
theorem dX3_digest_85 : decode cX3_digest 85 = .ok (.i2l, 1) := by decide +kernel
theorem dX3_digest_86 : decode cX3_digest 86 = .ok (.ladd, 1) := by decide +kernel
theorem dX3_digest_87 : decode cX3_digest 87 = .ok (.lstore_n 1, 1) := by decide +kernel
theorem dX3_digest_88 : decode cX3_digest 88 = .ok (.lload_n 1, 1) := by decide +kernel
theorem dX3_digest_89 : decode cX3_digest 89 = .ok (.ldc2_w 159, 3) := by decide +kernel
theorem dX3_digest_92 : decode cX3_digest 92 = .ok (.lmul, 1) := by decide +kernel
theorem dX3_digest_93 : decode cX3_digest 93 = .ok (.aload_n 0, 1) := by decide +kernel
theorem dX3_digest_94 : decode cX3_digest 94 = .ok (.invokevirtual 177, 3) := by decide +kernel
theorem dX3_digest_97 : decode cX3_digest 97 = .ok (.i2l, 1) := by decide +kernel
theorem dX3_digest_98 : decode cX3_digest 98 = .ok (.ladd, 1) := by decide +kernel
theorem dX3_digest_99 : decode cX3_digest 99 = .ok (.lstore_n 1, 1) := by decide +kernel
theorem dX3_digest_100 : decode cX3_digest 100 = .ok (.lload_n 1, 1) := by decide +kernel
theorem dX3_digest_101 : decode cX3_digest 101 = .ok (.ldc2_w 159, 3) := by decide +kernel
theorem dX3_digest_104 : decode cX3_digest 104 = .ok (.lmul, 1) := by decide +kernel
theorem dX3_digest_105 : decode cX3_digest 105 = .ok (.aload_n 0, 1) := by decide +kernel
theorem dX3_digest_106 : decode cX3_digest 106 = .ok (.invokevirtual 180, 3) := by decide +kernel
theorem dX3_digest_109 : decode cX3_digest 109 = .ok (.i2l, 1) := by decide +kernel
theorem dX3_digest_110 : decode cX3_digest 110 = .ok (.ladd, 1) := by decide +kernel
theorem dX3_digest_111 : decode cX3_digest 111 = .ok (.lstore_n 1, 1) := by decide +kernel
theorem dX3_digest_112 : decode cX3_digest 112 = .ok (.lload_n 1, 1) := by decide +kernel
theorem dX3_digest_113 : decode cX3_digest 113 = .ok (.ldc2_w 159, 3) := by decide +kernel
theorem dX3_digest_116 : decode cX3_digest 116 = .ok (.lmul, 1) := by decide +kernel
theorem dX3_digest_117 : decode cX3_digest 117 = .ok (.aload_n 0, 1) := by decide +kernel
theorem dX3_digest_118 : decode cX3_digest 118 = .ok (.invokevirtual 183, 3) := by decide +kernel
theorem dX3_digest_121 : decode cX3_digest 121 = .ok (.i2l, 1) := by decide +kernel
theorem dX3_digest_122 : decode cX3_digest 122 = .ok (.ladd, 1) := by decide +kernel
theorem dX3_digest_123 : decode cX3_digest 123 = .ok (.lstore_n 1, 1) := by decide +kernel
theorem dX3_digest_124 : decode cX3_digest 124 = .ok (.lload_n 1, 1) := by decide +kernel
theorem dX3_digest_125 : decode cX3_digest 125 = .ok (.ldc2_w 159, 3) := by decide +kernel
theorem dX3_digest_128 : decode cX3_digest 128 = .ok (.lmul, 1) := by decide +kernel
theorem dX3_digest_129 : decode cX3_digest 129 = .ok (.aload_n 0, 1) := by decide +kernel
theorem dX3_digest_130 : decode cX3_digest 130 = .ok (.invokevirtual 186, 3) := by decide +kernel
theorem dX3_digest_133 : decode cX3_digest 133 = .ok (.i2l, 1) := by decide +kernel
theorem dX3_digest_134 : decode cX3_digest 134 = .ok (.ladd, 1) := by decide +kernel
theorem dX3_digest_135 : decode cX3_digest 135 = .ok (.lstore_n 1, 1) := by decide +kernel
theorem dX3_digest_136 : decode cX3_digest 136 = .ok (.aload_n 0, 1) := by decide +kernel
theorem dX3_digest_137 : decode cX3_digest 137 = .ok (.aload_n 0, 1) := by decide +kernel
theorem dX3_digest_138 : decode cX3_digest 138 = .ok (.lload_n 1, 1) := by decide +kernel
theorem dX3_digest_139 : decode cX3_digest 139 = .ok (.invokevirtual 189, 3) := by decide +kernel
theorem dX3_digest_142 : decode cX3_digest 142 = .ok (.invokevirtual 193, 3) := by decide +kernel
theorem dX3_digest_145 : decode cX3_digest 145 = .ok (.lreturn, 1) := by decide +kernel
theorem dX3_digestStamps_0 : decode cX3_digestStamps 0 = .ok (.lload_n 1, 1) := by decide +kernel
theorem dX3_digestStamps_1 : decode cX3_digestStamps 1 = .ok (.lstore_n 3, 1) := by decide +kernel
theorem dX3_digestStamps_2 : decode cX3_digestStamps 2 = .ok (.iconst 0, 1) := by decide +kernel
theorem dX3_digestStamps_3 : decode cX3_digestStamps 3 = .ok (.istore 5, 2) := by decide +kernel
theorem dX3_digestStamps_5 : decode cX3_digestStamps 5 = .ok (.iload 5, 2) := by decide +kernel
theorem dX3_digestStamps_7 : decode cX3_digestStamps 7 = .ok (.aload_n 0, 1) := by decide +kernel
theorem dX3_digestStamps_8 : decode cX3_digestStamps 8 = .ok (.getfield 12, 3) := by decide +kernel
theorem dX3_digestStamps_11 : decode cX3_digestStamps 11 = .ok (.getfield 49, 3) := by decide +kernel
theorem dX3_digestStamps_14 : decode cX3_digestStamps 14 = .ok (.if_icmp .ge 63, 3) := by decide +kernel
theorem dX3_digestStamps_17 : decode cX3_digestStamps 17 = .ok (.lload_n 3, 1) := by decide +kernel
theorem dX3_digestStamps_18 : decode cX3_digestStamps 18 = .ok (.ldc2_w 159, 3) := by decide +kernel
theorem dX3_digestStamps_21 : decode cX3_digestStamps 21 = .ok (.lmul, 1) := by decide +kernel
theorem dX3_digestStamps_22 : decode cX3_digestStamps 22 = .ok (.aload_n 0, 1) := by decide +kernel
theorem dX3_digestStamps_23 : decode cX3_digestStamps 23 = .ok (.getfield 12, 3) := by decide +kernel
theorem dX3_digestStamps_26 : decode cX3_digestStamps 26 = .ok (.getfield 103, 3) := by decide +kernel
theorem dX3_digestStamps_29 : decode cX3_digestStamps 29 = .ok (.iload 5, 2) := by decide +kernel
theorem dX3_digestStamps_31 : decode cX3_digestStamps 31 = .ok (.iaload, 1) := by decide +kernel
theorem dX3_digestStamps_32 : decode cX3_digestStamps 32 = .ok (.i2l, 1) := by decide +kernel
theorem dX3_digestStamps_33 : decode cX3_digestStamps 33 = .ok (.ladd, 1) := by decide +kernel
theorem dX3_digestStamps_34 : decode cX3_digestStamps 34 = .ok (.lstore_n 3, 1) := by decide +kernel
theorem dX3_digestStamps_35 : decode cX3_digestStamps 35 = .ok (.lload_n 3, 1) := by decide +kernel
theorem dX3_digestStamps_36 : decode cX3_digestStamps 36 = .ok (.ldc2_w 159, 3) := by decide +kernel
theorem dX3_digestStamps_39 : decode cX3_digestStamps 39 = .ok (.lmul, 1) := by decide +kernel
theorem dX3_digestStamps_40 : decode cX3_digestStamps 40 = .ok (.aload_n 0, 1) := by decide +kernel
theorem dX3_digestStamps_41 : decode cX3_digestStamps 41 = .ok (.getfield 12, 3) := by decide +kernel
theorem dX3_digestStamps_44 : decode cX3_digestStamps 44 = .ok (.getfield 67, 3) := by decide +kernel
theorem dX3_digestStamps_47 : decode cX3_digestStamps 47 = .ok (.iload 5, 2) := by decide +kernel
theorem dX3_digestStamps_49 : decode cX3_digestStamps 49 = .ok (.iaload, 1) := by decide +kernel
theorem dX3_digestStamps_50 : decode cX3_digestStamps 50 = .ok (.i2l, 1) := by decide +kernel
theorem dX3_digestStamps_51 : decode cX3_digestStamps 51 = .ok (.ladd, 1) := by decide +kernel
theorem dX3_digestStamps_52 : decode cX3_digestStamps 52 = .ok (.lstore_n 3, 1) := by decide +kernel
theorem dX3_digestStamps_53 : decode cX3_digestStamps 53 = .ok (.lload_n 3, 1) := by decide +kernel
theorem dX3_digestStamps_54 : decode cX3_digestStamps 54 = .ok (.ldc2_w 159, 3) := by decide +kernel
theorem dX3_digestStamps_57 : decode cX3_digestStamps 57 = .ok (.lmul, 1) := by decide +kernel
theorem dX3_digestStamps_58 : decode cX3_digestStamps 58 = .ok (.aload_n 0, 1) := by decide +kernel
theorem dX3_digestStamps_59 : decode cX3_digestStamps 59 = .ok (.getfield 12, 3) := by decide +kernel
theorem dX3_digestStamps_62 : decode cX3_digestStamps 62 = .ok (.getfield 106, 3) := by decide +kernel
theorem dX3_digestStamps_65 : decode cX3_digestStamps 65 = .ok (.iload 5, 2) := by decide +kernel
theorem dX3_digestStamps_67 : decode cX3_digestStamps 67 = .ok (.iaload, 1) := by decide +kernel
theorem dX3_digestStamps_68 : decode cX3_digestStamps 68 = .ok (.i2l, 1) := by decide +kernel
theorem dX3_digestStamps_69 : decode cX3_digestStamps 69 = .ok (.ladd, 1) := by decide +kernel
theorem dX3_digestStamps_70 : decode cX3_digestStamps 70 = .ok (.lstore_n 3, 1) := by decide +kernel
theorem dX3_digestStamps_71 : decode cX3_digestStamps 71 = .ok (.iinc 5 1, 3) := by decide +kernel
theorem dX3_digestStamps_74 : decode cX3_digestStamps 74 = .ok (.goto (-69), 3) := by decide +kernel
theorem dX3_digestStamps_77 : decode cX3_digestStamps 77 = .ok (.lload_n 3, 1) := by decide +kernel
theorem dX3_digestStamps_78 : decode cX3_digestStamps 78 = .ok (.lreturn, 1) := by decide +kernel
theorem dX3_digestPostages_0 : decode cX3_digestPostages 0 = .ok (.lload_n 1, 1) := by decide +kernel
theorem dX3_digestPostages_1 : decode cX3_digestPostages 1 = .ok (.lstore_n 3, 1) := by decide +kernel
theorem dX3_digestPostages_2 : decode cX3_digestPostages 2 = .ok (.aload_n 0, 1) := by decide +kernel
theorem dX3_digestPostages_3 : decode cX3_digestPostages 3 = .ok (.getfield 22, 3) := by decide +kernel
theorem dX3_digestPostages_6 : decode cX3_digestPostages 6 = .ok (.aload_n 0, 1) := by decide +kernel
theorem dX3_digestPostages_7 : decode cX3_digestPostages 7 = .ok (.getfield 12, 3) := by decide +kernel
theorem dX3_digestPostages_10 : decode cX3_digestPostages 10 = .ok (.aload_n 0, 1) := by decide +kernel
theorem dX3_digestPostages_11 : decode cX3_digestPostages 11 = .ok (.getfield 33, 3) := by decide +kernel
theorem dX3_digestPostages_14 : decode cX3_digestPostages 14 = .ok (.invokevirtual 85, 3) := by decide +kernel
theorem dX3_digestPostages_17 : decode cX3_digestPostages 17 = .ok (.aload_n 0, 1) := by decide +kernel
theorem dX3_digestPostages_18 : decode cX3_digestPostages 18 = .ok (.getfield 29, 3) := by decide +kernel
theorem dX3_digestPostages_21 : decode cX3_digestPostages 21 = .ok (.aload_n 0, 1) := by decide +kernel
theorem dX3_digestPostages_22 : decode cX3_digestPostages 22 = .ok (.getfield 12, 3) := by decide +kernel
theorem dX3_digestPostages_25 : decode cX3_digestPostages 25 = .ok (.invokevirtual 128, 3) := by decide +kernel
theorem dX3_digestPostages_28 : decode cX3_digestPostages 28 = .ok (.bipush 25, 2) := by decide +kernel
theorem dX3_digestPostages_30 : decode cX3_digestPostages 30 = .ok (.istore 5, 2) := by decide +kernel
theorem dX3_digestPostages_32 : decode cX3_digestPostages 32 = .ok (.iload 5, 2) := by decide +kernel
theorem dX3_digestPostages_34 : decode cX3_digestPostages 34 = .ok (.sipush 300, 3) := by decide +kernel
theorem dX3_digestPostages_37 : decode cX3_digestPostages 37 = .ok (.if_icmp .gt 64, 3) := by decide +kernel
theorem dX3_digestPostages_40 : decode cX3_digestPostages 40 = .ok (.lload_n 3, 1) := by decide +kernel
theorem dX3_digestPostages_41 : decode cX3_digestPostages 41 = .ok (.ldc2_w 159, 3) := by decide +kernel
theorem dX3_digestPostages_44 : decode cX3_digestPostages 44 = .ok (.lmul, 1) := by decide +kernel
theorem dX3_digestPostages_45 : decode cX3_digestPostages 45 = .ok (.aload_n 0, 1) := by decide +kernel
theorem dX3_digestPostages_46 : decode cX3_digestPostages 46 = .ok (.getfield 22, 3) := by decide +kernel
theorem dX3_digestPostages_49 : decode cX3_digestPostages 49 = .ok (.iload 5, 2) := by decide +kernel
theorem dX3_digestPostages_51 : decode cX3_digestPostages 51 = .ok (.invokevirtual 112, 3) := by decide +kernel
theorem dX3_digestPostages_54 : decode cX3_digestPostages 54 = .ok (.i2l, 1) := by decide +kernel
theorem dX3_digestPostages_55 : decode cX3_digestPostages 55 = .ok (.ladd, 1) := by decide +kernel
theorem dX3_digestPostages_56 : decode cX3_digestPostages 56 = .ok (.lstore_n 3, 1) := by decide +kernel
theorem dX3_digestPostages_57 : decode cX3_digestPostages 57 = .ok (.lload_n 3, 1) := by decide +kernel
theorem dX3_digestPostages_58 : decode cX3_digestPostages 58 = .ok (.ldc2_w 159, 3) := by decide +kernel
theorem dX3_digestPostages_61 : decode cX3_digestPostages 61 = .ok (.lmul, 1) := by decide +kernel
theorem dX3_digestPostages_62 : decode cX3_digestPostages 62 = .ok (.aload_n 0, 1) := by decide +kernel
theorem dX3_digestPostages_63 : decode cX3_digestPostages 63 = .ok (.getfield 22, 3) := by decide +kernel
theorem dX3_digestPostages_66 : decode cX3_digestPostages 66 = .ok (.iload 5, 2) := by decide +kernel
theorem dX3_digestPostages_68 : decode cX3_digestPostages 68 = .ok (.invokevirtual 115, 3) := by decide +kernel
theorem dX3_digestPostages_71 : decode cX3_digestPostages 71 = .ok (.i2l, 1) := by decide +kernel
theorem dX3_digestPostages_72 : decode cX3_digestPostages 72 = .ok (.ladd, 1) := by decide +kernel
theorem dX3_digestPostages_73 : decode cX3_digestPostages 73 = .ok (.lstore_n 3, 1) := by decide +kernel
theorem dX3_digestPostages_74 : decode cX3_digestPostages 74 = .ok (.lload_n 3, 1) := by decide +kernel
theorem dX3_digestPostages_75 : decode cX3_digestPostages 75 = .ok (.ldc2_w 159, 3) := by decide +kernel
theorem dX3_digestPostages_78 : decode cX3_digestPostages 78 = .ok (.lmul, 1) := by decide +kernel
theorem dX3_digestPostages_79 : decode cX3_digestPostages 79 = .ok (.aload_n 0, 1) := by decide +kernel
theorem dX3_digestPostages_80 : decode cX3_digestPostages 80 = .ok (.getfield 29, 3) := by decide +kernel
theorem dX3_digestPostages_83 : decode cX3_digestPostages 83 = .ok (.iload 5, 2) := by decide +kernel
theorem dX3_digestPostages_85 : decode cX3_digestPostages 85 = .ok (.aload_n 0, 1) := by decide +kernel
theorem dX3_digestPostages_86 : decode cX3_digestPostages 86 = .ok (.getfield 33, 3) := by decide +kernel
theorem dX3_digestPostages_89 : decode cX3_digestPostages 89 = .ok (.invokevirtual 131, 3) := by decide +kernel
theorem dX3_digestPostages_92 : decode cX3_digestPostages 92 = .ok (.i2l, 1) := by decide +kernel
theorem dX3_digestPostages_93 : decode cX3_digestPostages 93 = .ok (.ladd, 1) := by decide +kernel
theorem dX3_digestPostages_94 : decode cX3_digestPostages 94 = .ok (.lstore_n 3, 1) := by decide +kernel
theorem dX3_digestPostages_95 : decode cX3_digestPostages 95 = .ok (.iinc 5 25, 3) := by decide +kernel
theorem dX3_digestPostages_98 : decode cX3_digestPostages 98 = .ok (.goto (-66), 3) := by decide +kernel
theorem dX3_digestPostages_101 : decode cX3_digestPostages 101 = .ok (.lload_n 3, 1) := by decide +kernel
theorem dX3_digestPostages_102 : decode cX3_digestPostages 102 = .ok (.lreturn, 1) := by decide +kernel
theorem dX3_checkStamp_0 : decode cX3_checkStamp 0 = .ok (.iload_n 1, 1) := by decide +kernel
theorem dX3_checkStamp_1 : decode cX3_checkStamp 1 = .ok (.ifCond .lt 14, 3) := by decide +kernel
theorem dX3_checkStamp_4 : decode cX3_checkStamp 4 = .ok (.iload_n 1, 1) := by decide +kernel
theorem dX3_checkStamp_5 : decode cX3_checkStamp 5 = .ok (.aload_n 0, 1) := by decide +kernel
theorem dX3_checkStamp_6 : decode cX3_checkStamp 6 = .ok (.getfield 12, 3) := by decide +kernel
theorem dX3_checkStamp_9 : decode cX3_checkStamp 9 = .ok (.getfield 49, 3) := by decide +kernel
theorem dX3_checkStamp_12 : decode cX3_checkStamp 12 = .ok (.if_icmp .lt 11, 3) := by decide +kernel
theorem dX3_checkStamp_15 : decode cX3_checkStamp 15 = .ok (.new 196, 3) := by decide +kernel
theorem dX3_checkStamp_18 : decode cX3_checkStamp 18 = .ok (.dup, 1) := by decide +kernel
theorem dX3_checkStamp_19 : decode cX3_checkStamp 19 = .ok (.invokespecial 198, 3) := by decide +kernel
theorem dX3_checkStamp_22 : decode cX3_checkStamp 22 = .ok (.athrow, 1) := by decide +kernel
theorem dX3_checkStamp_23 : decode cX3_checkStamp 23 = .ok (.return_, 1) := by decide +kernel
theorem dX3_checkPostage_0 : decode cX3_checkPostage 0 = .ok (.iload_n 0, 1) := by decide +kernel
theorem dX3_checkPostage_1 : decode cX3_checkPostage 1 = .ok (.iconst 1, 1) := by decide +kernel
theorem dX3_checkPostage_2 : decode cX3_checkPostage 2 = .ok (.if_icmp .lt 10, 3) := by decide +kernel
theorem dX3_checkPostage_5 : decode cX3_checkPostage 5 = .ok (.iload_n 0, 1) := by decide +kernel
theorem dX3_checkPostage_6 : decode cX3_checkPostage 6 = .ok (.sipush 300, 3) := by decide +kernel
theorem dX3_checkPostage_9 : decode cX3_checkPostage 9 = .ok (.if_icmp .le 11, 3) := by decide +kernel
theorem dX3_checkPostage_12 : decode cX3_checkPostage 12 = .ok (.new 46, 3) := by decide +kernel
theorem dX3_checkPostage_15 : decode cX3_checkPostage 15 = .ok (.dup, 1) := by decide +kernel
theorem dX3_checkPostage_16 : decode cX3_checkPostage 16 = .ok (.invokespecial 48, 3) := by decide +kernel
theorem dX3_checkPostage_19 : decode cX3_checkPostage 19 = .ok (.athrow, 1) := by decide +kernel
theorem dX3_checkPostage_20 : decode cX3_checkPostage 20 = .ok (.return_, 1) := by decide +kernel
theorem dX3_checkRoom_0 : decode cX3_checkRoom 0 = .ok (.iload_n 0, 1) := by decide +kernel
theorem dX3_checkRoom_1 : decode cX3_checkRoom 1 = .ok (.iconst 1, 1) := by decide +kernel
theorem dX3_checkRoom_2 : decode cX3_checkRoom 2 = .ok (.if_icmp .lt 9, 3) := by decide +kernel
theorem dX3_checkRoom_5 : decode cX3_checkRoom 5 = .ok (.iload_n 0, 1) := by decide +kernel
theorem dX3_checkRoom_6 : decode cX3_checkRoom 6 = .ok (.bipush 12, 2) := by decide +kernel
theorem dX3_checkRoom_8 : decode cX3_checkRoom 8 = .ok (.if_icmp .le 11, 3) := by decide +kernel
theorem dX3_checkRoom_11 : decode cX3_checkRoom 11 = .ok (.new 46, 3) := by decide +kernel
theorem dX3_checkRoom_14 : decode cX3_checkRoom 14 = .ok (.dup, 1) := by decide +kernel
theorem dX3_checkRoom_15 : decode cX3_checkRoom 15 = .ok (.invokespecial 48, 3) := by decide +kernel
theorem dX3_checkRoom_18 : decode cX3_checkRoom 18 = .ok (.athrow, 1) := by decide +kernel
end
section
theorem dX3_checkRoom_19 : decode cX3_checkRoom 19 = .ok (.return_, 1) := by decide +kernel
theorem dX4_init_0 : decode cX4_init 0 = .ok (.aload_n 0, 1) := by decide +kernel
theorem dX4_init_1 : decode cX4_init 1 = .ok (.invokespecial 3, 3) := by decide +kernel
theorem dX4_init_4 : decode cX4_init 4 = .ok (.aload_n 0, 1) := by decide +kernel
theorem dX4_init_5 : decode cX4_init 5 = .ok (.bipush 6, 2) := by decide +kernel
theorem dX4_init_7 : decode cX4_init 7 = .ok (.putfield 9, 3) := by decide +kernel
theorem dX4_init_10 : decode cX4_init 10 = .ok (.aload_n 0, 1) := by decide +kernel
theorem dX4_init_11 : decode cX4_init 11 = .ok (.bipush 8, 2) := by decide +kernel
theorem dX4_init_13 : decode cX4_init 13 = .ok (.newarray .int, 2) := by decide +kernel
theorem dX4_init_15 : decode cX4_init 15 = .ok (.putfield 13, 3) := by decide +kernel
theorem dX4_init_18 : decode cX4_init 18 = .ok (.aload_n 0, 1) := by decide +kernel
theorem dX4_init_19 : decode cX4_init 19 = .ok (.bipush 8, 2) := by decide +kernel
theorem dX4_init_21 : decode cX4_init 21 = .ok (.newarray .int, 2) := by decide +kernel
theorem dX4_init_23 : decode cX4_init 23 = .ok (.putfield 17, 3) := by decide +kernel
theorem dX4_init_26 : decode cX4_init 26 = .ok (.aload_n 0, 1) := by decide +kernel
theorem dX4_init_27 : decode cX4_init 27 = .ok (.bipush 8, 2) := by decide +kernel
theorem dX4_init_29 : decode cX4_init 29 = .ok (.newarray .int, 2) := by decide +kernel
theorem dX4_init_31 : decode cX4_init 31 = .ok (.putfield 20, 3) := by decide +kernel
theorem dX4_init_34 : decode cX4_init 34 = .ok (.aload_n 0, 1) := by decide +kernel
theorem dX4_init_35 : decode cX4_init 35 = .ok (.bipush 8, 2) := by decide +kernel
theorem dX4_init_37 : decode cX4_init 37 = .ok (.newarray .int, 2) := by decide +kernel
theorem dX4_init_39 : decode cX4_init 39 = .ok (.putfield 23, 3) := by decide +kernel
theorem dX4_init_42 : decode cX4_init 42 = .ok (.aload_n 0, 1) := by decide +kernel
theorem dX4_init_43 : decode cX4_init 43 = .ok (.bipush 9, 2) := by decide +kernel
theorem dX4_init_45 : decode cX4_init 45 = .ok (.sipush 721, 3) := by decide +kernel
theorem dX4_init_48 : decode cX4_init 48 = .ok (.multianewarray 26 2, 4) := by decide +kernel
theorem dX4_init_52 : decode cX4_init 52 = .ok (.putfield 28, 3) := by decide +kernel
theorem dX4_init_55 : decode cX4_init 55 = .ok (.aload_n 0, 1) := by decide +kernel
theorem dX4_init_56 : decode cX4_init 56 = .ok (.bipush 8, 2) := by decide +kernel
theorem dX4_init_58 : decode cX4_init 58 = .ok (.newarray .int, 2) := by decide +kernel
theorem dX4_init_60 : decode cX4_init 60 = .ok (.putfield 31, 3) := by decide +kernel
theorem dX4_init_63 : decode cX4_init 63 = .ok (.aload_n 0, 1) := by decide +kernel
theorem dX4_init_64 : decode cX4_init 64 = .ok (.sipush 301, 3) := by decide +kernel
theorem dX4_init_67 : decode cX4_init 67 = .ok (.newarray .int, 2) := by decide +kernel
theorem dX4_init_69 : decode cX4_init 69 = .ok (.putfield 34, 3) := by decide +kernel
theorem dX4_init_72 : decode cX4_init 72 = .ok (.aload_n 0, 1) := by decide +kernel
theorem dX4_init_73 : decode cX4_init 73 = .ok (.bipush 13, 2) := by decide +kernel
theorem dX4_init_75 : decode cX4_init 75 = .ok (.sipush 301, 3) := by decide +kernel
theorem dX4_init_78 : decode cX4_init 78 = .ok (.multianewarray 26 2, 4) := by decide +kernel
theorem dX4_init_82 : decode cX4_init 82 = .ok (.putfield 37, 3) := by decide +kernel
theorem dX4_init_85 : decode cX4_init 85 = .ok (.return_, 1) := by decide +kernel
theorem dX4_thrown_0 : decode cX4_thrown 0 = .ok (.aload_n 0, 1) := by decide +kernel
theorem dX4_thrown_1 : decode cX4_thrown 1 = .ok (.getfield 40, 3) := by decide +kernel
theorem dX4_thrown_4 : decode cX4_thrown 4 = .ok (.ireturn, 1) := by decide +kernel
theorem dX4_no_0 : decode cX4_no 0 = .ok (.aload_n 0, 1) := by decide +kernel
theorem dX4_no_1 : decode cX4_no 1 = .ok (.iload_n 1, 1) := by decide +kernel
theorem dX4_no_2 : decode cX4_no 2 = .ok (.putfield 40, 3) := by decide +kernel
theorem dX4_no_5 : decode cX4_no 5 = .ok (.iconst 0, 1) := by decide +kernel
theorem dX4_no_6 : decode cX4_no 6 = .ok (.ireturn, 1) := by decide +kernel
theorem dX4_isNot_0 : decode cX4_isNot 0 = .ok (.aload_n 0, 1) := by decide +kernel
theorem dX4_isNot_1 : decode cX4_isNot 1 = .ok (.iload_n 1, 1) := by decide +kernel
theorem dX4_isNot_2 : decode cX4_isNot 2 = .ok (.putfield 40, 3) := by decide +kernel
theorem dX4_isNot_5 : decode cX4_isNot 5 = .ok (.iconst 0, 1) := by decide +kernel
theorem dX4_isNot_6 : decode cX4_isNot 6 = .ok (.ireturn, 1) := by decide +kernel
theorem dX4_ok_0 : decode cX4_ok 0 = .ok (.aload_n 0, 1) := by decide +kernel
theorem dX4_ok_1 : decode cX4_ok 1 = .ok (.iconst 0, 1) := by decide +kernel
theorem dX4_ok_2 : decode cX4_ok 2 = .ok (.putfield 40, 3) := by decide +kernel
theorem dX4_ok_5 : decode cX4_ok 5 = .ok (.iload_n 1, 1) := by decide +kernel
theorem dX4_ok_6 : decode cX4_ok 6 = .ok (.ireturn, 1) := by decide +kernel
theorem dX4_isIn_0 : decode cX4_isIn 0 = .ok (.iload_n 0, 1) := by decide +kernel
theorem dX4_isIn_1 : decode cX4_isIn 1 = .ok (.iload_n 1, 1) := by decide +kernel
theorem dX4_isIn_2 : decode cX4_isIn 2 = .ok (.if_icmp .lt 12, 3) := by decide +kernel
theorem dX4_isIn_5 : decode cX4_isIn 5 = .ok (.iload_n 0, 1) := by decide +kernel
theorem dX4_isIn_6 : decode cX4_isIn 6 = .ok (.iload_n 2, 1) := by decide +kernel
theorem dX4_isIn_7 : decode cX4_isIn 7 = .ok (.if_icmp .gt 7, 3) := by decide +kernel
theorem dX4_isIn_10 : decode cX4_isIn 10 = .ok (.iconst 1, 1) := by decide +kernel
theorem dX4_isIn_11 : decode cX4_isIn 11 = .ok (.goto 4, 3) := by decide +kernel
theorem dX4_isIn_14 : decode cX4_isIn 14 = .ok (.iconst 0, 1) := by decide +kernel
theorem dX4_isIn_15 : decode cX4_isIn 15 = .ok (.ireturn, 1) := by decide +kernel
theorem dX4_isStamp_0 : decode cX4_isStamp 0 = .ok (.iload_n 1, 1) := by decide +kernel
theorem dX4_isStamp_1 : decode cX4_isStamp 1 = .ok (.iconst 0, 1) := by decide +kernel
theorem dX4_isStamp_2 : decode cX4_isStamp 2 = .ok (.aload_n 0, 1) := by decide +kernel
theorem dX4_isStamp_3 : decode cX4_isStamp 3 = .ok (.getfield 43, 3) := by decide +kernel
theorem dX4_isStamp_6 : decode cX4_isStamp 6 = .ok (.iconst 1, 1) := by decide +kernel
theorem dX4_isStamp_7 : decode cX4_isStamp 7 = .ok (.isub, 1) := by decide +kernel
theorem dX4_isStamp_8 : decode cX4_isStamp 8 = .ok (.invokestatic 46, 3) := by decide +kernel
theorem dX4_isStamp_11 : decode cX4_isStamp 11 = .ok (.ireturn, 1) := by decide +kernel
theorem dX4_isPostage_0 : decode cX4_isPostage 0 = .ok (.iload_n 0, 1) := by decide +kernel
theorem dX4_isPostage_1 : decode cX4_isPostage 1 = .ok (.iconst 1, 1) := by decide +kernel
theorem dX4_isPostage_2 : decode cX4_isPostage 2 = .ok (.sipush 300, 3) := by decide +kernel
theorem dX4_isPostage_5 : decode cX4_isPostage 5 = .ok (.invokestatic 46, 3) := by decide +kernel
theorem dX4_isPostage_8 : decode cX4_isPostage 8 = .ok (.ireturn, 1) := by decide +kernel
theorem dX4_isThere_0 : decode cX4_isThere 0 = .ok (.iconst 0, 1) := by decide +kernel
theorem dX4_isThere_1 : decode cX4_isThere 1 = .ok (.istore_n 2, 1) := by decide +kernel
theorem dX4_isThere_2 : decode cX4_isThere 2 = .ok (.iload_n 2, 1) := by decide +kernel
theorem dX4_isThere_3 : decode cX4_isThere 3 = .ok (.aload_n 0, 1) := by decide +kernel
theorem dX4_isThere_4 : decode cX4_isThere 4 = .ok (.getfield 43, 3) := by decide +kernel
theorem dX4_isThere_7 : decode cX4_isThere 7 = .ok (.if_icmp .ge 21, 3) := by decide +kernel
theorem dX4_isThere_10 : decode cX4_isThere 10 = .ok (.aload_n 0, 1) := by decide +kernel
theorem dX4_isThere_11 : decode cX4_isThere 11 = .ok (.getfield 13, 3) := by decide +kernel
theorem dX4_isThere_14 : decode cX4_isThere 14 = .ok (.iload_n 2, 1) := by decide +kernel
theorem dX4_isThere_15 : decode cX4_isThere 15 = .ok (.iaload, 1) := by decide +kernel
theorem dX4_isThere_16 : decode cX4_isThere 16 = .ok (.iload_n 1, 1) := by decide +kernel
theorem dX4_isThere_17 : decode cX4_isThere 17 = .ok (.if_icmp .ne 5, 3) := by decide +kernel
theorem dX4_isThere_20 : decode cX4_isThere 20 = .ok (.iconst 1, 1) := by decide +kernel
theorem dX4_isThere_21 : decode cX4_isThere 21 = .ok (.ireturn, 1) := by decide +kernel
theorem dX4_isThere_22 : decode cX4_isThere 22 = .ok (.iinc 2 1, 3) := by decide +kernel
theorem dX4_isThere_25 : decode cX4_isThere 25 = .ok (.goto (-23), 3) := by decide +kernel
theorem dX4_isThere_28 : decode cX4_isThere 28 = .ok (.iconst 0, 1) := by decide +kernel
theorem dX4_isThere_29 : decode cX4_isThere 29 = .ok (.ireturn, 1) := by decide +kernel
theorem dX4_sort_0 : decode cX4_sort 0 = .ok (.iconst 0, 1) := by decide +kernel
theorem dX4_sort_1 : decode cX4_sort 1 = .ok (.istore_n 1, 1) := by decide +kernel
theorem dX4_sort_2 : decode cX4_sort 2 = .ok (.iload_n 1, 1) := by decide +kernel
theorem dX4_sort_3 : decode cX4_sort 3 = .ok (.aload_n 0, 1) := by decide +kernel
theorem dX4_sort_4 : decode cX4_sort 4 = .ok (.getfield 43, 3) := by decide +kernel
theorem dX4_sort_7 : decode cX4_sort 7 = .ok (.if_icmp .ge 64, 3) := by decide +kernel
theorem dX4_sort_10 : decode cX4_sort 10 = .ok (.iload_n 1, 1) := by decide +kernel
theorem dX4_sort_11 : decode cX4_sort 11 = .ok (.istore_n 2, 1) := by decide +kernel
theorem dX4_sort_12 : decode cX4_sort 12 = .ok (.iload_n 2, 1) := by decide +kernel
theorem dX4_sort_13 : decode cX4_sort 13 = .ok (.ifCond .le 45, 3) := by decide +kernel
theorem dX4_sort_16 : decode cX4_sort 16 = .ok (.aload_n 0, 1) := by decide +kernel
theorem dX4_sort_17 : decode cX4_sort 17 = .ok (.getfield 13, 3) := by decide +kernel
theorem dX4_sort_20 : decode cX4_sort 20 = .ok (.aload_n 0, 1) := by decide +kernel
theorem dX4_sort_21 : decode cX4_sort 21 = .ok (.getfield 23, 3) := by decide +kernel
theorem dX4_sort_24 : decode cX4_sort 24 = .ok (.iload_n 2, 1) := by decide +kernel
theorem dX4_sort_25 : decode cX4_sort 25 = .ok (.iconst 1, 1) := by decide +kernel
theorem dX4_sort_26 : decode cX4_sort 26 = .ok (.isub, 1) := by decide +kernel
theorem dX4_sort_27 : decode cX4_sort 27 = .ok (.iaload, 1) := by decide +kernel
theorem dX4_sort_28 : decode cX4_sort 28 = .ok (.iaload, 1) := by decide +kernel
theorem dX4_sort_29 : decode cX4_sort 29 = .ok (.aload_n 0, 1) := by decide +kernel
theorem dX4_sort_30 : decode cX4_sort 30 = .ok (.getfield 13, 3) := by decide +kernel
theorem dX4_sort_33 : decode cX4_sort 33 = .ok (.iload_n 1, 1) := by decide +kernel
theorem dX4_sort_34 : decode cX4_sort 34 = .ok (.iaload, 1) := by decide +kernel
theorem dX4_sort_35 : decode cX4_sort 35 = .ok (.if_icmp .le 23, 3) := by decide +kernel
theorem dX4_sort_38 : decode cX4_sort 38 = .ok (.aload_n 0, 1) := by decide +kernel
theorem dX4_sort_39 : decode cX4_sort 39 = .ok (.getfield 23, 3) := by decide +kernel
theorem dX4_sort_42 : decode cX4_sort 42 = .ok (.iload_n 2, 1) := by decide +kernel
theorem dX4_sort_43 : decode cX4_sort 43 = .ok (.aload_n 0, 1) := by decide +kernel
theorem dX4_sort_44 : decode cX4_sort 44 = .ok (.getfield 23, 3) := by decide +kernel
theorem dX4_sort_47 : decode cX4_sort 47 = .ok (.iload_n 2, 1) := by decide +kernel
theorem dX4_sort_48 : decode cX4_sort 48 = .ok (.iconst 1, 1) := by decide +kernel
theorem dX4_sort_49 : decode cX4_sort 49 = .ok (.isub, 1) := by decide +kernel
theorem dX4_sort_50 : decode cX4_sort 50 = .ok (.iaload, 1) := by decide +kernel
theorem dX4_sort_51 : decode cX4_sort 51 = .ok (.iastore, 1) := by decide +kernel
theorem dX4_sort_52 : decode cX4_sort 52 = .ok (.iinc 2 (-1), 3) := by decide +kernel
theorem dX4_sort_55 : decode cX4_sort 55 = .ok (.goto (-43), 3) := by decide +kernel
theorem dX4_sort_58 : decode cX4_sort 58 = .ok (.aload_n 0, 1) := by decide +kernel
theorem dX4_sort_59 : decode cX4_sort 59 = .ok (.getfield 23, 3) := by decide +kernel
theorem dX4_sort_62 : decode cX4_sort 62 = .ok (.iload_n 2, 1) := by decide +kernel
theorem dX4_sort_63 : decode cX4_sort 63 = .ok (.iload_n 1, 1) := by decide +kernel
theorem dX4_sort_64 : decode cX4_sort 64 = .ok (.iastore, 1) := by decide +kernel
theorem dX4_sort_65 : decode cX4_sort 65 = .ok (.iinc 1 1, 3) := by decide +kernel
theorem dX4_sort_68 : decode cX4_sort 68 = .ok (.goto (-66), 3) := by decide +kernel
theorem dX4_sort_71 : decode cX4_sort 71 = .ok (.return_, 1) := by decide +kernel
theorem dX4_with_0 : decode cX4_with 0 = .ok (.aload_n 0, 1) := by decide +kernel
theorem dX4_with_1 : decode cX4_with 1 = .ok (.getfield 13, 3) := by decide +kernel
theorem dX4_with_4 : decode cX4_with 4 = .ok (.aload_n 0, 1) := by decide +kernel
theorem dX4_with_5 : decode cX4_with 5 = .ok (.getfield 23, 3) := by decide +kernel
theorem dX4_with_8 : decode cX4_with 8 = .ok (.iload_n 1, 1) := by decide +kernel
theorem dX4_with_9 : decode cX4_with 9 = .ok (.iaload, 1) := by decide +kernel
theorem dX4_with_10 : decode cX4_with 10 = .ok (.iaload, 1) := by decide +kernel
theorem dX4_with_11 : decode cX4_with 11 = .ok (.istore_n 2, 1) := by decide +kernel
theorem dX4_with_12 : decode cX4_with 12 = .ok (.aload_n 0, 1) := by decide +kernel
theorem dX4_with_13 : decode cX4_with 13 = .ok (.getfield 9, 3) := by decide +kernel
theorem dX4_with_16 : decode cX4_with 16 = .ok (.aload_n 0, 1) := by decide +kernel
theorem dX4_with_17 : decode cX4_with 17 = .ok (.getfield 17, 3) := by decide +kernel
theorem dX4_with_20 : decode cX4_with 20 = .ok (.aload_n 0, 1) := by decide +kernel
theorem dX4_with_21 : decode cX4_with 21 = .ok (.getfield 23, 3) := by decide +kernel
theorem dX4_with_24 : decode cX4_with 24 = .ok (.iload_n 1, 1) := by decide +kernel
theorem dX4_with_25 : decode cX4_with 25 = .ok (.iaload, 1) := by decide +kernel
theorem dX4_with_26 : decode cX4_with 26 = .ok (.iaload, 1) := by decide +kernel
theorem dX4_with_27 : decode cX4_with 27 = .ok (.invokestatic 50, 3) := by decide +kernel
theorem dX4_with_30 : decode cX4_with 30 = .ok (.istore_n 3, 1) := by decide +kernel
theorem dX4_with_31 : decode cX4_with 31 = .ok (.iconst 0, 1) := by decide +kernel
theorem dX4_with_32 : decode cX4_with 32 = .ok (.istore 4, 2) := by decide +kernel
theorem dX4_with_34 : decode cX4_with 34 = .ok (.iload 4, 2) := by decide +kernel
theorem dX4_with_36 : decode cX4_with 36 = .ok (.sipush 721, 3) := by decide +kernel
theorem dX4_with_39 : decode cX4_with 39 = .ok (.if_icmp .ge 81, 3) := by decide +kernel
theorem dX4_with_42 : decode cX4_with 42 = .ok (.aload_n 0, 1) := by decide +kernel
theorem dX4_with_43 : decode cX4_with 43 = .ok (.getfield 28, 3) := by decide +kernel
theorem dX4_with_46 : decode cX4_with 46 = .ok (.iload_n 1, 1) := by decide +kernel
theorem dX4_with_47 : decode cX4_with 47 = .ok (.aaload, 1) := by decide +kernel
theorem dX4_with_48 : decode cX4_with 48 = .ok (.iload 4, 2) := by decide +kernel
theorem dX4_with_50 : decode cX4_with 50 = .ok (.iaload, 1) := by decide +kernel
theorem dX4_with_51 : decode cX4_with 51 = .ok (.istore 5, 2) := by decide +kernel
theorem dX4_with_53 : decode cX4_with 53 = .ok (.iconst 1, 1) := by decide +kernel
theorem dX4_with_54 : decode cX4_with 54 = .ok (.istore 6, 2) := by decide +kernel
theorem dX4_with_56 : decode cX4_with 56 = .ok (.iload 6, 2) := by decide +kernel
theorem dX4_with_58 : decode cX4_with 58 = .ok (.iload_n 3, 1) := by decide +kernel
theorem dX4_with_59 : decode cX4_with 59 = .ok (.if_icmp .gt 42, 3) := by decide +kernel
theorem dX4_with_62 : decode cX4_with 62 = .ok (.iload 6, 2) := by decide +kernel
theorem dX4_with_64 : decode cX4_with 64 = .ok (.iload_n 2, 1) := by decide +kernel
theorem dX4_with_65 : decode cX4_with 65 = .ok (.imul, 1) := by decide +kernel
theorem dX4_with_66 : decode cX4_with 66 = .ok (.iload 4, 2) := by decide +kernel
theorem dX4_with_68 : decode cX4_with 68 = .ok (.if_icmp .gt 33, 3) := by decide +kernel
theorem dX4_with_71 : decode cX4_with 71 = .ok (.iload 5, 2) := by decide +kernel
theorem dX4_with_73 : decode cX4_with 73 = .ok (.aload_n 0, 1) := by decide +kernel
theorem dX4_with_74 : decode cX4_with 74 = .ok (.getfield 28, 3) := by decide +kernel
theorem dX4_with_77 : decode cX4_with 77 = .ok (.iload_n 1, 1) := by decide +kernel
theorem dX4_with_78 : decode cX4_with 78 = .ok (.aaload, 1) := by decide +kernel
theorem dX4_with_79 : decode cX4_with 79 = .ok (.iload 4, 2) := by decide +kernel
theorem dX4_with_81 : decode cX4_with 81 = .ok (.iload 6, 2) := by decide +kernel
theorem dX4_with_83 : decode cX4_with 83 = .ok (.iload_n 2, 1) := by decide +kernel
theorem dX4_with_84 : decode cX4_with 84 = .ok (.imul, 1) := by decide +kernel
theorem dX4_with_85 : decode cX4_with 85 = .ok (.isub, 1) := by decide +kernel
theorem dX4_with_86 : decode cX4_with 86 = .ok (.iaload, 1) := by decide +kernel
theorem dX4_with_87 : decode cX4_with 87 = .ok (.iload 6, 2) := by decide +kernel
theorem dX4_with_89 : decode cX4_with 89 = .ok (.iadd, 1) := by decide +kernel
theorem dX4_with_90 : decode cX4_with 90 = .ok (.invokestatic 50, 3) := by decide +kernel
theorem dX4_with_93 : decode cX4_with 93 = .ok (.istore 5, 2) := by decide +kernel
theorem dX4_with_95 : decode cX4_with 95 = .ok (.iinc 6 1, 3) := by decide +kernel
theorem dX4_with_98 : decode cX4_with 98 = .ok (.goto (-42), 3) := by decide +kernel
theorem dX4_with_101 : decode cX4_with 101 = .ok (.aload_n 0, 1) := by decide +kernel
theorem dX4_with_102 : decode cX4_with 102 = .ok (.getfield 28, 3) := by decide +kernel
theorem dX4_with_105 : decode cX4_with 105 = .ok (.iload_n 1, 1) := by decide +kernel
theorem dX4_with_106 : decode cX4_with 106 = .ok (.iconst 1, 1) := by decide +kernel
theorem dX4_with_107 : decode cX4_with 107 = .ok (.iadd, 1) := by decide +kernel
theorem dX4_with_108 : decode cX4_with 108 = .ok (.aaload, 1) := by decide +kernel
theorem dX4_with_109 : decode cX4_with 109 = .ok (.iload 4, 2) := by decide +kernel
theorem dX4_with_111 : decode cX4_with 111 = .ok (.iload 5, 2) := by decide +kernel
theorem dX4_with_113 : decode cX4_with 113 = .ok (.iastore, 1) := by decide +kernel
theorem dX4_with_114 : decode cX4_with 114 = .ok (.iinc 4 1, 3) := by decide +kernel
theorem dX4_with_117 : decode cX4_with 117 = .ok (.goto (-83), 3) := by decide +kernel
theorem dX4_with_120 : decode cX4_with 120 = .ok (.return_, 1) := by decide +kernel
theorem dX4_table_0 : decode cX4_table 0 = .ok (.aload_n 0, 1) := by decide +kernel
theorem dX4_table_1 : decode cX4_table 1 = .ok (.invokevirtual 56, 3) := by decide +kernel
theorem dX4_table_4 : decode cX4_table 4 = .ok (.iconst 0, 1) := by decide +kernel
theorem dX4_table_5 : decode cX4_table 5 = .ok (.istore_n 1, 1) := by decide +kernel
theorem dX4_table_6 : decode cX4_table 6 = .ok (.iload_n 1, 1) := by decide +kernel
theorem dX4_table_7 : decode cX4_table 7 = .ok (.sipush 721, 3) := by decide +kernel
theorem dX4_table_10 : decode cX4_table 10 = .ok (.if_icmp .ge 28, 3) := by decide +kernel
theorem dX4_table_13 : decode cX4_table 13 = .ok (.aload_n 0, 1) := by decide +kernel
theorem dX4_table_14 : decode cX4_table 14 = .ok (.getfield 28, 3) := by decide +kernel
theorem dX4_table_17 : decode cX4_table 17 = .ok (.iconst 0, 1) := by decide +kernel
theorem dX4_table_18 : decode cX4_table 18 = .ok (.aaload, 1) := by decide +kernel
theorem dX4_table_19 : decode cX4_table 19 = .ok (.iload_n 1, 1) := by decide +kernel
theorem dX4_table_20 : decode cX4_table 20 = .ok (.iload_n 1, 1) := by decide +kernel
theorem dX4_table_21 : decode cX4_table 21 = .ok (.ifCond .ne 7, 3) := by decide +kernel
theorem dX4_table_24 : decode cX4_table 24 = .ok (.iconst 0, 1) := by decide +kernel
theorem dX4_table_25 : decode cX4_table 25 = .ok (.goto 6, 3) := by decide +kernel
theorem dX4_table_28 : decode cX4_table 28 = .ok (.sipush 1000, 3) := by decide +kernel
theorem dX4_table_31 : decode cX4_table 31 = .ok (.iastore, 1) := by decide +kernel
theorem dX4_table_32 : decode cX4_table 32 = .ok (.iinc 1 1, 3) := by decide +kernel
theorem dX4_table_35 : decode cX4_table 35 = .ok (.goto (-29), 3) := by decide +kernel
theorem dX4_table_38 : decode cX4_table 38 = .ok (.iconst 0, 1) := by decide +kernel
theorem dX4_table_39 : decode cX4_table 39 = .ok (.istore_n 1, 1) := by decide +kernel
theorem dX4_table_40 : decode cX4_table 40 = .ok (.iload_n 1, 1) := by decide +kernel
theorem dX4_table_41 : decode cX4_table 41 = .ok (.aload_n 0, 1) := by decide +kernel
theorem dX4_table_42 : decode cX4_table 42 = .ok (.getfield 43, 3) := by decide +kernel
theorem dX4_table_45 : decode cX4_table 45 = .ok (.if_icmp .ge 14, 3) := by decide +kernel
theorem dX4_table_48 : decode cX4_table 48 = .ok (.aload_n 0, 1) := by decide +kernel
theorem dX4_table_49 : decode cX4_table 49 = .ok (.iload_n 1, 1) := by decide +kernel
theorem dX4_table_50 : decode cX4_table 50 = .ok (.invokevirtual 59, 3) := by decide +kernel
theorem dX4_table_53 : decode cX4_table 53 = .ok (.iinc 1 1, 3) := by decide +kernel
theorem dX4_table_56 : decode cX4_table 56 = .ok (.goto (-16), 3) := by decide +kernel
theorem dX4_table_59 : decode cX4_table 59 = .ok (.return_, 1) := by decide +kernel
theorem dX4_pays_0 : decode cX4_pays 0 = .ok (.aload_n 0, 1) := by decide +kernel
theorem dX4_pays_1 : decode cX4_pays 1 = .ok (.getfield 28, 3) := by decide +kernel
theorem dX4_pays_4 : decode cX4_pays 4 = .ok (.aload_n 0, 1) := by decide +kernel
theorem dX4_pays_5 : decode cX4_pays 5 = .ok (.getfield 43, 3) := by decide +kernel
theorem dX4_pays_8 : decode cX4_pays 8 = .ok (.aaload, 1) := by decide +kernel
theorem dX4_pays_9 : decode cX4_pays 9 = .ok (.iload_n 1, 1) := by decide +kernel
theorem dX4_pays_10 : decode cX4_pays 10 = .ok (.iaload, 1) := by decide +kernel
theorem dX4_pays_11 : decode cX4_pays 11 = .ok (.aload_n 0, 1) := by decide +kernel
theorem dX4_pays_12 : decode cX4_pays 12 = .ok (.getfield 9, 3) := by decide +kernel
theorem dX4_pays_15 : decode cX4_pays 15 = .ok (.if_icmp .gt 7, 3) := by decide +kernel
theorem dX4_pays_18 : decode cX4_pays 18 = .ok (.iconst 1, 1) := by decide +kernel
theorem dX4_pays_19 : decode cX4_pays 19 = .ok (.goto 4, 3) := by decide +kernel
theorem dX4_pays_22 : decode cX4_pays 22 = .ok (.iconst 0, 1) := by decide +kernel
theorem dX4_pays_23 : decode cX4_pays 23 = .ok (.ireturn, 1) := by decide +kernel
theorem dX4_covers_0 : decode cX4_covers 0 = .ok (.iload_n 1, 1) := by decide +kernel
theorem dX4_covers_1 : decode cX4_covers 1 = .ok (.istore_n 2, 1) := by decide +kernel
theorem dX4_covers_2 : decode cX4_covers 2 = .ok (.iload_n 2, 1) := by decide +kernel
theorem dX4_covers_3 : decode cX4_covers 3 = .ok (.sipush 721, 3) := by decide +kernel
theorem dX4_covers_6 : decode cX4_covers 6 = .ok (.if_icmp .ge 19, 3) := by decide +kernel
theorem dX4_covers_9 : decode cX4_covers 9 = .ok (.aload_n 0, 1) := by decide +kernel
theorem dX4_covers_10 : decode cX4_covers 10 = .ok (.iload_n 2, 1) := by decide +kernel
theorem dX4_covers_11 : decode cX4_covers 11 = .ok (.invokevirtual 63, 3) := by decide +kernel
theorem dX4_covers_14 : decode cX4_covers 14 = .ok (.ifCond .eq 5, 3) := by decide +kernel
theorem dX4_covers_17 : decode cX4_covers 17 = .ok (.iload_n 2, 1) := by decide +kernel
theorem dX4_covers_18 : decode cX4_covers 18 = .ok (.ireturn, 1) := by decide +kernel
theorem dX4_covers_19 : decode cX4_covers 19 = .ok (.iinc 2 1, 3) := by decide +kernel
theorem dX4_covers_22 : decode cX4_covers 22 = .ok (.goto (-20), 3) := by decide +kernel
theorem dX4_covers_25 : decode cX4_covers 25 = .ok (.iconst (-1), 1) := by decide +kernel
theorem dX4_covers_26 : decode cX4_covers 26 = .ok (.ireturn, 1) := by decide +kernel
theorem dX4_take_0 : decode cX4_take 0 = .ok (.iload_n 1, 1) := by decide +kernel
theorem dX4_take_1 : decode cX4_take 1 = .ok (.istore_n 2, 1) := by decide +kernel
theorem dX4_take_2 : decode cX4_take 2 = .ok (.aload_n 0, 1) := by decide +kernel
theorem dX4_take_3 : decode cX4_take 3 = .ok (.getfield 43, 3) := by decide +kernel
theorem dX4_take_6 : decode cX4_take 6 = .ok (.iconst 1, 1) := by decide +kernel
theorem dX4_take_7 : decode cX4_take 7 = .ok (.isub, 1) := by decide +kernel
theorem dX4_take_8 : decode cX4_take 8 = .ok (.istore_n 3, 1) := by decide +kernel
theorem dX4_take_9 : decode cX4_take 9 = .ok (.iload_n 3, 1) := by decide +kernel
theorem dX4_take_10 : decode cX4_take 10 = .ok (.ifCond .lt 108, 3) := by decide +kernel
theorem dX4_take_13 : decode cX4_take 13 = .ok (.aload_n 0, 1) := by decide +kernel
theorem dX4_take_14 : decode cX4_take 14 = .ok (.getfield 13, 3) := by decide +kernel
theorem dX4_take_17 : decode cX4_take 17 = .ok (.aload_n 0, 1) := by decide +kernel
theorem dX4_take_18 : decode cX4_take 18 = .ok (.getfield 23, 3) := by decide +kernel
theorem dX4_take_21 : decode cX4_take 21 = .ok (.iload_n 3, 1) := by decide +kernel
theorem dX4_take_22 : decode cX4_take 22 = .ok (.iaload, 1) := by decide +kernel
theorem dX4_take_23 : decode cX4_take 23 = .ok (.iaload, 1) := by decide +kernel
theorem dX4_take_24 : decode cX4_take 24 = .ok (.istore 4, 2) := by decide +kernel
theorem dX4_take_26 : decode cX4_take 26 = .ok (.aload_n 0, 1) := by decide +kernel
theorem dX4_take_27 : decode cX4_take 27 = .ok (.getfield 9, 3) := by decide +kernel
theorem dX4_take_30 : decode cX4_take 30 = .ok (.aload_n 0, 1) := by decide +kernel
theorem dX4_take_31 : decode cX4_take 31 = .ok (.getfield 17, 3) := by decide +kernel
theorem dX4_take_34 : decode cX4_take 34 = .ok (.aload_n 0, 1) := by decide +kernel
theorem dX4_take_35 : decode cX4_take 35 = .ok (.getfield 23, 3) := by decide +kernel
theorem dX4_take_38 : decode cX4_take 38 = .ok (.iload_n 3, 1) := by decide +kernel
theorem dX4_take_39 : decode cX4_take 39 = .ok (.iaload, 1) := by decide +kernel
theorem dX4_take_40 : decode cX4_take 40 = .ok (.iaload, 1) := by decide +kernel
theorem dX4_take_41 : decode cX4_take 41 = .ok (.invokestatic 50, 3) := by decide +kernel
theorem dX4_take_44 : decode cX4_take 44 = .ok (.istore 5, 2) := by decide +kernel
theorem dX4_take_46 : decode cX4_take 46 = .ok (.iload 5, 2) := by decide +kernel
theorem dX4_take_48 : decode cX4_take 48 = .ok (.iload 4, 2) := by decide +kernel
theorem dX4_take_50 : decode cX4_take 50 = .ok (.imul, 1) := by decide +kernel
theorem dX4_take_51 : decode cX4_take 51 = .ok (.iload_n 2, 1) := by decide +kernel
theorem dX4_take_52 : decode cX4_take 52 = .ok (.if_icmp .gt 33, 3) := by decide +kernel
theorem dX4_take_55 : decode cX4_take 55 = .ok (.aload_n 0, 1) := by decide +kernel
theorem dX4_take_56 : decode cX4_take 56 = .ok (.getfield 28, 3) := by decide +kernel
theorem dX4_take_59 : decode cX4_take 59 = .ok (.iload_n 3, 1) := by decide +kernel
theorem dX4_take_60 : decode cX4_take 60 = .ok (.aaload, 1) := by decide +kernel
theorem dX4_take_61 : decode cX4_take 61 = .ok (.iload_n 2, 1) := by decide +kernel
theorem dX4_take_62 : decode cX4_take 62 = .ok (.iload 5, 2) := by decide +kernel
theorem dX4_take_64 : decode cX4_take 64 = .ok (.iload 4, 2) := by decide +kernel
theorem dX4_take_66 : decode cX4_take 66 = .ok (.imul, 1) := by decide +kernel
theorem dX4_take_67 : decode cX4_take 67 = .ok (.isub, 1) := by decide +kernel
theorem dX4_take_68 : decode cX4_take 68 = .ok (.iaload, 1) := by decide +kernel
theorem dX4_take_69 : decode cX4_take 69 = .ok (.iload 5, 2) := by decide +kernel
theorem dX4_take_71 : decode cX4_take 71 = .ok (.iadd, 1) := by decide +kernel
theorem dX4_take_72 : decode cX4_take 72 = .ok (.aload_n 0, 1) := by decide +kernel
theorem dX4_take_73 : decode cX4_take 73 = .ok (.getfield 28, 3) := by decide +kernel
theorem dX4_take_76 : decode cX4_take 76 = .ok (.iload_n 3, 1) := by decide +kernel
theorem dX4_take_77 : decode cX4_take 77 = .ok (.iconst 1, 1) := by decide +kernel
theorem dX4_take_78 : decode cX4_take 78 = .ok (.iadd, 1) := by decide +kernel
theorem dX4_take_79 : decode cX4_take 79 = .ok (.aaload, 1) := by decide +kernel
theorem dX4_take_80 : decode cX4_take 80 = .ok (.iload_n 2, 1) := by decide +kernel
theorem dX4_take_81 : decode cX4_take 81 = .ok (.iaload, 1) := by decide +kernel
theorem dX4_take_82 : decode cX4_take 82 = .ok (.if_icmp .eq 9, 3) := by decide +kernel
theorem dX4_take_85 : decode cX4_take 85 = .ok (.iinc 5 (-1), 3) := by decide +kernel
theorem dX4_take_88 : decode cX4_take 88 = .ok (.goto (-42), 3) := by decide +kernel
theorem dX4_take_91 : decode cX4_take 91 = .ok (.aload_n 0, 1) := by decide +kernel
theorem dX4_take_92 : decode cX4_take 92 = .ok (.getfield 31, 3) := by decide +kernel
theorem dX4_take_95 : decode cX4_take 95 = .ok (.aload_n 0, 1) := by decide +kernel
theorem dX4_take_96 : decode cX4_take 96 = .ok (.getfield 23, 3) := by decide +kernel
theorem dX4_take_99 : decode cX4_take 99 = .ok (.iload_n 3, 1) := by decide +kernel
theorem dX4_take_100 : decode cX4_take 100 = .ok (.iaload, 1) := by decide +kernel
theorem dX4_take_101 : decode cX4_take 101 = .ok (.iload 5, 2) := by decide +kernel
theorem dX4_take_103 : decode cX4_take 103 = .ok (.iastore, 1) := by decide +kernel
theorem dX4_take_104 : decode cX4_take 104 = .ok (.iload_n 2, 1) := by decide +kernel
theorem dX4_take_105 : decode cX4_take 105 = .ok (.iload 5, 2) := by decide +kernel
theorem dX4_take_107 : decode cX4_take 107 = .ok (.iload 4, 2) := by decide +kernel
theorem dX4_take_109 : decode cX4_take 109 = .ok (.imul, 1) := by decide +kernel
theorem dX4_take_110 : decode cX4_take 110 = .ok (.isub, 1) := by decide +kernel
theorem dX4_take_111 : decode cX4_take 111 = .ok (.istore_n 2, 1) := by decide +kernel
theorem dX4_take_112 : decode cX4_take 112 = .ok (.iinc 3 (-1), 3) := by decide +kernel
theorem dX4_take_115 : decode cX4_take 115 = .ok (.goto (-106), 3) := by decide +kernel
theorem dX4_take_118 : decode cX4_take 118 = .ok (.return_, 1) := by decide +kernel
theorem dX4_reached_0 : decode cX4_reached 0 = .ok (.aload_n 0, 1) := by decide +kernel
theorem dX4_reached_1 : decode cX4_reached 1 = .ok (.invokevirtual 67, 3) := by decide +kernel
theorem dX4_reached_4 : decode cX4_reached 4 = .ok (.iconst 0, 1) := by decide +kernel
theorem dX4_reached_5 : decode cX4_reached 5 = .ok (.istore_n 1, 1) := by decide +kernel
theorem dX4_reached_6 : decode cX4_reached 6 = .ok (.iload_n 1, 1) := by decide +kernel
theorem dX4_reached_7 : decode cX4_reached 7 = .ok (.sipush 300, 3) := by decide +kernel
theorem dX4_reached_10 : decode cX4_reached 10 = .ok (.if_icmp .ge 19, 3) := by decide +kernel
theorem dX4_reached_13 : decode cX4_reached 13 = .ok (.aload_n 0, 1) := by decide +kernel
theorem dX4_reached_14 : decode cX4_reached 14 = .ok (.iload_n 1, 1) := by decide +kernel
theorem dX4_reached_15 : decode cX4_reached 15 = .ok (.iconst 1, 1) := by decide +kernel
theorem dX4_reached_16 : decode cX4_reached 16 = .ok (.iadd, 1) := by decide +kernel
theorem dX4_reached_17 : decode cX4_reached 17 = .ok (.invokevirtual 63, 3) := by decide +kernel
theorem dX4_reached_20 : decode cX4_reached 20 = .ok (.ifCond .eq 9, 3) := by decide +kernel
theorem dX4_reached_23 : decode cX4_reached 23 = .ok (.iinc 1 1, 3) := by decide +kernel
theorem dX4_reached_26 : decode cX4_reached 26 = .ok (.goto (-20), 3) := by decide +kernel
theorem dX4_reached_29 : decode cX4_reached 29 = .ok (.iload_n 1, 1) := by decide +kernel
theorem dX4_reached_30 : decode cX4_reached 30 = .ok (.ireturn, 1) := by decide +kernel
theorem dX4_give_0 : decode cX4_give 0 = .ok (.aload_n 0, 1) := by decide +kernel
theorem dX4_give_1 : decode cX4_give 1 = .ok (.invokevirtual 67, 3) := by decide +kernel
theorem dX4_give_4 : decode cX4_give 4 = .ok (.aload_n 0, 1) := by decide +kernel
theorem dX4_give_5 : decode cX4_give 5 = .ok (.iload_n 1, 1) := by decide +kernel
theorem dX4_give_6 : decode cX4_give 6 = .ok (.invokevirtual 70, 3) := by decide +kernel
theorem dX4_give_9 : decode cX4_give 9 = .ok (.istore_n 2, 1) := by decide +kernel
theorem dX4_give_10 : decode cX4_give 10 = .ok (.iload_n 2, 1) := by decide +kernel
theorem dX4_give_11 : decode cX4_give 11 = .ok (.iconst (-1), 1) := by decide +kernel
theorem dX4_give_12 : decode cX4_give 12 = .ok (.if_icmp .ne 5, 3) := by decide +kernel
theorem dX4_give_15 : decode cX4_give 15 = .ok (.iconst (-1), 1) := by decide +kernel
theorem dX4_give_16 : decode cX4_give 16 = .ok (.ireturn, 1) := by decide +kernel
theorem dX4_give_17 : decode cX4_give 17 = .ok (.aload_n 0, 1) := by decide +kernel
theorem dX4_give_18 : decode cX4_give 18 = .ok (.iload_n 2, 1) := by decide +kernel
theorem dX4_give_19 : decode cX4_give 19 = .ok (.invokevirtual 74, 3) := by decide +kernel
theorem dX4_give_22 : decode cX4_give 22 = .ok (.iconst 0, 1) := by decide +kernel
theorem dX4_give_23 : decode cX4_give 23 = .ok (.istore_n 3, 1) := by decide +kernel
theorem dX4_give_24 : decode cX4_give 24 = .ok (.iload_n 3, 1) := by decide +kernel
theorem dX4_give_25 : decode cX4_give 25 = .ok (.aload_n 0, 1) := by decide +kernel
theorem dX4_give_26 : decode cX4_give 26 = .ok (.getfield 43, 3) := by decide +kernel
theorem dX4_give_29 : decode cX4_give 29 = .ok (.if_icmp .ge 24, 3) := by decide +kernel
theorem dX4_give_32 : decode cX4_give 32 = .ok (.aload_n 0, 1) := by decide +kernel
theorem dX4_give_33 : decode cX4_give 33 = .ok (.getfield 17, 3) := by decide +kernel
theorem dX4_give_36 : decode cX4_give 36 = .ok (.iload_n 3, 1) := by decide +kernel
theorem dX4_give_37 : decode cX4_give 37 = .ok (.dup2, 1) := by decide +kernel
theorem dX4_give_38 : decode cX4_give 38 = .ok (.iaload, 1) := by decide +kernel
theorem dX4_give_39 : decode cX4_give 39 = .ok (.aload_n 0, 1) := by decide +kernel
theorem dX4_give_40 : decode cX4_give 40 = .ok (.getfield 31, 3) := by decide +kernel
theorem dX4_give_43 : decode cX4_give 43 = .ok (.iload_n 3, 1) := by decide +kernel
theorem dX4_give_44 : decode cX4_give 44 = .ok (.iaload, 1) := by decide +kernel
theorem dX4_give_45 : decode cX4_give 45 = .ok (.isub, 1) := by decide +kernel
theorem dX4_give_46 : decode cX4_give 46 = .ok (.iastore, 1) := by decide +kernel
theorem dX4_give_47 : decode cX4_give 47 = .ok (.iinc 3 1, 3) := by decide +kernel
theorem dX4_give_50 : decode cX4_give 50 = .ok (.goto (-26), 3) := by decide +kernel
theorem dX4_give_53 : decode cX4_give 53 = .ok (.iload_n 2, 1) := by decide +kernel
theorem dX4_give_54 : decode cX4_give 54 = .ok (.ireturn, 1) := by decide +kernel
theorem dX4_printed_0 : decode cX4_printed 0 = .ok (.aload_n 0, 1) := by decide +kernel
theorem dX4_printed_1 : decode cX4_printed 1 = .ok (.getfield 34, 3) := by decide +kernel
theorem dX4_printed_4 : decode cX4_printed 4 = .ok (.iconst 0, 1) := by decide +kernel
theorem dX4_printed_5 : decode cX4_printed 5 = .ok (.iconst 0, 1) := by decide +kernel
theorem dX4_printed_6 : decode cX4_printed 6 = .ok (.iastore, 1) := by decide +kernel
theorem dX4_printed_7 : decode cX4_printed 7 = .ok (.iconst 1, 1) := by decide +kernel
theorem dX4_printed_8 : decode cX4_printed 8 = .ok (.istore_n 2, 1) := by decide +kernel
theorem dX4_printed_9 : decode cX4_printed 9 = .ok (.iload_n 2, 1) := by decide +kernel
theorem dX4_printed_10 : decode cX4_printed 10 = .ok (.sipush 300, 3) := by decide +kernel
theorem dX4_printed_13 : decode cX4_printed 13 = .ok (.if_icmp .gt 92, 3) := by decide +kernel
theorem dX4_printed_16 : decode cX4_printed 16 = .ok (.iload_n 1, 1) := by decide +kernel
theorem dX4_printed_17 : decode cX4_printed 17 = .ok (.ifCond .le 21, 3) := by decide +kernel
theorem dX4_printed_20 : decode cX4_printed 20 = .ok (.iload_n 1, 1) := by decide +kernel
theorem dX4_printed_21 : decode cX4_printed 21 = .ok (.iload_n 2, 1) := by decide +kernel
theorem dX4_printed_22 : decode cX4_printed 22 = .ok (.if_icmp .gt 16, 3) := by decide +kernel
theorem dX4_printed_25 : decode cX4_printed 25 = .ok (.aload_n 0, 1) := by decide +kernel
theorem dX4_printed_26 : decode cX4_printed 26 = .ok (.getfield 34, 3) := by decide +kernel
theorem dX4_printed_29 : decode cX4_printed 29 = .ok (.iload_n 2, 1) := by decide +kernel
theorem dX4_printed_30 : decode cX4_printed 30 = .ok (.iload_n 1, 1) := by decide +kernel
theorem dX4_printed_31 : decode cX4_printed 31 = .ok (.isub, 1) := by decide +kernel
theorem dX4_printed_32 : decode cX4_printed 32 = .ok (.iaload, 1) := by decide +kernel
theorem dX4_printed_33 : decode cX4_printed 33 = .ok (.iconst 1, 1) := by decide +kernel
theorem dX4_printed_34 : decode cX4_printed 34 = .ok (.iadd, 1) := by decide +kernel
theorem dX4_printed_35 : decode cX4_printed 35 = .ok (.goto 6, 3) := by decide +kernel
theorem dX4_printed_38 : decode cX4_printed 38 = .ok (.sipush 1000, 3) := by decide +kernel
theorem dX4_printed_41 : decode cX4_printed 41 = .ok (.istore_n 3, 1) := by decide +kernel
theorem dX4_printed_42 : decode cX4_printed 42 = .ok (.iconst 0, 1) := by decide +kernel
theorem dX4_printed_43 : decode cX4_printed 43 = .ok (.istore 4, 2) := by decide +kernel
theorem dX4_printed_45 : decode cX4_printed 45 = .ok (.iload 4, 2) := by decide +kernel
theorem dX4_printed_47 : decode cX4_printed 47 = .ok (.aload_n 0, 1) := by decide +kernel
theorem dX4_printed_48 : decode cX4_printed 48 = .ok (.getfield 43, 3) := by decide +kernel
theorem dX4_printed_51 : decode cX4_printed 51 = .ok (.if_icmp .ge 41, 3) := by decide +kernel
theorem dX4_printed_54 : decode cX4_printed 54 = .ok (.aload_n 0, 1) := by decide +kernel
theorem dX4_printed_55 : decode cX4_printed 55 = .ok (.getfield 13, 3) := by decide +kernel
theorem dX4_printed_58 : decode cX4_printed 58 = .ok (.iload 4, 2) := by decide +kernel
theorem dX4_printed_60 : decode cX4_printed 60 = .ok (.iaload, 1) := by decide +kernel
theorem dX4_printed_61 : decode cX4_printed 61 = .ok (.iload_n 2, 1) := by decide +kernel
theorem dX4_printed_62 : decode cX4_printed 62 = .ok (.if_icmp .gt 24, 3) := by decide +kernel
theorem dX4_printed_65 : decode cX4_printed 65 = .ok (.iload_n 3, 1) := by decide +kernel
theorem dX4_printed_66 : decode cX4_printed 66 = .ok (.aload_n 0, 1) := by decide +kernel
theorem dX4_printed_67 : decode cX4_printed 67 = .ok (.getfield 34, 3) := by decide +kernel
theorem dX4_printed_70 : decode cX4_printed 70 = .ok (.iload_n 2, 1) := by decide +kernel
theorem dX4_printed_71 : decode cX4_printed 71 = .ok (.aload_n 0, 1) := by decide +kernel
theorem dX4_printed_72 : decode cX4_printed 72 = .ok (.getfield 13, 3) := by decide +kernel
theorem dX4_printed_75 : decode cX4_printed 75 = .ok (.iload 4, 2) := by decide +kernel
theorem dX4_printed_77 : decode cX4_printed 77 = .ok (.iaload, 1) := by decide +kernel
theorem dX4_printed_78 : decode cX4_printed 78 = .ok (.isub, 1) := by decide +kernel
theorem dX4_printed_79 : decode cX4_printed 79 = .ok (.iaload, 1) := by decide +kernel
theorem dX4_printed_80 : decode cX4_printed 80 = .ok (.iconst 1, 1) := by decide +kernel
theorem dX4_printed_81 : decode cX4_printed 81 = .ok (.iadd, 1) := by decide +kernel
theorem dX4_printed_82 : decode cX4_printed 82 = .ok (.invokestatic 50, 3) := by decide +kernel
theorem dX4_printed_85 : decode cX4_printed 85 = .ok (.istore_n 3, 1) := by decide +kernel
theorem dX4_printed_86 : decode cX4_printed 86 = .ok (.iinc 4 1, 3) := by decide +kernel
theorem dX4_printed_89 : decode cX4_printed 89 = .ok (.goto (-44), 3) := by decide +kernel
theorem dX4_printed_92 : decode cX4_printed 92 = .ok (.aload_n 0, 1) := by decide +kernel
theorem dX4_printed_93 : decode cX4_printed 93 = .ok (.getfield 34, 3) := by decide +kernel
theorem dX4_printed_96 : decode cX4_printed 96 = .ok (.iload_n 2, 1) := by decide +kernel
theorem dX4_printed_97 : decode cX4_printed 97 = .ok (.iload_n 3, 1) := by decide +kernel
theorem dX4_printed_98 : decode cX4_printed 98 = .ok (.iastore, 1) := by decide +kernel
theorem dX4_printed_99 : decode cX4_printed 99 = .ok (.iinc 2 1, 3) := by decide +kernel
theorem dX4_printed_102 : decode cX4_printed 102 = .ok (.goto (-93), 3) := by decide +kernel
theorem dX4_printed_105 : decode cX4_printed 105 = .ok (.return_, 1) := by decide +kernel
theorem dX4_printReach_0 : decode cX4_printReach 0 = .ok (.aload_n 0, 1) := by decide +kernel
theorem dX4_printReach_1 : decode cX4_printReach 1 = .ok (.iload_n 1, 1) := by decide +kernel
theorem dX4_printReach_2 : decode cX4_printReach 2 = .ok (.invokevirtual 77, 3) := by decide +kernel
theorem dX4_printReach_5 : decode cX4_printReach 5 = .ok (.iconst 0, 1) := by decide +kernel
theorem dX4_printReach_6 : decode cX4_printReach 6 = .ok (.istore_n 3, 1) := by decide +kernel
theorem dX4_printReach_7 : decode cX4_printReach 7 = .ok (.iload_n 3, 1) := by decide +kernel
theorem dX4_printReach_8 : decode cX4_printReach 8 = .ok (.sipush 300, 3) := by decide +kernel
theorem dX4_printReach_11 : decode cX4_printReach 11 = .ok (.if_icmp .ge 21, 3) := by decide +kernel
theorem dX4_printReach_14 : decode cX4_printReach 14 = .ok (.aload_n 0, 1) := by decide +kernel
theorem dX4_printReach_15 : decode cX4_printReach 15 = .ok (.getfield 34, 3) := by decide +kernel
theorem dX4_printReach_18 : decode cX4_printReach 18 = .ok (.iload_n 3, 1) := by decide +kernel
theorem dX4_printReach_19 : decode cX4_printReach 19 = .ok (.iconst 1, 1) := by decide +kernel
theorem dX4_printReach_20 : decode cX4_printReach 20 = .ok (.iadd, 1) := by decide +kernel
theorem dX4_printReach_21 : decode cX4_printReach 21 = .ok (.iaload, 1) := by decide +kernel
theorem dX4_printReach_22 : decode cX4_printReach 22 = .ok (.iload_n 2, 1) := by decide +kernel
theorem dX4_printReach_23 : decode cX4_printReach 23 = .ok (.if_icmp .gt 9, 3) := by decide +kernel
theorem dX4_printReach_26 : decode cX4_printReach 26 = .ok (.iinc 3 1, 3) := by decide +kernel
theorem dX4_printReach_29 : decode cX4_printReach 29 = .ok (.goto (-22), 3) := by decide +kernel
theorem dX4_printReach_32 : decode cX4_printReach 32 = .ok (.iload_n 3, 1) := by decide +kernel
theorem dX4_printReach_33 : decode cX4_printReach 33 = .ok (.ireturn, 1) := by decide +kernel
theorem dX4_allWays_0 : decode cX4_allWays 0 = .ok (.iconst 0, 1) := by decide +kernel
theorem dX4_allWays_1 : decode cX4_allWays 1 = .ok (.istore_n 2, 1) := by decide +kernel
theorem dX4_allWays_2 : decode cX4_allWays 2 = .ok (.iload_n 2, 1) := by decide +kernel
theorem dX4_allWays_3 : decode cX4_allWays 3 = .ok (.aload_n 0, 1) := by decide +kernel
theorem dX4_allWays_4 : decode cX4_allWays 4 = .ok (.getfield 9, 3) := by decide +kernel
theorem dX4_allWays_7 : decode cX4_allWays 7 = .ok (.if_icmp .gt 41, 3) := by decide +kernel
theorem dX4_allWays_10 : decode cX4_allWays 10 = .ok (.iconst 0, 1) := by decide +kernel
theorem dX4_allWays_11 : decode cX4_allWays 11 = .ok (.istore_n 3, 1) := by decide +kernel
theorem dX4_allWays_12 : decode cX4_allWays 12 = .ok (.iload_n 3, 1) := by decide +kernel
theorem dX4_allWays_13 : decode cX4_allWays 13 = .ok (.iload_n 1, 1) := by decide +kernel
theorem dX4_allWays_14 : decode cX4_allWays 14 = .ok (.if_icmp .gt 28, 3) := by decide +kernel
theorem dX4_allWays_17 : decode cX4_allWays 17 = .ok (.aload_n 0, 1) := by decide +kernel
theorem dX4_allWays_18 : decode cX4_allWays 18 = .ok (.getfield 37, 3) := by decide +kernel
theorem dX4_allWays_21 : decode cX4_allWays 21 = .ok (.iload_n 2, 1) := by decide +kernel
theorem dX4_allWays_22 : decode cX4_allWays 22 = .ok (.aaload, 1) := by decide +kernel
theorem dX4_allWays_23 : decode cX4_allWays 23 = .ok (.iload_n 3, 1) := by decide +kernel
theorem dX4_allWays_24 : decode cX4_allWays 24 = .ok (.iload_n 2, 1) := by decide +kernel
theorem dX4_allWays_25 : decode cX4_allWays 25 = .ok (.iload_n 3, 1) := by decide +kernel
theorem dX4_allWays_26 : decode cX4_allWays 26 = .ok (.iadd, 1) := by decide +kernel
theorem dX4_allWays_27 : decode cX4_allWays 27 = .ok (.ifCond .ne 7, 3) := by decide +kernel
theorem dX4_allWays_30 : decode cX4_allWays 30 = .ok (.iconst 1, 1) := by decide +kernel
theorem dX4_allWays_31 : decode cX4_allWays 31 = .ok (.goto 4, 3) := by decide +kernel
theorem dX4_allWays_34 : decode cX4_allWays 34 = .ok (.iconst 0, 1) := by decide +kernel
theorem dX4_allWays_35 : decode cX4_allWays 35 = .ok (.iastore, 1) := by decide +kernel
theorem dX4_allWays_36 : decode cX4_allWays 36 = .ok (.iinc 3 1, 3) := by decide +kernel
theorem dX4_allWays_39 : decode cX4_allWays 39 = .ok (.goto (-27), 3) := by decide +kernel
theorem dX4_allWays_42 : decode cX4_allWays 42 = .ok (.iinc 2 1, 3) := by decide +kernel
theorem dX4_allWays_45 : decode cX4_allWays 45 = .ok (.goto (-43), 3) := by decide +kernel
theorem dX4_allWays_48 : decode cX4_allWays 48 = .ok (.iconst 0, 1) := by decide +kernel
theorem dX4_allWays_49 : decode cX4_allWays 49 = .ok (.istore_n 2, 1) := by decide +kernel
theorem dX4_allWays_50 : decode cX4_allWays 50 = .ok (.iload_n 2, 1) := by decide +kernel
theorem dX4_allWays_51 : decode cX4_allWays 51 = .ok (.aload_n 0, 1) := by decide +kernel
theorem dX4_allWays_52 : decode cX4_allWays 52 = .ok (.getfield 43, 3) := by decide +kernel
theorem dX4_allWays_55 : decode cX4_allWays 55 = .ok (.if_icmp .ge 75, 3) := by decide +kernel
theorem dX4_allWays_58 : decode cX4_allWays 58 = .ok (.iconst 1, 1) := by decide +kernel
theorem dX4_allWays_59 : decode cX4_allWays 59 = .ok (.istore_n 3, 1) := by decide +kernel
theorem dX4_allWays_60 : decode cX4_allWays 60 = .ok (.iload_n 3, 1) := by decide +kernel
theorem dX4_allWays_61 : decode cX4_allWays 61 = .ok (.aload_n 0, 1) := by decide +kernel
theorem dX4_allWays_62 : decode cX4_allWays 62 = .ok (.getfield 9, 3) := by decide +kernel
theorem dX4_allWays_65 : decode cX4_allWays 65 = .ok (.if_icmp .gt 59, 3) := by decide +kernel
theorem dX4_allWays_68 : decode cX4_allWays 68 = .ok (.aload_n 0, 1) := by decide +kernel
theorem dX4_allWays_69 : decode cX4_allWays 69 = .ok (.getfield 13, 3) := by decide +kernel
theorem dX4_allWays_72 : decode cX4_allWays 72 = .ok (.iload_n 2, 1) := by decide +kernel
theorem dX4_allWays_73 : decode cX4_allWays 73 = .ok (.iaload, 1) := by decide +kernel
theorem dX4_allWays_74 : decode cX4_allWays 74 = .ok (.istore 4, 2) := by decide +kernel
theorem dX4_allWays_76 : decode cX4_allWays 76 = .ok (.iload 4, 2) := by decide +kernel
theorem dX4_allWays_78 : decode cX4_allWays 78 = .ok (.iload_n 1, 1) := by decide +kernel
theorem dX4_allWays_79 : decode cX4_allWays 79 = .ok (.if_icmp .gt 39, 3) := by decide +kernel
theorem dX4_allWays_82 : decode cX4_allWays 82 = .ok (.aload_n 0, 1) := by decide +kernel
theorem dX4_allWays_83 : decode cX4_allWays 83 = .ok (.getfield 37, 3) := by decide +kernel
theorem dX4_allWays_86 : decode cX4_allWays 86 = .ok (.iload_n 3, 1) := by decide +kernel
theorem dX4_allWays_87 : decode cX4_allWays 87 = .ok (.aaload, 1) := by decide +kernel
theorem dX4_allWays_88 : decode cX4_allWays 88 = .ok (.iload 4, 2) := by decide +kernel
theorem dX4_allWays_90 : decode cX4_allWays 90 = .ok (.dup2, 1) := by decide +kernel
theorem dX4_allWays_91 : decode cX4_allWays 91 = .ok (.iaload, 1) := by decide +kernel
theorem dX4_allWays_92 : decode cX4_allWays 92 = .ok (.aload_n 0, 1) := by decide +kernel
theorem dX4_allWays_93 : decode cX4_allWays 93 = .ok (.getfield 37, 3) := by decide +kernel
theorem dX4_allWays_96 : decode cX4_allWays 96 = .ok (.iload_n 3, 1) := by decide +kernel
theorem dX4_allWays_97 : decode cX4_allWays 97 = .ok (.iconst 1, 1) := by decide +kernel
theorem dX4_allWays_98 : decode cX4_allWays 98 = .ok (.isub, 1) := by decide +kernel
theorem dX4_allWays_99 : decode cX4_allWays 99 = .ok (.aaload, 1) := by decide +kernel
theorem dX4_allWays_100 : decode cX4_allWays 100 = .ok (.iload 4, 2) := by decide +kernel
theorem dX4_allWays_102 : decode cX4_allWays 102 = .ok (.aload_n 0, 1) := by decide +kernel
theorem dX4_allWays_103 : decode cX4_allWays 103 = .ok (.getfield 13, 3) := by decide +kernel
theorem dX4_allWays_106 : decode cX4_allWays 106 = .ok (.iload_n 2, 1) := by decide +kernel
theorem dX4_allWays_107 : decode cX4_allWays 107 = .ok (.iaload, 1) := by decide +kernel
theorem dX4_allWays_108 : decode cX4_allWays 108 = .ok (.isub, 1) := by decide +kernel
theorem dX4_allWays_109 : decode cX4_allWays 109 = .ok (.iaload, 1) := by decide +kernel
theorem dX4_allWays_110 : decode cX4_allWays 110 = .ok (.iadd, 1) := by decide +kernel
theorem dX4_allWays_111 : decode cX4_allWays 111 = .ok (.iastore, 1) := by decide +kernel
theorem dX4_allWays_112 : decode cX4_allWays 112 = .ok (.iinc 4 1, 3) := by decide +kernel
theorem dX4_allWays_115 : decode cX4_allWays 115 = .ok (.goto (-39), 3) := by decide +kernel
theorem dX4_allWays_118 : decode cX4_allWays 118 = .ok (.iinc 3 1, 3) := by decide +kernel
theorem dX4_allWays_121 : decode cX4_allWays 121 = .ok (.goto (-61), 3) := by decide +kernel
theorem dX4_allWays_124 : decode cX4_allWays 124 = .ok (.iinc 2 1, 3) := by decide +kernel
theorem dX4_allWays_127 : decode cX4_allWays 127 = .ok (.goto (-77), 3) := by decide +kernel
theorem dX4_allWays_130 : decode cX4_allWays 130 = .ok (.iconst 0, 1) := by decide +kernel
theorem dX4_allWays_131 : decode cX4_allWays 131 = .ok (.istore_n 2, 1) := by decide +kernel
theorem dX4_allWays_132 : decode cX4_allWays 132 = .ok (.iconst 1, 1) := by decide +kernel
theorem dX4_allWays_133 : decode cX4_allWays 133 = .ok (.istore_n 3, 1) := by decide +kernel
theorem dX4_allWays_134 : decode cX4_allWays 134 = .ok (.iload_n 3, 1) := by decide +kernel
theorem dX4_allWays_135 : decode cX4_allWays 135 = .ok (.aload_n 0, 1) := by decide +kernel
theorem dX4_allWays_136 : decode cX4_allWays 136 = .ok (.getfield 9, 3) := by decide +kernel
theorem dX4_allWays_139 : decode cX4_allWays 139 = .ok (.if_icmp .gt 20, 3) := by decide +kernel
theorem dX4_allWays_142 : decode cX4_allWays 142 = .ok (.iload_n 2, 1) := by decide +kernel
theorem dX4_allWays_143 : decode cX4_allWays 143 = .ok (.aload_n 0, 1) := by decide +kernel
theorem dX4_allWays_144 : decode cX4_allWays 144 = .ok (.getfield 37, 3) := by decide +kernel
theorem dX4_allWays_147 : decode cX4_allWays 147 = .ok (.iload_n 3, 1) := by decide +kernel
theorem dX4_allWays_148 : decode cX4_allWays 148 = .ok (.aaload, 1) := by decide +kernel
theorem dX4_allWays_149 : decode cX4_allWays 149 = .ok (.iload_n 1, 1) := by decide +kernel
theorem dX4_allWays_150 : decode cX4_allWays 150 = .ok (.iaload, 1) := by decide +kernel
theorem dX4_allWays_151 : decode cX4_allWays 151 = .ok (.iadd, 1) := by decide +kernel
theorem dX4_allWays_152 : decode cX4_allWays 152 = .ok (.istore_n 2, 1) := by decide +kernel
theorem dX4_allWays_153 : decode cX4_allWays 153 = .ok (.iinc 3 1, 3) := by decide +kernel
theorem dX4_allWays_156 : decode cX4_allWays 156 = .ok (.goto (-22), 3) := by decide +kernel
theorem dX4_allWays_159 : decode cX4_allWays 159 = .ok (.iload_n 2, 1) := by decide +kernel
theorem dX4_allWays_160 : decode cX4_allWays 160 = .ok (.ireturn, 1) := by decide +kernel
theorem dX4_addStamp_0 : decode cX4_addStamp 0 = .ok (.aload_n 0, 1) := by decide +kernel
theorem dX4_addStamp_1 : decode cX4_addStamp 1 = .ok (.iconst 0, 1) := by decide +kernel
theorem dX4_addStamp_2 : decode cX4_addStamp 2 = .ok (.putfield 40, 3) := by decide +kernel
theorem dX4_addStamp_5 : decode cX4_addStamp 5 = .ok (.iload_n 1, 1) := by decide +kernel
theorem dX4_addStamp_6 : decode cX4_addStamp 6 = .ok (.iconst 1, 1) := by decide +kernel
theorem dX4_addStamp_7 : decode cX4_addStamp 7 = .ok (.bipush 60, 2) := by decide +kernel
theorem dX4_addStamp_9 : decode cX4_addStamp 9 = .ok (.invokestatic 46, 3) := by decide +kernel
theorem dX4_addStamp_12 : decode cX4_addStamp 12 = .ok (.ifCond .eq 13, 3) := by decide +kernel
theorem dX4_addStamp_15 : decode cX4_addStamp 15 = .ok (.iload_n 2, 1) := by decide +kernel
theorem dX4_addStamp_16 : decode cX4_addStamp 16 = .ok (.iconst 0, 1) := by decide +kernel
theorem dX4_addStamp_17 : decode cX4_addStamp 17 = .ok (.bipush 99, 2) := by decide +kernel
theorem dX4_addStamp_19 : decode cX4_addStamp 19 = .ok (.invokestatic 46, 3) := by decide +kernel
theorem dX4_addStamp_22 : decode cX4_addStamp 22 = .ok (.ifCond .ne 9, 3) := by decide +kernel
theorem dX4_addStamp_25 : decode cX4_addStamp 25 = .ok (.aload_n 0, 1) := by decide +kernel
theorem dX4_addStamp_26 : decode cX4_addStamp 26 = .ok (.iconst 1, 1) := by decide +kernel
theorem dX4_addStamp_27 : decode cX4_addStamp 27 = .ok (.invokevirtual 80, 3) := by decide +kernel
theorem dX4_addStamp_30 : decode cX4_addStamp 30 = .ok (.ireturn, 1) := by decide +kernel
theorem dX4_addStamp_31 : decode cX4_addStamp 31 = .ok (.aload_n 0, 1) := by decide +kernel
theorem dX4_addStamp_32 : decode cX4_addStamp 32 = .ok (.getfield 43, 3) := by decide +kernel
theorem dX4_addStamp_35 : decode cX4_addStamp 35 = .ok (.bipush 8, 2) := by decide +kernel
theorem dX4_addStamp_37 : decode cX4_addStamp 37 = .ok (.if_icmp .eq 11, 3) := by decide +kernel
theorem dX4_addStamp_40 : decode cX4_addStamp 40 = .ok (.aload_n 0, 1) := by decide +kernel
theorem dX4_addStamp_41 : decode cX4_addStamp 41 = .ok (.iload_n 1, 1) := by decide +kernel
theorem dX4_addStamp_42 : decode cX4_addStamp 42 = .ok (.invokevirtual 83, 3) := by decide +kernel
theorem dX4_addStamp_45 : decode cX4_addStamp 45 = .ok (.ifCond .eq 9, 3) := by decide +kernel
theorem dX4_addStamp_48 : decode cX4_addStamp 48 = .ok (.aload_n 0, 1) := by decide +kernel
theorem dX4_addStamp_49 : decode cX4_addStamp 49 = .ok (.iconst 2, 1) := by decide +kernel
theorem dX4_addStamp_50 : decode cX4_addStamp 50 = .ok (.invokevirtual 80, 3) := by decide +kernel
theorem dX4_addStamp_53 : decode cX4_addStamp 53 = .ok (.ireturn, 1) := by decide +kernel
theorem dX4_addStamp_54 : decode cX4_addStamp 54 = .ok (.aload_n 0, 1) := by decide +kernel
theorem dX4_addStamp_55 : decode cX4_addStamp 55 = .ok (.getfield 13, 3) := by decide +kernel
theorem dX4_addStamp_58 : decode cX4_addStamp 58 = .ok (.aload_n 0, 1) := by decide +kernel
theorem dX4_addStamp_59 : decode cX4_addStamp 59 = .ok (.getfield 43, 3) := by decide +kernel
theorem dX4_addStamp_62 : decode cX4_addStamp 62 = .ok (.iload_n 1, 1) := by decide +kernel
theorem dX4_addStamp_63 : decode cX4_addStamp 63 = .ok (.iastore, 1) := by decide +kernel
theorem dX4_addStamp_64 : decode cX4_addStamp 64 = .ok (.aload_n 0, 1) := by decide +kernel
theorem dX4_addStamp_65 : decode cX4_addStamp 65 = .ok (.getfield 17, 3) := by decide +kernel
theorem dX4_addStamp_68 : decode cX4_addStamp 68 = .ok (.aload_n 0, 1) := by decide +kernel
theorem dX4_addStamp_69 : decode cX4_addStamp 69 = .ok (.getfield 43, 3) := by decide +kernel
theorem dX4_addStamp_72 : decode cX4_addStamp 72 = .ok (.iload_n 2, 1) := by decide +kernel
theorem dX4_addStamp_73 : decode cX4_addStamp 73 = .ok (.iastore, 1) := by decide +kernel
theorem dX4_addStamp_74 : decode cX4_addStamp 74 = .ok (.aload_n 0, 1) := by decide +kernel
theorem dX4_addStamp_75 : decode cX4_addStamp 75 = .ok (.getfield 20, 3) := by decide +kernel
theorem dX4_addStamp_78 : decode cX4_addStamp 78 = .ok (.aload_n 0, 1) := by decide +kernel
theorem dX4_addStamp_79 : decode cX4_addStamp 79 = .ok (.getfield 43, 3) := by decide +kernel
theorem dX4_addStamp_82 : decode cX4_addStamp 82 = .ok (.iconst 0, 1) := by decide +kernel
theorem dX4_addStamp_83 : decode cX4_addStamp 83 = .ok (.iastore, 1) := by decide +kernel
theorem dX4_addStamp_84 : decode cX4_addStamp 84 = .ok (.aload_n 0, 1) := by decide +kernel
theorem dX4_addStamp_85 : decode cX4_addStamp 85 = .ok (.dup, 1) := by decide +kernel
theorem dX4_addStamp_86 : decode cX4_addStamp 86 = .ok (.getfield 43, 3) := by decide +kernel
theorem dX4_addStamp_89 : decode cX4_addStamp 89 = .ok (.iconst 1, 1) := by decide +kernel
theorem dX4_addStamp_90 : decode cX4_addStamp 90 = .ok (.iadd, 1) := by decide +kernel
theorem dX4_addStamp_91 : decode cX4_addStamp 91 = .ok (.putfield 43, 3) := by decide +kernel
theorem dX4_addStamp_94 : decode cX4_addStamp 94 = .ok (.aload_n 0, 1) := by decide +kernel
theorem dX4_addStamp_95 : decode cX4_addStamp 95 = .ok (.getfield 43, 3) := by decide +kernel
theorem dX4_addStamp_98 : decode cX4_addStamp 98 = .ok (.iconst 1, 1) := by decide +kernel
theorem dX4_addStamp_99 : decode cX4_addStamp 99 = .ok (.isub, 1) := by decide +kernel
theorem dX4_addStamp_100 : decode cX4_addStamp 100 = .ok (.ireturn, 1) := by decide +kernel
theorem dX4_close_0 : decode cX4_close 0 = .ok (.iload_n 1, 1) := by decide +kernel
theorem dX4_close_1 : decode cX4_close 1 = .ok (.istore_n 3, 1) := by decide +kernel
theorem dX4_close_2 : decode cX4_close 2 = .ok (.iload_n 3, 1) := by decide +kernel
theorem dX4_close_3 : decode cX4_close 3 = .ok (.iload_n 2, 1) := by decide +kernel
theorem dX4_close_4 : decode cX4_close 4 = .ok (.if_icmp .ge 17, 3) := by decide +kernel
theorem dX4_close_7 : decode cX4_close 7 = .ok (.aload_n 0, 1) := by decide +kernel
theorem dX4_close_8 : decode cX4_close 8 = .ok (.iload_n 3, 1) := by decide +kernel
theorem dX4_close_9 : decode cX4_close 9 = .ok (.aload_n 0, 1) := by decide +kernel
theorem dX4_close_10 : decode cX4_close 10 = .ok (.iload_n 3, 1) := by decide +kernel
theorem dX4_close_11 : decode cX4_close 11 = .ok (.iconst 1, 1) := by decide +kernel
theorem dX4_close_12 : decode cX4_close 12 = .ok (.iadd, 1) := by decide +kernel
theorem dX4_close_13 : decode cX4_close 13 = .ok (.iaload, 1) := by decide +kernel
theorem dX4_close_14 : decode cX4_close 14 = .ok (.iastore, 1) := by decide +kernel
theorem dX4_close_15 : decode cX4_close 15 = .ok (.iinc 3 1, 3) := by decide +kernel
theorem dX4_close_18 : decode cX4_close 18 = .ok (.goto (-16), 3) := by decide +kernel
theorem dX4_close_21 : decode cX4_close 21 = .ok (.return_, 1) := by decide +kernel
theorem dX4_withdraw_0 : decode cX4_withdraw 0 = .ok (.aload_n 0, 1) := by decide +kernel
theorem dX4_withdraw_1 : decode cX4_withdraw 1 = .ok (.iconst 0, 1) := by decide +kernel
theorem dX4_withdraw_2 : decode cX4_withdraw 2 = .ok (.putfield 40, 3) := by decide +kernel
theorem dX4_withdraw_5 : decode cX4_withdraw 5 = .ok (.aload_n 0, 1) := by decide +kernel
theorem dX4_withdraw_6 : decode cX4_withdraw 6 = .ok (.iload_n 1, 1) := by decide +kernel
theorem dX4_withdraw_7 : decode cX4_withdraw 7 = .ok (.invokevirtual 86, 3) := by decide +kernel
theorem dX4_withdraw_10 : decode cX4_withdraw 10 = .ok (.ifCond .ne 9, 3) := by decide +kernel
theorem dX4_withdraw_13 : decode cX4_withdraw 13 = .ok (.aload_n 0, 1) := by decide +kernel
theorem dX4_withdraw_14 : decode cX4_withdraw 14 = .ok (.iconst 1, 1) := by decide +kernel
theorem dX4_withdraw_15 : decode cX4_withdraw 15 = .ok (.invokevirtual 80, 3) := by decide +kernel
theorem dX4_withdraw_18 : decode cX4_withdraw 18 = .ok (.ireturn, 1) := by decide +kernel
theorem dX4_withdraw_19 : decode cX4_withdraw 19 = .ok (.aload_n 0, 1) := by decide +kernel
theorem dX4_withdraw_20 : decode cX4_withdraw 20 = .ok (.getfield 17, 3) := by decide +kernel
theorem dX4_withdraw_23 : decode cX4_withdraw 23 = .ok (.iload_n 1, 1) := by decide +kernel
theorem dX4_withdraw_24 : decode cX4_withdraw 24 = .ok (.iaload, 1) := by decide +kernel
theorem dX4_withdraw_25 : decode cX4_withdraw 25 = .ok (.istore_n 2, 1) := by decide +kernel
theorem dX4_withdraw_26 : decode cX4_withdraw 26 = .ok (.aload_n 0, 1) := by decide +kernel
theorem dX4_withdraw_27 : decode cX4_withdraw 27 = .ok (.dup, 1) := by decide +kernel
theorem dX4_withdraw_28 : decode cX4_withdraw 28 = .ok (.getfield 43, 3) := by decide +kernel
theorem dX4_withdraw_31 : decode cX4_withdraw 31 = .ok (.iconst 1, 1) := by decide +kernel
theorem dX4_withdraw_32 : decode cX4_withdraw 32 = .ok (.isub, 1) := by decide +kernel
theorem dX4_withdraw_33 : decode cX4_withdraw 33 = .ok (.putfield 43, 3) := by decide +kernel
theorem dX4_withdraw_36 : decode cX4_withdraw 36 = .ok (.aload_n 0, 1) := by decide +kernel
theorem dX4_withdraw_37 : decode cX4_withdraw 37 = .ok (.getfield 13, 3) := by decide +kernel
theorem dX4_withdraw_40 : decode cX4_withdraw 40 = .ok (.iload_n 1, 1) := by decide +kernel
theorem dX4_withdraw_41 : decode cX4_withdraw 41 = .ok (.aload_n 0, 1) := by decide +kernel
theorem dX4_withdraw_42 : decode cX4_withdraw 42 = .ok (.getfield 43, 3) := by decide +kernel
theorem dX4_withdraw_45 : decode cX4_withdraw 45 = .ok (.invokestatic 89, 3) := by decide +kernel
theorem dX4_withdraw_48 : decode cX4_withdraw 48 = .ok (.aload_n 0, 1) := by decide +kernel
theorem dX4_withdraw_49 : decode cX4_withdraw 49 = .ok (.getfield 17, 3) := by decide +kernel
theorem dX4_withdraw_52 : decode cX4_withdraw 52 = .ok (.iload_n 1, 1) := by decide +kernel
theorem dX4_withdraw_53 : decode cX4_withdraw 53 = .ok (.aload_n 0, 1) := by decide +kernel
theorem dX4_withdraw_54 : decode cX4_withdraw 54 = .ok (.getfield 43, 3) := by decide +kernel
theorem dX4_withdraw_57 : decode cX4_withdraw 57 = .ok (.invokestatic 89, 3) := by decide +kernel
theorem dX4_withdraw_60 : decode cX4_withdraw 60 = .ok (.aload_n 0, 1) := by decide +kernel
theorem dX4_withdraw_61 : decode cX4_withdraw 61 = .ok (.getfield 20, 3) := by decide +kernel
theorem dX4_withdraw_64 : decode cX4_withdraw 64 = .ok (.iload_n 1, 1) := by decide +kernel
theorem dX4_withdraw_65 : decode cX4_withdraw 65 = .ok (.aload_n 0, 1) := by decide +kernel
theorem dX4_withdraw_66 : decode cX4_withdraw 66 = .ok (.getfield 43, 3) := by decide +kernel
theorem dX4_withdraw_69 : decode cX4_withdraw 69 = .ok (.invokestatic 89, 3) := by decide +kernel
theorem dX4_withdraw_72 : decode cX4_withdraw 72 = .ok (.iload_n 2, 1) := by decide +kernel
theorem dX4_withdraw_73 : decode cX4_withdraw 73 = .ok (.ireturn, 1) := by decide +kernel
theorem dX4_print_0 : decode cX4_print 0 = .ok (.aload_n 0, 1) := by decide +kernel
theorem dX4_print_1 : decode cX4_print 1 = .ok (.iconst 0, 1) := by decide +kernel
theorem dX4_print_2 : decode cX4_print 2 = .ok (.putfield 40, 3) := by decide +kernel
theorem dX4_print_5 : decode cX4_print 5 = .ok (.aload_n 0, 1) := by decide +kernel
theorem dX4_print_6 : decode cX4_print 6 = .ok (.iload_n 1, 1) := by decide +kernel
theorem dX4_print_7 : decode cX4_print 7 = .ok (.invokevirtual 86, 3) := by decide +kernel
theorem dX4_print_10 : decode cX4_print 10 = .ok (.ifCond .ne 9, 3) := by decide +kernel
theorem dX4_print_13 : decode cX4_print 13 = .ok (.aload_n 0, 1) := by decide +kernel
theorem dX4_print_14 : decode cX4_print 14 = .ok (.iconst 1, 1) := by decide +kernel
theorem dX4_print_15 : decode cX4_print 15 = .ok (.invokevirtual 80, 3) := by decide +kernel
theorem dX4_print_18 : decode cX4_print 18 = .ok (.ireturn, 1) := by decide +kernel
theorem dX4_print_19 : decode cX4_print 19 = .ok (.iload_n 2, 1) := by decide +kernel
theorem dX4_print_20 : decode cX4_print 20 = .ok (.iconst 1, 1) := by decide +kernel
theorem dX4_print_21 : decode cX4_print 21 = .ok (.bipush 99, 2) := by decide +kernel
theorem dX4_print_23 : decode cX4_print 23 = .ok (.invokestatic 46, 3) := by decide +kernel
theorem dX4_print_26 : decode cX4_print 26 = .ok (.ifCond .ne 9, 3) := by decide +kernel
theorem dX4_print_29 : decode cX4_print 29 = .ok (.aload_n 0, 1) := by decide +kernel
theorem dX4_print_30 : decode cX4_print 30 = .ok (.iconst 2, 1) := by decide +kernel
theorem dX4_print_31 : decode cX4_print 31 = .ok (.invokevirtual 80, 3) := by decide +kernel
theorem dX4_print_34 : decode cX4_print 34 = .ok (.ireturn, 1) := by decide +kernel
theorem dX4_print_35 : decode cX4_print 35 = .ok (.aload_n 0, 1) := by decide +kernel
theorem dX4_print_36 : decode cX4_print 36 = .ok (.getfield 17, 3) := by decide +kernel
theorem dX4_print_39 : decode cX4_print 39 = .ok (.iload_n 1, 1) := by decide +kernel
theorem dX4_print_40 : decode cX4_print 40 = .ok (.bipush 99, 2) := by decide +kernel
theorem dX4_print_42 : decode cX4_print 42 = .ok (.aload_n 0, 1) := by decide +kernel
theorem dX4_print_43 : decode cX4_print 43 = .ok (.getfield 17, 3) := by decide +kernel
theorem dX4_print_46 : decode cX4_print 46 = .ok (.iload_n 1, 1) := by decide +kernel
theorem dX4_print_47 : decode cX4_print 47 = .ok (.iaload, 1) := by decide +kernel
theorem dX4_print_48 : decode cX4_print 48 = .ok (.iload_n 2, 1) := by decide +kernel
theorem dX4_print_49 : decode cX4_print 49 = .ok (.iadd, 1) := by decide +kernel
theorem dX4_print_50 : decode cX4_print 50 = .ok (.invokestatic 50, 3) := by decide +kernel
theorem dX4_print_53 : decode cX4_print 53 = .ok (.iastore, 1) := by decide +kernel
theorem dX4_print_54 : decode cX4_print 54 = .ok (.aload_n 0, 1) := by decide +kernel
theorem dX4_print_55 : decode cX4_print 55 = .ok (.getfield 17, 3) := by decide +kernel
theorem dX4_print_58 : decode cX4_print 58 = .ok (.iload_n 1, 1) := by decide +kernel
theorem dX4_print_59 : decode cX4_print 59 = .ok (.iaload, 1) := by decide +kernel
theorem dX4_print_60 : decode cX4_print 60 = .ok (.ireturn, 1) := by decide +kernel
theorem dX4_setRoom_0 : decode cX4_setRoom 0 = .ok (.aload_n 0, 1) := by decide +kernel
theorem dX4_setRoom_1 : decode cX4_setRoom 1 = .ok (.iconst 0, 1) := by decide +kernel
theorem dX4_setRoom_2 : decode cX4_setRoom 2 = .ok (.putfield 40, 3) := by decide +kernel
theorem dX4_setRoom_5 : decode cX4_setRoom 5 = .ok (.iload_n 1, 1) := by decide +kernel
theorem dX4_setRoom_6 : decode cX4_setRoom 6 = .ok (.iconst 1, 1) := by decide +kernel
theorem dX4_setRoom_7 : decode cX4_setRoom 7 = .ok (.bipush 12, 2) := by decide +kernel
theorem dX4_setRoom_9 : decode cX4_setRoom 9 = .ok (.invokestatic 46, 3) := by decide +kernel
theorem dX4_setRoom_12 : decode cX4_setRoom 12 = .ok (.ifCond .ne 9, 3) := by decide +kernel
theorem dX4_setRoom_15 : decode cX4_setRoom 15 = .ok (.aload_n 0, 1) := by decide +kernel
theorem dX4_setRoom_16 : decode cX4_setRoom 16 = .ok (.iconst 1, 1) := by decide +kernel
theorem dX4_setRoom_17 : decode cX4_setRoom 17 = .ok (.invokevirtual 80, 3) := by decide +kernel
theorem dX4_setRoom_20 : decode cX4_setRoom 20 = .ok (.ireturn, 1) := by decide +kernel
theorem dX4_setRoom_21 : decode cX4_setRoom 21 = .ok (.aload_n 0, 1) := by decide +kernel
theorem dX4_setRoom_22 : decode cX4_setRoom 22 = .ok (.getfield 9, 3) := by decide +kernel
theorem dX4_setRoom_25 : decode cX4_setRoom 25 = .ok (.istore_n 2, 1) := by decide +kernel
theorem dX4_setRoom_26 : decode cX4_setRoom 26 = .ok (.aload_n 0, 1) := by decide +kernel
theorem dX4_setRoom_27 : decode cX4_setRoom 27 = .ok (.iload_n 1, 1) := by decide +kernel
theorem dX4_setRoom_28 : decode cX4_setRoom 28 = .ok (.putfield 9, 3) := by decide +kernel
theorem dX4_setRoom_31 : decode cX4_setRoom 31 = .ok (.iload_n 2, 1) := by decide +kernel
theorem dX4_setRoom_32 : decode cX4_setRoom 32 = .ok (.ireturn, 1) := by decide +kernel
theorem dX4_vend_0 : decode cX4_vend 0 = .ok (.aload_n 0, 1) := by decide +kernel
theorem dX4_vend_1 : decode cX4_vend 1 = .ok (.iconst 0, 1) := by decide +kernel
theorem dX4_vend_2 : decode cX4_vend 2 = .ok (.putfield 40, 3) := by decide +kernel
theorem dX4_vend_5 : decode cX4_vend 5 = .ok (.iload_n 1, 1) := by decide +kernel
theorem dX4_vend_6 : decode cX4_vend 6 = .ok (.invokestatic 93, 3) := by decide +kernel
theorem dX4_vend_9 : decode cX4_vend 9 = .ok (.ifCond .ne 9, 3) := by decide +kernel
theorem dX4_vend_12 : decode cX4_vend 12 = .ok (.aload_n 0, 1) := by decide +kernel
theorem dX4_vend_13 : decode cX4_vend 13 = .ok (.iconst 1, 1) := by decide +kernel
theorem dX4_vend_14 : decode cX4_vend 14 = .ok (.invokevirtual 80, 3) := by decide +kernel
theorem dX4_vend_17 : decode cX4_vend 17 = .ok (.ireturn, 1) := by decide +kernel
theorem dX4_vend_18 : decode cX4_vend 18 = .ok (.aload_n 0, 1) := by decide +kernel
theorem dX4_vend_19 : decode cX4_vend 19 = .ok (.iload_n 1, 1) := by decide +kernel
theorem dX4_vend_20 : decode cX4_vend 20 = .ok (.invokevirtual 96, 3) := by decide +kernel
theorem dX4_vend_23 : decode cX4_vend 23 = .ok (.istore_n 2, 1) := by decide +kernel
theorem dX4_vend_24 : decode cX4_vend 24 = .ok (.iload_n 2, 1) := by decide +kernel
theorem dX4_vend_25 : decode cX4_vend 25 = .ok (.iconst (-1), 1) := by decide +kernel
theorem dX4_vend_26 : decode cX4_vend 26 = .ok (.if_icmp .ne 9, 3) := by decide +kernel
theorem dX4_vend_29 : decode cX4_vend 29 = .ok (.aload_n 0, 1) := by decide +kernel
theorem dX4_vend_30 : decode cX4_vend 30 = .ok (.iconst 2, 1) := by decide +kernel
theorem dX4_vend_31 : decode cX4_vend 31 = .ok (.invokevirtual 80, 3) := by decide +kernel
theorem dX4_vend_34 : decode cX4_vend 34 = .ok (.ireturn, 1) := by decide +kernel
theorem dX4_vend_35 : decode cX4_vend 35 = .ok (.iconst 0, 1) := by decide +kernel
theorem dX4_vend_36 : decode cX4_vend 36 = .ok (.istore_n 3, 1) := by decide +kernel
theorem dX4_vend_37 : decode cX4_vend 37 = .ok (.iload_n 3, 1) := by decide +kernel
theorem dX4_vend_38 : decode cX4_vend 38 = .ok (.aload_n 0, 1) := by decide +kernel
theorem dX4_vend_39 : decode cX4_vend 39 = .ok (.getfield 43, 3) := by decide +kernel
theorem dX4_vend_42 : decode cX4_vend 42 = .ok (.if_icmp .ge 24, 3) := by decide +kernel
theorem dX4_vend_45 : decode cX4_vend 45 = .ok (.aload_n 0, 1) := by decide +kernel
theorem dX4_vend_46 : decode cX4_vend 46 = .ok (.getfield 20, 3) := by decide +kernel
theorem dX4_vend_49 : decode cX4_vend 49 = .ok (.iload_n 3, 1) := by decide +kernel
theorem dX4_vend_50 : decode cX4_vend 50 = .ok (.dup2, 1) := by decide +kernel
theorem dX4_vend_51 : decode cX4_vend 51 = .ok (.iaload, 1) := by decide +kernel
theorem dX4_vend_52 : decode cX4_vend 52 = .ok (.aload_n 0, 1) := by decide +kernel
theorem dX4_vend_53 : decode cX4_vend 53 = .ok (.getfield 31, 3) := by decide +kernel
theorem dX4_vend_56 : decode cX4_vend 56 = .ok (.iload_n 3, 1) := by decide +kernel
theorem dX4_vend_57 : decode cX4_vend 57 = .ok (.iaload, 1) := by decide +kernel
theorem dX4_vend_58 : decode cX4_vend 58 = .ok (.iadd, 1) := by decide +kernel
theorem dX4_vend_59 : decode cX4_vend 59 = .ok (.iastore, 1) := by decide +kernel
theorem dX4_vend_60 : decode cX4_vend 60 = .ok (.iinc 3 1, 3) := by decide +kernel
theorem dX4_vend_63 : decode cX4_vend 63 = .ok (.goto (-26), 3) := by decide +kernel
theorem dX4_vend_66 : decode cX4_vend 66 = .ok (.aload_n 0, 1) := by decide +kernel
theorem dX4_vend_67 : decode cX4_vend 67 = .ok (.dup, 1) := by decide +kernel
theorem dX4_vend_68 : decode cX4_vend 68 = .ok (.getfield 99, 3) := by decide +kernel
theorem dX4_vend_71 : decode cX4_vend 71 = .ok (.iconst 1, 1) := by decide +kernel
theorem dX4_vend_72 : decode cX4_vend 72 = .ok (.iadd, 1) := by decide +kernel
theorem dX4_vend_73 : decode cX4_vend 73 = .ok (.putfield 99, 3) := by decide +kernel
theorem dX4_vend_76 : decode cX4_vend 76 = .ok (.aload_n 0, 1) := by decide +kernel
theorem dX4_vend_77 : decode cX4_vend 77 = .ok (.dup, 1) := by decide +kernel
theorem dX4_vend_78 : decode cX4_vend 78 = .ok (.getfield 102, 3) := by decide +kernel
theorem dX4_vend_81 : decode cX4_vend 81 = .ok (.iload_n 2, 1) := by decide +kernel
theorem dX4_vend_82 : decode cX4_vend 82 = .ok (.iadd, 1) := by decide +kernel
theorem dX4_vend_83 : decode cX4_vend 83 = .ok (.putfield 102, 3) := by decide +kernel
theorem dX4_vend_86 : decode cX4_vend 86 = .ok (.aload_n 0, 1) := by decide +kernel
theorem dX4_vend_87 : decode cX4_vend 87 = .ok (.dup, 1) := by decide +kernel
theorem dX4_vend_88 : decode cX4_vend 88 = .ok (.getfield 105, 3) := by decide +kernel
theorem dX4_vend_91 : decode cX4_vend 91 = .ok (.iload_n 2, 1) := by decide +kernel
theorem dX4_vend_92 : decode cX4_vend 92 = .ok (.iload_n 1, 1) := by decide +kernel
theorem dX4_vend_93 : decode cX4_vend 93 = .ok (.isub, 1) := by decide +kernel
theorem dX4_vend_94 : decode cX4_vend 94 = .ok (.iadd, 1) := by decide +kernel
theorem dX4_vend_95 : decode cX4_vend 95 = .ok (.putfield 105, 3) := by decide +kernel
theorem dX4_vend_98 : decode cX4_vend 98 = .ok (.iload_n 2, 1) := by decide +kernel
theorem dX4_vend_99 : decode cX4_vend 99 = .ok (.iload_n 1, 1) := by decide +kernel
theorem dX4_vend_100 : decode cX4_vend 100 = .ok (.isub, 1) := by decide +kernel
theorem dX4_vend_101 : decode cX4_vend 101 = .ok (.ireturn, 1) := by decide +kernel
theorem dX4_stamps_0 : decode cX4_stamps 0 = .ok (.aload_n 0, 1) := by decide +kernel
theorem dX4_stamps_1 : decode cX4_stamps 1 = .ok (.aload_n 0, 1) := by decide +kernel
theorem dX4_stamps_2 : decode cX4_stamps 2 = .ok (.getfield 43, 3) := by decide +kernel
theorem dX4_stamps_5 : decode cX4_stamps 5 = .ok (.invokevirtual 108, 3) := by decide +kernel
theorem dX4_stamps_8 : decode cX4_stamps 8 = .ok (.ireturn, 1) := by decide +kernel
theorem dX4_room_0 : decode cX4_room 0 = .ok (.aload_n 0, 1) := by decide +kernel
theorem dX4_room_1 : decode cX4_room 1 = .ok (.aload_n 0, 1) := by decide +kernel
theorem dX4_room_2 : decode cX4_room 2 = .ok (.getfield 9, 3) := by decide +kernel
theorem dX4_room_5 : decode cX4_room 5 = .ok (.invokevirtual 108, 3) := by decide +kernel
theorem dX4_room_8 : decode cX4_room 8 = .ok (.ireturn, 1) := by decide +kernel
theorem dX4_of_0 : decode cX4_of 0 = .ok (.aload_n 0, 1) := by decide +kernel
theorem dX4_of_1 : decode cX4_of 1 = .ok (.iconst 0, 1) := by decide +kernel
theorem dX4_of_2 : decode cX4_of 2 = .ok (.putfield 40, 3) := by decide +kernel
theorem dX4_of_5 : decode cX4_of 5 = .ok (.aload_n 0, 1) := by decide +kernel
theorem dX4_of_6 : decode cX4_of 6 = .ok (.iload_n 1, 1) := by decide +kernel
theorem dX4_of_7 : decode cX4_of 7 = .ok (.invokevirtual 86, 3) := by decide +kernel
theorem dX4_of_10 : decode cX4_of 10 = .ok (.ifCond .eq 9, 3) := by decide +kernel
theorem dX4_of_13 : decode cX4_of 13 = .ok (.aload_n 2, 1) := by decide +kernel
theorem dX4_of_14 : decode cX4_of 14 = .ok (.iload_n 1, 1) := by decide +kernel
theorem dX4_of_15 : decode cX4_of 15 = .ok (.iaload, 1) := by decide +kernel
theorem dX4_of_16 : decode cX4_of 16 = .ok (.goto 8, 3) := by decide +kernel
theorem dX4_of_19 : decode cX4_of 19 = .ok (.aload_n 0, 1) := by decide +kernel
theorem dX4_of_20 : decode cX4_of 20 = .ok (.iconst 1, 1) := by decide +kernel
theorem dX4_of_21 : decode cX4_of 21 = .ok (.invokevirtual 80, 3) := by decide +kernel
theorem dX4_of_24 : decode cX4_of 24 = .ok (.ireturn, 1) := by decide +kernel
theorem dX4_valueOf_0 : decode cX4_valueOf 0 = .ok (.aload_n 0, 1) := by decide +kernel
theorem dX4_valueOf_1 : decode cX4_valueOf 1 = .ok (.iload_n 1, 1) := by decide +kernel
theorem dX4_valueOf_2 : decode cX4_valueOf 2 = .ok (.aload_n 0, 1) := by decide +kernel
theorem dX4_valueOf_3 : decode cX4_valueOf 3 = .ok (.getfield 13, 3) := by decide +kernel
theorem dX4_valueOf_6 : decode cX4_valueOf 6 = .ok (.invokevirtual 111, 3) := by decide +kernel
theorem dX4_valueOf_9 : decode cX4_valueOf 9 = .ok (.ireturn, 1) := by decide +kernel
theorem dX4_stockOf_0 : decode cX4_stockOf 0 = .ok (.aload_n 0, 1) := by decide +kernel
theorem dX4_stockOf_1 : decode cX4_stockOf 1 = .ok (.iload_n 1, 1) := by decide +kernel
theorem dX4_stockOf_2 : decode cX4_stockOf 2 = .ok (.aload_n 0, 1) := by decide +kernel
end
section
theorem dX4_stockOf_3 : decode cX4_stockOf 3 = .ok (.getfield 17, 3) := by decide +kernel
theorem dX4_stockOf_6 : decode cX4_stockOf 6 = .ok (.invokevirtual 111, 3) := by decide +kernel
theorem dX4_stockOf_9 : decode cX4_stockOf 9 = .ok (.ireturn, 1) := by decide +kernel
theorem dX4_vendedOf_0 : decode cX4_vendedOf 0 = .ok (.aload_n 0, 1) := by decide +kernel
theorem dX4_vendedOf_1 : decode cX4_vendedOf 1 = .ok (.iload_n 1, 1) := by decide +kernel
theorem dX4_vendedOf_2 : decode cX4_vendedOf 2 = .ok (.aload_n 0, 1) := by decide +kernel
theorem dX4_vendedOf_3 : decode cX4_vendedOf 3 = .ok (.getfield 20, 3) := by decide +kernel
theorem dX4_vendedOf_6 : decode cX4_vendedOf 6 = .ok (.invokevirtual 111, 3) := by decide +kernel
theorem dX4_vendedOf_9 : decode cX4_vendedOf 9 = .ok (.ireturn, 1) := by decide +kernel
theorem dX4_letters_0 : decode cX4_letters 0 = .ok (.aload_n 0, 1) := by decide +kernel
theorem dX4_letters_1 : decode cX4_letters 1 = .ok (.aload_n 0, 1) := by decide +kernel
theorem dX4_letters_2 : decode cX4_letters 2 = .ok (.getfield 99, 3) := by decide +kernel
theorem dX4_letters_5 : decode cX4_letters 5 = .ok (.invokevirtual 108, 3) := by decide +kernel
theorem dX4_letters_8 : decode cX4_letters 8 = .ok (.ireturn, 1) := by decide +kernel
theorem dX4_taken_0 : decode cX4_taken 0 = .ok (.aload_n 0, 1) := by decide +kernel
theorem dX4_taken_1 : decode cX4_taken 1 = .ok (.aload_n 0, 1) := by decide +kernel
theorem dX4_taken_2 : decode cX4_taken 2 = .ok (.getfield 102, 3) := by decide +kernel
theorem dX4_taken_5 : decode cX4_taken 5 = .ok (.invokevirtual 108, 3) := by decide +kernel
theorem dX4_taken_8 : decode cX4_taken 8 = .ok (.ireturn, 1) := by decide +kernel
theorem dX4_overpaid_0 : decode cX4_overpaid 0 = .ok (.aload_n 0, 1) := by decide +kernel
theorem dX4_overpaid_1 : decode cX4_overpaid 1 = .ok (.aload_n 0, 1) := by decide +kernel
theorem dX4_overpaid_2 : decode cX4_overpaid 2 = .ok (.getfield 105, 3) := by decide +kernel
theorem dX4_overpaid_5 : decode cX4_overpaid 5 = .ok (.invokevirtual 108, 3) := by decide +kernel
theorem dX4_overpaid_8 : decode cX4_overpaid 8 = .ok (.ireturn, 1) := by decide +kernel
theorem dX4_scarce_0 : decode cX4_scarce 0 = .ok (.iconst (-1), 1) := by decide +kernel
theorem dX4_scarce_1 : decode cX4_scarce 1 = .ok (.istore_n 1, 1) := by decide +kernel
theorem dX4_scarce_2 : decode cX4_scarce 2 = .ok (.iconst 0, 1) := by decide +kernel
theorem dX4_scarce_3 : decode cX4_scarce 3 = .ok (.istore_n 2, 1) := by decide +kernel
theorem dX4_scarce_4 : decode cX4_scarce 4 = .ok (.iload_n 2, 1) := by decide +kernel
theorem dX4_scarce_5 : decode cX4_scarce 5 = .ok (.aload_n 0, 1) := by decide +kernel
theorem dX4_scarce_6 : decode cX4_scarce 6 = .ok (.getfield 43, 3) := by decide +kernel
theorem dX4_scarce_9 : decode cX4_scarce 9 = .ok (.if_icmp .ge 31, 3) := by decide +kernel
theorem dX4_scarce_12 : decode cX4_scarce 12 = .ok (.iload_n 1, 1) := by decide +kernel
theorem dX4_scarce_13 : decode cX4_scarce 13 = .ok (.iconst (-1), 1) := by decide +kernel
theorem dX4_scarce_14 : decode cX4_scarce 14 = .ok (.if_icmp .eq 18, 3) := by decide +kernel
theorem dX4_scarce_17 : decode cX4_scarce 17 = .ok (.aload_n 0, 1) := by decide +kernel
theorem dX4_scarce_18 : decode cX4_scarce 18 = .ok (.getfield 17, 3) := by decide +kernel
theorem dX4_scarce_21 : decode cX4_scarce 21 = .ok (.iload_n 2, 1) := by decide +kernel
theorem dX4_scarce_22 : decode cX4_scarce 22 = .ok (.iaload, 1) := by decide +kernel
theorem dX4_scarce_23 : decode cX4_scarce 23 = .ok (.aload_n 0, 1) := by decide +kernel
theorem dX4_scarce_24 : decode cX4_scarce 24 = .ok (.getfield 17, 3) := by decide +kernel
theorem dX4_scarce_27 : decode cX4_scarce 27 = .ok (.iload_n 1, 1) := by decide +kernel
theorem dX4_scarce_28 : decode cX4_scarce 28 = .ok (.iaload, 1) := by decide +kernel
theorem dX4_scarce_29 : decode cX4_scarce 29 = .ok (.if_icmp .ge 5, 3) := by decide +kernel
theorem dX4_scarce_32 : decode cX4_scarce 32 = .ok (.iload_n 2, 1) := by decide +kernel
theorem dX4_scarce_33 : decode cX4_scarce 33 = .ok (.istore_n 1, 1) := by decide +kernel
theorem dX4_scarce_34 : decode cX4_scarce 34 = .ok (.iinc 2 1, 3) := by decide +kernel
theorem dX4_scarce_37 : decode cX4_scarce 37 = .ok (.goto (-33), 3) := by decide +kernel
theorem dX4_scarce_40 : decode cX4_scarce 40 = .ok (.iload_n 1, 1) := by decide +kernel
theorem dX4_scarce_41 : decode cX4_scarce 41 = .ok (.ireturn, 1) := by decide +kernel
theorem dX4_scarcest_0 : decode cX4_scarcest 0 = .ok (.aload_n 0, 1) := by decide +kernel
theorem dX4_scarcest_1 : decode cX4_scarcest 1 = .ok (.aload_n 0, 1) := by decide +kernel
theorem dX4_scarcest_2 : decode cX4_scarcest 2 = .ok (.invokevirtual 115, 3) := by decide +kernel
theorem dX4_scarcest_5 : decode cX4_scarcest 5 = .ok (.invokevirtual 108, 3) := by decide +kernel
theorem dX4_scarcest_8 : decode cX4_scarcest 8 = .ok (.ireturn, 1) := by decide +kernel
theorem dX4_canPay_0 : decode cX4_canPay 0 = .ok (.aload_n 0, 1) := by decide +kernel
theorem dX4_canPay_1 : decode cX4_canPay 1 = .ok (.iconst 0, 1) := by decide +kernel
theorem dX4_canPay_2 : decode cX4_canPay 2 = .ok (.putfield 40, 3) := by decide +kernel
theorem dX4_canPay_5 : decode cX4_canPay 5 = .ok (.iload_n 1, 1) := by decide +kernel
theorem dX4_canPay_6 : decode cX4_canPay 6 = .ok (.invokestatic 93, 3) := by decide +kernel
theorem dX4_canPay_9 : decode cX4_canPay 9 = .ok (.ifCond .ne 9, 3) := by decide +kernel
theorem dX4_canPay_12 : decode cX4_canPay 12 = .ok (.aload_n 0, 1) := by decide +kernel
theorem dX4_canPay_13 : decode cX4_canPay 13 = .ok (.iconst 1, 1) := by decide +kernel
theorem dX4_canPay_14 : decode cX4_canPay 14 = .ok (.invokevirtual 119, 3) := by decide +kernel
theorem dX4_canPay_17 : decode cX4_canPay 17 = .ok (.ireturn, 1) := by decide +kernel
theorem dX4_canPay_18 : decode cX4_canPay 18 = .ok (.aload_n 0, 1) := by decide +kernel
theorem dX4_canPay_19 : decode cX4_canPay 19 = .ok (.invokevirtual 67, 3) := by decide +kernel
theorem dX4_canPay_22 : decode cX4_canPay 22 = .ok (.aload_n 0, 1) := by decide +kernel
theorem dX4_canPay_23 : decode cX4_canPay 23 = .ok (.iload_n 1, 1) := by decide +kernel
theorem dX4_canPay_24 : decode cX4_canPay 24 = .ok (.invokevirtual 63, 3) := by decide +kernel
theorem dX4_canPay_27 : decode cX4_canPay 27 = .ok (.ireturn, 1) := by decide +kernel
theorem dX4_over_0 : decode cX4_over 0 = .ok (.aload_n 0, 1) := by decide +kernel
theorem dX4_over_1 : decode cX4_over 1 = .ok (.iload_n 1, 1) := by decide +kernel
theorem dX4_over_2 : decode cX4_over 2 = .ok (.invokevirtual 70, 3) := by decide +kernel
theorem dX4_over_5 : decode cX4_over 5 = .ok (.istore_n 2, 1) := by decide +kernel
theorem dX4_over_6 : decode cX4_over 6 = .ok (.iload_n 2, 1) := by decide +kernel
theorem dX4_over_7 : decode cX4_over 7 = .ok (.iconst (-1), 1) := by decide +kernel
theorem dX4_over_8 : decode cX4_over 8 = .ok (.if_icmp .ne 7, 3) := by decide +kernel
theorem dX4_over_11 : decode cX4_over 11 = .ok (.iconst (-1), 1) := by decide +kernel
theorem dX4_over_12 : decode cX4_over 12 = .ok (.goto 6, 3) := by decide +kernel
theorem dX4_over_15 : decode cX4_over 15 = .ok (.iload_n 2, 1) := by decide +kernel
theorem dX4_over_16 : decode cX4_over 16 = .ok (.iload_n 1, 1) := by decide +kernel
theorem dX4_over_17 : decode cX4_over 17 = .ok (.isub, 1) := by decide +kernel
theorem dX4_over_18 : decode cX4_over 18 = .ok (.ireturn, 1) := by decide +kernel
theorem dX4_overpay_0 : decode cX4_overpay 0 = .ok (.aload_n 0, 1) := by decide +kernel
theorem dX4_overpay_1 : decode cX4_overpay 1 = .ok (.iconst 0, 1) := by decide +kernel
theorem dX4_overpay_2 : decode cX4_overpay 2 = .ok (.putfield 40, 3) := by decide +kernel
theorem dX4_overpay_5 : decode cX4_overpay 5 = .ok (.iload_n 1, 1) := by decide +kernel
theorem dX4_overpay_6 : decode cX4_overpay 6 = .ok (.invokestatic 93, 3) := by decide +kernel
theorem dX4_overpay_9 : decode cX4_overpay 9 = .ok (.ifCond .ne 9, 3) := by decide +kernel
theorem dX4_overpay_12 : decode cX4_overpay 12 = .ok (.aload_n 0, 1) := by decide +kernel
theorem dX4_overpay_13 : decode cX4_overpay 13 = .ok (.iconst 1, 1) := by decide +kernel
theorem dX4_overpay_14 : decode cX4_overpay 14 = .ok (.invokevirtual 80, 3) := by decide +kernel
theorem dX4_overpay_17 : decode cX4_overpay 17 = .ok (.ireturn, 1) := by decide +kernel
theorem dX4_overpay_18 : decode cX4_overpay 18 = .ok (.aload_n 0, 1) := by decide +kernel
theorem dX4_overpay_19 : decode cX4_overpay 19 = .ok (.invokevirtual 67, 3) := by decide +kernel
theorem dX4_overpay_22 : decode cX4_overpay 22 = .ok (.aload_n 0, 1) := by decide +kernel
theorem dX4_overpay_23 : decode cX4_overpay 23 = .ok (.iload_n 1, 1) := by decide +kernel
theorem dX4_overpay_24 : decode cX4_overpay 24 = .ok (.invokevirtual 122, 3) := by decide +kernel
theorem dX4_overpay_27 : decode cX4_overpay 27 = .ok (.ireturn, 1) := by decide +kernel
theorem dX4_many_0 : decode cX4_many 0 = .ok (.aload_n 0, 1) := by decide +kernel
theorem dX4_many_1 : decode cX4_many 1 = .ok (.iload_n 1, 1) := by decide +kernel
theorem dX4_many_2 : decode cX4_many 2 = .ok (.invokevirtual 70, 3) := by decide +kernel
theorem dX4_many_5 : decode cX4_many 5 = .ok (.istore_n 2, 1) := by decide +kernel
theorem dX4_many_6 : decode cX4_many 6 = .ok (.iload_n 2, 1) := by decide +kernel
theorem dX4_many_7 : decode cX4_many 7 = .ok (.iconst (-1), 1) := by decide +kernel
theorem dX4_many_8 : decode cX4_many 8 = .ok (.if_icmp .ne 7, 3) := by decide +kernel
theorem dX4_many_11 : decode cX4_many 11 = .ok (.iconst 0, 1) := by decide +kernel
theorem dX4_many_12 : decode cX4_many 12 = .ok (.goto 14, 3) := by decide +kernel
theorem dX4_many_15 : decode cX4_many 15 = .ok (.aload_n 0, 1) := by decide +kernel
theorem dX4_many_16 : decode cX4_many 16 = .ok (.getfield 28, 3) := by decide +kernel
theorem dX4_many_19 : decode cX4_many 19 = .ok (.aload_n 0, 1) := by decide +kernel
theorem dX4_many_20 : decode cX4_many 20 = .ok (.getfield 43, 3) := by decide +kernel
theorem dX4_many_23 : decode cX4_many 23 = .ok (.aaload, 1) := by decide +kernel
theorem dX4_many_24 : decode cX4_many 24 = .ok (.iload_n 2, 1) := by decide +kernel
theorem dX4_many_25 : decode cX4_many 25 = .ok (.iaload, 1) := by decide +kernel
theorem dX4_many_26 : decode cX4_many 26 = .ok (.ireturn, 1) := by decide +kernel
theorem dX4_stampsFor_0 : decode cX4_stampsFor 0 = .ok (.aload_n 0, 1) := by decide +kernel
theorem dX4_stampsFor_1 : decode cX4_stampsFor 1 = .ok (.iconst 0, 1) := by decide +kernel
theorem dX4_stampsFor_2 : decode cX4_stampsFor 2 = .ok (.putfield 40, 3) := by decide +kernel
theorem dX4_stampsFor_5 : decode cX4_stampsFor 5 = .ok (.iload_n 1, 1) := by decide +kernel
theorem dX4_stampsFor_6 : decode cX4_stampsFor 6 = .ok (.invokestatic 93, 3) := by decide +kernel
theorem dX4_stampsFor_9 : decode cX4_stampsFor 9 = .ok (.ifCond .ne 9, 3) := by decide +kernel
theorem dX4_stampsFor_12 : decode cX4_stampsFor 12 = .ok (.aload_n 0, 1) := by decide +kernel
theorem dX4_stampsFor_13 : decode cX4_stampsFor 13 = .ok (.iconst 1, 1) := by decide +kernel
theorem dX4_stampsFor_14 : decode cX4_stampsFor 14 = .ok (.invokevirtual 80, 3) := by decide +kernel
theorem dX4_stampsFor_17 : decode cX4_stampsFor 17 = .ok (.ireturn, 1) := by decide +kernel
theorem dX4_stampsFor_18 : decode cX4_stampsFor 18 = .ok (.aload_n 0, 1) := by decide +kernel
theorem dX4_stampsFor_19 : decode cX4_stampsFor 19 = .ok (.invokevirtual 67, 3) := by decide +kernel
theorem dX4_stampsFor_22 : decode cX4_stampsFor 22 = .ok (.aload_n 0, 1) := by decide +kernel
theorem dX4_stampsFor_23 : decode cX4_stampsFor 23 = .ok (.iload_n 1, 1) := by decide +kernel
theorem dX4_stampsFor_24 : decode cX4_stampsFor 24 = .ok (.invokevirtual 125, 3) := by decide +kernel
theorem dX4_stampsFor_27 : decode cX4_stampsFor 27 = .ok (.ireturn, 1) := by decide +kernel
theorem dX4_ofStampFor_0 : decode cX4_ofStampFor 0 = .ok (.aload_n 0, 1) := by decide +kernel
theorem dX4_ofStampFor_1 : decode cX4_ofStampFor 1 = .ok (.iconst 0, 1) := by decide +kernel
theorem dX4_ofStampFor_2 : decode cX4_ofStampFor 2 = .ok (.putfield 40, 3) := by decide +kernel
theorem dX4_ofStampFor_5 : decode cX4_ofStampFor 5 = .ok (.aload_n 0, 1) := by decide +kernel
theorem dX4_ofStampFor_6 : decode cX4_ofStampFor 6 = .ok (.iload_n 2, 1) := by decide +kernel
theorem dX4_ofStampFor_7 : decode cX4_ofStampFor 7 = .ok (.invokevirtual 86, 3) := by decide +kernel
theorem dX4_ofStampFor_10 : decode cX4_ofStampFor 10 = .ok (.ifCond .ne 9, 3) := by decide +kernel
theorem dX4_ofStampFor_13 : decode cX4_ofStampFor 13 = .ok (.aload_n 0, 1) := by decide +kernel
theorem dX4_ofStampFor_14 : decode cX4_ofStampFor 14 = .ok (.iconst 1, 1) := by decide +kernel
theorem dX4_ofStampFor_15 : decode cX4_ofStampFor 15 = .ok (.invokevirtual 80, 3) := by decide +kernel
theorem dX4_ofStampFor_18 : decode cX4_ofStampFor 18 = .ok (.ireturn, 1) := by decide +kernel
theorem dX4_ofStampFor_19 : decode cX4_ofStampFor 19 = .ok (.iload_n 1, 1) := by decide +kernel
theorem dX4_ofStampFor_20 : decode cX4_ofStampFor 20 = .ok (.invokestatic 93, 3) := by decide +kernel
theorem dX4_ofStampFor_23 : decode cX4_ofStampFor 23 = .ok (.ifCond .ne 9, 3) := by decide +kernel
theorem dX4_ofStampFor_26 : decode cX4_ofStampFor 26 = .ok (.aload_n 0, 1) := by decide +kernel
theorem dX4_ofStampFor_27 : decode cX4_ofStampFor 27 = .ok (.iconst 2, 1) := by decide +kernel
theorem dX4_ofStampFor_28 : decode cX4_ofStampFor 28 = .ok (.invokevirtual 80, 3) := by decide +kernel
theorem dX4_ofStampFor_31 : decode cX4_ofStampFor 31 = .ok (.ireturn, 1) := by decide +kernel
theorem dX4_ofStampFor_32 : decode cX4_ofStampFor 32 = .ok (.aload_n 0, 1) := by decide +kernel
theorem dX4_ofStampFor_33 : decode cX4_ofStampFor 33 = .ok (.invokevirtual 67, 3) := by decide +kernel
theorem dX4_ofStampFor_36 : decode cX4_ofStampFor 36 = .ok (.aload_n 0, 1) := by decide +kernel
theorem dX4_ofStampFor_37 : decode cX4_ofStampFor 37 = .ok (.iload_n 1, 1) := by decide +kernel
theorem dX4_ofStampFor_38 : decode cX4_ofStampFor 38 = .ok (.invokevirtual 70, 3) := by decide +kernel
theorem dX4_ofStampFor_41 : decode cX4_ofStampFor 41 = .ok (.istore_n 3, 1) := by decide +kernel
theorem dX4_ofStampFor_42 : decode cX4_ofStampFor 42 = .ok (.iload_n 3, 1) := by decide +kernel
theorem dX4_ofStampFor_43 : decode cX4_ofStampFor 43 = .ok (.iconst (-1), 1) := by decide +kernel
theorem dX4_ofStampFor_44 : decode cX4_ofStampFor 44 = .ok (.if_icmp .ne 5, 3) := by decide +kernel
theorem dX4_ofStampFor_47 : decode cX4_ofStampFor 47 = .ok (.iconst 0, 1) := by decide +kernel
theorem dX4_ofStampFor_48 : decode cX4_ofStampFor 48 = .ok (.ireturn, 1) := by decide +kernel
theorem dX4_ofStampFor_49 : decode cX4_ofStampFor 49 = .ok (.aload_n 0, 1) := by decide +kernel
theorem dX4_ofStampFor_50 : decode cX4_ofStampFor 50 = .ok (.iload_n 3, 1) := by decide +kernel
theorem dX4_ofStampFor_51 : decode cX4_ofStampFor 51 = .ok (.invokevirtual 74, 3) := by decide +kernel
theorem dX4_ofStampFor_54 : decode cX4_ofStampFor 54 = .ok (.aload_n 0, 1) := by decide +kernel
theorem dX4_ofStampFor_55 : decode cX4_ofStampFor 55 = .ok (.getfield 31, 3) := by decide +kernel
theorem dX4_ofStampFor_58 : decode cX4_ofStampFor 58 = .ok (.iload_n 2, 1) := by decide +kernel
theorem dX4_ofStampFor_59 : decode cX4_ofStampFor 59 = .ok (.iaload, 1) := by decide +kernel
theorem dX4_ofStampFor_60 : decode cX4_ofStampFor 60 = .ok (.ireturn, 1) := by decide +kernel
theorem dX4_reachNow_0 : decode cX4_reachNow 0 = .ok (.aload_n 0, 1) := by decide +kernel
theorem dX4_reachNow_1 : decode cX4_reachNow 1 = .ok (.aload_n 0, 1) := by decide +kernel
theorem dX4_reachNow_2 : decode cX4_reachNow 2 = .ok (.invokevirtual 128, 3) := by decide +kernel
theorem dX4_reachNow_5 : decode cX4_reachNow 5 = .ok (.invokevirtual 108, 3) := by decide +kernel
theorem dX4_reachNow_8 : decode cX4_reachNow 8 = .ok (.ireturn, 1) := by decide +kernel
theorem dX4_greatest_0 : decode cX4_greatest 0 = .ok (.aload_n 0, 1) := by decide +kernel
theorem dX4_greatest_1 : decode cX4_greatest 1 = .ok (.invokevirtual 56, 3) := by decide +kernel
theorem dX4_greatest_4 : decode cX4_greatest 4 = .ok (.aload_n 0, 1) := by decide +kernel
theorem dX4_greatest_5 : decode cX4_greatest 5 = .ok (.getfield 9, 3) := by decide +kernel
theorem dX4_greatest_8 : decode cX4_greatest 8 = .ok (.istore_n 1, 1) := by decide +kernel
theorem dX4_greatest_9 : decode cX4_greatest 9 = .ok (.iconst 0, 1) := by decide +kernel
theorem dX4_greatest_10 : decode cX4_greatest 10 = .ok (.istore_n 2, 1) := by decide +kernel
theorem dX4_greatest_11 : decode cX4_greatest 11 = .ok (.aload_n 0, 1) := by decide +kernel
theorem dX4_greatest_12 : decode cX4_greatest 12 = .ok (.getfield 43, 3) := by decide +kernel
theorem dX4_greatest_15 : decode cX4_greatest 15 = .ok (.iconst 1, 1) := by decide +kernel
theorem dX4_greatest_16 : decode cX4_greatest 16 = .ok (.isub, 1) := by decide +kernel
theorem dX4_greatest_17 : decode cX4_greatest 17 = .ok (.istore_n 3, 1) := by decide +kernel
theorem dX4_greatest_18 : decode cX4_greatest 18 = .ok (.iload_n 3, 1) := by decide +kernel
theorem dX4_greatest_19 : decode cX4_greatest 19 = .ok (.ifCond .lt 48, 3) := by decide +kernel
theorem dX4_greatest_22 : decode cX4_greatest 22 = .ok (.iload_n 1, 1) := by decide +kernel
theorem dX4_greatest_23 : decode cX4_greatest 23 = .ok (.aload_n 0, 1) := by decide +kernel
theorem dX4_greatest_24 : decode cX4_greatest 24 = .ok (.getfield 17, 3) := by decide +kernel
theorem dX4_greatest_27 : decode cX4_greatest 27 = .ok (.aload_n 0, 1) := by decide +kernel
theorem dX4_greatest_28 : decode cX4_greatest 28 = .ok (.getfield 23, 3) := by decide +kernel
theorem dX4_greatest_31 : decode cX4_greatest 31 = .ok (.iload_n 3, 1) := by decide +kernel
theorem dX4_greatest_32 : decode cX4_greatest 32 = .ok (.iaload, 1) := by decide +kernel
theorem dX4_greatest_33 : decode cX4_greatest 33 = .ok (.iaload, 1) := by decide +kernel
theorem dX4_greatest_34 : decode cX4_greatest 34 = .ok (.invokestatic 50, 3) := by decide +kernel
theorem dX4_greatest_37 : decode cX4_greatest 37 = .ok (.istore 4, 2) := by decide +kernel
theorem dX4_greatest_39 : decode cX4_greatest 39 = .ok (.iload_n 2, 1) := by decide +kernel
theorem dX4_greatest_40 : decode cX4_greatest 40 = .ok (.iload 4, 2) := by decide +kernel
theorem dX4_greatest_42 : decode cX4_greatest 42 = .ok (.aload_n 0, 1) := by decide +kernel
theorem dX4_greatest_43 : decode cX4_greatest 43 = .ok (.getfield 13, 3) := by decide +kernel
theorem dX4_greatest_46 : decode cX4_greatest 46 = .ok (.aload_n 0, 1) := by decide +kernel
theorem dX4_greatest_47 : decode cX4_greatest 47 = .ok (.getfield 23, 3) := by decide +kernel
theorem dX4_greatest_50 : decode cX4_greatest 50 = .ok (.iload_n 3, 1) := by decide +kernel
theorem dX4_greatest_51 : decode cX4_greatest 51 = .ok (.iaload, 1) := by decide +kernel
theorem dX4_greatest_52 : decode cX4_greatest 52 = .ok (.iaload, 1) := by decide +kernel
theorem dX4_greatest_53 : decode cX4_greatest 53 = .ok (.imul, 1) := by decide +kernel
theorem dX4_greatest_54 : decode cX4_greatest 54 = .ok (.iadd, 1) := by decide +kernel
theorem dX4_greatest_55 : decode cX4_greatest 55 = .ok (.istore_n 2, 1) := by decide +kernel
theorem dX4_greatest_56 : decode cX4_greatest 56 = .ok (.iload_n 1, 1) := by decide +kernel
theorem dX4_greatest_57 : decode cX4_greatest 57 = .ok (.iload 4, 2) := by decide +kernel
theorem dX4_greatest_59 : decode cX4_greatest 59 = .ok (.isub, 1) := by decide +kernel
theorem dX4_greatest_60 : decode cX4_greatest 60 = .ok (.istore_n 1, 1) := by decide +kernel
theorem dX4_greatest_61 : decode cX4_greatest 61 = .ok (.iinc 3 (-1), 3) := by decide +kernel
theorem dX4_greatest_64 : decode cX4_greatest 64 = .ok (.goto (-46), 3) := by decide +kernel
theorem dX4_greatest_67 : decode cX4_greatest 67 = .ok (.iload_n 2, 1) := by decide +kernel
theorem dX4_greatest_68 : decode cX4_greatest 68 = .ok (.ireturn, 1) := by decide +kernel
theorem dX4_most_0 : decode cX4_most 0 = .ok (.aload_n 0, 1) := by decide +kernel
theorem dX4_most_1 : decode cX4_most 1 = .ok (.aload_n 0, 1) := by decide +kernel
theorem dX4_most_2 : decode cX4_most 2 = .ok (.invokevirtual 131, 3) := by decide +kernel
theorem dX4_most_5 : decode cX4_most 5 = .ok (.invokevirtual 108, 3) := by decide +kernel
theorem dX4_most_8 : decode cX4_most 8 = .ok (.ireturn, 1) := by decide +kernel
theorem dX4_fewestFor_0 : decode cX4_fewestFor 0 = .ok (.aload_n 0, 1) := by decide +kernel
theorem dX4_fewestFor_1 : decode cX4_fewestFor 1 = .ok (.getfield 34, 3) := by decide +kernel
theorem dX4_fewestFor_4 : decode cX4_fewestFor 4 = .ok (.iload_n 1, 1) := by decide +kernel
theorem dX4_fewestFor_5 : decode cX4_fewestFor 5 = .ok (.iaload, 1) := by decide +kernel
theorem dX4_fewestFor_6 : decode cX4_fewestFor 6 = .ok (.aload_n 0, 1) := by decide +kernel
theorem dX4_fewestFor_7 : decode cX4_fewestFor 7 = .ok (.getfield 9, 3) := by decide +kernel
theorem dX4_fewestFor_10 : decode cX4_fewestFor 10 = .ok (.if_icmp .gt 12, 3) := by decide +kernel
theorem dX4_fewestFor_13 : decode cX4_fewestFor 13 = .ok (.aload_n 0, 1) := by decide +kernel
theorem dX4_fewestFor_14 : decode cX4_fewestFor 14 = .ok (.getfield 34, 3) := by decide +kernel
theorem dX4_fewestFor_17 : decode cX4_fewestFor 17 = .ok (.iload_n 1, 1) := by decide +kernel
theorem dX4_fewestFor_18 : decode cX4_fewestFor 18 = .ok (.iaload, 1) := by decide +kernel
theorem dX4_fewestFor_19 : decode cX4_fewestFor 19 = .ok (.goto 4, 3) := by decide +kernel
theorem dX4_fewestFor_22 : decode cX4_fewestFor 22 = .ok (.iconst (-1), 1) := by decide +kernel
theorem dX4_fewestFor_23 : decode cX4_fewestFor 23 = .ok (.ireturn, 1) := by decide +kernel
theorem dX4_fewest_0 : decode cX4_fewest 0 = .ok (.aload_n 0, 1) := by decide +kernel
theorem dX4_fewest_1 : decode cX4_fewest 1 = .ok (.iconst 0, 1) := by decide +kernel
theorem dX4_fewest_2 : decode cX4_fewest 2 = .ok (.putfield 40, 3) := by decide +kernel
theorem dX4_fewest_5 : decode cX4_fewest 5 = .ok (.iload_n 1, 1) := by decide +kernel
theorem dX4_fewest_6 : decode cX4_fewest 6 = .ok (.invokestatic 93, 3) := by decide +kernel
theorem dX4_fewest_9 : decode cX4_fewest 9 = .ok (.ifCond .ne 9, 3) := by decide +kernel
theorem dX4_fewest_12 : decode cX4_fewest 12 = .ok (.aload_n 0, 1) := by decide +kernel
theorem dX4_fewest_13 : decode cX4_fewest 13 = .ok (.iconst 1, 1) := by decide +kernel
theorem dX4_fewest_14 : decode cX4_fewest 14 = .ok (.invokevirtual 80, 3) := by decide +kernel
theorem dX4_fewest_17 : decode cX4_fewest 17 = .ok (.ireturn, 1) := by decide +kernel
theorem dX4_fewest_18 : decode cX4_fewest 18 = .ok (.aload_n 0, 1) := by decide +kernel
theorem dX4_fewest_19 : decode cX4_fewest 19 = .ok (.iconst 0, 1) := by decide +kernel
theorem dX4_fewest_20 : decode cX4_fewest 20 = .ok (.invokevirtual 77, 3) := by decide +kernel
theorem dX4_fewest_23 : decode cX4_fewest 23 = .ok (.aload_n 0, 1) := by decide +kernel
theorem dX4_fewest_24 : decode cX4_fewest 24 = .ok (.iload_n 1, 1) := by decide +kernel
theorem dX4_fewest_25 : decode cX4_fewest 25 = .ok (.invokevirtual 134, 3) := by decide +kernel
theorem dX4_fewest_28 : decode cX4_fewest 28 = .ok (.ireturn, 1) := by decide +kernel
theorem dX4_ways_0 : decode cX4_ways 0 = .ok (.aload_n 0, 1) := by decide +kernel
theorem dX4_ways_1 : decode cX4_ways 1 = .ok (.iconst 0, 1) := by decide +kernel
theorem dX4_ways_2 : decode cX4_ways 2 = .ok (.putfield 40, 3) := by decide +kernel
theorem dX4_ways_5 : decode cX4_ways 5 = .ok (.iload_n 1, 1) := by decide +kernel
theorem dX4_ways_6 : decode cX4_ways 6 = .ok (.invokestatic 93, 3) := by decide +kernel
theorem dX4_ways_9 : decode cX4_ways 9 = .ok (.ifCond .eq 11, 3) := by decide +kernel
theorem dX4_ways_12 : decode cX4_ways 12 = .ok (.aload_n 0, 1) := by decide +kernel
theorem dX4_ways_13 : decode cX4_ways 13 = .ok (.iload_n 1, 1) := by decide +kernel
theorem dX4_ways_14 : decode cX4_ways 14 = .ok (.invokevirtual 137, 3) := by decide +kernel
theorem dX4_ways_17 : decode cX4_ways 17 = .ok (.goto 8, 3) := by decide +kernel
theorem dX4_ways_20 : decode cX4_ways 20 = .ok (.aload_n 0, 1) := by decide +kernel
theorem dX4_ways_21 : decode cX4_ways 21 = .ok (.iconst 1, 1) := by decide +kernel
theorem dX4_ways_22 : decode cX4_ways 22 = .ok (.invokevirtual 80, 3) := by decide +kernel
theorem dX4_ways_25 : decode cX4_ways 25 = .ok (.ireturn, 1) := by decide +kernel
theorem dX4_reach_0 : decode cX4_reach 0 = .ok (.aload_n 0, 1) := by decide +kernel
theorem dX4_reach_1 : decode cX4_reach 1 = .ok (.aload_n 0, 1) := by decide +kernel
theorem dX4_reach_2 : decode cX4_reach 2 = .ok (.iconst 0, 1) := by decide +kernel
theorem dX4_reach_3 : decode cX4_reach 3 = .ok (.aload_n 0, 1) := by decide +kernel
theorem dX4_reach_4 : decode cX4_reach 4 = .ok (.getfield 9, 3) := by decide +kernel
theorem dX4_reach_7 : decode cX4_reach 7 = .ok (.invokevirtual 140, 3) := by decide +kernel
theorem dX4_reach_10 : decode cX4_reach 10 = .ok (.invokevirtual 108, 3) := by decide +kernel
theorem dX4_reach_13 : decode cX4_reach 13 = .ok (.ireturn, 1) := by decide +kernel
theorem dX4_gapFrom_0 : decode cX4_gapFrom 0 = .ok (.aload_n 0, 1) := by decide +kernel
theorem dX4_gapFrom_1 : decode cX4_gapFrom 1 = .ok (.iconst 0, 1) := by decide +kernel
theorem dX4_gapFrom_2 : decode cX4_gapFrom 2 = .ok (.putfield 40, 3) := by decide +kernel
theorem dX4_gapFrom_5 : decode cX4_gapFrom 5 = .ok (.iload_n 1, 1) := by decide +kernel
theorem dX4_gapFrom_6 : decode cX4_gapFrom 6 = .ok (.invokestatic 93, 3) := by decide +kernel
theorem dX4_gapFrom_9 : decode cX4_gapFrom 9 = .ok (.ifCond .ne 9, 3) := by decide +kernel
theorem dX4_gapFrom_12 : decode cX4_gapFrom 12 = .ok (.aload_n 0, 1) := by decide +kernel
theorem dX4_gapFrom_13 : decode cX4_gapFrom 13 = .ok (.iconst 1, 1) := by decide +kernel
theorem dX4_gapFrom_14 : decode cX4_gapFrom 14 = .ok (.invokevirtual 80, 3) := by decide +kernel
theorem dX4_gapFrom_17 : decode cX4_gapFrom 17 = .ok (.ireturn, 1) := by decide +kernel
theorem dX4_gapFrom_18 : decode cX4_gapFrom 18 = .ok (.aload_n 0, 1) := by decide +kernel
theorem dX4_gapFrom_19 : decode cX4_gapFrom 19 = .ok (.iconst 0, 1) := by decide +kernel
theorem dX4_gapFrom_20 : decode cX4_gapFrom 20 = .ok (.invokevirtual 77, 3) := by decide +kernel
theorem dX4_gapFrom_23 : decode cX4_gapFrom 23 = .ok (.iload_n 1, 1) := by decide +kernel
theorem dX4_gapFrom_24 : decode cX4_gapFrom 24 = .ok (.istore_n 2, 1) := by decide +kernel
theorem dX4_gapFrom_25 : decode cX4_gapFrom 25 = .ok (.iload_n 2, 1) := by decide +kernel
theorem dX4_gapFrom_26 : decode cX4_gapFrom 26 = .ok (.sipush 300, 3) := by decide +kernel
theorem dX4_gapFrom_29 : decode cX4_gapFrom 29 = .ok (.if_icmp .gt 24, 3) := by decide +kernel
theorem dX4_gapFrom_32 : decode cX4_gapFrom 32 = .ok (.aload_n 0, 1) := by decide +kernel
theorem dX4_gapFrom_33 : decode cX4_gapFrom 33 = .ok (.getfield 34, 3) := by decide +kernel
theorem dX4_gapFrom_36 : decode cX4_gapFrom 36 = .ok (.iload_n 2, 1) := by decide +kernel
theorem dX4_gapFrom_37 : decode cX4_gapFrom 37 = .ok (.iaload, 1) := by decide +kernel
theorem dX4_gapFrom_38 : decode cX4_gapFrom 38 = .ok (.aload_n 0, 1) := by decide +kernel
theorem dX4_gapFrom_39 : decode cX4_gapFrom 39 = .ok (.getfield 9, 3) := by decide +kernel
theorem dX4_gapFrom_42 : decode cX4_gapFrom 42 = .ok (.if_icmp .le 5, 3) := by decide +kernel
theorem dX4_gapFrom_45 : decode cX4_gapFrom 45 = .ok (.iload_n 2, 1) := by decide +kernel
theorem dX4_gapFrom_46 : decode cX4_gapFrom 46 = .ok (.ireturn, 1) := by decide +kernel
theorem dX4_gapFrom_47 : decode cX4_gapFrom 47 = .ok (.iinc 2 1, 3) := by decide +kernel
theorem dX4_gapFrom_50 : decode cX4_gapFrom 50 = .ok (.goto (-25), 3) := by decide +kernel
theorem dX4_gapFrom_53 : decode cX4_gapFrom 53 = .ok (.iconst (-1), 1) := by decide +kernel
theorem dX4_gapFrom_54 : decode cX4_gapFrom 54 = .ok (.ireturn, 1) := by decide +kernel
theorem dX4_gapsTo_0 : decode cX4_gapsTo 0 = .ok (.aload_n 0, 1) := by decide +kernel
theorem dX4_gapsTo_1 : decode cX4_gapsTo 1 = .ok (.iconst 0, 1) := by decide +kernel
theorem dX4_gapsTo_2 : decode cX4_gapsTo 2 = .ok (.putfield 40, 3) := by decide +kernel
theorem dX4_gapsTo_5 : decode cX4_gapsTo 5 = .ok (.iload_n 1, 1) := by decide +kernel
theorem dX4_gapsTo_6 : decode cX4_gapsTo 6 = .ok (.invokestatic 93, 3) := by decide +kernel
theorem dX4_gapsTo_9 : decode cX4_gapsTo 9 = .ok (.ifCond .ne 9, 3) := by decide +kernel
theorem dX4_gapsTo_12 : decode cX4_gapsTo 12 = .ok (.aload_n 0, 1) := by decide +kernel
theorem dX4_gapsTo_13 : decode cX4_gapsTo 13 = .ok (.iconst 1, 1) := by decide +kernel
theorem dX4_gapsTo_14 : decode cX4_gapsTo 14 = .ok (.invokevirtual 80, 3) := by decide +kernel
theorem dX4_gapsTo_17 : decode cX4_gapsTo 17 = .ok (.ireturn, 1) := by decide +kernel
theorem dX4_gapsTo_18 : decode cX4_gapsTo 18 = .ok (.aload_n 0, 1) := by decide +kernel
theorem dX4_gapsTo_19 : decode cX4_gapsTo 19 = .ok (.iconst 0, 1) := by decide +kernel
theorem dX4_gapsTo_20 : decode cX4_gapsTo 20 = .ok (.invokevirtual 77, 3) := by decide +kernel
theorem dX4_gapsTo_23 : decode cX4_gapsTo 23 = .ok (.iconst 0, 1) := by decide +kernel
theorem dX4_gapsTo_24 : decode cX4_gapsTo 24 = .ok (.istore_n 2, 1) := by decide +kernel
theorem dX4_gapsTo_25 : decode cX4_gapsTo 25 = .ok (.iconst 1, 1) := by decide +kernel
theorem dX4_gapsTo_26 : decode cX4_gapsTo 26 = .ok (.istore_n 3, 1) := by decide +kernel
theorem dX4_gapsTo_27 : decode cX4_gapsTo 27 = .ok (.iload_n 3, 1) := by decide +kernel
theorem dX4_gapsTo_28 : decode cX4_gapsTo 28 = .ok (.iload_n 1, 1) := by decide +kernel
theorem dX4_gapsTo_29 : decode cX4_gapsTo 29 = .ok (.if_icmp .gt 30, 3) := by decide +kernel
theorem dX4_gapsTo_32 : decode cX4_gapsTo 32 = .ok (.iload_n 2, 1) := by decide +kernel
theorem dX4_gapsTo_33 : decode cX4_gapsTo 33 = .ok (.aload_n 0, 1) := by decide +kernel
theorem dX4_gapsTo_34 : decode cX4_gapsTo 34 = .ok (.getfield 34, 3) := by decide +kernel
theorem dX4_gapsTo_37 : decode cX4_gapsTo 37 = .ok (.iload_n 3, 1) := by decide +kernel
theorem dX4_gapsTo_38 : decode cX4_gapsTo 38 = .ok (.iaload, 1) := by decide +kernel
theorem dX4_gapsTo_39 : decode cX4_gapsTo 39 = .ok (.aload_n 0, 1) := by decide +kernel
theorem dX4_gapsTo_40 : decode cX4_gapsTo 40 = .ok (.getfield 9, 3) := by decide +kernel
theorem dX4_gapsTo_43 : decode cX4_gapsTo 43 = .ok (.if_icmp .le 7, 3) := by decide +kernel
theorem dX4_gapsTo_46 : decode cX4_gapsTo 46 = .ok (.iconst 1, 1) := by decide +kernel
theorem dX4_gapsTo_47 : decode cX4_gapsTo 47 = .ok (.goto 4, 3) := by decide +kernel
theorem dX4_gapsTo_50 : decode cX4_gapsTo 50 = .ok (.iconst 0, 1) := by decide +kernel
theorem dX4_gapsTo_51 : decode cX4_gapsTo 51 = .ok (.iadd, 1) := by decide +kernel
theorem dX4_gapsTo_52 : decode cX4_gapsTo 52 = .ok (.istore_n 2, 1) := by decide +kernel
theorem dX4_gapsTo_53 : decode cX4_gapsTo 53 = .ok (.iinc 3 1, 3) := by decide +kernel
theorem dX4_gapsTo_56 : decode cX4_gapsTo 56 = .ok (.goto (-29), 3) := by decide +kernel
theorem dX4_gapsTo_59 : decode cX4_gapsTo 59 = .ok (.iload_n 2, 1) := by decide +kernel
theorem dX4_gapsTo_60 : decode cX4_gapsTo 60 = .ok (.ireturn, 1) := by decide +kernel
theorem dX4_lettersOf_0 : decode cX4_lettersOf 0 = .ok (.aload_n 0, 1) := by decide +kernel
theorem dX4_lettersOf_1 : decode cX4_lettersOf 1 = .ok (.iconst 0, 1) := by decide +kernel
theorem dX4_lettersOf_2 : decode cX4_lettersOf 2 = .ok (.putfield 40, 3) := by decide +kernel
theorem dX4_lettersOf_5 : decode cX4_lettersOf 5 = .ok (.iload_n 1, 1) := by decide +kernel
theorem dX4_lettersOf_6 : decode cX4_lettersOf 6 = .ok (.invokestatic 93, 3) := by decide +kernel
theorem dX4_lettersOf_9 : decode cX4_lettersOf 9 = .ok (.ifCond .ne 9, 3) := by decide +kernel
theorem dX4_lettersOf_12 : decode cX4_lettersOf 12 = .ok (.aload_n 0, 1) := by decide +kernel
theorem dX4_lettersOf_13 : decode cX4_lettersOf 13 = .ok (.iconst 1, 1) := by decide +kernel
theorem dX4_lettersOf_14 : decode cX4_lettersOf 14 = .ok (.invokevirtual 80, 3) := by decide +kernel
theorem dX4_lettersOf_17 : decode cX4_lettersOf 17 = .ok (.ireturn, 1) := by decide +kernel
theorem dX4_lettersOf_18 : decode cX4_lettersOf 18 = .ok (.bipush 8, 2) := by decide +kernel
theorem dX4_lettersOf_20 : decode cX4_lettersOf 20 = .ok (.newarray .int, 2) := by decide +kernel
theorem dX4_lettersOf_22 : decode cX4_lettersOf 22 = .ok (.astore_n 2, 1) := by decide +kernel
theorem dX4_lettersOf_23 : decode cX4_lettersOf 23 = .ok (.aload_n 0, 1) := by decide +kernel
theorem dX4_lettersOf_24 : decode cX4_lettersOf 24 = .ok (.getfield 17, 3) := by decide +kernel
theorem dX4_lettersOf_27 : decode cX4_lettersOf 27 = .ok (.iconst 0, 1) := by decide +kernel
theorem dX4_lettersOf_28 : decode cX4_lettersOf 28 = .ok (.aload_n 2, 1) := by decide +kernel
theorem dX4_lettersOf_29 : decode cX4_lettersOf 29 = .ok (.iconst 0, 1) := by decide +kernel
theorem dX4_lettersOf_30 : decode cX4_lettersOf 30 = .ok (.bipush 8, 2) := by decide +kernel
theorem dX4_lettersOf_32 : decode cX4_lettersOf 32 = .ok (.invokestatic 143, 3) := by decide +kernel
theorem dX4_lettersOf_35 : decode cX4_lettersOf 35 = .ok (.iconst 0, 1) := by decide +kernel
theorem dX4_lettersOf_36 : decode cX4_lettersOf 36 = .ok (.istore_n 3, 1) := by decide +kernel
theorem dX4_lettersOf_37 : decode cX4_lettersOf 37 = .ok (.iload_n 3, 1) := by decide +kernel
theorem dX4_lettersOf_38 : decode cX4_lettersOf 38 = .ok (.bipush 50, 2) := by decide +kernel
theorem dX4_lettersOf_40 : decode cX4_lettersOf 40 = .ok (.if_icmp .ge 18, 3) := by decide +kernel
theorem dX4_lettersOf_43 : decode cX4_lettersOf 43 = .ok (.aload_n 0, 1) := by decide +kernel
theorem dX4_lettersOf_44 : decode cX4_lettersOf 44 = .ok (.iload_n 1, 1) := by decide +kernel
theorem dX4_lettersOf_45 : decode cX4_lettersOf 45 = .ok (.invokevirtual 96, 3) := by decide +kernel
theorem dX4_lettersOf_48 : decode cX4_lettersOf 48 = .ok (.iconst (-1), 1) := by decide +kernel
theorem dX4_lettersOf_49 : decode cX4_lettersOf 49 = .ok (.if_icmp .eq 9, 3) := by decide +kernel
theorem dX4_lettersOf_52 : decode cX4_lettersOf 52 = .ok (.iinc 3 1, 3) := by decide +kernel
theorem dX4_lettersOf_55 : decode cX4_lettersOf 55 = .ok (.goto (-18), 3) := by decide +kernel
theorem dX4_lettersOf_58 : decode cX4_lettersOf 58 = .ok (.aload_n 2, 1) := by decide +kernel
theorem dX4_lettersOf_59 : decode cX4_lettersOf 59 = .ok (.iconst 0, 1) := by decide +kernel
theorem dX4_lettersOf_60 : decode cX4_lettersOf 60 = .ok (.aload_n 0, 1) := by decide +kernel
theorem dX4_lettersOf_61 : decode cX4_lettersOf 61 = .ok (.getfield 17, 3) := by decide +kernel
theorem dX4_lettersOf_64 : decode cX4_lettersOf 64 = .ok (.iconst 0, 1) := by decide +kernel
theorem dX4_lettersOf_65 : decode cX4_lettersOf 65 = .ok (.bipush 8, 2) := by decide +kernel
theorem dX4_lettersOf_67 : decode cX4_lettersOf 67 = .ok (.invokestatic 143, 3) := by decide +kernel
theorem dX4_lettersOf_70 : decode cX4_lettersOf 70 = .ok (.iload_n 3, 1) := by decide +kernel
theorem dX4_lettersOf_71 : decode cX4_lettersOf 71 = .ok (.ireturn, 1) := by decide +kernel
theorem dX4_valueBest_0 : decode cX4_valueBest 0 = .ok (.iconst (-1), 1) := by decide +kernel
theorem dX4_valueBest_1 : decode cX4_valueBest 1 = .ok (.istore_n 1, 1) := by decide +kernel
theorem dX4_valueBest_2 : decode cX4_valueBest 2 = .ok (.iconst (-1), 1) := by decide +kernel
theorem dX4_valueBest_3 : decode cX4_valueBest 3 = .ok (.istore_n 2, 1) := by decide +kernel
theorem dX4_valueBest_4 : decode cX4_valueBest 4 = .ok (.iconst 1, 1) := by decide +kernel
theorem dX4_valueBest_5 : decode cX4_valueBest 5 = .ok (.istore_n 3, 1) := by decide +kernel
theorem dX4_valueBest_6 : decode cX4_valueBest 6 = .ok (.iload_n 3, 1) := by decide +kernel
theorem dX4_valueBest_7 : decode cX4_valueBest 7 = .ok (.bipush 60, 2) := by decide +kernel
theorem dX4_valueBest_9 : decode cX4_valueBest 9 = .ok (.if_icmp .gt 45, 3) := by decide +kernel
theorem dX4_valueBest_12 : decode cX4_valueBest 12 = .ok (.aload_n 0, 1) := by decide +kernel
theorem dX4_valueBest_13 : decode cX4_valueBest 13 = .ok (.iload_n 3, 1) := by decide +kernel
theorem dX4_valueBest_14 : decode cX4_valueBest 14 = .ok (.invokevirtual 83, 3) := by decide +kernel
theorem dX4_valueBest_17 : decode cX4_valueBest 17 = .ok (.ifCond .eq 6, 3) := by decide +kernel
theorem dX4_valueBest_20 : decode cX4_valueBest 20 = .ok (.goto 28, 3) := by decide +kernel
theorem dX4_valueBest_23 : decode cX4_valueBest 23 = .ok (.aload_n 0, 1) := by decide +kernel
theorem dX4_valueBest_24 : decode cX4_valueBest 24 = .ok (.iload_n 3, 1) := by decide +kernel
theorem dX4_valueBest_25 : decode cX4_valueBest 25 = .ok (.aload_n 0, 1) := by decide +kernel
theorem dX4_valueBest_26 : decode cX4_valueBest 26 = .ok (.getfield 9, 3) := by decide +kernel
theorem dX4_valueBest_29 : decode cX4_valueBest 29 = .ok (.invokevirtual 140, 3) := by decide +kernel
theorem dX4_valueBest_32 : decode cX4_valueBest 32 = .ok (.istore 4, 2) := by decide +kernel
theorem dX4_valueBest_34 : decode cX4_valueBest 34 = .ok (.iload 4, 2) := by decide +kernel
theorem dX4_valueBest_36 : decode cX4_valueBest 36 = .ok (.iload_n 2, 1) := by decide +kernel
theorem dX4_valueBest_37 : decode cX4_valueBest 37 = .ok (.if_icmp .gt 6, 3) := by decide +kernel
theorem dX4_valueBest_40 : decode cX4_valueBest 40 = .ok (.goto 8, 3) := by decide +kernel
theorem dX4_valueBest_43 : decode cX4_valueBest 43 = .ok (.iload_n 3, 1) := by decide +kernel
theorem dX4_valueBest_44 : decode cX4_valueBest 44 = .ok (.istore_n 1, 1) := by decide +kernel
theorem dX4_valueBest_45 : decode cX4_valueBest 45 = .ok (.iload 4, 2) := by decide +kernel
theorem dX4_valueBest_47 : decode cX4_valueBest 47 = .ok (.istore_n 2, 1) := by decide +kernel
theorem dX4_valueBest_48 : decode cX4_valueBest 48 = .ok (.iinc 3 1, 3) := by decide +kernel
theorem dX4_valueBest_51 : decode cX4_valueBest 51 = .ok (.goto (-45), 3) := by decide +kernel
theorem dX4_valueBest_54 : decode cX4_valueBest 54 = .ok (.iload_n 1, 1) := by decide +kernel
theorem dX4_valueBest_55 : decode cX4_valueBest 55 = .ok (.ireturn, 1) := by decide +kernel
theorem dX4_bestValue_0 : decode cX4_bestValue 0 = .ok (.aload_n 0, 1) := by decide +kernel
theorem dX4_bestValue_1 : decode cX4_bestValue 1 = .ok (.aload_n 0, 1) := by decide +kernel
theorem dX4_bestValue_2 : decode cX4_bestValue 2 = .ok (.invokevirtual 149, 3) := by decide +kernel
theorem dX4_bestValue_5 : decode cX4_bestValue 5 = .ok (.invokevirtual 108, 3) := by decide +kernel
theorem dX4_bestValue_8 : decode cX4_bestValue 8 = .ok (.ireturn, 1) := by decide +kernel
theorem dX4_toPrint_0 : decode cX4_toPrint 0 = .ok (.iconst (-1), 1) := by decide +kernel
theorem dX4_toPrint_1 : decode cX4_toPrint 1 = .ok (.istore_n 1, 1) := by decide +kernel
theorem dX4_toPrint_2 : decode cX4_toPrint 2 = .ok (.iconst (-1), 1) := by decide +kernel
theorem dX4_toPrint_3 : decode cX4_toPrint 3 = .ok (.istore_n 2, 1) := by decide +kernel
theorem dX4_toPrint_4 : decode cX4_toPrint 4 = .ok (.iconst 0, 1) := by decide +kernel
theorem dX4_toPrint_5 : decode cX4_toPrint 5 = .ok (.istore_n 3, 1) := by decide +kernel
theorem dX4_toPrint_6 : decode cX4_toPrint 6 = .ok (.iload_n 3, 1) := by decide +kernel
theorem dX4_toPrint_7 : decode cX4_toPrint 7 = .ok (.aload_n 0, 1) := by decide +kernel
theorem dX4_toPrint_8 : decode cX4_toPrint 8 = .ok (.getfield 43, 3) := by decide +kernel
theorem dX4_toPrint_11 : decode cX4_toPrint 11 = .ok (.if_icmp .ge 61, 3) := by decide +kernel
theorem dX4_toPrint_14 : decode cX4_toPrint 14 = .ok (.aload_n 0, 1) := by decide +kernel
theorem dX4_toPrint_15 : decode cX4_toPrint 15 = .ok (.getfield 17, 3) := by decide +kernel
theorem dX4_toPrint_18 : decode cX4_toPrint 18 = .ok (.iload_n 3, 1) := by decide +kernel
theorem dX4_toPrint_19 : decode cX4_toPrint 19 = .ok (.iaload, 1) := by decide +kernel
theorem dX4_toPrint_20 : decode cX4_toPrint 20 = .ok (.istore 4, 2) := by decide +kernel
theorem dX4_toPrint_22 : decode cX4_toPrint 22 = .ok (.aload_n 0, 1) := by decide +kernel
theorem dX4_toPrint_23 : decode cX4_toPrint 23 = .ok (.getfield 17, 3) := by decide +kernel
theorem dX4_toPrint_26 : decode cX4_toPrint 26 = .ok (.iload_n 3, 1) := by decide +kernel
theorem dX4_toPrint_27 : decode cX4_toPrint 27 = .ok (.bipush 99, 2) := by decide +kernel
theorem dX4_toPrint_29 : decode cX4_toPrint 29 = .ok (.iload 4, 2) := by decide +kernel
theorem dX4_toPrint_31 : decode cX4_toPrint 31 = .ok (.bipush 20, 2) := by decide +kernel
theorem dX4_toPrint_33 : decode cX4_toPrint 33 = .ok (.iadd, 1) := by decide +kernel
theorem dX4_toPrint_34 : decode cX4_toPrint 34 = .ok (.invokestatic 50, 3) := by decide +kernel
theorem dX4_toPrint_37 : decode cX4_toPrint 37 = .ok (.iastore, 1) := by decide +kernel
theorem dX4_toPrint_38 : decode cX4_toPrint 38 = .ok (.aload_n 0, 1) := by decide +kernel
theorem dX4_toPrint_39 : decode cX4_toPrint 39 = .ok (.invokevirtual 128, 3) := by decide +kernel
theorem dX4_toPrint_42 : decode cX4_toPrint 42 = .ok (.istore 5, 2) := by decide +kernel
theorem dX4_toPrint_44 : decode cX4_toPrint 44 = .ok (.aload_n 0, 1) := by decide +kernel
theorem dX4_toPrint_45 : decode cX4_toPrint 45 = .ok (.getfield 17, 3) := by decide +kernel
theorem dX4_toPrint_48 : decode cX4_toPrint 48 = .ok (.iload_n 3, 1) := by decide +kernel
theorem dX4_toPrint_49 : decode cX4_toPrint 49 = .ok (.iload 4, 2) := by decide +kernel
theorem dX4_toPrint_51 : decode cX4_toPrint 51 = .ok (.iastore, 1) := by decide +kernel
theorem dX4_toPrint_52 : decode cX4_toPrint 52 = .ok (.iload 5, 2) := by decide +kernel
theorem dX4_toPrint_54 : decode cX4_toPrint 54 = .ok (.iload_n 2, 1) := by decide +kernel
theorem dX4_toPrint_55 : decode cX4_toPrint 55 = .ok (.if_icmp .gt 6, 3) := by decide +kernel
theorem dX4_toPrint_58 : decode cX4_toPrint 58 = .ok (.goto 8, 3) := by decide +kernel
theorem dX4_toPrint_61 : decode cX4_toPrint 61 = .ok (.iload_n 3, 1) := by decide +kernel
theorem dX4_toPrint_62 : decode cX4_toPrint 62 = .ok (.istore_n 1, 1) := by decide +kernel
theorem dX4_toPrint_63 : decode cX4_toPrint 63 = .ok (.iload 5, 2) := by decide +kernel
theorem dX4_toPrint_65 : decode cX4_toPrint 65 = .ok (.istore_n 2, 1) := by decide +kernel
theorem dX4_toPrint_66 : decode cX4_toPrint 66 = .ok (.iinc 3 1, 3) := by decide +kernel
theorem dX4_toPrint_69 : decode cX4_toPrint 69 = .ok (.goto (-63), 3) := by decide +kernel
theorem dX4_toPrint_72 : decode cX4_toPrint 72 = .ok (.iload_n 1, 1) := by decide +kernel
theorem dX4_toPrint_73 : decode cX4_toPrint 73 = .ok (.ireturn, 1) := by decide +kernel
theorem dX4_bestToPrint_0 : decode cX4_bestToPrint 0 = .ok (.aload_n 0, 1) := by decide +kernel
theorem dX4_bestToPrint_1 : decode cX4_bestToPrint 1 = .ok (.aload_n 0, 1) := by decide +kernel
theorem dX4_bestToPrint_2 : decode cX4_bestToPrint 2 = .ok (.invokevirtual 152, 3) := by decide +kernel
theorem dX4_bestToPrint_5 : decode cX4_bestToPrint 5 = .ok (.invokevirtual 108, 3) := by decide +kernel
theorem dX4_bestToPrint_8 : decode cX4_bestToPrint 8 = .ok (.ireturn, 1) := by decide +kernel
theorem dX4_reachWithRoom_0 : decode cX4_reachWithRoom 0 = .ok (.aload_n 0, 1) := by decide +kernel
theorem dX4_reachWithRoom_1 : decode cX4_reachWithRoom 1 = .ok (.iconst 0, 1) := by decide +kernel
theorem dX4_reachWithRoom_2 : decode cX4_reachWithRoom 2 = .ok (.putfield 40, 3) := by decide +kernel
theorem dX4_reachWithRoom_5 : decode cX4_reachWithRoom 5 = .ok (.iload_n 1, 1) := by decide +kernel
theorem dX4_reachWithRoom_6 : decode cX4_reachWithRoom 6 = .ok (.iconst 1, 1) := by decide +kernel
theorem dX4_reachWithRoom_7 : decode cX4_reachWithRoom 7 = .ok (.bipush 12, 2) := by decide +kernel
theorem dX4_reachWithRoom_9 : decode cX4_reachWithRoom 9 = .ok (.invokestatic 46, 3) := by decide +kernel
theorem dX4_reachWithRoom_12 : decode cX4_reachWithRoom 12 = .ok (.ifCond .eq 12, 3) := by decide +kernel
theorem dX4_reachWithRoom_15 : decode cX4_reachWithRoom 15 = .ok (.aload_n 0, 1) := by decide +kernel
theorem dX4_reachWithRoom_16 : decode cX4_reachWithRoom 16 = .ok (.iconst 0, 1) := by decide +kernel
theorem dX4_reachWithRoom_17 : decode cX4_reachWithRoom 17 = .ok (.iload_n 1, 1) := by decide +kernel
theorem dX4_reachWithRoom_18 : decode cX4_reachWithRoom 18 = .ok (.invokevirtual 140, 3) := by decide +kernel
theorem dX4_reachWithRoom_21 : decode cX4_reachWithRoom 21 = .ok (.goto 8, 3) := by decide +kernel
theorem dX4_reachWithRoom_24 : decode cX4_reachWithRoom 24 = .ok (.aload_n 0, 1) := by decide +kernel
theorem dX4_reachWithRoom_25 : decode cX4_reachWithRoom 25 = .ok (.iconst 1, 1) := by decide +kernel
theorem dX4_reachWithRoom_26 : decode cX4_reachWithRoom 26 = .ok (.invokevirtual 80, 3) := by decide +kernel
theorem dX4_reachWithRoom_29 : decode cX4_reachWithRoom 29 = .ok (.ireturn, 1) := by decide +kernel
theorem dX4_meanValue_0 : decode cX4_meanValue 0 = .ok (.aload_n 0, 1) := by decide +kernel
theorem dX4_meanValue_1 : decode cX4_meanValue 1 = .ok (.iconst 0, 1) := by decide +kernel
theorem dX4_meanValue_2 : decode cX4_meanValue 2 = .ok (.putfield 40, 3) := by decide +kernel
theorem dX4_meanValue_5 : decode cX4_meanValue 5 = .ok (.iconst 0, 1) := by decide +kernel
theorem dX4_meanValue_6 : decode cX4_meanValue 6 = .ok (.istore_n 1, 1) := by decide +kernel
theorem dX4_meanValue_7 : decode cX4_meanValue 7 = .ok (.iconst 0, 1) := by decide +kernel
theorem dX4_meanValue_8 : decode cX4_meanValue 8 = .ok (.istore_n 2, 1) := by decide +kernel
theorem dX4_meanValue_9 : decode cX4_meanValue 9 = .ok (.iload_n 2, 1) := by decide +kernel
theorem dX4_meanValue_10 : decode cX4_meanValue 10 = .ok (.aload_n 0, 1) := by decide +kernel
theorem dX4_meanValue_11 : decode cX4_meanValue 11 = .ok (.getfield 43, 3) := by decide +kernel
theorem dX4_meanValue_14 : decode cX4_meanValue 14 = .ok (.if_icmp .ge 18, 3) := by decide +kernel
theorem dX4_meanValue_17 : decode cX4_meanValue 17 = .ok (.iload_n 1, 1) := by decide +kernel
theorem dX4_meanValue_18 : decode cX4_meanValue 18 = .ok (.aload_n 0, 1) := by decide +kernel
theorem dX4_meanValue_19 : decode cX4_meanValue 19 = .ok (.getfield 13, 3) := by decide +kernel
theorem dX4_meanValue_22 : decode cX4_meanValue 22 = .ok (.iload_n 2, 1) := by decide +kernel
theorem dX4_meanValue_23 : decode cX4_meanValue 23 = .ok (.iaload, 1) := by decide +kernel
theorem dX4_meanValue_24 : decode cX4_meanValue 24 = .ok (.iadd, 1) := by decide +kernel
theorem dX4_meanValue_25 : decode cX4_meanValue 25 = .ok (.istore_n 1, 1) := by decide +kernel
theorem dX4_meanValue_26 : decode cX4_meanValue 26 = .ok (.iinc 2 1, 3) := by decide +kernel
theorem dX4_meanValue_29 : decode cX4_meanValue 29 = .ok (.goto (-20), 3) := by decide +kernel
theorem dX4_meanValue_32 : decode cX4_meanValue 32 = .ok (.aload_n 0, 1) := by decide +kernel
theorem dX4_meanValue_33 : decode cX4_meanValue 33 = .ok (.getfield 43, 3) := by decide +kernel
theorem dX4_meanValue_36 : decode cX4_meanValue 36 = .ok (.ifCond .ne 7, 3) := by decide +kernel
theorem dX4_meanValue_39 : decode cX4_meanValue 39 = .ok (.dconst 0, 1) := by decide +kernel
theorem dX4_meanValue_40 : decode cX4_meanValue 40 = .ok (.goto 11, 3) := by decide +kernel
theorem dX4_meanValue_43 : decode cX4_meanValue 43 = .ok (.iload_n 1, 1) := by decide +kernel
theorem dX4_meanValue_44 : decode cX4_meanValue 44 = .ok (.i2d, 1) := by decide +kernel
theorem dX4_meanValue_45 : decode cX4_meanValue 45 = .ok (.aload_n 0, 1) := by decide +kernel
theorem dX4_meanValue_46 : decode cX4_meanValue 46 = .ok (.getfield 43, 3) := by decide +kernel
theorem dX4_meanValue_49 : decode cX4_meanValue 49 = .ok (.i2d, 1) := by decide +kernel
theorem dX4_meanValue_50 : decode cX4_meanValue 50 = .ok (.ddiv, 1) := by decide +kernel
theorem dX4_meanValue_51 : decode cX4_meanValue 51 = .ok (.dreturn, 1) := by decide +kernel
theorem dX4_digest_0 : decode cX4_digest 0 = .ok (.aload_n 0, 1) := by decide +kernel
theorem dX4_digest_1 : decode cX4_digest 1 = .ok (.iconst 0, 1) := by decide +kernel
theorem dX4_digest_2 : decode cX4_digest 2 = .ok (.putfield 40, 3) := by decide +kernel
theorem dX4_digest_5 : decode cX4_digest 5 = .ok (.bipush 11, 2) := by decide +kernel
theorem dX4_digest_7 : decode cX4_digest 7 = .ok (.newarray .int, 2) := by decide +kernel
theorem dX4_digest_9 : decode cX4_digest 9 = .ok (.dup, 1) := by decide +kernel
theorem dX4_digest_10 : decode cX4_digest 10 = .ok (.iconst 0, 1) := by decide +kernel
theorem dX4_digest_11 : decode cX4_digest 11 = .ok (.aload_n 0, 1) := by decide +kernel
theorem dX4_digest_12 : decode cX4_digest 12 = .ok (.getfield 43, 3) := by decide +kernel
theorem dX4_digest_15 : decode cX4_digest 15 = .ok (.iastore, 1) := by decide +kernel
theorem dX4_digest_16 : decode cX4_digest 16 = .ok (.dup, 1) := by decide +kernel
theorem dX4_digest_17 : decode cX4_digest 17 = .ok (.iconst 1, 1) := by decide +kernel
theorem dX4_digest_18 : decode cX4_digest 18 = .ok (.aload_n 0, 1) := by decide +kernel
theorem dX4_digest_19 : decode cX4_digest 19 = .ok (.getfield 9, 3) := by decide +kernel
theorem dX4_digest_22 : decode cX4_digest 22 = .ok (.iastore, 1) := by decide +kernel
theorem dX4_digest_23 : decode cX4_digest 23 = .ok (.dup, 1) := by decide +kernel
theorem dX4_digest_24 : decode cX4_digest 24 = .ok (.iconst 2, 1) := by decide +kernel
theorem dX4_digest_25 : decode cX4_digest 25 = .ok (.aload_n 0, 1) := by decide +kernel
theorem dX4_digest_26 : decode cX4_digest 26 = .ok (.getfield 99, 3) := by decide +kernel
theorem dX4_digest_29 : decode cX4_digest 29 = .ok (.iastore, 1) := by decide +kernel
theorem dX4_digest_30 : decode cX4_digest 30 = .ok (.dup, 1) := by decide +kernel
theorem dX4_digest_31 : decode cX4_digest 31 = .ok (.iconst 3, 1) := by decide +kernel
theorem dX4_digest_32 : decode cX4_digest 32 = .ok (.aload_n 0, 1) := by decide +kernel
theorem dX4_digest_33 : decode cX4_digest 33 = .ok (.getfield 102, 3) := by decide +kernel
theorem dX4_digest_36 : decode cX4_digest 36 = .ok (.iastore, 1) := by decide +kernel
theorem dX4_digest_37 : decode cX4_digest 37 = .ok (.dup, 1) := by decide +kernel
theorem dX4_digest_38 : decode cX4_digest 38 = .ok (.iconst 4, 1) := by decide +kernel
theorem dX4_digest_39 : decode cX4_digest 39 = .ok (.aload_n 0, 1) := by decide +kernel
theorem dX4_digest_40 : decode cX4_digest 40 = .ok (.getfield 105, 3) := by decide +kernel
theorem dX4_digest_43 : decode cX4_digest 43 = .ok (.iastore, 1) := by decide +kernel
theorem dX4_digest_44 : decode cX4_digest 44 = .ok (.dup, 1) := by decide +kernel
theorem dX4_digest_45 : decode cX4_digest 45 = .ok (.iconst 5, 1) := by decide +kernel
theorem dX4_digest_46 : decode cX4_digest 46 = .ok (.aload_n 0, 1) := by decide +kernel
theorem dX4_digest_47 : decode cX4_digest 47 = .ok (.invokevirtual 115, 3) := by decide +kernel
theorem dX4_digest_50 : decode cX4_digest 50 = .ok (.iastore, 1) := by decide +kernel
theorem dX4_digest_51 : decode cX4_digest 51 = .ok (.dup, 1) := by decide +kernel
theorem dX4_digest_52 : decode cX4_digest 52 = .ok (.bipush 6, 2) := by decide +kernel
theorem dX4_digest_54 : decode cX4_digest 54 = .ok (.aload_n 0, 1) := by decide +kernel
theorem dX4_digest_55 : decode cX4_digest 55 = .ok (.invokevirtual 128, 3) := by decide +kernel
theorem dX4_digest_58 : decode cX4_digest 58 = .ok (.iastore, 1) := by decide +kernel
theorem dX4_digest_59 : decode cX4_digest 59 = .ok (.dup, 1) := by decide +kernel
theorem dX4_digest_60 : decode cX4_digest 60 = .ok (.bipush 7, 2) := by decide +kernel
theorem dX4_digest_62 : decode cX4_digest 62 = .ok (.aload_n 0, 1) := by decide +kernel
theorem dX4_digest_63 : decode cX4_digest 63 = .ok (.invokevirtual 131, 3) := by decide +kernel
theorem dX4_digest_66 : decode cX4_digest 66 = .ok (.iastore, 1) := by decide +kernel
theorem dX4_digest_67 : decode cX4_digest 67 = .ok (.dup, 1) := by decide +kernel
theorem dX4_digest_68 : decode cX4_digest 68 = .ok (.bipush 8, 2) := by decide +kernel
theorem dX4_digest_70 : decode cX4_digest 70 = .ok (.aload_n 0, 1) := by decide +kernel
theorem dX4_digest_71 : decode cX4_digest 71 = .ok (.iconst 0, 1) := by decide +kernel
theorem dX4_digest_72 : decode cX4_digest 72 = .ok (.aload_n 0, 1) := by decide +kernel
theorem dX4_digest_73 : decode cX4_digest 73 = .ok (.getfield 9, 3) := by decide +kernel
theorem dX4_digest_76 : decode cX4_digest 76 = .ok (.invokevirtual 140, 3) := by decide +kernel
theorem dX4_digest_79 : decode cX4_digest 79 = .ok (.iastore, 1) := by decide +kernel
theorem dX4_digest_80 : decode cX4_digest 80 = .ok (.dup, 1) := by decide +kernel
theorem dX4_digest_81 : decode cX4_digest 81 = .ok (.bipush 9, 2) := by decide +kernel
theorem dX4_digest_83 : decode cX4_digest 83 = .ok (.aload_n 0, 1) := by decide +kernel
theorem dX4_digest_84 : decode cX4_digest 84 = .ok (.invokevirtual 149, 3) := by decide +kernel
theorem dX4_digest_87 : decode cX4_digest 87 = .ok (.iastore, 1) := by decide +kernel
theorem dX4_digest_88 : decode cX4_digest 88 = .ok (.dup, 1) := by decide +kernel
theorem dX4_digest_89 : decode cX4_digest 89 = .ok (.bipush 10, 2) := by decide +kernel
theorem dX4_digest_91 : decode cX4_digest 91 = .ok (.aload_n 0, 1) := by decide +kernel
theorem dX4_digest_92 : decode cX4_digest 92 = .ok (.invokevirtual 152, 3) := by decide +kernel
theorem dX4_digest_95 : decode cX4_digest 95 = .ok (.iastore, 1) := by decide +kernel
theorem dX4_digest_96 : decode cX4_digest 96 = .ok (.astore_n 1, 1) := by decide +kernel
theorem dX4_digest_97 : decode cX4_digest 97 = .ok (.ldc2_w 155, 3) := by decide +kernel
theorem dX4_digest_100 : decode cX4_digest 100 = .ok (.lstore_n 2, 1) := by decide +kernel
theorem dX4_digest_101 : decode cX4_digest 101 = .ok (.aload_n 1, 1) := by decide +kernel
theorem dX4_digest_102 : decode cX4_digest 102 = .ok (.astore 4, 2) := by decide +kernel
theorem dX4_digest_104 : decode cX4_digest 104 = .ok (.aload 4, 2) := by decide +kernel
theorem dX4_digest_106 : decode cX4_digest 106 = .ok (.arraylength, 1) := by decide +kernel
theorem dX4_digest_107 : decode cX4_digest 107 = .ok (.istore 5, 2) := by decide +kernel
theorem dX4_digest_109 : decode cX4_digest 109 = .ok (.iconst 0, 1) := by decide +kernel
theorem dX4_digest_110 : decode cX4_digest 110 = .ok (.istore 6, 2) := by decide +kernel
theorem dX4_digest_112 : decode cX4_digest 112 = .ok (.iload 6, 2) := by decide +kernel
theorem dX4_digest_114 : decode cX4_digest 114 = .ok (.iload 5, 2) := by decide +kernel
theorem dX4_digest_116 : decode cX4_digest 116 = .ok (.if_icmp .ge 26, 3) := by decide +kernel
theorem dX4_digest_119 : decode cX4_digest 119 = .ok (.aload 4, 2) := by decide +kernel
theorem dX4_digest_121 : decode cX4_digest 121 = .ok (.iload 6, 2) := by decide +kernel
theorem dX4_digest_123 : decode cX4_digest 123 = .ok (.iaload, 1) := by decide +kernel
theorem dX4_digest_124 : decode cX4_digest 124 = .ok (.istore 7, 2) := by decide +kernel
theorem dX4_digest_126 : decode cX4_digest 126 = .ok (.lload_n 2, 1) := by decide +kernel
theorem dX4_digest_127 : decode cX4_digest 127 = .ok (.ldc2_w 157, 3) := by decide +kernel
theorem dX4_digest_130 : decode cX4_digest 130 = .ok (.lmul, 1) := by decide +kernel
theorem dX4_digest_131 : decode cX4_digest 131 = .ok (.iload 7, 2) := by decide +kernel
theorem dX4_digest_133 : decode cX4_digest 133 = .ok (.i2l, 1) := by decide +kernel
theorem dX4_digest_134 : decode cX4_digest 134 = .ok (.ladd, 1) := by decide +kernel
theorem dX4_digest_135 : decode cX4_digest 135 = .ok (.lstore_n 2, 1) := by decide +kernel
theorem dX4_digest_136 : decode cX4_digest 136 = .ok (.iinc 6 1, 3) := by decide +kernel
theorem dX4_digest_139 : decode cX4_digest 139 = .ok (.goto (-27), 3) := by decide +kernel
theorem dX4_digest_142 : decode cX4_digest 142 = .ok (.iconst 0, 1) := by decide +kernel
theorem dX4_digest_143 : decode cX4_digest 143 = .ok (.istore 4, 2) := by decide +kernel
theorem dX4_digest_145 : decode cX4_digest 145 = .ok (.iload 4, 2) := by decide +kernel
theorem dX4_digest_147 : decode cX4_digest 147 = .ok (.aload_n 0, 1) := by decide +kernel
theorem dX4_digest_148 : decode cX4_digest 148 = .ok (.getfield 43, 3) := by decide +kernel
theorem dX4_digest_151 : decode cX4_digest 151 = .ok (.if_icmp .ge 50, 3) := by decide +kernel
theorem dX4_digest_154 : decode cX4_digest 154 = .ok (.lload_n 2, 1) := by decide +kernel
theorem dX4_digest_155 : decode cX4_digest 155 = .ok (.ldc2_w 157, 3) := by decide +kernel
theorem dX4_digest_158 : decode cX4_digest 158 = .ok (.lmul, 1) := by decide +kernel
theorem dX4_digest_159 : decode cX4_digest 159 = .ok (.aload_n 0, 1) := by decide +kernel
theorem dX4_digest_160 : decode cX4_digest 160 = .ok (.getfield 13, 3) := by decide +kernel
theorem dX4_digest_163 : decode cX4_digest 163 = .ok (.iload 4, 2) := by decide +kernel
theorem dX4_digest_165 : decode cX4_digest 165 = .ok (.iaload, 1) := by decide +kernel
theorem dX4_digest_166 : decode cX4_digest 166 = .ok (.i2l, 1) := by decide +kernel
theorem dX4_digest_167 : decode cX4_digest 167 = .ok (.ladd, 1) := by decide +kernel
theorem dX4_digest_168 : decode cX4_digest 168 = .ok (.ldc2_w 157, 3) := by decide +kernel
theorem dX4_digest_171 : decode cX4_digest 171 = .ok (.lmul, 1) := by decide +kernel
theorem dX4_digest_172 : decode cX4_digest 172 = .ok (.aload_n 0, 1) := by decide +kernel
theorem dX4_digest_173 : decode cX4_digest 173 = .ok (.getfield 17, 3) := by decide +kernel
theorem dX4_digest_176 : decode cX4_digest 176 = .ok (.iload 4, 2) := by decide +kernel
theorem dX4_digest_178 : decode cX4_digest 178 = .ok (.iaload, 1) := by decide +kernel
theorem dX4_digest_179 : decode cX4_digest 179 = .ok (.i2l, 1) := by decide +kernel
theorem dX4_digest_180 : decode cX4_digest 180 = .ok (.ladd, 1) := by decide +kernel
theorem dX4_digest_181 : decode cX4_digest 181 = .ok (.ldc2_w 157, 3) := by decide +kernel
theorem dX4_digest_184 : decode cX4_digest 184 = .ok (.lmul, 1) := by decide +kernel
theorem dX4_digest_185 : decode cX4_digest 185 = .ok (.aload_n 0, 1) := by decide +kernel
theorem dX4_digest_186 : decode cX4_digest 186 = .ok (.getfield 20, 3) := by decide +kernel
theorem dX4_digest_189 : decode cX4_digest 189 = .ok (.iload 4, 2) := by decide +kernel
theorem dX4_digest_191 : decode cX4_digest 191 = .ok (.iaload, 1) := by decide +kernel
theorem dX4_digest_192 : decode cX4_digest 192 = .ok (.i2l, 1) := by decide +kernel
theorem dX4_digest_193 : decode cX4_digest 193 = .ok (.ladd, 1) := by decide +kernel
theorem dX4_digest_194 : decode cX4_digest 194 = .ok (.lstore_n 2, 1) := by decide +kernel
theorem dX4_digest_195 : decode cX4_digest 195 = .ok (.iinc 4 1, 3) := by decide +kernel
theorem dX4_digest_198 : decode cX4_digest 198 = .ok (.goto (-53), 3) := by decide +kernel
theorem dX4_digest_201 : decode cX4_digest 201 = .ok (.aload_n 0, 1) := by decide +kernel
theorem dX4_digest_202 : decode cX4_digest 202 = .ok (.invokevirtual 67, 3) := by decide +kernel
theorem dX4_digest_205 : decode cX4_digest 205 = .ok (.aload_n 0, 1) := by decide +kernel
theorem dX4_digest_206 : decode cX4_digest 206 = .ok (.iconst 0, 1) := by decide +kernel
theorem dX4_digest_207 : decode cX4_digest 207 = .ok (.invokevirtual 77, 3) := by decide +kernel
theorem dX4_digest_210 : decode cX4_digest 210 = .ok (.bipush 25, 2) := by decide +kernel
theorem dX4_digest_212 : decode cX4_digest 212 = .ok (.istore 4, 2) := by decide +kernel
theorem dX4_digest_214 : decode cX4_digest 214 = .ok (.iload 4, 2) := by decide +kernel
theorem dX4_digest_216 : decode cX4_digest 216 = .ok (.sipush 300, 3) := by decide +kernel
theorem dX4_digest_219 : decode cX4_digest 219 = .ok (.if_icmp .gt 47, 3) := by decide +kernel
theorem dX4_digest_222 : decode cX4_digest 222 = .ok (.lload_n 2, 1) := by decide +kernel
theorem dX4_digest_223 : decode cX4_digest 223 = .ok (.ldc2_w 157, 3) := by decide +kernel
theorem dX4_digest_226 : decode cX4_digest 226 = .ok (.lmul, 1) := by decide +kernel
theorem dX4_digest_227 : decode cX4_digest 227 = .ok (.aload_n 0, 1) := by decide +kernel
theorem dX4_digest_228 : decode cX4_digest 228 = .ok (.iload 4, 2) := by decide +kernel
theorem dX4_digest_230 : decode cX4_digest 230 = .ok (.invokevirtual 122, 3) := by decide +kernel
theorem dX4_digest_233 : decode cX4_digest 233 = .ok (.i2l, 1) := by decide +kernel
theorem dX4_digest_234 : decode cX4_digest 234 = .ok (.ladd, 1) := by decide +kernel
theorem dX4_digest_235 : decode cX4_digest 235 = .ok (.ldc2_w 157, 3) := by decide +kernel
theorem dX4_digest_238 : decode cX4_digest 238 = .ok (.lmul, 1) := by decide +kernel
theorem dX4_digest_239 : decode cX4_digest 239 = .ok (.aload_n 0, 1) := by decide +kernel
theorem dX4_digest_240 : decode cX4_digest 240 = .ok (.iload 4, 2) := by decide +kernel
theorem dX4_digest_242 : decode cX4_digest 242 = .ok (.invokevirtual 125, 3) := by decide +kernel
theorem dX4_digest_245 : decode cX4_digest 245 = .ok (.i2l, 1) := by decide +kernel
theorem dX4_digest_246 : decode cX4_digest 246 = .ok (.ladd, 1) := by decide +kernel
theorem dX4_digest_247 : decode cX4_digest 247 = .ok (.ldc2_w 157, 3) := by decide +kernel
theorem dX4_digest_250 : decode cX4_digest 250 = .ok (.lmul, 1) := by decide +kernel
theorem dX4_digest_251 : decode cX4_digest 251 = .ok (.aload_n 0, 1) := by decide +kernel
theorem dX4_digest_252 : decode cX4_digest 252 = .ok (.iload 4, 2) := by decide +kernel
theorem dX4_digest_254 : decode cX4_digest 254 = .ok (.invokevirtual 134, 3) := by decide +kernel
theorem dX4_digest_257 : decode cX4_digest 257 = .ok (.i2l, 1) := by decide +kernel
theorem dX4_digest_258 : decode cX4_digest 258 = .ok (.ladd, 1) := by decide +kernel
theorem dX4_digest_259 : decode cX4_digest 259 = .ok (.lstore_n 2, 1) := by decide +kernel
theorem dX4_digest_260 : decode cX4_digest 260 = .ok (.iinc 4 25, 3) := by decide +kernel
theorem dX4_digest_263 : decode cX4_digest 263 = .ok (.goto (-49), 3) := by decide +kernel
theorem dX4_digest_266 : decode cX4_digest 266 = .ok (.lload_n 2, 1) := by decide +kernel
theorem dX4_digest_267 : decode cX4_digest 267 = .ok (.lreturn, 1) := by decide +kernel
theorem dJ9_min_7cf53_0 : decode cJ9_min_7cf53 0 = .ok (.iload_n 0, 1) := by decide +kernel
theorem dJ9_min_7cf53_1 : decode cJ9_min_7cf53 1 = .ok (.iload_n 1, 1) := by decide +kernel
theorem dJ9_min_7cf53_2 : decode cJ9_min_7cf53 2 = .ok (.if_icmp .gt 7, 3) := by decide +kernel
theorem dJ9_min_7cf53_5 : decode cJ9_min_7cf53 5 = .ok (.iload_n 0, 1) := by decide +kernel
theorem dJ9_min_7cf53_6 : decode cJ9_min_7cf53 6 = .ok (.goto 4, 3) := by decide +kernel
theorem dJ9_min_7cf53_9 : decode cJ9_min_7cf53 9 = .ok (.iload_n 1, 1) := by decide +kernel
theorem dJ9_min_7cf53_10 : decode cJ9_min_7cf53 10 = .ok (.ireturn, 1) := by decide +kernel
theorem dL_addStamp_0 : decode cL_addStamp 0 = .ok (.aload_n 3, 1) := by decide +kernel
theorem dL_addStamp_1 : decode cL_addStamp 1 = .ok (.iconst 0, 1) := by decide +kernel
theorem dL_addStamp_2 : decode cL_addStamp 2 = .ok (.aload_n 0, 1) := by decide +kernel
theorem dL_addStamp_3 : decode cL_addStamp 3 = .ok (.iload_n 1, 1) := by decide +kernel
theorem dL_addStamp_4 : decode cL_addStamp 4 = .ok (.iload_n 2, 1) := by decide +kernel
theorem dL_addStamp_5 : decode cL_addStamp 5 = .ok (.invokevirtual 7, 3) := by decide +kernel
theorem dL_addStamp_8 : decode cL_addStamp 8 = .ok (.i2l, 1) := by decide +kernel
theorem dL_addStamp_9 : decode cL_addStamp 9 = .ok (.lastore, 1) := by decide +kernel
theorem dL_addStamp_10 : decode cL_addStamp 10 = .ok (.goto 11, 3) := by decide +kernel
theorem dL_addStamp_13 : decode cL_addStamp 13 = .ok (.astore 4, 2) := by decide +kernel
theorem dL_addStamp_15 : decode cL_addStamp 15 = .ok (.iconst 1, 1) := by decide +kernel
theorem dL_addStamp_16 : decode cL_addStamp 16 = .ok (.ireturn, 1) := by decide +kernel
theorem dL_addStamp_17 : decode cL_addStamp 17 = .ok (.astore 4, 2) := by decide +kernel
theorem dL_addStamp_19 : decode cL_addStamp 19 = .ok (.iconst 2, 1) := by decide +kernel
theorem dL_addStamp_20 : decode cL_addStamp 20 = .ok (.ireturn, 1) := by decide +kernel
theorem dL_addStamp_21 : decode cL_addStamp 21 = .ok (.iconst 0, 1) := by decide +kernel
theorem dL_addStamp_22 : decode cL_addStamp 22 = .ok (.ireturn, 1) := by decide +kernel
theorem dL_withdraw_0 : decode cL_withdraw 0 = .ok (.aload_n 2, 1) := by decide +kernel
theorem dL_withdraw_1 : decode cL_withdraw 1 = .ok (.iconst 0, 1) := by decide +kernel
theorem dL_withdraw_2 : decode cL_withdraw 2 = .ok (.aload_n 0, 1) := by decide +kernel
theorem dL_withdraw_3 : decode cL_withdraw 3 = .ok (.iload_n 1, 1) := by decide +kernel
theorem dL_withdraw_4 : decode cL_withdraw 4 = .ok (.invokevirtual 17, 3) := by decide +kernel
theorem dL_withdraw_7 : decode cL_withdraw 7 = .ok (.i2l, 1) := by decide +kernel
theorem dL_withdraw_8 : decode cL_withdraw 8 = .ok (.lastore, 1) := by decide +kernel
theorem dL_withdraw_9 : decode cL_withdraw 9 = .ok (.goto 6, 3) := by decide +kernel
theorem dL_withdraw_12 : decode cL_withdraw 12 = .ok (.astore_n 3, 1) := by decide +kernel
theorem dL_withdraw_13 : decode cL_withdraw 13 = .ok (.iconst 1, 1) := by decide +kernel
theorem dL_withdraw_14 : decode cL_withdraw 14 = .ok (.ireturn, 1) := by decide +kernel
theorem dL_withdraw_15 : decode cL_withdraw 15 = .ok (.iconst 0, 1) := by decide +kernel
theorem dL_withdraw_16 : decode cL_withdraw 16 = .ok (.ireturn, 1) := by decide +kernel
theorem dL_print_0 : decode cL_print 0 = .ok (.aload_n 3, 1) := by decide +kernel
theorem dL_print_1 : decode cL_print 1 = .ok (.iconst 0, 1) := by decide +kernel
theorem dL_print_2 : decode cL_print 2 = .ok (.aload_n 0, 1) := by decide +kernel
theorem dL_print_3 : decode cL_print 3 = .ok (.iload_n 1, 1) := by decide +kernel
theorem dL_print_4 : decode cL_print 4 = .ok (.iload_n 2, 1) := by decide +kernel
theorem dL_print_5 : decode cL_print 5 = .ok (.invokevirtual 23, 3) := by decide +kernel
theorem dL_print_8 : decode cL_print 8 = .ok (.i2l, 1) := by decide +kernel
theorem dL_print_9 : decode cL_print 9 = .ok (.lastore, 1) := by decide +kernel
theorem dL_print_10 : decode cL_print 10 = .ok (.goto 11, 3) := by decide +kernel
theorem dL_print_13 : decode cL_print 13 = .ok (.astore 4, 2) := by decide +kernel
theorem dL_print_15 : decode cL_print 15 = .ok (.iconst 1, 1) := by decide +kernel
theorem dL_print_16 : decode cL_print 16 = .ok (.ireturn, 1) := by decide +kernel
theorem dL_print_17 : decode cL_print 17 = .ok (.astore 4, 2) := by decide +kernel
theorem dL_print_19 : decode cL_print 19 = .ok (.iconst 2, 1) := by decide +kernel
theorem dL_print_20 : decode cL_print 20 = .ok (.ireturn, 1) := by decide +kernel
theorem dL_print_21 : decode cL_print 21 = .ok (.iconst 0, 1) := by decide +kernel
theorem dL_print_22 : decode cL_print 22 = .ok (.ireturn, 1) := by decide +kernel
theorem dL_setRoom_0 : decode cL_setRoom 0 = .ok (.aload_n 2, 1) := by decide +kernel
theorem dL_setRoom_1 : decode cL_setRoom 1 = .ok (.iconst 0, 1) := by decide +kernel
theorem dL_setRoom_2 : decode cL_setRoom 2 = .ok (.aload_n 0, 1) := by decide +kernel
theorem dL_setRoom_3 : decode cL_setRoom 3 = .ok (.iload_n 1, 1) := by decide +kernel
theorem dL_setRoom_4 : decode cL_setRoom 4 = .ok (.invokevirtual 26, 3) := by decide +kernel
theorem dL_setRoom_7 : decode cL_setRoom 7 = .ok (.i2l, 1) := by decide +kernel
theorem dL_setRoom_8 : decode cL_setRoom 8 = .ok (.lastore, 1) := by decide +kernel
theorem dL_setRoom_9 : decode cL_setRoom 9 = .ok (.goto 6, 3) := by decide +kernel
theorem dL_setRoom_12 : decode cL_setRoom 12 = .ok (.astore_n 3, 1) := by decide +kernel
theorem dL_setRoom_13 : decode cL_setRoom 13 = .ok (.iconst 1, 1) := by decide +kernel
theorem dL_setRoom_14 : decode cL_setRoom 14 = .ok (.ireturn, 1) := by decide +kernel
theorem dL_setRoom_15 : decode cL_setRoom 15 = .ok (.iconst 0, 1) := by decide +kernel
theorem dL_setRoom_16 : decode cL_setRoom 16 = .ok (.ireturn, 1) := by decide +kernel
theorem dL_vend_0 : decode cL_vend 0 = .ok (.aload_n 2, 1) := by decide +kernel
theorem dL_vend_1 : decode cL_vend 1 = .ok (.iconst 0, 1) := by decide +kernel
theorem dL_vend_2 : decode cL_vend 2 = .ok (.aload_n 0, 1) := by decide +kernel
theorem dL_vend_3 : decode cL_vend 3 = .ok (.iload_n 1, 1) := by decide +kernel
theorem dL_vend_4 : decode cL_vend 4 = .ok (.invokevirtual 29, 3) := by decide +kernel
theorem dL_vend_7 : decode cL_vend 7 = .ok (.i2l, 1) := by decide +kernel
theorem dL_vend_8 : decode cL_vend 8 = .ok (.lastore, 1) := by decide +kernel
theorem dL_vend_9 : decode cL_vend 9 = .ok (.goto 9, 3) := by decide +kernel
theorem dL_vend_12 : decode cL_vend 12 = .ok (.astore_n 3, 1) := by decide +kernel
theorem dL_vend_13 : decode cL_vend 13 = .ok (.iconst 1, 1) := by decide +kernel
theorem dL_vend_14 : decode cL_vend 14 = .ok (.ireturn, 1) := by decide +kernel
theorem dL_vend_15 : decode cL_vend 15 = .ok (.astore_n 3, 1) := by decide +kernel
theorem dL_vend_16 : decode cL_vend 16 = .ok (.iconst 2, 1) := by decide +kernel
theorem dL_vend_17 : decode cL_vend 17 = .ok (.ireturn, 1) := by decide +kernel
theorem dL_vend_18 : decode cL_vend 18 = .ok (.iconst 0, 1) := by decide +kernel
theorem dL_vend_19 : decode cL_vend 19 = .ok (.ireturn, 1) := by decide +kernel
theorem dL_valueOf_0 : decode cL_valueOf 0 = .ok (.aload_n 2, 1) := by decide +kernel
theorem dL_valueOf_1 : decode cL_valueOf 1 = .ok (.iconst 0, 1) := by decide +kernel
theorem dL_valueOf_2 : decode cL_valueOf 2 = .ok (.aload_n 0, 1) := by decide +kernel
theorem dL_valueOf_3 : decode cL_valueOf 3 = .ok (.iload_n 1, 1) := by decide +kernel
theorem dL_valueOf_4 : decode cL_valueOf 4 = .ok (.invokevirtual 32, 3) := by decide +kernel
theorem dL_valueOf_7 : decode cL_valueOf 7 = .ok (.i2l, 1) := by decide +kernel
theorem dL_valueOf_8 : decode cL_valueOf 8 = .ok (.lastore, 1) := by decide +kernel
theorem dL_valueOf_9 : decode cL_valueOf 9 = .ok (.goto 6, 3) := by decide +kernel
theorem dL_valueOf_12 : decode cL_valueOf 12 = .ok (.astore_n 3, 1) := by decide +kernel
theorem dL_valueOf_13 : decode cL_valueOf 13 = .ok (.iconst 1, 1) := by decide +kernel
theorem dL_valueOf_14 : decode cL_valueOf 14 = .ok (.ireturn, 1) := by decide +kernel
theorem dL_valueOf_15 : decode cL_valueOf 15 = .ok (.iconst 0, 1) := by decide +kernel
theorem dL_valueOf_16 : decode cL_valueOf 16 = .ok (.ireturn, 1) := by decide +kernel
theorem dL_stockOf_0 : decode cL_stockOf 0 = .ok (.aload_n 2, 1) := by decide +kernel
theorem dL_stockOf_1 : decode cL_stockOf 1 = .ok (.iconst 0, 1) := by decide +kernel
theorem dL_stockOf_2 : decode cL_stockOf 2 = .ok (.aload_n 0, 1) := by decide +kernel
theorem dL_stockOf_3 : decode cL_stockOf 3 = .ok (.iload_n 1, 1) := by decide +kernel
theorem dL_stockOf_4 : decode cL_stockOf 4 = .ok (.invokevirtual 35, 3) := by decide +kernel
theorem dL_stockOf_7 : decode cL_stockOf 7 = .ok (.i2l, 1) := by decide +kernel
theorem dL_stockOf_8 : decode cL_stockOf 8 = .ok (.lastore, 1) := by decide +kernel
theorem dL_stockOf_9 : decode cL_stockOf 9 = .ok (.goto 6, 3) := by decide +kernel
theorem dL_stockOf_12 : decode cL_stockOf 12 = .ok (.astore_n 3, 1) := by decide +kernel
theorem dL_stockOf_13 : decode cL_stockOf 13 = .ok (.iconst 1, 1) := by decide +kernel
theorem dL_stockOf_14 : decode cL_stockOf 14 = .ok (.ireturn, 1) := by decide +kernel
theorem dL_stockOf_15 : decode cL_stockOf 15 = .ok (.iconst 0, 1) := by decide +kernel
theorem dL_stockOf_16 : decode cL_stockOf 16 = .ok (.ireturn, 1) := by decide +kernel
theorem dL_vendedOf_0 : decode cL_vendedOf 0 = .ok (.aload_n 2, 1) := by decide +kernel
theorem dL_vendedOf_1 : decode cL_vendedOf 1 = .ok (.iconst 0, 1) := by decide +kernel
theorem dL_vendedOf_2 : decode cL_vendedOf 2 = .ok (.aload_n 0, 1) := by decide +kernel
theorem dL_vendedOf_3 : decode cL_vendedOf 3 = .ok (.iload_n 1, 1) := by decide +kernel
theorem dL_vendedOf_4 : decode cL_vendedOf 4 = .ok (.invokevirtual 38, 3) := by decide +kernel
theorem dL_vendedOf_7 : decode cL_vendedOf 7 = .ok (.i2l, 1) := by decide +kernel
theorem dL_vendedOf_8 : decode cL_vendedOf 8 = .ok (.lastore, 1) := by decide +kernel
theorem dL_vendedOf_9 : decode cL_vendedOf 9 = .ok (.goto 6, 3) := by decide +kernel
theorem dL_vendedOf_12 : decode cL_vendedOf 12 = .ok (.astore_n 3, 1) := by decide +kernel
theorem dL_vendedOf_13 : decode cL_vendedOf 13 = .ok (.iconst 1, 1) := by decide +kernel
theorem dL_vendedOf_14 : decode cL_vendedOf 14 = .ok (.ireturn, 1) := by decide +kernel
theorem dL_vendedOf_15 : decode cL_vendedOf 15 = .ok (.iconst 0, 1) := by decide +kernel
theorem dL_vendedOf_16 : decode cL_vendedOf 16 = .ok (.ireturn, 1) := by decide +kernel
theorem dL_canPay_0 : decode cL_canPay 0 = .ok (.aload_n 2, 1) := by decide +kernel
theorem dL_canPay_1 : decode cL_canPay 1 = .ok (.iconst 0, 1) := by decide +kernel
theorem dL_canPay_2 : decode cL_canPay 2 = .ok (.aload_n 0, 1) := by decide +kernel
theorem dL_canPay_3 : decode cL_canPay 3 = .ok (.iload_n 1, 1) := by decide +kernel
theorem dL_canPay_4 : decode cL_canPay 4 = .ok (.invokevirtual 41, 3) := by decide +kernel
theorem dL_canPay_7 : decode cL_canPay 7 = .ok (.ifCond .eq 7, 3) := by decide +kernel
theorem dL_canPay_10 : decode cL_canPay 10 = .ok (.lconst 1, 1) := by decide +kernel
theorem dL_canPay_11 : decode cL_canPay 11 = .ok (.goto 4, 3) := by decide +kernel
theorem dL_canPay_14 : decode cL_canPay 14 = .ok (.lconst 0, 1) := by decide +kernel
theorem dL_canPay_15 : decode cL_canPay 15 = .ok (.lastore, 1) := by decide +kernel
theorem dL_canPay_16 : decode cL_canPay 16 = .ok (.goto 6, 3) := by decide +kernel
theorem dL_canPay_19 : decode cL_canPay 19 = .ok (.astore_n 3, 1) := by decide +kernel
theorem dL_canPay_20 : decode cL_canPay 20 = .ok (.iconst 1, 1) := by decide +kernel
theorem dL_canPay_21 : decode cL_canPay 21 = .ok (.ireturn, 1) := by decide +kernel
theorem dL_canPay_22 : decode cL_canPay 22 = .ok (.iconst 0, 1) := by decide +kernel
theorem dL_canPay_23 : decode cL_canPay 23 = .ok (.ireturn, 1) := by decide +kernel
theorem dL_overpay_0 : decode cL_overpay 0 = .ok (.aload_n 2, 1) := by decide +kernel
theorem dL_overpay_1 : decode cL_overpay 1 = .ok (.iconst 0, 1) := by decide +kernel
theorem dL_overpay_2 : decode cL_overpay 2 = .ok (.aload_n 0, 1) := by decide +kernel
theorem dL_overpay_3 : decode cL_overpay 3 = .ok (.iload_n 1, 1) := by decide +kernel
theorem dL_overpay_4 : decode cL_overpay 4 = .ok (.invokevirtual 45, 3) := by decide +kernel
theorem dL_overpay_7 : decode cL_overpay 7 = .ok (.i2l, 1) := by decide +kernel
theorem dL_overpay_8 : decode cL_overpay 8 = .ok (.lastore, 1) := by decide +kernel
theorem dL_overpay_9 : decode cL_overpay 9 = .ok (.goto 6, 3) := by decide +kernel
theorem dL_overpay_12 : decode cL_overpay 12 = .ok (.astore_n 3, 1) := by decide +kernel
theorem dL_overpay_13 : decode cL_overpay 13 = .ok (.iconst 1, 1) := by decide +kernel
theorem dL_overpay_14 : decode cL_overpay 14 = .ok (.ireturn, 1) := by decide +kernel
theorem dL_overpay_15 : decode cL_overpay 15 = .ok (.iconst 0, 1) := by decide +kernel
theorem dL_overpay_16 : decode cL_overpay 16 = .ok (.ireturn, 1) := by decide +kernel
theorem dL_stampsFor_0 : decode cL_stampsFor 0 = .ok (.aload_n 2, 1) := by decide +kernel
theorem dL_stampsFor_1 : decode cL_stampsFor 1 = .ok (.iconst 0, 1) := by decide +kernel
theorem dL_stampsFor_2 : decode cL_stampsFor 2 = .ok (.aload_n 0, 1) := by decide +kernel
theorem dL_stampsFor_3 : decode cL_stampsFor 3 = .ok (.iload_n 1, 1) := by decide +kernel
theorem dL_stampsFor_4 : decode cL_stampsFor 4 = .ok (.invokevirtual 48, 3) := by decide +kernel
theorem dL_stampsFor_7 : decode cL_stampsFor 7 = .ok (.i2l, 1) := by decide +kernel
theorem dL_stampsFor_8 : decode cL_stampsFor 8 = .ok (.lastore, 1) := by decide +kernel
theorem dL_stampsFor_9 : decode cL_stampsFor 9 = .ok (.goto 6, 3) := by decide +kernel
theorem dL_stampsFor_12 : decode cL_stampsFor 12 = .ok (.astore_n 3, 1) := by decide +kernel
theorem dL_stampsFor_13 : decode cL_stampsFor 13 = .ok (.iconst 1, 1) := by decide +kernel
theorem dL_stampsFor_14 : decode cL_stampsFor 14 = .ok (.ireturn, 1) := by decide +kernel
theorem dL_stampsFor_15 : decode cL_stampsFor 15 = .ok (.iconst 0, 1) := by decide +kernel
theorem dL_stampsFor_16 : decode cL_stampsFor 16 = .ok (.ireturn, 1) := by decide +kernel
theorem dL_ofStampFor_0 : decode cL_ofStampFor 0 = .ok (.aload_n 3, 1) := by decide +kernel
theorem dL_ofStampFor_1 : decode cL_ofStampFor 1 = .ok (.iconst 0, 1) := by decide +kernel
theorem dL_ofStampFor_2 : decode cL_ofStampFor 2 = .ok (.aload_n 0, 1) := by decide +kernel
theorem dL_ofStampFor_3 : decode cL_ofStampFor 3 = .ok (.iload_n 1, 1) := by decide +kernel
theorem dL_ofStampFor_4 : decode cL_ofStampFor 4 = .ok (.iload_n 2, 1) := by decide +kernel
end
section
theorem dL_ofStampFor_5 : decode cL_ofStampFor 5 = .ok (.invokevirtual 51, 3) := by decide +kernel
theorem dL_ofStampFor_8 : decode cL_ofStampFor 8 = .ok (.i2l, 1) := by decide +kernel
theorem dL_ofStampFor_9 : decode cL_ofStampFor 9 = .ok (.lastore, 1) := by decide +kernel
theorem dL_ofStampFor_10 : decode cL_ofStampFor 10 = .ok (.goto 11, 3) := by decide +kernel
theorem dL_ofStampFor_13 : decode cL_ofStampFor 13 = .ok (.astore 4, 2) := by decide +kernel
theorem dL_ofStampFor_15 : decode cL_ofStampFor 15 = .ok (.iconst 1, 1) := by decide +kernel
theorem dL_ofStampFor_16 : decode cL_ofStampFor 16 = .ok (.ireturn, 1) := by decide +kernel
theorem dL_ofStampFor_17 : decode cL_ofStampFor 17 = .ok (.astore 4, 2) := by decide +kernel
theorem dL_ofStampFor_19 : decode cL_ofStampFor 19 = .ok (.iconst 2, 1) := by decide +kernel
theorem dL_ofStampFor_20 : decode cL_ofStampFor 20 = .ok (.ireturn, 1) := by decide +kernel
theorem dL_ofStampFor_21 : decode cL_ofStampFor 21 = .ok (.iconst 0, 1) := by decide +kernel
theorem dL_ofStampFor_22 : decode cL_ofStampFor 22 = .ok (.ireturn, 1) := by decide +kernel
theorem dL_fewest_0 : decode cL_fewest 0 = .ok (.aload_n 2, 1) := by decide +kernel
theorem dL_fewest_1 : decode cL_fewest 1 = .ok (.iconst 0, 1) := by decide +kernel
theorem dL_fewest_2 : decode cL_fewest 2 = .ok (.aload_n 0, 1) := by decide +kernel
theorem dL_fewest_3 : decode cL_fewest 3 = .ok (.iload_n 1, 1) := by decide +kernel
theorem dL_fewest_4 : decode cL_fewest 4 = .ok (.invokevirtual 54, 3) := by decide +kernel
theorem dL_fewest_7 : decode cL_fewest 7 = .ok (.i2l, 1) := by decide +kernel
theorem dL_fewest_8 : decode cL_fewest 8 = .ok (.lastore, 1) := by decide +kernel
theorem dL_fewest_9 : decode cL_fewest 9 = .ok (.goto 6, 3) := by decide +kernel
theorem dL_fewest_12 : decode cL_fewest 12 = .ok (.astore_n 3, 1) := by decide +kernel
theorem dL_fewest_13 : decode cL_fewest 13 = .ok (.iconst 1, 1) := by decide +kernel
theorem dL_fewest_14 : decode cL_fewest 14 = .ok (.ireturn, 1) := by decide +kernel
theorem dL_fewest_15 : decode cL_fewest 15 = .ok (.iconst 0, 1) := by decide +kernel
theorem dL_fewest_16 : decode cL_fewest 16 = .ok (.ireturn, 1) := by decide +kernel
theorem dL_ways_0 : decode cL_ways 0 = .ok (.aload_n 2, 1) := by decide +kernel
theorem dL_ways_1 : decode cL_ways 1 = .ok (.iconst 0, 1) := by decide +kernel
theorem dL_ways_2 : decode cL_ways 2 = .ok (.aload_n 0, 1) := by decide +kernel
theorem dL_ways_3 : decode cL_ways 3 = .ok (.iload_n 1, 1) := by decide +kernel
theorem dL_ways_4 : decode cL_ways 4 = .ok (.invokevirtual 57, 3) := by decide +kernel
theorem dL_ways_7 : decode cL_ways 7 = .ok (.i2l, 1) := by decide +kernel
theorem dL_ways_8 : decode cL_ways 8 = .ok (.lastore, 1) := by decide +kernel
theorem dL_ways_9 : decode cL_ways 9 = .ok (.goto 6, 3) := by decide +kernel
theorem dL_ways_12 : decode cL_ways 12 = .ok (.astore_n 3, 1) := by decide +kernel
theorem dL_ways_13 : decode cL_ways 13 = .ok (.iconst 1, 1) := by decide +kernel
theorem dL_ways_14 : decode cL_ways 14 = .ok (.ireturn, 1) := by decide +kernel
theorem dL_ways_15 : decode cL_ways 15 = .ok (.iconst 0, 1) := by decide +kernel
theorem dL_ways_16 : decode cL_ways 16 = .ok (.ireturn, 1) := by decide +kernel
theorem dL_gapFrom_0 : decode cL_gapFrom 0 = .ok (.aload_n 2, 1) := by decide +kernel
theorem dL_gapFrom_1 : decode cL_gapFrom 1 = .ok (.iconst 0, 1) := by decide +kernel
theorem dL_gapFrom_2 : decode cL_gapFrom 2 = .ok (.aload_n 0, 1) := by decide +kernel
theorem dL_gapFrom_3 : decode cL_gapFrom 3 = .ok (.iload_n 1, 1) := by decide +kernel
theorem dL_gapFrom_4 : decode cL_gapFrom 4 = .ok (.invokevirtual 60, 3) := by decide +kernel
theorem dL_gapFrom_7 : decode cL_gapFrom 7 = .ok (.i2l, 1) := by decide +kernel
theorem dL_gapFrom_8 : decode cL_gapFrom 8 = .ok (.lastore, 1) := by decide +kernel
theorem dL_gapFrom_9 : decode cL_gapFrom 9 = .ok (.goto 6, 3) := by decide +kernel
theorem dL_gapFrom_12 : decode cL_gapFrom 12 = .ok (.astore_n 3, 1) := by decide +kernel
theorem dL_gapFrom_13 : decode cL_gapFrom 13 = .ok (.iconst 1, 1) := by decide +kernel
theorem dL_gapFrom_14 : decode cL_gapFrom 14 = .ok (.ireturn, 1) := by decide +kernel
theorem dL_gapFrom_15 : decode cL_gapFrom 15 = .ok (.iconst 0, 1) := by decide +kernel
theorem dL_gapFrom_16 : decode cL_gapFrom 16 = .ok (.ireturn, 1) := by decide +kernel
theorem dL_gapsTo_0 : decode cL_gapsTo 0 = .ok (.aload_n 2, 1) := by decide +kernel
theorem dL_gapsTo_1 : decode cL_gapsTo 1 = .ok (.iconst 0, 1) := by decide +kernel
theorem dL_gapsTo_2 : decode cL_gapsTo 2 = .ok (.aload_n 0, 1) := by decide +kernel
theorem dL_gapsTo_3 : decode cL_gapsTo 3 = .ok (.iload_n 1, 1) := by decide +kernel
theorem dL_gapsTo_4 : decode cL_gapsTo 4 = .ok (.invokevirtual 63, 3) := by decide +kernel
theorem dL_gapsTo_7 : decode cL_gapsTo 7 = .ok (.i2l, 1) := by decide +kernel
theorem dL_gapsTo_8 : decode cL_gapsTo 8 = .ok (.lastore, 1) := by decide +kernel
theorem dL_gapsTo_9 : decode cL_gapsTo 9 = .ok (.goto 6, 3) := by decide +kernel
theorem dL_gapsTo_12 : decode cL_gapsTo 12 = .ok (.astore_n 3, 1) := by decide +kernel
theorem dL_gapsTo_13 : decode cL_gapsTo 13 = .ok (.iconst 1, 1) := by decide +kernel
theorem dL_gapsTo_14 : decode cL_gapsTo 14 = .ok (.ireturn, 1) := by decide +kernel
theorem dL_gapsTo_15 : decode cL_gapsTo 15 = .ok (.iconst 0, 1) := by decide +kernel
theorem dL_gapsTo_16 : decode cL_gapsTo 16 = .ok (.ireturn, 1) := by decide +kernel
theorem dL_lettersOf_0 : decode cL_lettersOf 0 = .ok (.aload_n 2, 1) := by decide +kernel
theorem dL_lettersOf_1 : decode cL_lettersOf 1 = .ok (.iconst 0, 1) := by decide +kernel
theorem dL_lettersOf_2 : decode cL_lettersOf 2 = .ok (.aload_n 0, 1) := by decide +kernel
theorem dL_lettersOf_3 : decode cL_lettersOf 3 = .ok (.iload_n 1, 1) := by decide +kernel
theorem dL_lettersOf_4 : decode cL_lettersOf 4 = .ok (.invokevirtual 66, 3) := by decide +kernel
theorem dL_lettersOf_7 : decode cL_lettersOf 7 = .ok (.i2l, 1) := by decide +kernel
theorem dL_lettersOf_8 : decode cL_lettersOf 8 = .ok (.lastore, 1) := by decide +kernel
theorem dL_lettersOf_9 : decode cL_lettersOf 9 = .ok (.goto 6, 3) := by decide +kernel
theorem dL_lettersOf_12 : decode cL_lettersOf 12 = .ok (.astore_n 3, 1) := by decide +kernel
theorem dL_lettersOf_13 : decode cL_lettersOf 13 = .ok (.iconst 1, 1) := by decide +kernel
theorem dL_lettersOf_14 : decode cL_lettersOf 14 = .ok (.ireturn, 1) := by decide +kernel
theorem dL_lettersOf_15 : decode cL_lettersOf 15 = .ok (.iconst 0, 1) := by decide +kernel
theorem dL_lettersOf_16 : decode cL_lettersOf 16 = .ok (.ireturn, 1) := by decide +kernel
theorem dL_reachWithRoom_0 : decode cL_reachWithRoom 0 = .ok (.aload_n 2, 1) := by decide +kernel
theorem dL_reachWithRoom_1 : decode cL_reachWithRoom 1 = .ok (.iconst 0, 1) := by decide +kernel
theorem dL_reachWithRoom_2 : decode cL_reachWithRoom 2 = .ok (.aload_n 0, 1) := by decide +kernel
theorem dL_reachWithRoom_3 : decode cL_reachWithRoom 3 = .ok (.iload_n 1, 1) := by decide +kernel
theorem dL_reachWithRoom_4 : decode cL_reachWithRoom 4 = .ok (.invokevirtual 69, 3) := by decide +kernel
theorem dL_reachWithRoom_7 : decode cL_reachWithRoom 7 = .ok (.i2l, 1) := by decide +kernel
theorem dL_reachWithRoom_8 : decode cL_reachWithRoom 8 = .ok (.lastore, 1) := by decide +kernel
theorem dL_reachWithRoom_9 : decode cL_reachWithRoom 9 = .ok (.goto 6, 3) := by decide +kernel
theorem dL_reachWithRoom_12 : decode cL_reachWithRoom 12 = .ok (.astore_n 3, 1) := by decide +kernel
theorem dL_reachWithRoom_13 : decode cL_reachWithRoom 13 = .ok (.iconst 1, 1) := by decide +kernel
theorem dL_reachWithRoom_14 : decode cL_reachWithRoom 14 = .ok (.ireturn, 1) := by decide +kernel
theorem dL_reachWithRoom_15 : decode cL_reachWithRoom 15 = .ok (.iconst 0, 1) := by decide +kernel
theorem dL_reachWithRoom_16 : decode cL_reachWithRoom 16 = .ok (.ireturn, 1) := by decide +kernel
theorem dL_law_0 : decode cL_law 0 = .ok (.new 8, 3) := by decide +kernel
theorem dL_law_3 : decode cL_law 3 = .ok (.dup, 1) := by decide +kernel
theorem dL_law_4 : decode cL_law 4 = .ok (.invokespecial 72, 3) := by decide +kernel
theorem dL_law_7 : decode cL_law 7 = .ok (.astore_n 1, 1) := by decide +kernel
theorem dL_law_8 : decode cL_law 8 = .ok (.new 73, 3) := by decide +kernel
theorem dL_law_11 : decode cL_law 11 = .ok (.dup, 1) := by decide +kernel
theorem dL_law_12 : decode cL_law 12 = .ok (.invokespecial 75, 3) := by decide +kernel
theorem dL_law_15 : decode cL_law 15 = .ok (.astore_n 2, 1) := by decide +kernel
theorem dL_law_16 : decode cL_law 16 = .ok (.iconst 1, 1) := by decide +kernel
theorem dL_law_17 : decode cL_law 17 = .ok (.newarray .long, 2) := by decide +kernel
theorem dL_law_19 : decode cL_law 19 = .ok (.astore_n 3, 1) := by decide +kernel
theorem dL_law_20 : decode cL_law 20 = .ok (.iconst 0, 1) := by decide +kernel
theorem dL_law_21 : decode cL_law 21 = .ok (.istore 4, 2) := by decide +kernel
theorem dL_law_23 : decode cL_law 23 = .ok (.iload 4, 2) := by decide +kernel
theorem dL_law_25 : decode cL_law 25 = .ok (.aload_n 0, 1) := by decide +kernel
theorem dL_law_26 : decode cL_law 26 = .ok (.arraylength, 1) := by decide +kernel
theorem dL_law_27 : decode cL_law 27 = .ok (.iconst 3, 1) := by decide +kernel
theorem dL_law_28 : decode cL_law 28 = .ok (.isub, 1) := by decide +kernel
theorem dL_law_29 : decode cL_law 29 = .ok (.if_icmp .gt 1402, 3) := by decide +kernel
theorem dL_law_32 : decode cL_law 32 = .ok (.aload_n 0, 1) := by decide +kernel
theorem dL_law_33 : decode cL_law 33 = .ok (.iload 4, 2) := by decide +kernel
theorem dL_law_35 : decode cL_law 35 = .ok (.iaload, 1) := by decide +kernel
theorem dL_law_36 : decode cL_law 36 = .ok (.bipush 31, 2) := by decide +kernel
theorem dL_law_38 : decode cL_law 38 = .ok (.iand, 1) := by decide +kernel
theorem dL_law_39 : decode cL_law 39 = .ok (.tableswitch 1386 0 30 #[137, 205, 261, 329, 385, 441, 454, 467, 523, 579, 635, 648, 661, 674, 687, 750, 806, 862, 930, 943, 956, 1012, 1068, 1081, 1137, 1193, 1249, 1262, 1275, 1331, 1372], 137) := by decide +kernel
theorem dL_law_176 : decode cL_law 176 = .ok (.aload_n 1, 1) := by decide +kernel
theorem dL_law_177 : decode cL_law 177 = .ok (.aload_n 0, 1) := by decide +kernel
theorem dL_law_178 : decode cL_law 178 = .ok (.iload 4, 2) := by decide +kernel
theorem dL_law_180 : decode cL_law 180 = .ok (.iconst 1, 1) := by decide +kernel
theorem dL_law_181 : decode cL_law 181 = .ok (.iadd, 1) := by decide +kernel
theorem dL_law_182 : decode cL_law 182 = .ok (.iaload, 1) := by decide +kernel
theorem dL_law_183 : decode cL_law 183 = .ok (.aload_n 0, 1) := by decide +kernel
theorem dL_law_184 : decode cL_law 184 = .ok (.iload 4, 2) := by decide +kernel
theorem dL_law_186 : decode cL_law 186 = .ok (.iconst 2, 1) := by decide +kernel
theorem dL_law_187 : decode cL_law 187 = .ok (.iadd, 1) := by decide +kernel
theorem dL_law_188 : decode cL_law 188 = .ok (.iaload, 1) := by decide +kernel
theorem dL_law_189 : decode cL_law 189 = .ok (.aload_n 3, 1) := by decide +kernel
theorem dL_law_190 : decode cL_law 190 = .ok (.invokestatic 76, 3) := by decide +kernel
theorem dL_law_193 : decode cL_law 193 = .ok (.istore 5, 2) := by decide +kernel
theorem dL_law_195 : decode cL_law 195 = .ok (.aload_n 2, 1) := by decide +kernel
theorem dL_law_196 : decode cL_law 196 = .ok (.aload_n 0, 1) := by decide +kernel
theorem dL_law_197 : decode cL_law 197 = .ok (.iload 4, 2) := by decide +kernel
theorem dL_law_199 : decode cL_law 199 = .ok (.iconst 1, 1) := by decide +kernel
theorem dL_law_200 : decode cL_law 200 = .ok (.iadd, 1) := by decide +kernel
theorem dL_law_201 : decode cL_law 201 = .ok (.iaload, 1) := by decide +kernel
theorem dL_law_202 : decode cL_law 202 = .ok (.aload_n 0, 1) := by decide +kernel
theorem dL_law_203 : decode cL_law 203 = .ok (.iload 4, 2) := by decide +kernel
theorem dL_law_205 : decode cL_law 205 = .ok (.iconst 2, 1) := by decide +kernel
theorem dL_law_206 : decode cL_law 206 = .ok (.iadd, 1) := by decide +kernel
theorem dL_law_207 : decode cL_law 207 = .ok (.iaload, 1) := by decide +kernel
theorem dL_law_208 : decode cL_law 208 = .ok (.invokevirtual 81, 3) := by decide +kernel
theorem dL_law_211 : decode cL_law 211 = .ok (.istore 6, 2) := by decide +kernel
theorem dL_law_213 : decode cL_law 213 = .ok (.aload_n 2, 1) := by decide +kernel
theorem dL_law_214 : decode cL_law 214 = .ok (.invokevirtual 82, 3) := by decide +kernel
theorem dL_law_217 : decode cL_law 217 = .ok (.iload 5, 2) := by decide +kernel
theorem dL_law_219 : decode cL_law 219 = .ok (.if_icmp .eq 5, 3) := by decide +kernel
theorem dL_law_222 : decode cL_law 222 = .ok (.iconst 0, 1) := by decide +kernel
theorem dL_law_223 : decode cL_law 223 = .ok (.ireturn, 1) := by decide +kernel
theorem dL_law_224 : decode cL_law 224 = .ok (.iload 5, 2) := by decide +kernel
theorem dL_law_226 : decode cL_law 226 = .ok (.ifCond .ne 15, 3) := by decide +kernel
theorem dL_law_229 : decode cL_law 229 = .ok (.aload_n 3, 1) := by decide +kernel
theorem dL_law_230 : decode cL_law 230 = .ok (.iconst 0, 1) := by decide +kernel
theorem dL_law_231 : decode cL_law 231 = .ok (.laload, 1) := by decide +kernel
theorem dL_law_232 : decode cL_law 232 = .ok (.iload 6, 2) := by decide +kernel
theorem dL_law_234 : decode cL_law 234 = .ok (.i2l, 1) := by decide +kernel
theorem dL_law_235 : decode cL_law 235 = .ok (.lcmp, 1) := by decide +kernel
theorem dL_law_236 : decode cL_law 236 = .ok (.ifCond .eq 5, 3) := by decide +kernel
theorem dL_law_239 : decode cL_law 239 = .ok (.iconst 0, 1) := by decide +kernel
theorem dL_law_240 : decode cL_law 240 = .ok (.ireturn, 1) := by decide +kernel
theorem dL_law_241 : decode cL_law 241 = .ok (.goto 1184, 3) := by decide +kernel
theorem dL_law_244 : decode cL_law 244 = .ok (.aload_n 1, 1) := by decide +kernel
theorem dL_law_245 : decode cL_law 245 = .ok (.aload_n 0, 1) := by decide +kernel
theorem dL_law_246 : decode cL_law 246 = .ok (.iload 4, 2) := by decide +kernel
theorem dL_law_248 : decode cL_law 248 = .ok (.iconst 1, 1) := by decide +kernel
theorem dL_law_249 : decode cL_law 249 = .ok (.iadd, 1) := by decide +kernel
theorem dL_law_250 : decode cL_law 250 = .ok (.iaload, 1) := by decide +kernel
theorem dL_law_251 : decode cL_law 251 = .ok (.aload_n 3, 1) := by decide +kernel
theorem dL_law_252 : decode cL_law 252 = .ok (.invokestatic 86, 3) := by decide +kernel
theorem dL_law_255 : decode cL_law 255 = .ok (.istore 5, 2) := by decide +kernel
theorem dL_law_257 : decode cL_law 257 = .ok (.aload_n 2, 1) := by decide +kernel
theorem dL_law_258 : decode cL_law 258 = .ok (.aload_n 0, 1) := by decide +kernel
theorem dL_law_259 : decode cL_law 259 = .ok (.iload 4, 2) := by decide +kernel
theorem dL_law_261 : decode cL_law 261 = .ok (.iconst 1, 1) := by decide +kernel
theorem dL_law_262 : decode cL_law 262 = .ok (.iadd, 1) := by decide +kernel
theorem dL_law_263 : decode cL_law 263 = .ok (.iaload, 1) := by decide +kernel
theorem dL_law_264 : decode cL_law 264 = .ok (.invokevirtual 89, 3) := by decide +kernel
theorem dL_law_267 : decode cL_law 267 = .ok (.istore 6, 2) := by decide +kernel
theorem dL_law_269 : decode cL_law 269 = .ok (.aload_n 2, 1) := by decide +kernel
theorem dL_law_270 : decode cL_law 270 = .ok (.invokevirtual 82, 3) := by decide +kernel
theorem dL_law_273 : decode cL_law 273 = .ok (.iload 5, 2) := by decide +kernel
theorem dL_law_275 : decode cL_law 275 = .ok (.if_icmp .eq 5, 3) := by decide +kernel
theorem dL_law_278 : decode cL_law 278 = .ok (.iconst 0, 1) := by decide +kernel
theorem dL_law_279 : decode cL_law 279 = .ok (.ireturn, 1) := by decide +kernel
theorem dL_law_280 : decode cL_law 280 = .ok (.iload 5, 2) := by decide +kernel
theorem dL_law_282 : decode cL_law 282 = .ok (.ifCond .ne 15, 3) := by decide +kernel
theorem dL_law_285 : decode cL_law 285 = .ok (.aload_n 3, 1) := by decide +kernel
theorem dL_law_286 : decode cL_law 286 = .ok (.iconst 0, 1) := by decide +kernel
theorem dL_law_287 : decode cL_law 287 = .ok (.laload, 1) := by decide +kernel
theorem dL_law_288 : decode cL_law 288 = .ok (.iload 6, 2) := by decide +kernel
theorem dL_law_290 : decode cL_law 290 = .ok (.i2l, 1) := by decide +kernel
theorem dL_law_291 : decode cL_law 291 = .ok (.lcmp, 1) := by decide +kernel
theorem dL_law_292 : decode cL_law 292 = .ok (.ifCond .eq 5, 3) := by decide +kernel
theorem dL_law_295 : decode cL_law 295 = .ok (.iconst 0, 1) := by decide +kernel
theorem dL_law_296 : decode cL_law 296 = .ok (.ireturn, 1) := by decide +kernel
theorem dL_law_297 : decode cL_law 297 = .ok (.goto 1128, 3) := by decide +kernel
theorem dL_law_300 : decode cL_law 300 = .ok (.aload_n 1, 1) := by decide +kernel
theorem dL_law_301 : decode cL_law 301 = .ok (.aload_n 0, 1) := by decide +kernel
theorem dL_law_302 : decode cL_law 302 = .ok (.iload 4, 2) := by decide +kernel
theorem dL_law_304 : decode cL_law 304 = .ok (.iconst 1, 1) := by decide +kernel
theorem dL_law_305 : decode cL_law 305 = .ok (.iadd, 1) := by decide +kernel
theorem dL_law_306 : decode cL_law 306 = .ok (.iaload, 1) := by decide +kernel
theorem dL_law_307 : decode cL_law 307 = .ok (.aload_n 0, 1) := by decide +kernel
theorem dL_law_308 : decode cL_law 308 = .ok (.iload 4, 2) := by decide +kernel
theorem dL_law_310 : decode cL_law 310 = .ok (.iconst 2, 1) := by decide +kernel
theorem dL_law_311 : decode cL_law 311 = .ok (.iadd, 1) := by decide +kernel
theorem dL_law_312 : decode cL_law 312 = .ok (.iaload, 1) := by decide +kernel
theorem dL_law_313 : decode cL_law 313 = .ok (.aload_n 3, 1) := by decide +kernel
theorem dL_law_314 : decode cL_law 314 = .ok (.invokestatic 90, 3) := by decide +kernel
theorem dL_law_317 : decode cL_law 317 = .ok (.istore 5, 2) := by decide +kernel
theorem dL_law_319 : decode cL_law 319 = .ok (.aload_n 2, 1) := by decide +kernel
theorem dL_law_320 : decode cL_law 320 = .ok (.aload_n 0, 1) := by decide +kernel
theorem dL_law_321 : decode cL_law 321 = .ok (.iload 4, 2) := by decide +kernel
theorem dL_law_323 : decode cL_law 323 = .ok (.iconst 1, 1) := by decide +kernel
theorem dL_law_324 : decode cL_law 324 = .ok (.iadd, 1) := by decide +kernel
theorem dL_law_325 : decode cL_law 325 = .ok (.iaload, 1) := by decide +kernel
theorem dL_law_326 : decode cL_law 326 = .ok (.aload_n 0, 1) := by decide +kernel
theorem dL_law_327 : decode cL_law 327 = .ok (.iload 4, 2) := by decide +kernel
theorem dL_law_329 : decode cL_law 329 = .ok (.iconst 2, 1) := by decide +kernel
theorem dL_law_330 : decode cL_law 330 = .ok (.iadd, 1) := by decide +kernel
theorem dL_law_331 : decode cL_law 331 = .ok (.iaload, 1) := by decide +kernel
theorem dL_law_332 : decode cL_law 332 = .ok (.invokevirtual 92, 3) := by decide +kernel
theorem dL_law_335 : decode cL_law 335 = .ok (.istore 6, 2) := by decide +kernel
theorem dL_law_337 : decode cL_law 337 = .ok (.aload_n 2, 1) := by decide +kernel
theorem dL_law_338 : decode cL_law 338 = .ok (.invokevirtual 82, 3) := by decide +kernel
theorem dL_law_341 : decode cL_law 341 = .ok (.iload 5, 2) := by decide +kernel
theorem dL_law_343 : decode cL_law 343 = .ok (.if_icmp .eq 5, 3) := by decide +kernel
theorem dL_law_346 : decode cL_law 346 = .ok (.iconst 0, 1) := by decide +kernel
theorem dL_law_347 : decode cL_law 347 = .ok (.ireturn, 1) := by decide +kernel
theorem dL_law_348 : decode cL_law 348 = .ok (.iload 5, 2) := by decide +kernel
theorem dL_law_350 : decode cL_law 350 = .ok (.ifCond .ne 15, 3) := by decide +kernel
theorem dL_law_353 : decode cL_law 353 = .ok (.aload_n 3, 1) := by decide +kernel
theorem dL_law_354 : decode cL_law 354 = .ok (.iconst 0, 1) := by decide +kernel
theorem dL_law_355 : decode cL_law 355 = .ok (.laload, 1) := by decide +kernel
theorem dL_law_356 : decode cL_law 356 = .ok (.iload 6, 2) := by decide +kernel
theorem dL_law_358 : decode cL_law 358 = .ok (.i2l, 1) := by decide +kernel
theorem dL_law_359 : decode cL_law 359 = .ok (.lcmp, 1) := by decide +kernel
theorem dL_law_360 : decode cL_law 360 = .ok (.ifCond .eq 5, 3) := by decide +kernel
theorem dL_law_363 : decode cL_law 363 = .ok (.iconst 0, 1) := by decide +kernel
theorem dL_law_364 : decode cL_law 364 = .ok (.ireturn, 1) := by decide +kernel
theorem dL_law_365 : decode cL_law 365 = .ok (.goto 1060, 3) := by decide +kernel
theorem dL_law_368 : decode cL_law 368 = .ok (.aload_n 1, 1) := by decide +kernel
theorem dL_law_369 : decode cL_law 369 = .ok (.aload_n 0, 1) := by decide +kernel
theorem dL_law_370 : decode cL_law 370 = .ok (.iload 4, 2) := by decide +kernel
theorem dL_law_372 : decode cL_law 372 = .ok (.iconst 1, 1) := by decide +kernel
theorem dL_law_373 : decode cL_law 373 = .ok (.iadd, 1) := by decide +kernel
theorem dL_law_374 : decode cL_law 374 = .ok (.iaload, 1) := by decide +kernel
theorem dL_law_375 : decode cL_law 375 = .ok (.aload_n 3, 1) := by decide +kernel
theorem dL_law_376 : decode cL_law 376 = .ok (.invokestatic 93, 3) := by decide +kernel
theorem dL_law_379 : decode cL_law 379 = .ok (.istore 5, 2) := by decide +kernel
theorem dL_law_381 : decode cL_law 381 = .ok (.aload_n 2, 1) := by decide +kernel
theorem dL_law_382 : decode cL_law 382 = .ok (.aload_n 0, 1) := by decide +kernel
theorem dL_law_383 : decode cL_law 383 = .ok (.iload 4, 2) := by decide +kernel
theorem dL_law_385 : decode cL_law 385 = .ok (.iconst 1, 1) := by decide +kernel
theorem dL_law_386 : decode cL_law 386 = .ok (.iadd, 1) := by decide +kernel
theorem dL_law_387 : decode cL_law 387 = .ok (.iaload, 1) := by decide +kernel
theorem dL_law_388 : decode cL_law 388 = .ok (.invokevirtual 95, 3) := by decide +kernel
theorem dL_law_391 : decode cL_law 391 = .ok (.istore 6, 2) := by decide +kernel
theorem dL_law_393 : decode cL_law 393 = .ok (.aload_n 2, 1) := by decide +kernel
theorem dL_law_394 : decode cL_law 394 = .ok (.invokevirtual 82, 3) := by decide +kernel
theorem dL_law_397 : decode cL_law 397 = .ok (.iload 5, 2) := by decide +kernel
theorem dL_law_399 : decode cL_law 399 = .ok (.if_icmp .eq 5, 3) := by decide +kernel
theorem dL_law_402 : decode cL_law 402 = .ok (.iconst 0, 1) := by decide +kernel
theorem dL_law_403 : decode cL_law 403 = .ok (.ireturn, 1) := by decide +kernel
theorem dL_law_404 : decode cL_law 404 = .ok (.iload 5, 2) := by decide +kernel
theorem dL_law_406 : decode cL_law 406 = .ok (.ifCond .ne 15, 3) := by decide +kernel
theorem dL_law_409 : decode cL_law 409 = .ok (.aload_n 3, 1) := by decide +kernel
theorem dL_law_410 : decode cL_law 410 = .ok (.iconst 0, 1) := by decide +kernel
theorem dL_law_411 : decode cL_law 411 = .ok (.laload, 1) := by decide +kernel
theorem dL_law_412 : decode cL_law 412 = .ok (.iload 6, 2) := by decide +kernel
theorem dL_law_414 : decode cL_law 414 = .ok (.i2l, 1) := by decide +kernel
theorem dL_law_415 : decode cL_law 415 = .ok (.lcmp, 1) := by decide +kernel
theorem dL_law_416 : decode cL_law 416 = .ok (.ifCond .eq 5, 3) := by decide +kernel
theorem dL_law_419 : decode cL_law 419 = .ok (.iconst 0, 1) := by decide +kernel
theorem dL_law_420 : decode cL_law 420 = .ok (.ireturn, 1) := by decide +kernel
theorem dL_law_421 : decode cL_law 421 = .ok (.goto 1004, 3) := by decide +kernel
theorem dL_law_424 : decode cL_law 424 = .ok (.aload_n 1, 1) := by decide +kernel
theorem dL_law_425 : decode cL_law 425 = .ok (.aload_n 0, 1) := by decide +kernel
theorem dL_law_426 : decode cL_law 426 = .ok (.iload 4, 2) := by decide +kernel
theorem dL_law_428 : decode cL_law 428 = .ok (.iconst 1, 1) := by decide +kernel
theorem dL_law_429 : decode cL_law 429 = .ok (.iadd, 1) := by decide +kernel
theorem dL_law_430 : decode cL_law 430 = .ok (.iaload, 1) := by decide +kernel
theorem dL_law_431 : decode cL_law 431 = .ok (.aload_n 3, 1) := by decide +kernel
theorem dL_law_432 : decode cL_law 432 = .ok (.invokestatic 96, 3) := by decide +kernel
theorem dL_law_435 : decode cL_law 435 = .ok (.istore 5, 2) := by decide +kernel
theorem dL_law_437 : decode cL_law 437 = .ok (.aload_n 2, 1) := by decide +kernel
theorem dL_law_438 : decode cL_law 438 = .ok (.aload_n 0, 1) := by decide +kernel
theorem dL_law_439 : decode cL_law 439 = .ok (.iload 4, 2) := by decide +kernel
theorem dL_law_441 : decode cL_law 441 = .ok (.iconst 1, 1) := by decide +kernel
theorem dL_law_442 : decode cL_law 442 = .ok (.iadd, 1) := by decide +kernel
theorem dL_law_443 : decode cL_law 443 = .ok (.iaload, 1) := by decide +kernel
theorem dL_law_444 : decode cL_law 444 = .ok (.invokevirtual 98, 3) := by decide +kernel
theorem dL_law_447 : decode cL_law 447 = .ok (.istore 6, 2) := by decide +kernel
theorem dL_law_449 : decode cL_law 449 = .ok (.aload_n 2, 1) := by decide +kernel
theorem dL_law_450 : decode cL_law 450 = .ok (.invokevirtual 82, 3) := by decide +kernel
theorem dL_law_453 : decode cL_law 453 = .ok (.iload 5, 2) := by decide +kernel
theorem dL_law_455 : decode cL_law 455 = .ok (.if_icmp .eq 5, 3) := by decide +kernel
theorem dL_law_458 : decode cL_law 458 = .ok (.iconst 0, 1) := by decide +kernel
theorem dL_law_459 : decode cL_law 459 = .ok (.ireturn, 1) := by decide +kernel
theorem dL_law_460 : decode cL_law 460 = .ok (.iload 5, 2) := by decide +kernel
theorem dL_law_462 : decode cL_law 462 = .ok (.ifCond .ne 15, 3) := by decide +kernel
theorem dL_law_465 : decode cL_law 465 = .ok (.aload_n 3, 1) := by decide +kernel
theorem dL_law_466 : decode cL_law 466 = .ok (.iconst 0, 1) := by decide +kernel
theorem dL_law_467 : decode cL_law 467 = .ok (.laload, 1) := by decide +kernel
theorem dL_law_468 : decode cL_law 468 = .ok (.iload 6, 2) := by decide +kernel
theorem dL_law_470 : decode cL_law 470 = .ok (.i2l, 1) := by decide +kernel
theorem dL_law_471 : decode cL_law 471 = .ok (.lcmp, 1) := by decide +kernel
theorem dL_law_472 : decode cL_law 472 = .ok (.ifCond .eq 5, 3) := by decide +kernel
theorem dL_law_475 : decode cL_law 475 = .ok (.iconst 0, 1) := by decide +kernel
theorem dL_law_476 : decode cL_law 476 = .ok (.ireturn, 1) := by decide +kernel
theorem dL_law_477 : decode cL_law 477 = .ok (.goto 948, 3) := by decide +kernel
theorem dL_law_480 : decode cL_law 480 = .ok (.aload_n 1, 1) := by decide +kernel
theorem dL_law_481 : decode cL_law 481 = .ok (.invokevirtual 99, 3) := by decide +kernel
theorem dL_law_484 : decode cL_law 484 = .ok (.aload_n 2, 1) := by decide +kernel
theorem dL_law_485 : decode cL_law 485 = .ok (.invokevirtual 102, 3) := by decide +kernel
theorem dL_law_488 : decode cL_law 488 = .ok (.if_icmp .eq 937, 3) := by decide +kernel
theorem dL_law_491 : decode cL_law 491 = .ok (.iconst 0, 1) := by decide +kernel
theorem dL_law_492 : decode cL_law 492 = .ok (.ireturn, 1) := by decide +kernel
theorem dL_law_493 : decode cL_law 493 = .ok (.aload_n 1, 1) := by decide +kernel
theorem dL_law_494 : decode cL_law 494 = .ok (.invokevirtual 103, 3) := by decide +kernel
theorem dL_law_497 : decode cL_law 497 = .ok (.aload_n 2, 1) := by decide +kernel
theorem dL_law_498 : decode cL_law 498 = .ok (.invokevirtual 106, 3) := by decide +kernel
theorem dL_law_501 : decode cL_law 501 = .ok (.if_icmp .eq 924, 3) := by decide +kernel
theorem dL_law_504 : decode cL_law 504 = .ok (.iconst 0, 1) := by decide +kernel
theorem dL_law_505 : decode cL_law 505 = .ok (.ireturn, 1) := by decide +kernel
theorem dL_law_506 : decode cL_law 506 = .ok (.aload_n 1, 1) := by decide +kernel
theorem dL_law_507 : decode cL_law 507 = .ok (.aload_n 0, 1) := by decide +kernel
theorem dL_law_508 : decode cL_law 508 = .ok (.iload 4, 2) := by decide +kernel
theorem dL_law_510 : decode cL_law 510 = .ok (.iconst 1, 1) := by decide +kernel
theorem dL_law_511 : decode cL_law 511 = .ok (.iadd, 1) := by decide +kernel
theorem dL_law_512 : decode cL_law 512 = .ok (.iaload, 1) := by decide +kernel
theorem dL_law_513 : decode cL_law 513 = .ok (.aload_n 3, 1) := by decide +kernel
theorem dL_law_514 : decode cL_law 514 = .ok (.invokestatic 107, 3) := by decide +kernel
theorem dL_law_517 : decode cL_law 517 = .ok (.istore 5, 2) := by decide +kernel
theorem dL_law_519 : decode cL_law 519 = .ok (.aload_n 2, 1) := by decide +kernel
theorem dL_law_520 : decode cL_law 520 = .ok (.aload_n 0, 1) := by decide +kernel
theorem dL_law_521 : decode cL_law 521 = .ok (.iload 4, 2) := by decide +kernel
theorem dL_law_523 : decode cL_law 523 = .ok (.iconst 1, 1) := by decide +kernel
theorem dL_law_524 : decode cL_law 524 = .ok (.iadd, 1) := by decide +kernel
theorem dL_law_525 : decode cL_law 525 = .ok (.iaload, 1) := by decide +kernel
theorem dL_law_526 : decode cL_law 526 = .ok (.invokevirtual 109, 3) := by decide +kernel
theorem dL_law_529 : decode cL_law 529 = .ok (.istore 6, 2) := by decide +kernel
theorem dL_law_531 : decode cL_law 531 = .ok (.aload_n 2, 1) := by decide +kernel
theorem dL_law_532 : decode cL_law 532 = .ok (.invokevirtual 82, 3) := by decide +kernel
theorem dL_law_535 : decode cL_law 535 = .ok (.iload 5, 2) := by decide +kernel
theorem dL_law_537 : decode cL_law 537 = .ok (.if_icmp .eq 5, 3) := by decide +kernel
theorem dL_law_540 : decode cL_law 540 = .ok (.iconst 0, 1) := by decide +kernel
theorem dL_law_541 : decode cL_law 541 = .ok (.ireturn, 1) := by decide +kernel
theorem dL_law_542 : decode cL_law 542 = .ok (.iload 5, 2) := by decide +kernel
theorem dL_law_544 : decode cL_law 544 = .ok (.ifCond .ne 15, 3) := by decide +kernel
theorem dL_law_547 : decode cL_law 547 = .ok (.aload_n 3, 1) := by decide +kernel
theorem dL_law_548 : decode cL_law 548 = .ok (.iconst 0, 1) := by decide +kernel
theorem dL_law_549 : decode cL_law 549 = .ok (.laload, 1) := by decide +kernel
theorem dL_law_550 : decode cL_law 550 = .ok (.iload 6, 2) := by decide +kernel
theorem dL_law_552 : decode cL_law 552 = .ok (.i2l, 1) := by decide +kernel
theorem dL_law_553 : decode cL_law 553 = .ok (.lcmp, 1) := by decide +kernel
theorem dL_law_554 : decode cL_law 554 = .ok (.ifCond .eq 5, 3) := by decide +kernel
theorem dL_law_557 : decode cL_law 557 = .ok (.iconst 0, 1) := by decide +kernel
theorem dL_law_558 : decode cL_law 558 = .ok (.ireturn, 1) := by decide +kernel
theorem dL_law_559 : decode cL_law 559 = .ok (.goto 866, 3) := by decide +kernel
theorem dL_law_562 : decode cL_law 562 = .ok (.aload_n 1, 1) := by decide +kernel
theorem dL_law_563 : decode cL_law 563 = .ok (.aload_n 0, 1) := by decide +kernel
theorem dL_law_564 : decode cL_law 564 = .ok (.iload 4, 2) := by decide +kernel
theorem dL_law_566 : decode cL_law 566 = .ok (.iconst 1, 1) := by decide +kernel
theorem dL_law_567 : decode cL_law 567 = .ok (.iadd, 1) := by decide +kernel
theorem dL_law_568 : decode cL_law 568 = .ok (.iaload, 1) := by decide +kernel
theorem dL_law_569 : decode cL_law 569 = .ok (.aload_n 3, 1) := by decide +kernel
theorem dL_law_570 : decode cL_law 570 = .ok (.invokestatic 110, 3) := by decide +kernel
theorem dL_law_573 : decode cL_law 573 = .ok (.istore 5, 2) := by decide +kernel
theorem dL_law_575 : decode cL_law 575 = .ok (.aload_n 2, 1) := by decide +kernel
theorem dL_law_576 : decode cL_law 576 = .ok (.aload_n 0, 1) := by decide +kernel
theorem dL_law_577 : decode cL_law 577 = .ok (.iload 4, 2) := by decide +kernel
theorem dL_law_579 : decode cL_law 579 = .ok (.iconst 1, 1) := by decide +kernel
theorem dL_law_580 : decode cL_law 580 = .ok (.iadd, 1) := by decide +kernel
theorem dL_law_581 : decode cL_law 581 = .ok (.iaload, 1) := by decide +kernel
theorem dL_law_582 : decode cL_law 582 = .ok (.invokevirtual 112, 3) := by decide +kernel
theorem dL_law_585 : decode cL_law 585 = .ok (.istore 6, 2) := by decide +kernel
theorem dL_law_587 : decode cL_law 587 = .ok (.aload_n 2, 1) := by decide +kernel
theorem dL_law_588 : decode cL_law 588 = .ok (.invokevirtual 82, 3) := by decide +kernel
theorem dL_law_591 : decode cL_law 591 = .ok (.iload 5, 2) := by decide +kernel
theorem dL_law_593 : decode cL_law 593 = .ok (.if_icmp .eq 5, 3) := by decide +kernel
theorem dL_law_596 : decode cL_law 596 = .ok (.iconst 0, 1) := by decide +kernel
theorem dL_law_597 : decode cL_law 597 = .ok (.ireturn, 1) := by decide +kernel
theorem dL_law_598 : decode cL_law 598 = .ok (.iload 5, 2) := by decide +kernel
theorem dL_law_600 : decode cL_law 600 = .ok (.ifCond .ne 15, 3) := by decide +kernel
theorem dL_law_603 : decode cL_law 603 = .ok (.aload_n 3, 1) := by decide +kernel
theorem dL_law_604 : decode cL_law 604 = .ok (.iconst 0, 1) := by decide +kernel
theorem dL_law_605 : decode cL_law 605 = .ok (.laload, 1) := by decide +kernel
theorem dL_law_606 : decode cL_law 606 = .ok (.iload 6, 2) := by decide +kernel
theorem dL_law_608 : decode cL_law 608 = .ok (.i2l, 1) := by decide +kernel
theorem dL_law_609 : decode cL_law 609 = .ok (.lcmp, 1) := by decide +kernel
theorem dL_law_610 : decode cL_law 610 = .ok (.ifCond .eq 5, 3) := by decide +kernel
theorem dL_law_613 : decode cL_law 613 = .ok (.iconst 0, 1) := by decide +kernel
theorem dL_law_614 : decode cL_law 614 = .ok (.ireturn, 1) := by decide +kernel
theorem dL_law_615 : decode cL_law 615 = .ok (.goto 810, 3) := by decide +kernel
theorem dL_law_618 : decode cL_law 618 = .ok (.aload_n 1, 1) := by decide +kernel
theorem dL_law_619 : decode cL_law 619 = .ok (.aload_n 0, 1) := by decide +kernel
theorem dL_law_620 : decode cL_law 620 = .ok (.iload 4, 2) := by decide +kernel
theorem dL_law_622 : decode cL_law 622 = .ok (.iconst 1, 1) := by decide +kernel
theorem dL_law_623 : decode cL_law 623 = .ok (.iadd, 1) := by decide +kernel
theorem dL_law_624 : decode cL_law 624 = .ok (.iaload, 1) := by decide +kernel
theorem dL_law_625 : decode cL_law 625 = .ok (.aload_n 3, 1) := by decide +kernel
theorem dL_law_626 : decode cL_law 626 = .ok (.invokestatic 113, 3) := by decide +kernel
theorem dL_law_629 : decode cL_law 629 = .ok (.istore 5, 2) := by decide +kernel
theorem dL_law_631 : decode cL_law 631 = .ok (.aload_n 2, 1) := by decide +kernel
theorem dL_law_632 : decode cL_law 632 = .ok (.aload_n 0, 1) := by decide +kernel
theorem dL_law_633 : decode cL_law 633 = .ok (.iload 4, 2) := by decide +kernel
theorem dL_law_635 : decode cL_law 635 = .ok (.iconst 1, 1) := by decide +kernel
theorem dL_law_636 : decode cL_law 636 = .ok (.iadd, 1) := by decide +kernel
theorem dL_law_637 : decode cL_law 637 = .ok (.iaload, 1) := by decide +kernel
theorem dL_law_638 : decode cL_law 638 = .ok (.invokevirtual 115, 3) := by decide +kernel
theorem dL_law_641 : decode cL_law 641 = .ok (.istore 6, 2) := by decide +kernel
theorem dL_law_643 : decode cL_law 643 = .ok (.aload_n 2, 1) := by decide +kernel
theorem dL_law_644 : decode cL_law 644 = .ok (.invokevirtual 82, 3) := by decide +kernel
theorem dL_law_647 : decode cL_law 647 = .ok (.iload 5, 2) := by decide +kernel
theorem dL_law_649 : decode cL_law 649 = .ok (.if_icmp .eq 5, 3) := by decide +kernel
theorem dL_law_652 : decode cL_law 652 = .ok (.iconst 0, 1) := by decide +kernel
theorem dL_law_653 : decode cL_law 653 = .ok (.ireturn, 1) := by decide +kernel
theorem dL_law_654 : decode cL_law 654 = .ok (.iload 5, 2) := by decide +kernel
theorem dL_law_656 : decode cL_law 656 = .ok (.ifCond .ne 15, 3) := by decide +kernel
theorem dL_law_659 : decode cL_law 659 = .ok (.aload_n 3, 1) := by decide +kernel
theorem dL_law_660 : decode cL_law 660 = .ok (.iconst 0, 1) := by decide +kernel
theorem dL_law_661 : decode cL_law 661 = .ok (.laload, 1) := by decide +kernel
theorem dL_law_662 : decode cL_law 662 = .ok (.iload 6, 2) := by decide +kernel
theorem dL_law_664 : decode cL_law 664 = .ok (.i2l, 1) := by decide +kernel
theorem dL_law_665 : decode cL_law 665 = .ok (.lcmp, 1) := by decide +kernel
theorem dL_law_666 : decode cL_law 666 = .ok (.ifCond .eq 5, 3) := by decide +kernel
theorem dL_law_669 : decode cL_law 669 = .ok (.iconst 0, 1) := by decide +kernel
theorem dL_law_670 : decode cL_law 670 = .ok (.ireturn, 1) := by decide +kernel
theorem dL_law_671 : decode cL_law 671 = .ok (.goto 754, 3) := by decide +kernel
theorem dL_law_674 : decode cL_law 674 = .ok (.aload_n 1, 1) := by decide +kernel
theorem dL_law_675 : decode cL_law 675 = .ok (.invokevirtual 116, 3) := by decide +kernel
theorem dL_law_678 : decode cL_law 678 = .ok (.aload_n 2, 1) := by decide +kernel
theorem dL_law_679 : decode cL_law 679 = .ok (.invokevirtual 119, 3) := by decide +kernel
theorem dL_law_682 : decode cL_law 682 = .ok (.if_icmp .eq 743, 3) := by decide +kernel
theorem dL_law_685 : decode cL_law 685 = .ok (.iconst 0, 1) := by decide +kernel
theorem dL_law_686 : decode cL_law 686 = .ok (.ireturn, 1) := by decide +kernel
theorem dL_law_687 : decode cL_law 687 = .ok (.aload_n 1, 1) := by decide +kernel
theorem dL_law_688 : decode cL_law 688 = .ok (.invokevirtual 120, 3) := by decide +kernel
theorem dL_law_691 : decode cL_law 691 = .ok (.aload_n 2, 1) := by decide +kernel
theorem dL_law_692 : decode cL_law 692 = .ok (.invokevirtual 123, 3) := by decide +kernel
theorem dL_law_695 : decode cL_law 695 = .ok (.if_icmp .eq 730, 3) := by decide +kernel
theorem dL_law_698 : decode cL_law 698 = .ok (.iconst 0, 1) := by decide +kernel
theorem dL_law_699 : decode cL_law 699 = .ok (.ireturn, 1) := by decide +kernel
theorem dL_law_700 : decode cL_law 700 = .ok (.aload_n 1, 1) := by decide +kernel
theorem dL_law_701 : decode cL_law 701 = .ok (.invokevirtual 124, 3) := by decide +kernel
theorem dL_law_704 : decode cL_law 704 = .ok (.aload_n 2, 1) := by decide +kernel
theorem dL_law_705 : decode cL_law 705 = .ok (.invokevirtual 127, 3) := by decide +kernel
theorem dL_law_708 : decode cL_law 708 = .ok (.if_icmp .eq 717, 3) := by decide +kernel
theorem dL_law_711 : decode cL_law 711 = .ok (.iconst 0, 1) := by decide +kernel
theorem dL_law_712 : decode cL_law 712 = .ok (.ireturn, 1) := by decide +kernel
theorem dL_law_713 : decode cL_law 713 = .ok (.aload_n 1, 1) := by decide +kernel
theorem dL_law_714 : decode cL_law 714 = .ok (.invokevirtual 128, 3) := by decide +kernel
theorem dL_law_717 : decode cL_law 717 = .ok (.aload_n 2, 1) := by decide +kernel
theorem dL_law_718 : decode cL_law 718 = .ok (.invokevirtual 131, 3) := by decide +kernel
theorem dL_law_721 : decode cL_law 721 = .ok (.if_icmp .eq 704, 3) := by decide +kernel
theorem dL_law_724 : decode cL_law 724 = .ok (.iconst 0, 1) := by decide +kernel
theorem dL_law_725 : decode cL_law 725 = .ok (.ireturn, 1) := by decide +kernel
theorem dL_law_726 : decode cL_law 726 = .ok (.aload_n 1, 1) := by decide +kernel
theorem dL_law_727 : decode cL_law 727 = .ok (.aload_n 0, 1) := by decide +kernel
theorem dL_law_728 : decode cL_law 728 = .ok (.iload 4, 2) := by decide +kernel
theorem dL_law_730 : decode cL_law 730 = .ok (.iconst 1, 1) := by decide +kernel
theorem dL_law_731 : decode cL_law 731 = .ok (.iadd, 1) := by decide +kernel
theorem dL_law_732 : decode cL_law 732 = .ok (.iaload, 1) := by decide +kernel
theorem dL_law_733 : decode cL_law 733 = .ok (.aload_n 3, 1) := by decide +kernel
theorem dL_law_734 : decode cL_law 734 = .ok (.invokestatic 132, 3) := by decide +kernel
theorem dL_law_737 : decode cL_law 737 = .ok (.istore 5, 2) := by decide +kernel
theorem dL_law_739 : decode cL_law 739 = .ok (.aload_n 2, 1) := by decide +kernel
theorem dL_law_740 : decode cL_law 740 = .ok (.aload_n 0, 1) := by decide +kernel
theorem dL_law_741 : decode cL_law 741 = .ok (.iload 4, 2) := by decide +kernel
theorem dL_law_743 : decode cL_law 743 = .ok (.iconst 1, 1) := by decide +kernel
theorem dL_law_744 : decode cL_law 744 = .ok (.iadd, 1) := by decide +kernel
theorem dL_law_745 : decode cL_law 745 = .ok (.iaload, 1) := by decide +kernel
theorem dL_law_746 : decode cL_law 746 = .ok (.invokevirtual 134, 3) := by decide +kernel
theorem dL_law_749 : decode cL_law 749 = .ok (.istore 6, 2) := by decide +kernel
theorem dL_law_751 : decode cL_law 751 = .ok (.aload_n 2, 1) := by decide +kernel
theorem dL_law_752 : decode cL_law 752 = .ok (.invokevirtual 82, 3) := by decide +kernel
theorem dL_law_755 : decode cL_law 755 = .ok (.iload 5, 2) := by decide +kernel
theorem dL_law_757 : decode cL_law 757 = .ok (.if_icmp .eq 5, 3) := by decide +kernel
theorem dL_law_760 : decode cL_law 760 = .ok (.iconst 0, 1) := by decide +kernel
theorem dL_law_761 : decode cL_law 761 = .ok (.ireturn, 1) := by decide +kernel
theorem dL_law_762 : decode cL_law 762 = .ok (.iload 5, 2) := by decide +kernel
theorem dL_law_764 : decode cL_law 764 = .ok (.ifCond .ne 22, 3) := by decide +kernel
theorem dL_law_767 : decode cL_law 767 = .ok (.aload_n 3, 1) := by decide +kernel
theorem dL_law_768 : decode cL_law 768 = .ok (.iconst 0, 1) := by decide +kernel
theorem dL_law_769 : decode cL_law 769 = .ok (.laload, 1) := by decide +kernel
theorem dL_law_770 : decode cL_law 770 = .ok (.iload 6, 2) := by decide +kernel
theorem dL_law_772 : decode cL_law 772 = .ok (.ifCond .eq 7, 3) := by decide +kernel
theorem dL_law_775 : decode cL_law 775 = .ok (.lconst 1, 1) := by decide +kernel
theorem dL_law_776 : decode cL_law 776 = .ok (.goto 4, 3) := by decide +kernel
theorem dL_law_779 : decode cL_law 779 = .ok (.lconst 0, 1) := by decide +kernel
theorem dL_law_780 : decode cL_law 780 = .ok (.lcmp, 1) := by decide +kernel
theorem dL_law_781 : decode cL_law 781 = .ok (.ifCond .eq 5, 3) := by decide +kernel
theorem dL_law_784 : decode cL_law 784 = .ok (.iconst 0, 1) := by decide +kernel
theorem dL_law_785 : decode cL_law 785 = .ok (.ireturn, 1) := by decide +kernel
theorem dL_law_786 : decode cL_law 786 = .ok (.goto 639, 3) := by decide +kernel
theorem dL_law_789 : decode cL_law 789 = .ok (.aload_n 1, 1) := by decide +kernel
theorem dL_law_790 : decode cL_law 790 = .ok (.aload_n 0, 1) := by decide +kernel
theorem dL_law_791 : decode cL_law 791 = .ok (.iload 4, 2) := by decide +kernel
theorem dL_law_793 : decode cL_law 793 = .ok (.iconst 1, 1) := by decide +kernel
theorem dL_law_794 : decode cL_law 794 = .ok (.iadd, 1) := by decide +kernel
theorem dL_law_795 : decode cL_law 795 = .ok (.iaload, 1) := by decide +kernel
theorem dL_law_796 : decode cL_law 796 = .ok (.aload_n 3, 1) := by decide +kernel
theorem dL_law_797 : decode cL_law 797 = .ok (.invokestatic 135, 3) := by decide +kernel
theorem dL_law_800 : decode cL_law 800 = .ok (.istore 5, 2) := by decide +kernel
theorem dL_law_802 : decode cL_law 802 = .ok (.aload_n 2, 1) := by decide +kernel
theorem dL_law_803 : decode cL_law 803 = .ok (.aload_n 0, 1) := by decide +kernel
theorem dL_law_804 : decode cL_law 804 = .ok (.iload 4, 2) := by decide +kernel
theorem dL_law_806 : decode cL_law 806 = .ok (.iconst 1, 1) := by decide +kernel
theorem dL_law_807 : decode cL_law 807 = .ok (.iadd, 1) := by decide +kernel
theorem dL_law_808 : decode cL_law 808 = .ok (.iaload, 1) := by decide +kernel
theorem dL_law_809 : decode cL_law 809 = .ok (.invokevirtual 137, 3) := by decide +kernel
theorem dL_law_812 : decode cL_law 812 = .ok (.istore 6, 2) := by decide +kernel
theorem dL_law_814 : decode cL_law 814 = .ok (.aload_n 2, 1) := by decide +kernel
theorem dL_law_815 : decode cL_law 815 = .ok (.invokevirtual 82, 3) := by decide +kernel
theorem dL_law_818 : decode cL_law 818 = .ok (.iload 5, 2) := by decide +kernel
theorem dL_law_820 : decode cL_law 820 = .ok (.if_icmp .eq 5, 3) := by decide +kernel
theorem dL_law_823 : decode cL_law 823 = .ok (.iconst 0, 1) := by decide +kernel
theorem dL_law_824 : decode cL_law 824 = .ok (.ireturn, 1) := by decide +kernel
theorem dL_law_825 : decode cL_law 825 = .ok (.iload 5, 2) := by decide +kernel
theorem dL_law_827 : decode cL_law 827 = .ok (.ifCond .ne 15, 3) := by decide +kernel
theorem dL_law_830 : decode cL_law 830 = .ok (.aload_n 3, 1) := by decide +kernel
theorem dL_law_831 : decode cL_law 831 = .ok (.iconst 0, 1) := by decide +kernel
theorem dL_law_832 : decode cL_law 832 = .ok (.laload, 1) := by decide +kernel
theorem dL_law_833 : decode cL_law 833 = .ok (.iload 6, 2) := by decide +kernel
theorem dL_law_835 : decode cL_law 835 = .ok (.i2l, 1) := by decide +kernel
theorem dL_law_836 : decode cL_law 836 = .ok (.lcmp, 1) := by decide +kernel
theorem dL_law_837 : decode cL_law 837 = .ok (.ifCond .eq 5, 3) := by decide +kernel
theorem dL_law_840 : decode cL_law 840 = .ok (.iconst 0, 1) := by decide +kernel
theorem dL_law_841 : decode cL_law 841 = .ok (.ireturn, 1) := by decide +kernel
theorem dL_law_842 : decode cL_law 842 = .ok (.goto 583, 3) := by decide +kernel
theorem dL_law_845 : decode cL_law 845 = .ok (.aload_n 1, 1) := by decide +kernel
theorem dL_law_846 : decode cL_law 846 = .ok (.aload_n 0, 1) := by decide +kernel
theorem dL_law_847 : decode cL_law 847 = .ok (.iload 4, 2) := by decide +kernel
theorem dL_law_849 : decode cL_law 849 = .ok (.iconst 1, 1) := by decide +kernel
theorem dL_law_850 : decode cL_law 850 = .ok (.iadd, 1) := by decide +kernel
theorem dL_law_851 : decode cL_law 851 = .ok (.iaload, 1) := by decide +kernel
theorem dL_law_852 : decode cL_law 852 = .ok (.aload_n 3, 1) := by decide +kernel
theorem dL_law_853 : decode cL_law 853 = .ok (.invokestatic 138, 3) := by decide +kernel
theorem dL_law_856 : decode cL_law 856 = .ok (.istore 5, 2) := by decide +kernel
theorem dL_law_858 : decode cL_law 858 = .ok (.aload_n 2, 1) := by decide +kernel
theorem dL_law_859 : decode cL_law 859 = .ok (.aload_n 0, 1) := by decide +kernel
theorem dL_law_860 : decode cL_law 860 = .ok (.iload 4, 2) := by decide +kernel
theorem dL_law_862 : decode cL_law 862 = .ok (.iconst 1, 1) := by decide +kernel
theorem dL_law_863 : decode cL_law 863 = .ok (.iadd, 1) := by decide +kernel
theorem dL_law_864 : decode cL_law 864 = .ok (.iaload, 1) := by decide +kernel
theorem dL_law_865 : decode cL_law 865 = .ok (.invokevirtual 140, 3) := by decide +kernel
theorem dL_law_868 : decode cL_law 868 = .ok (.istore 6, 2) := by decide +kernel
theorem dL_law_870 : decode cL_law 870 = .ok (.aload_n 2, 1) := by decide +kernel
theorem dL_law_871 : decode cL_law 871 = .ok (.invokevirtual 82, 3) := by decide +kernel
theorem dL_law_874 : decode cL_law 874 = .ok (.iload 5, 2) := by decide +kernel
theorem dL_law_876 : decode cL_law 876 = .ok (.if_icmp .eq 5, 3) := by decide +kernel
theorem dL_law_879 : decode cL_law 879 = .ok (.iconst 0, 1) := by decide +kernel
theorem dL_law_880 : decode cL_law 880 = .ok (.ireturn, 1) := by decide +kernel
theorem dL_law_881 : decode cL_law 881 = .ok (.iload 5, 2) := by decide +kernel
theorem dL_law_883 : decode cL_law 883 = .ok (.ifCond .ne 15, 3) := by decide +kernel
theorem dL_law_886 : decode cL_law 886 = .ok (.aload_n 3, 1) := by decide +kernel
theorem dL_law_887 : decode cL_law 887 = .ok (.iconst 0, 1) := by decide +kernel
theorem dL_law_888 : decode cL_law 888 = .ok (.laload, 1) := by decide +kernel
theorem dL_law_889 : decode cL_law 889 = .ok (.iload 6, 2) := by decide +kernel
theorem dL_law_891 : decode cL_law 891 = .ok (.i2l, 1) := by decide +kernel
theorem dL_law_892 : decode cL_law 892 = .ok (.lcmp, 1) := by decide +kernel
theorem dL_law_893 : decode cL_law 893 = .ok (.ifCond .eq 5, 3) := by decide +kernel
theorem dL_law_896 : decode cL_law 896 = .ok (.iconst 0, 1) := by decide +kernel
theorem dL_law_897 : decode cL_law 897 = .ok (.ireturn, 1) := by decide +kernel
theorem dL_law_898 : decode cL_law 898 = .ok (.goto 527, 3) := by decide +kernel
theorem dL_law_901 : decode cL_law 901 = .ok (.aload_n 1, 1) := by decide +kernel
theorem dL_law_902 : decode cL_law 902 = .ok (.aload_n 0, 1) := by decide +kernel
theorem dL_law_903 : decode cL_law 903 = .ok (.iload 4, 2) := by decide +kernel
theorem dL_law_905 : decode cL_law 905 = .ok (.iconst 1, 1) := by decide +kernel
theorem dL_law_906 : decode cL_law 906 = .ok (.iadd, 1) := by decide +kernel
theorem dL_law_907 : decode cL_law 907 = .ok (.iaload, 1) := by decide +kernel
theorem dL_law_908 : decode cL_law 908 = .ok (.aload_n 0, 1) := by decide +kernel
theorem dL_law_909 : decode cL_law 909 = .ok (.iload 4, 2) := by decide +kernel
theorem dL_law_911 : decode cL_law 911 = .ok (.iconst 2, 1) := by decide +kernel
theorem dL_law_912 : decode cL_law 912 = .ok (.iadd, 1) := by decide +kernel
theorem dL_law_913 : decode cL_law 913 = .ok (.iaload, 1) := by decide +kernel
theorem dL_law_914 : decode cL_law 914 = .ok (.aload_n 3, 1) := by decide +kernel
theorem dL_law_915 : decode cL_law 915 = .ok (.invokestatic 141, 3) := by decide +kernel
theorem dL_law_918 : decode cL_law 918 = .ok (.istore 5, 2) := by decide +kernel
theorem dL_law_920 : decode cL_law 920 = .ok (.aload_n 2, 1) := by decide +kernel
theorem dL_law_921 : decode cL_law 921 = .ok (.aload_n 0, 1) := by decide +kernel
theorem dL_law_922 : decode cL_law 922 = .ok (.iload 4, 2) := by decide +kernel
theorem dL_law_924 : decode cL_law 924 = .ok (.iconst 1, 1) := by decide +kernel
theorem dL_law_925 : decode cL_law 925 = .ok (.iadd, 1) := by decide +kernel
theorem dL_law_926 : decode cL_law 926 = .ok (.iaload, 1) := by decide +kernel
theorem dL_law_927 : decode cL_law 927 = .ok (.aload_n 0, 1) := by decide +kernel
theorem dL_law_928 : decode cL_law 928 = .ok (.iload 4, 2) := by decide +kernel
theorem dL_law_930 : decode cL_law 930 = .ok (.iconst 2, 1) := by decide +kernel
theorem dL_law_931 : decode cL_law 931 = .ok (.iadd, 1) := by decide +kernel
theorem dL_law_932 : decode cL_law 932 = .ok (.iaload, 1) := by decide +kernel
theorem dL_law_933 : decode cL_law 933 = .ok (.invokevirtual 143, 3) := by decide +kernel
theorem dL_law_936 : decode cL_law 936 = .ok (.istore 6, 2) := by decide +kernel
theorem dL_law_938 : decode cL_law 938 = .ok (.aload_n 2, 1) := by decide +kernel
theorem dL_law_939 : decode cL_law 939 = .ok (.invokevirtual 82, 3) := by decide +kernel
theorem dL_law_942 : decode cL_law 942 = .ok (.iload 5, 2) := by decide +kernel
theorem dL_law_944 : decode cL_law 944 = .ok (.if_icmp .eq 5, 3) := by decide +kernel
theorem dL_law_947 : decode cL_law 947 = .ok (.iconst 0, 1) := by decide +kernel
theorem dL_law_948 : decode cL_law 948 = .ok (.ireturn, 1) := by decide +kernel
theorem dL_law_949 : decode cL_law 949 = .ok (.iload 5, 2) := by decide +kernel
theorem dL_law_951 : decode cL_law 951 = .ok (.ifCond .ne 15, 3) := by decide +kernel
theorem dL_law_954 : decode cL_law 954 = .ok (.aload_n 3, 1) := by decide +kernel
theorem dL_law_955 : decode cL_law 955 = .ok (.iconst 0, 1) := by decide +kernel
theorem dL_law_956 : decode cL_law 956 = .ok (.laload, 1) := by decide +kernel
theorem dL_law_957 : decode cL_law 957 = .ok (.iload 6, 2) := by decide +kernel
theorem dL_law_959 : decode cL_law 959 = .ok (.i2l, 1) := by decide +kernel
theorem dL_law_960 : decode cL_law 960 = .ok (.lcmp, 1) := by decide +kernel
theorem dL_law_961 : decode cL_law 961 = .ok (.ifCond .eq 5, 3) := by decide +kernel
theorem dL_law_964 : decode cL_law 964 = .ok (.iconst 0, 1) := by decide +kernel
theorem dL_law_965 : decode cL_law 965 = .ok (.ireturn, 1) := by decide +kernel
theorem dL_law_966 : decode cL_law 966 = .ok (.goto 459, 3) := by decide +kernel
theorem dL_law_969 : decode cL_law 969 = .ok (.aload_n 1, 1) := by decide +kernel
theorem dL_law_970 : decode cL_law 970 = .ok (.invokevirtual 144, 3) := by decide +kernel
theorem dL_law_973 : decode cL_law 973 = .ok (.aload_n 2, 1) := by decide +kernel
theorem dL_law_974 : decode cL_law 974 = .ok (.invokevirtual 147, 3) := by decide +kernel
theorem dL_law_977 : decode cL_law 977 = .ok (.if_icmp .eq 448, 3) := by decide +kernel
theorem dL_law_980 : decode cL_law 980 = .ok (.iconst 0, 1) := by decide +kernel
theorem dL_law_981 : decode cL_law 981 = .ok (.ireturn, 1) := by decide +kernel
theorem dL_law_982 : decode cL_law 982 = .ok (.aload_n 1, 1) := by decide +kernel
theorem dL_law_983 : decode cL_law 983 = .ok (.invokevirtual 148, 3) := by decide +kernel
theorem dL_law_986 : decode cL_law 986 = .ok (.aload_n 2, 1) := by decide +kernel
theorem dL_law_987 : decode cL_law 987 = .ok (.invokevirtual 151, 3) := by decide +kernel
theorem dL_law_990 : decode cL_law 990 = .ok (.if_icmp .eq 435, 3) := by decide +kernel
theorem dL_law_993 : decode cL_law 993 = .ok (.iconst 0, 1) := by decide +kernel
theorem dL_law_994 : decode cL_law 994 = .ok (.ireturn, 1) := by decide +kernel
theorem dL_law_995 : decode cL_law 995 = .ok (.aload_n 1, 1) := by decide +kernel
theorem dL_law_996 : decode cL_law 996 = .ok (.aload_n 0, 1) := by decide +kernel
theorem dL_law_997 : decode cL_law 997 = .ok (.iload 4, 2) := by decide +kernel
theorem dL_law_999 : decode cL_law 999 = .ok (.iconst 1, 1) := by decide +kernel
theorem dL_law_1000 : decode cL_law 1000 = .ok (.iadd, 1) := by decide +kernel
theorem dL_law_1001 : decode cL_law 1001 = .ok (.iaload, 1) := by decide +kernel
theorem dL_law_1002 : decode cL_law 1002 = .ok (.aload_n 3, 1) := by decide +kernel
theorem dL_law_1003 : decode cL_law 1003 = .ok (.invokestatic 152, 3) := by decide +kernel
theorem dL_law_1006 : decode cL_law 1006 = .ok (.istore 5, 2) := by decide +kernel
theorem dL_law_1008 : decode cL_law 1008 = .ok (.aload_n 2, 1) := by decide +kernel
theorem dL_law_1009 : decode cL_law 1009 = .ok (.aload_n 0, 1) := by decide +kernel
theorem dL_law_1010 : decode cL_law 1010 = .ok (.iload 4, 2) := by decide +kernel
theorem dL_law_1012 : decode cL_law 1012 = .ok (.iconst 1, 1) := by decide +kernel
theorem dL_law_1013 : decode cL_law 1013 = .ok (.iadd, 1) := by decide +kernel
theorem dL_law_1014 : decode cL_law 1014 = .ok (.iaload, 1) := by decide +kernel
theorem dL_law_1015 : decode cL_law 1015 = .ok (.invokevirtual 154, 3) := by decide +kernel
theorem dL_law_1018 : decode cL_law 1018 = .ok (.istore 6, 2) := by decide +kernel
theorem dL_law_1020 : decode cL_law 1020 = .ok (.aload_n 2, 1) := by decide +kernel
theorem dL_law_1021 : decode cL_law 1021 = .ok (.invokevirtual 82, 3) := by decide +kernel
theorem dL_law_1024 : decode cL_law 1024 = .ok (.iload 5, 2) := by decide +kernel
theorem dL_law_1026 : decode cL_law 1026 = .ok (.if_icmp .eq 5, 3) := by decide +kernel
theorem dL_law_1029 : decode cL_law 1029 = .ok (.iconst 0, 1) := by decide +kernel
theorem dL_law_1030 : decode cL_law 1030 = .ok (.ireturn, 1) := by decide +kernel
theorem dL_law_1031 : decode cL_law 1031 = .ok (.iload 5, 2) := by decide +kernel
theorem dL_law_1033 : decode cL_law 1033 = .ok (.ifCond .ne 15, 3) := by decide +kernel
theorem dL_law_1036 : decode cL_law 1036 = .ok (.aload_n 3, 1) := by decide +kernel
theorem dL_law_1037 : decode cL_law 1037 = .ok (.iconst 0, 1) := by decide +kernel
theorem dL_law_1038 : decode cL_law 1038 = .ok (.laload, 1) := by decide +kernel
theorem dL_law_1039 : decode cL_law 1039 = .ok (.iload 6, 2) := by decide +kernel
theorem dL_law_1041 : decode cL_law 1041 = .ok (.i2l, 1) := by decide +kernel
theorem dL_law_1042 : decode cL_law 1042 = .ok (.lcmp, 1) := by decide +kernel
theorem dL_law_1043 : decode cL_law 1043 = .ok (.ifCond .eq 5, 3) := by decide +kernel
theorem dL_law_1046 : decode cL_law 1046 = .ok (.iconst 0, 1) := by decide +kernel
theorem dL_law_1047 : decode cL_law 1047 = .ok (.ireturn, 1) := by decide +kernel
theorem dL_law_1048 : decode cL_law 1048 = .ok (.goto 377, 3) := by decide +kernel
theorem dL_law_1051 : decode cL_law 1051 = .ok (.aload_n 1, 1) := by decide +kernel
theorem dL_law_1052 : decode cL_law 1052 = .ok (.aload_n 0, 1) := by decide +kernel
theorem dL_law_1053 : decode cL_law 1053 = .ok (.iload 4, 2) := by decide +kernel
theorem dL_law_1055 : decode cL_law 1055 = .ok (.iconst 1, 1) := by decide +kernel
theorem dL_law_1056 : decode cL_law 1056 = .ok (.iadd, 1) := by decide +kernel
theorem dL_law_1057 : decode cL_law 1057 = .ok (.iaload, 1) := by decide +kernel
theorem dL_law_1058 : decode cL_law 1058 = .ok (.aload_n 3, 1) := by decide +kernel
theorem dL_law_1059 : decode cL_law 1059 = .ok (.invokestatic 155, 3) := by decide +kernel
theorem dL_law_1062 : decode cL_law 1062 = .ok (.istore 5, 2) := by decide +kernel
theorem dL_law_1064 : decode cL_law 1064 = .ok (.aload_n 2, 1) := by decide +kernel
theorem dL_law_1065 : decode cL_law 1065 = .ok (.aload_n 0, 1) := by decide +kernel
theorem dL_law_1066 : decode cL_law 1066 = .ok (.iload 4, 2) := by decide +kernel
theorem dL_law_1068 : decode cL_law 1068 = .ok (.iconst 1, 1) := by decide +kernel
theorem dL_law_1069 : decode cL_law 1069 = .ok (.iadd, 1) := by decide +kernel
theorem dL_law_1070 : decode cL_law 1070 = .ok (.iaload, 1) := by decide +kernel
theorem dL_law_1071 : decode cL_law 1071 = .ok (.invokevirtual 157, 3) := by decide +kernel
theorem dL_law_1074 : decode cL_law 1074 = .ok (.istore 6, 2) := by decide +kernel
theorem dL_law_1076 : decode cL_law 1076 = .ok (.aload_n 2, 1) := by decide +kernel
theorem dL_law_1077 : decode cL_law 1077 = .ok (.invokevirtual 82, 3) := by decide +kernel
theorem dL_law_1080 : decode cL_law 1080 = .ok (.iload 5, 2) := by decide +kernel
theorem dL_law_1082 : decode cL_law 1082 = .ok (.if_icmp .eq 5, 3) := by decide +kernel
theorem dL_law_1085 : decode cL_law 1085 = .ok (.iconst 0, 1) := by decide +kernel
theorem dL_law_1086 : decode cL_law 1086 = .ok (.ireturn, 1) := by decide +kernel
theorem dL_law_1087 : decode cL_law 1087 = .ok (.iload 5, 2) := by decide +kernel
theorem dL_law_1089 : decode cL_law 1089 = .ok (.ifCond .ne 15, 3) := by decide +kernel
theorem dL_law_1092 : decode cL_law 1092 = .ok (.aload_n 3, 1) := by decide +kernel
theorem dL_law_1093 : decode cL_law 1093 = .ok (.iconst 0, 1) := by decide +kernel
theorem dL_law_1094 : decode cL_law 1094 = .ok (.laload, 1) := by decide +kernel
theorem dL_law_1095 : decode cL_law 1095 = .ok (.iload 6, 2) := by decide +kernel
theorem dL_law_1097 : decode cL_law 1097 = .ok (.i2l, 1) := by decide +kernel
theorem dL_law_1098 : decode cL_law 1098 = .ok (.lcmp, 1) := by decide +kernel
theorem dL_law_1099 : decode cL_law 1099 = .ok (.ifCond .eq 5, 3) := by decide +kernel
theorem dL_law_1102 : decode cL_law 1102 = .ok (.iconst 0, 1) := by decide +kernel
theorem dL_law_1103 : decode cL_law 1103 = .ok (.ireturn, 1) := by decide +kernel
theorem dL_law_1104 : decode cL_law 1104 = .ok (.goto 321, 3) := by decide +kernel
theorem dL_law_1107 : decode cL_law 1107 = .ok (.aload_n 1, 1) := by decide +kernel
theorem dL_law_1108 : decode cL_law 1108 = .ok (.invokevirtual 158, 3) := by decide +kernel
theorem dL_law_1111 : decode cL_law 1111 = .ok (.aload_n 2, 1) := by decide +kernel
theorem dL_law_1112 : decode cL_law 1112 = .ok (.invokevirtual 161, 3) := by decide +kernel
theorem dL_law_1115 : decode cL_law 1115 = .ok (.if_icmp .eq 310, 3) := by decide +kernel
theorem dL_law_1118 : decode cL_law 1118 = .ok (.iconst 0, 1) := by decide +kernel
theorem dL_law_1119 : decode cL_law 1119 = .ok (.ireturn, 1) := by decide +kernel
theorem dL_law_1120 : decode cL_law 1120 = .ok (.aload_n 1, 1) := by decide +kernel
theorem dL_law_1121 : decode cL_law 1121 = .ok (.aload_n 0, 1) := by decide +kernel
theorem dL_law_1122 : decode cL_law 1122 = .ok (.iload 4, 2) := by decide +kernel
theorem dL_law_1124 : decode cL_law 1124 = .ok (.iconst 1, 1) := by decide +kernel
theorem dL_law_1125 : decode cL_law 1125 = .ok (.iadd, 1) := by decide +kernel
theorem dL_law_1126 : decode cL_law 1126 = .ok (.iaload, 1) := by decide +kernel
theorem dL_law_1127 : decode cL_law 1127 = .ok (.aload_n 3, 1) := by decide +kernel
theorem dL_law_1128 : decode cL_law 1128 = .ok (.invokestatic 162, 3) := by decide +kernel
theorem dL_law_1131 : decode cL_law 1131 = .ok (.istore 5, 2) := by decide +kernel
theorem dL_law_1133 : decode cL_law 1133 = .ok (.aload_n 2, 1) := by decide +kernel
theorem dL_law_1134 : decode cL_law 1134 = .ok (.aload_n 0, 1) := by decide +kernel
theorem dL_law_1135 : decode cL_law 1135 = .ok (.iload 4, 2) := by decide +kernel
theorem dL_law_1137 : decode cL_law 1137 = .ok (.iconst 1, 1) := by decide +kernel
theorem dL_law_1138 : decode cL_law 1138 = .ok (.iadd, 1) := by decide +kernel
theorem dL_law_1139 : decode cL_law 1139 = .ok (.iaload, 1) := by decide +kernel
theorem dL_law_1140 : decode cL_law 1140 = .ok (.invokevirtual 164, 3) := by decide +kernel
theorem dL_law_1143 : decode cL_law 1143 = .ok (.istore 6, 2) := by decide +kernel
theorem dL_law_1145 : decode cL_law 1145 = .ok (.aload_n 2, 1) := by decide +kernel
theorem dL_law_1146 : decode cL_law 1146 = .ok (.invokevirtual 82, 3) := by decide +kernel
theorem dL_law_1149 : decode cL_law 1149 = .ok (.iload 5, 2) := by decide +kernel
theorem dL_law_1151 : decode cL_law 1151 = .ok (.if_icmp .eq 5, 3) := by decide +kernel
theorem dL_law_1154 : decode cL_law 1154 = .ok (.iconst 0, 1) := by decide +kernel
theorem dL_law_1155 : decode cL_law 1155 = .ok (.ireturn, 1) := by decide +kernel
theorem dL_law_1156 : decode cL_law 1156 = .ok (.iload 5, 2) := by decide +kernel
theorem dL_law_1158 : decode cL_law 1158 = .ok (.ifCond .ne 15, 3) := by decide +kernel
theorem dL_law_1161 : decode cL_law 1161 = .ok (.aload_n 3, 1) := by decide +kernel
theorem dL_law_1162 : decode cL_law 1162 = .ok (.iconst 0, 1) := by decide +kernel
theorem dL_law_1163 : decode cL_law 1163 = .ok (.laload, 1) := by decide +kernel
theorem dL_law_1164 : decode cL_law 1164 = .ok (.iload 6, 2) := by decide +kernel
theorem dL_law_1166 : decode cL_law 1166 = .ok (.i2l, 1) := by decide +kernel
theorem dL_law_1167 : decode cL_law 1167 = .ok (.lcmp, 1) := by decide +kernel
theorem dL_law_1168 : decode cL_law 1168 = .ok (.ifCond .eq 5, 3) := by decide +kernel
theorem dL_law_1171 : decode cL_law 1171 = .ok (.iconst 0, 1) := by decide +kernel
theorem dL_law_1172 : decode cL_law 1172 = .ok (.ireturn, 1) := by decide +kernel
theorem dL_law_1173 : decode cL_law 1173 = .ok (.goto 252, 3) := by decide +kernel
theorem dL_law_1176 : decode cL_law 1176 = .ok (.aload_n 1, 1) := by decide +kernel
theorem dL_law_1177 : decode cL_law 1177 = .ok (.aload_n 0, 1) := by decide +kernel
theorem dL_law_1178 : decode cL_law 1178 = .ok (.iload 4, 2) := by decide +kernel
theorem dL_law_1180 : decode cL_law 1180 = .ok (.iconst 1, 1) := by decide +kernel
theorem dL_law_1181 : decode cL_law 1181 = .ok (.iadd, 1) := by decide +kernel
theorem dL_law_1182 : decode cL_law 1182 = .ok (.iaload, 1) := by decide +kernel
theorem dL_law_1183 : decode cL_law 1183 = .ok (.aload_n 3, 1) := by decide +kernel
theorem dL_law_1184 : decode cL_law 1184 = .ok (.invokestatic 165, 3) := by decide +kernel
theorem dL_law_1187 : decode cL_law 1187 = .ok (.istore 5, 2) := by decide +kernel
theorem dL_law_1189 : decode cL_law 1189 = .ok (.aload_n 2, 1) := by decide +kernel
theorem dL_law_1190 : decode cL_law 1190 = .ok (.aload_n 0, 1) := by decide +kernel
theorem dL_law_1191 : decode cL_law 1191 = .ok (.iload 4, 2) := by decide +kernel
theorem dL_law_1193 : decode cL_law 1193 = .ok (.iconst 1, 1) := by decide +kernel
theorem dL_law_1194 : decode cL_law 1194 = .ok (.iadd, 1) := by decide +kernel
theorem dL_law_1195 : decode cL_law 1195 = .ok (.iaload, 1) := by decide +kernel
theorem dL_law_1196 : decode cL_law 1196 = .ok (.invokevirtual 167, 3) := by decide +kernel
theorem dL_law_1199 : decode cL_law 1199 = .ok (.istore 6, 2) := by decide +kernel
theorem dL_law_1201 : decode cL_law 1201 = .ok (.aload_n 2, 1) := by decide +kernel
theorem dL_law_1202 : decode cL_law 1202 = .ok (.invokevirtual 82, 3) := by decide +kernel
theorem dL_law_1205 : decode cL_law 1205 = .ok (.iload 5, 2) := by decide +kernel
theorem dL_law_1207 : decode cL_law 1207 = .ok (.if_icmp .eq 5, 3) := by decide +kernel
theorem dL_law_1210 : decode cL_law 1210 = .ok (.iconst 0, 1) := by decide +kernel
theorem dL_law_1211 : decode cL_law 1211 = .ok (.ireturn, 1) := by decide +kernel
theorem dL_law_1212 : decode cL_law 1212 = .ok (.iload 5, 2) := by decide +kernel
theorem dL_law_1214 : decode cL_law 1214 = .ok (.ifCond .ne 15, 3) := by decide +kernel
theorem dL_law_1217 : decode cL_law 1217 = .ok (.aload_n 3, 1) := by decide +kernel
theorem dL_law_1218 : decode cL_law 1218 = .ok (.iconst 0, 1) := by decide +kernel
theorem dL_law_1219 : decode cL_law 1219 = .ok (.laload, 1) := by decide +kernel
theorem dL_law_1220 : decode cL_law 1220 = .ok (.iload 6, 2) := by decide +kernel
theorem dL_law_1222 : decode cL_law 1222 = .ok (.i2l, 1) := by decide +kernel
theorem dL_law_1223 : decode cL_law 1223 = .ok (.lcmp, 1) := by decide +kernel
theorem dL_law_1224 : decode cL_law 1224 = .ok (.ifCond .eq 5, 3) := by decide +kernel
theorem dL_law_1227 : decode cL_law 1227 = .ok (.iconst 0, 1) := by decide +kernel
theorem dL_law_1228 : decode cL_law 1228 = .ok (.ireturn, 1) := by decide +kernel
theorem dL_law_1229 : decode cL_law 1229 = .ok (.goto 196, 3) := by decide +kernel
theorem dL_law_1232 : decode cL_law 1232 = .ok (.aload_n 1, 1) := by decide +kernel
theorem dL_law_1233 : decode cL_law 1233 = .ok (.aload_n 0, 1) := by decide +kernel
theorem dL_law_1234 : decode cL_law 1234 = .ok (.iload 4, 2) := by decide +kernel
theorem dL_law_1236 : decode cL_law 1236 = .ok (.iconst 1, 1) := by decide +kernel
theorem dL_law_1237 : decode cL_law 1237 = .ok (.iadd, 1) := by decide +kernel
theorem dL_law_1238 : decode cL_law 1238 = .ok (.iaload, 1) := by decide +kernel
theorem dL_law_1239 : decode cL_law 1239 = .ok (.aload_n 3, 1) := by decide +kernel
theorem dL_law_1240 : decode cL_law 1240 = .ok (.invokestatic 168, 3) := by decide +kernel
theorem dL_law_1243 : decode cL_law 1243 = .ok (.istore 5, 2) := by decide +kernel
theorem dL_law_1245 : decode cL_law 1245 = .ok (.aload_n 2, 1) := by decide +kernel
theorem dL_law_1246 : decode cL_law 1246 = .ok (.aload_n 0, 1) := by decide +kernel
theorem dL_law_1247 : decode cL_law 1247 = .ok (.iload 4, 2) := by decide +kernel
theorem dL_law_1249 : decode cL_law 1249 = .ok (.iconst 1, 1) := by decide +kernel
theorem dL_law_1250 : decode cL_law 1250 = .ok (.iadd, 1) := by decide +kernel
theorem dL_law_1251 : decode cL_law 1251 = .ok (.iaload, 1) := by decide +kernel
theorem dL_law_1252 : decode cL_law 1252 = .ok (.invokevirtual 170, 3) := by decide +kernel
theorem dL_law_1255 : decode cL_law 1255 = .ok (.istore 6, 2) := by decide +kernel
theorem dL_law_1257 : decode cL_law 1257 = .ok (.aload_n 2, 1) := by decide +kernel
theorem dL_law_1258 : decode cL_law 1258 = .ok (.invokevirtual 82, 3) := by decide +kernel
theorem dL_law_1261 : decode cL_law 1261 = .ok (.iload 5, 2) := by decide +kernel
theorem dL_law_1263 : decode cL_law 1263 = .ok (.if_icmp .eq 5, 3) := by decide +kernel
theorem dL_law_1266 : decode cL_law 1266 = .ok (.iconst 0, 1) := by decide +kernel
theorem dL_law_1267 : decode cL_law 1267 = .ok (.ireturn, 1) := by decide +kernel
theorem dL_law_1268 : decode cL_law 1268 = .ok (.iload 5, 2) := by decide +kernel
theorem dL_law_1270 : decode cL_law 1270 = .ok (.ifCond .ne 15, 3) := by decide +kernel
theorem dL_law_1273 : decode cL_law 1273 = .ok (.aload_n 3, 1) := by decide +kernel
theorem dL_law_1274 : decode cL_law 1274 = .ok (.iconst 0, 1) := by decide +kernel
theorem dL_law_1275 : decode cL_law 1275 = .ok (.laload, 1) := by decide +kernel
theorem dL_law_1276 : decode cL_law 1276 = .ok (.iload 6, 2) := by decide +kernel
theorem dL_law_1278 : decode cL_law 1278 = .ok (.i2l, 1) := by decide +kernel
theorem dL_law_1279 : decode cL_law 1279 = .ok (.lcmp, 1) := by decide +kernel
theorem dL_law_1280 : decode cL_law 1280 = .ok (.ifCond .eq 5, 3) := by decide +kernel
theorem dL_law_1283 : decode cL_law 1283 = .ok (.iconst 0, 1) := by decide +kernel
theorem dL_law_1284 : decode cL_law 1284 = .ok (.ireturn, 1) := by decide +kernel
theorem dL_law_1285 : decode cL_law 1285 = .ok (.goto 140, 3) := by decide +kernel
theorem dL_law_1288 : decode cL_law 1288 = .ok (.aload_n 1, 1) := by decide +kernel
theorem dL_law_1289 : decode cL_law 1289 = .ok (.invokevirtual 171, 3) := by decide +kernel
theorem dL_law_1292 : decode cL_law 1292 = .ok (.aload_n 2, 1) := by decide +kernel
theorem dL_law_1293 : decode cL_law 1293 = .ok (.invokevirtual 174, 3) := by decide +kernel
theorem dL_law_1296 : decode cL_law 1296 = .ok (.if_icmp .eq 129, 3) := by decide +kernel
theorem dL_law_1299 : decode cL_law 1299 = .ok (.iconst 0, 1) := by decide +kernel
theorem dL_law_1300 : decode cL_law 1300 = .ok (.ireturn, 1) := by decide +kernel
theorem dL_law_1301 : decode cL_law 1301 = .ok (.aload_n 1, 1) := by decide +kernel
theorem dL_law_1302 : decode cL_law 1302 = .ok (.invokevirtual 175, 3) := by decide +kernel
theorem dL_law_1305 : decode cL_law 1305 = .ok (.aload_n 2, 1) := by decide +kernel
theorem dL_law_1306 : decode cL_law 1306 = .ok (.invokevirtual 178, 3) := by decide +kernel
theorem dL_law_1309 : decode cL_law 1309 = .ok (.if_icmp .eq 116, 3) := by decide +kernel
theorem dL_law_1312 : decode cL_law 1312 = .ok (.iconst 0, 1) := by decide +kernel
theorem dL_law_1313 : decode cL_law 1313 = .ok (.ireturn, 1) := by decide +kernel
theorem dL_law_1314 : decode cL_law 1314 = .ok (.aload_n 1, 1) := by decide +kernel
theorem dL_law_1315 : decode cL_law 1315 = .ok (.aload_n 0, 1) := by decide +kernel
theorem dL_law_1316 : decode cL_law 1316 = .ok (.iload 4, 2) := by decide +kernel
theorem dL_law_1318 : decode cL_law 1318 = .ok (.iconst 1, 1) := by decide +kernel
theorem dL_law_1319 : decode cL_law 1319 = .ok (.iadd, 1) := by decide +kernel
theorem dL_law_1320 : decode cL_law 1320 = .ok (.iaload, 1) := by decide +kernel
theorem dL_law_1321 : decode cL_law 1321 = .ok (.aload_n 3, 1) := by decide +kernel
theorem dL_law_1322 : decode cL_law 1322 = .ok (.invokestatic 179, 3) := by decide +kernel
theorem dL_law_1325 : decode cL_law 1325 = .ok (.istore 5, 2) := by decide +kernel
theorem dL_law_1327 : decode cL_law 1327 = .ok (.aload_n 2, 1) := by decide +kernel
theorem dL_law_1328 : decode cL_law 1328 = .ok (.aload_n 0, 1) := by decide +kernel
theorem dL_law_1329 : decode cL_law 1329 = .ok (.iload 4, 2) := by decide +kernel
theorem dL_law_1331 : decode cL_law 1331 = .ok (.iconst 1, 1) := by decide +kernel
theorem dL_law_1332 : decode cL_law 1332 = .ok (.iadd, 1) := by decide +kernel
theorem dL_law_1333 : decode cL_law 1333 = .ok (.iaload, 1) := by decide +kernel
theorem dL_law_1334 : decode cL_law 1334 = .ok (.invokevirtual 181, 3) := by decide +kernel
theorem dL_law_1337 : decode cL_law 1337 = .ok (.istore 6, 2) := by decide +kernel
theorem dL_law_1339 : decode cL_law 1339 = .ok (.aload_n 2, 1) := by decide +kernel
theorem dL_law_1340 : decode cL_law 1340 = .ok (.invokevirtual 82, 3) := by decide +kernel
theorem dL_law_1343 : decode cL_law 1343 = .ok (.iload 5, 2) := by decide +kernel
theorem dL_law_1345 : decode cL_law 1345 = .ok (.if_icmp .eq 5, 3) := by decide +kernel
theorem dL_law_1348 : decode cL_law 1348 = .ok (.iconst 0, 1) := by decide +kernel
theorem dL_law_1349 : decode cL_law 1349 = .ok (.ireturn, 1) := by decide +kernel
theorem dL_law_1350 : decode cL_law 1350 = .ok (.iload 5, 2) := by decide +kernel
theorem dL_law_1352 : decode cL_law 1352 = .ok (.ifCond .ne 15, 3) := by decide +kernel
theorem dL_law_1355 : decode cL_law 1355 = .ok (.aload_n 3, 1) := by decide +kernel
theorem dL_law_1356 : decode cL_law 1356 = .ok (.iconst 0, 1) := by decide +kernel
theorem dL_law_1357 : decode cL_law 1357 = .ok (.laload, 1) := by decide +kernel
theorem dL_law_1358 : decode cL_law 1358 = .ok (.iload 6, 2) := by decide +kernel
theorem dL_law_1360 : decode cL_law 1360 = .ok (.i2l, 1) := by decide +kernel
end
section
theorem dL_law_1361 : decode cL_law 1361 = .ok (.lcmp, 1) := by decide +kernel
theorem dL_law_1362 : decode cL_law 1362 = .ok (.ifCond .eq 5, 3) := by decide +kernel
theorem dL_law_1365 : decode cL_law 1365 = .ok (.iconst 0, 1) := by decide +kernel
theorem dL_law_1366 : decode cL_law 1366 = .ok (.ireturn, 1) := by decide +kernel
theorem dL_law_1367 : decode cL_law 1367 = .ok (.goto 58, 3) := by decide +kernel
theorem dL_law_1370 : decode cL_law 1370 = .ok (.aload_n 1, 1) := by decide +kernel
theorem dL_law_1371 : decode cL_law 1371 = .ok (.invokevirtual 182, 3) := by decide +kernel
theorem dL_law_1374 : decode cL_law 1374 = .ok (.dstore 5, 2) := by decide +kernel
theorem dL_law_1376 : decode cL_law 1376 = .ok (.aload_n 2, 1) := by decide +kernel
theorem dL_law_1377 : decode cL_law 1377 = .ok (.invokevirtual 186, 3) := by decide +kernel
theorem dL_law_1380 : decode cL_law 1380 = .ok (.dstore 7, 2) := by decide +kernel
theorem dL_law_1382 : decode cL_law 1382 = .ok (.dload 5, 2) := by decide +kernel
theorem dL_law_1384 : decode cL_law 1384 = .ok (.dload 7, 2) := by decide +kernel
theorem dL_law_1386 : decode cL_law 1386 = .ok (.dcmp .l, 1) := by decide +kernel
theorem dL_law_1387 : decode cL_law 1387 = .ok (.ifCond .eq 21, 3) := by decide +kernel
theorem dL_law_1390 : decode cL_law 1390 = .ok (.dload 5, 2) := by decide +kernel
theorem dL_law_1392 : decode cL_law 1392 = .ok (.dload 5, 2) := by decide +kernel
theorem dL_law_1394 : decode cL_law 1394 = .ok (.dcmp .l, 1) := by decide +kernel
theorem dL_law_1395 : decode cL_law 1395 = .ok (.ifCond .eq 11, 3) := by decide +kernel
theorem dL_law_1398 : decode cL_law 1398 = .ok (.dload 7, 2) := by decide +kernel
theorem dL_law_1400 : decode cL_law 1400 = .ok (.dload 7, 2) := by decide +kernel
theorem dL_law_1402 : decode cL_law 1402 = .ok (.dcmp .l, 1) := by decide +kernel
theorem dL_law_1403 : decode cL_law 1403 = .ok (.ifCond .ne 5, 3) := by decide +kernel
theorem dL_law_1406 : decode cL_law 1406 = .ok (.iconst 0, 1) := by decide +kernel
theorem dL_law_1407 : decode cL_law 1407 = .ok (.ireturn, 1) := by decide +kernel
theorem dL_law_1408 : decode cL_law 1408 = .ok (.goto 17, 3) := by decide +kernel
theorem dL_law_1411 : decode cL_law 1411 = .ok (.aload_n 1, 1) := by decide +kernel
theorem dL_law_1412 : decode cL_law 1412 = .ok (.invokevirtual 187, 3) := by decide +kernel
theorem dL_law_1415 : decode cL_law 1415 = .ok (.aload_n 2, 1) := by decide +kernel
theorem dL_law_1416 : decode cL_law 1416 = .ok (.invokevirtual 191, 3) := by decide +kernel
theorem dL_law_1419 : decode cL_law 1419 = .ok (.lcmp, 1) := by decide +kernel
theorem dL_law_1420 : decode cL_law 1420 = .ok (.ifCond .eq 5, 3) := by decide +kernel
theorem dL_law_1423 : decode cL_law 1423 = .ok (.iconst 0, 1) := by decide +kernel
theorem dL_law_1424 : decode cL_law 1424 = .ok (.ireturn, 1) := by decide +kernel
theorem dL_law_1425 : decode cL_law 1425 = .ok (.iinc 4 3, 3) := by decide +kernel
theorem dL_law_1428 : decode cL_law 1428 = .ok (.goto (-1405), 3) := by decide +kernel
theorem dL_law_1431 : decode cL_law 1431 = .ok (.iconst 1, 1) := by decide +kernel
theorem dL_law_1432 : decode cL_law 1432 = .ok (.ireturn, 1) := by decide +kernel
end
section
/-! GK: walks over worlds; heap, locals and frame facts are kept inside gW, numbers are integers under zI -/
abbrev LW : List Cond := wsL_law
theorem LW_good : LW.all goodWord = true := by decide +kernel
def T3 (cI cG cJ : ClassId) : List (ClassId × FieldType) := [(cI, .int), (cG, .array .int), (cJ, .long)]
def zI (z : Int) : Int32 := Int32.ofInt z
def zA (g : Nat → Int) : Nat → Int32 := fun j => zI (g j)
def zU (g : Nat → Int) (k : Nat) (x : Int) : Nat → Int := fun j => if j = k then x else g j
def zr (a : Int) : Prop := -2147483648 ≤ a ∧ a ≤ 2147483647
theorem zA_upd (g : Nat → Int) (k : Nat) (x : Int) : upd (zA g) k (zI x) = zA (zU g k x) := by
  funext j
  simp only [upd, zA, zU]
  split <;> rfl
theorem zI_add (a b : Int) : zI a + zI b = zI (a + b) := (Int32.ofInt_add a b).symm
theorem zI_sub (a b : Int) : zI a - zI b = zI (a - b) := (Int32.ofInt_sub a b).symm
theorem zI_mul (a b : Int) : zI a * zI b = zI (a * b) := (Int32.ofInt_mul a b).symm
theorem zI_toInt {a : Int} (h : zr a) : (zI a).toInt = a := Int32.toInt_ofInt_of_le h.1 (by have := h.2; omega)
theorem zI_of (x : Int32) : zI x.toInt = x := Int32.ofInt_toInt x
theorem zr_of (x : Int32) : zr x.toInt := ⟨Int32.le_toInt x, by have := Int32.toInt_lt x; omega⟩
theorem zI_ex (x : Int32) : ∃ z : Int, zr z ∧ x = zI z := ⟨x.toInt, zr_of x, (zI_of x).symm⟩
theorem zr0 : zr 0 := ⟨by decide, by decide⟩
theorem zI_lt {a b : Int} (ha : zr a) (hb : zr b) : zI a < zI b ↔ a < b := by rw [Int32.lt_iff_toInt_lt, zI_toInt ha, zI_toInt hb]
theorem zI_le {a b : Int} (ha : zr a) (hb : zr b) : zI a ≤ zI b ↔ a ≤ b := by rw [Int32.le_iff_toInt_le, zI_toInt ha, zI_toInt hb]
theorem zI_eq {a b : Int} (ha : zr a) (hb : zr b) : zI a = zI b ↔ a = b := by rw [← Int32.toInt_inj, zI_toInt ha, zI_toInt hb]
theorem zI_cl {i : Int} {n : Nat} (h0 : 0 ≤ i) (h1 : i < n) (hn : n ≤ 2000) : (zI i).toNatClampNeg = i.toNat := Int32.toNatClampNeg_ofInt_of_le (by omega) (by omega)
theorem zI_in {i : Int} {n : Nat} (h0 : 0 ≤ i) (h1 : i < n) (hn : n ≤ 2000) : vp_in (zI i) n := by
  have hi : zr i := ⟨by omega, by omega⟩
  rintro (h | h)
  · exact absurd ((zI_lt hi zr0).mp h) (by omega)
  · rw [zI_cl h0 h1 hn] at h
    omega
theorem zI_min {a b : Int} (ha : zr a) (hb : zr b) : (if zI b < zI a then zI b else zI a) = zI (min a b) := by
  by_cases h : b < a
  · rw [if_pos ((zI_lt hb ha).mpr h), Int.min_eq_right (by omega)]
  · rw [if_neg (fun q => h ((zI_lt hb ha).mp q)), Int.min_eq_left (by omega)]
/-- words of throws and catches that no method's own list can hold: they stand as facts of the state -/
def NG : List Cond := [.castable "java/lang/IllegalArgumentException" "java/lang/IllegalArgumentException", .castable "java/lang/IllegalStateException" "java/lang/IllegalStateException", .castable "java/lang/IndexOutOfBoundsException" "java/lang/IndexOutOfBoundsException", .declares (Bundle.init0 "java/lang/RuntimeException"), .declares (Bundle.init0 "java/lang/Exception"), .declares (Bundle.init0 Bundle.tN)]
def NC : List (String × String) := [("java/lang/IllegalArgumentException", "java/lang/IllegalStateException"), ("java/lang/IllegalArgumentException", "java/lang/IndexOutOfBoundsException"), ("java/lang/IllegalStateException", "java/lang/IllegalArgumentException"), ("java/lang/IllegalStateException", "java/lang/IndexOutOfBoundsException"), ("java/lang/IndexOutOfBoundsException", "java/lang/IllegalArgumentException"), ("java/lang/IndexOutOfBoundsException", "java/lang/IllegalStateException")]
theorem NG_on : ∀ w ∈ NG, w.onTables = true := by decide +kernel
theorem NG_warm {s U : State} (hW : s.WarmedH U.vm) (h : ∀ w ∈ NG, va_Nw w s) : ∀ w ∈ NG, va_Nw w U := by
  intro w hw
  have h1 := h w hw
  simp only [NG, List.mem_cons, List.not_mem_nil, or_false] at hw
  rcases hw with rfl | rfl | rfl | rfl | rfl | rfl
  · exact va_Nw.warmC hW h1
  · exact va_Nw.warmC hW h1
  · exact va_Nw.warmC hW h1
  · exact va_Nw.warmD hW h1
  · exact va_Nw.warmD hW h1
  · exact va_Nw.warmD hW h1
/-- the facts that throws and catches ask for -/
def gZ (A : Nat → Prop) (s : State) : Prop := vx_Zq Bundle.tN "UNASSIGNED_STACK" Bundle.steD A s s.heap ∧ vx_Zq Bundle.tN "SUPPRESSED_SENTINEL" Bundle.listD A s s.heap ∧ (∀ w ∈ NG, va_Nw w s) ∧ ∀ q ∈ NC, va_Nc q.1 q.2 s
/-- what a walk stands in: machine, launch, room, start, frame below, method, code, the cells it may write, the classes, locals, its goal -/
abbrev gEnv : Type := Program × Launch × Env × Room × State × MethodId × Array Value × List Frame × Method × Code × (Nat → Prop) × va_G × Nat × (State → Prop)
def gW (E : gEnv) (k n : Nat) (w : va_W) (pc : Nat) (L : List (Nat × Value)) (st : List Value) : Prop := match E with
  | (p, l, e, R, s, m, args, below, meth, c, A, D, nL, Q) => ∀ (H : Heap) (locs : List Loc) (ls : Array Slot), va_P D vwCl w H → va_D A w → va_S A s.heap H locs → lv_has ls nL L → W p l e R s m args below meth c H locs k n Q (F0 m pc ls st)
/-- the same with q thrown over the frame -/
def gWx (E : gEnv) (k n : Nat) (w : va_W) (pc : Nat) (L : List (Nat × Value)) (nm : String) : Prop := match E with
  | (p, l, e, R, s, m, args, below, meth, c, A, D, nL, Q) => ∀ (H : Heap) (locs : List Loc) (ls : Array Slot) (q : Nat) (ce : Cell) (st : List Value), va_P D vwCl w H → va_D A w → va_S A s.heap H locs → lv_has ls nL L → H[q]? = some ce → ce.vm = .none → s.vm.findClass nm = some ce.cls → vx_W p l e R s m args below meth c H locs k n Q (F0 m pc ls st) q
def gC (E : gEnv) (l : Launch) (R : Room) (D : va_G) (nL : Nat) (own : String) (cc : ByteArray) (cI cG cJ : ClassId) : Prop := match E with
  | (p, l', _, R', s, m, args, _, _, c, A, D', nL', _) => l' = l ∧ R' = R ∧ D' = D ∧ nL' = nL ∧ p.tables.exec = Jvm.exec ∧ c.code = cc ∧ c.maxLocals = nL ∧ s.vm.findClass own = some m.cls ∧ (∀ w ∈ LW, w.before args s = true) ∧ va_K D vwCl (T3 cI cG cJ) s ∧ va_AOA .int s ∧ (∀ q, s.heap.size ≤ q → A q) ∧ gZ A s
section GK1
variable {E : gEnv} {l : Launch} {R : Room} {D : va_G} {nL : Nat} {own : String} {cc : ByteArray} {cI cG cJ : ClassId} {k n : Nat} {w : va_W} {pc : Nat} {L : List (Nat × Value)} {st : List Value}
theorem g_widen {k' n' : Nat} (h1 : k ≤ k') (h2 : n ≤ n') (K : gW E k' n' w pc L st) : gW E k n w pc L st := by
  obtain ⟨p, l, e, R, s, m, args, below, meth, c, A, D, nL, Q⟩ := E
  intro H locs ls hP hD hS hl
  exact W.widen h1 h2 (K H locs ls hP hD hS hl)
/-- other locals, fewer or in another order -/
theorem g_loc {L' : List (Nat × Value)} (ks : List Nat) (h : lv_pick L ks = L') (K : gW E k n w pc L' st) : gW E k n w pc L st := by
  obtain ⟨p, l, e, R, s, m, args, below, meth, c, A, D, nL, Q⟩ := E
  intro H locs ls hP hD hS hl
  exact K H locs ls hP hD hS (lv_sub hl ks h)
/-- the cells in another order, or fewer -/
theorem g_perm {w' : va_W} (ks : List Nat) (hn : va_nd ks = true) (h : ks.map (fun i => w[i]?) = w'.map some) (K : gW E k n w' pc L st) : gW E k n w pc L st := by
  obtain ⟨p, l, e, R, s, m, args, below, meth, c, A, D, nL, Q⟩ := E
  intro H locs ls hP hD hS hl
  refine K H locs ls ?_ (hD.sub ks hn h) hS hl
  intro j q hj
  have h1 : (ks.map (fun i => w[i]?))[j]? = some (some q) := by rw [h, List.getElem?_map, hj]; rfl
  rw [List.getElem?_map] at h1
  cases hi : ks[j]? with
  | none => rw [hi] at h1; cases h1
  | some i => rw [hi] at h1; exact hP i q (Option.some.inj h1)
theorem g_eqw {w' : va_W} (h : w = w') (K : gW E k n w' pc L st) : gW E k n w pc L st := h ▸ K
theorem g_eqs {st' : List Value} (h : st = st') (K : gW E k n w pc L st') : gW E k n w pc L st := h ▸ K
theorem g_iconst {i : Int} (C : gC E l R D nL own cc cI cG cJ) (hd : decode cc pc = .ok (.iconst i, 1)) (K : gW E k n w (pc + 1) L (.int (zI i) :: st)) : gW E k n w pc L st := by
  obtain ⟨p, l, e, R, s, m, args, below, meth, c, A, D, nL, Q⟩ := E
  obtain ⟨rfl, rfl, rfl, rfl, hx, hb, hml, hown, hts, hK, hO, hA, hZ⟩ := C
  intro H locs ls hP hD hS hl
  exact lv_iconst hx hb hd rfl (K H locs ls hP hD hS hl)
theorem g_bipush {i : Int} (C : gC E l R D nL own cc cI cG cJ) (hd : decode cc pc = .ok (.bipush i, 2)) (hv : (Int8.ofInt i).toInt32 = zI i) (K : gW E k n w (pc + 2) L (.int (zI i) :: st)) : gW E k n w pc L st := by
  obtain ⟨p, l, e, R, s, m, args, below, meth, c, A, D, nL, Q⟩ := E
  obtain ⟨rfl, rfl, rfl, rfl, hx, hb, hml, hown, hts, hK, hO, hA, hZ⟩ := C
  intro H locs ls hP hD hS hl
  exact lv_bipush hx hb hd hv (K H locs ls hP hD hS hl)
theorem g_sipush {i : Int} (C : gC E l R D nL own cc cI cG cJ) (hd : decode cc pc = .ok (.sipush i, 3)) (hv : (Int16.ofInt i).toInt32 = zI i) (K : gW E k n w (pc + 3) L (.int (zI i) :: st)) : gW E k n w pc L st := by
  obtain ⟨p, l, e, R, s, m, args, below, meth, c, A, D, nL, Q⟩ := E
  obtain ⟨rfl, rfl, rfl, rfl, hx, hb, hml, hown, hts, hK, hO, hA, hZ⟩ := C
  intro H locs ls hP hD hS hl
  exact lv_sipush hx hb hd hv (K H locs ls hP hD hS hl)
theorem g_lconst {i : Fin 2} {v : Int64} (C : gC E l R D nL own cc cI cG cJ) (hd : decode cc pc = .ok (.lconst i, 1)) (hv : Int64.ofNat i = v) (K : gW E k n w (pc + 1) L (.long v :: st)) : gW E k n w pc L st := by
  obtain ⟨p, l, e, R, s, m, args, below, meth, c, A, D, nL, Q⟩ := E
  obtain ⟨rfl, rfl, rfl, rfl, hx, hb, hml, hown, hts, hK, hO, hA, hZ⟩ := C
  intro H locs ls hP hD hS hl
  exact lv_lconst hx hb hd hv (K H locs ls hP hD hS hl)
theorem g_iload_n {i : Fin 4} {x : Int32} (C : gC E l R D nL own cc cI cG cJ) (hd : decode cc pc = .ok (.iload_n i, 1)) (j : Nat) (hj : L[j]? = some ((i : Nat), .int x)) (K : gW E k n w (pc + 1) L (.int x :: st)) : gW E k n w pc L st := by
  obtain ⟨p, l, e, R, s, m, args, below, meth, c, A, D, nL, Q⟩ := E
  obtain ⟨rfl, rfl, rfl, rfl, hx, hb, hml, hown, hts, hK, hO, hA, hZ⟩ := C
  intro H locs ls hP hD hS hl
  exact lv_iload_n hx hb hd rfl (lv_at hl j hj) (K H locs ls hP hD hS hl)
theorem g_iload {i : Nat} {x : Int32} (C : gC E l R D nL own cc cI cG cJ) (hd : decode cc pc = .ok (.iload i, 2)) (j : Nat) (hj : L[j]? = some (i, .int x)) (K : gW E k n w (pc + 2) L (.int x :: st)) : gW E k n w pc L st := by
  obtain ⟨p, l, e, R, s, m, args, below, meth, c, A, D, nL, Q⟩ := E
  obtain ⟨rfl, rfl, rfl, rfl, hx, hb, hml, hown, hts, hK, hO, hA, hZ⟩ := C
  intro H locs ls hP hD hS hl
  exact lv_iload hx hb hd (lv_at hl j hj) (K H locs ls hP hD hS hl)
theorem g_aload_n {i : Fin 4} {x : Nat} (C : gC E l R D nL own cc cI cG cJ) (hd : decode cc pc = .ok (.aload_n i, 1)) (j : Nat) (hj : L[j]? = some ((i : Nat), .ref x)) (K : gW E k n w (pc + 1) L (.ref x :: st)) : gW E k n w pc L st := by
  obtain ⟨p, l, e, R, s, m, args, below, meth, c, A, D, nL, Q⟩ := E
  obtain ⟨rfl, rfl, rfl, rfl, hx, hb, hml, hown, hts, hK, hO, hA, hZ⟩ := C
  intro H locs ls hP hD hS hl
  exact lv_aload_n hx hb hd rfl (lv_at hl j hj) (K H locs ls hP hD hS hl)
theorem g_aload {i : Nat} {x : Nat} (C : gC E l R D nL own cc cI cG cJ) (hd : decode cc pc = .ok (.aload i, 2)) (j : Nat) (hj : L[j]? = some (i, .ref x)) (K : gW E k n w (pc + 2) L (.ref x :: st)) : gW E k n w pc L st := by
  obtain ⟨p, l, e, R, s, m, args, below, meth, c, A, D, nL, Q⟩ := E
  obtain ⟨rfl, rfl, rfl, rfl, hx, hb, hml, hown, hts, hK, hO, hA, hZ⟩ := C
  intro H locs ls hP hD hS hl
  exact lv_aload hx hb hd (lv_at hl j hj) (K H locs ls hP hD hS hl)
theorem g_lload_n {i : Fin 4} {x : Int64} (C : gC E l R D nL own cc cI cG cJ) (hd : decode cc pc = .ok (.lload_n i, 1)) (j : Nat) (hj : L[j]? = some ((i : Nat), .long x)) (K : gW E k n w (pc + 1) L (.long x :: st)) : gW E k n w pc L st := by
  obtain ⟨p, l, e, R, s, m, args, below, meth, c, A, D, nL, Q⟩ := E
  obtain ⟨rfl, rfl, rfl, rfl, hx, hb, hml, hown, hts, hK, hO, hA, hZ⟩ := C
  intro H locs ls hP hD hS hl
  exact lv_lload_n hx hb hd rfl (lv_at hl j hj) (K H locs ls hP hD hS hl)
theorem g_lload {i : Nat} {x : Int64} (C : gC E l R D nL own cc cI cG cJ) (hd : decode cc pc = .ok (.lload i, 2)) (j : Nat) (hj : L[j]? = some (i, .long x)) (K : gW E k n w (pc + 2) L (.long x :: st)) : gW E k n w pc L st := by
  obtain ⟨p, l, e, R, s, m, args, below, meth, c, A, D, nL, Q⟩ := E
  obtain ⟨rfl, rfl, rfl, rfl, hx, hb, hml, hown, hts, hK, hO, hA, hZ⟩ := C
  intro H locs ls hP hD hS hl
  exact lv_lload hx hb hd (lv_at hl j hj) (K H locs ls hP hD hS hl)
theorem g_dload {i : Nat} {x : UInt64} (C : gC E l R D nL own cc cI cG cJ) (hd : decode cc pc = .ok (.dload i, 2)) (j : Nat) (hj : L[j]? = some (i, .double x)) (K : gW E k n w (pc + 2) L (.double x :: st)) : gW E k n w pc L st := by
  obtain ⟨p, l, e, R, s, m, args, below, meth, c, A, D, nL, Q⟩ := E
  obtain ⟨rfl, rfl, rfl, rfl, hx, hb, hml, hown, hts, hK, hO, hA, hZ⟩ := C
  intro H locs ls hP hD hS hl
  exact lv_dload hx hb hd (lv_at hl j hj) (K H locs ls hP hD hS hl)
theorem g_istore_n {i : Fin 4} {x : Int32} {L' : List (Nat × Value)} (C : gC E l R D nL own cc cI cG cJ) (hd : decode cc pc = .ok (.istore_n i, 1)) (hn : (i : Nat) < nL) (hl' : ((i : Nat), Value.int x) :: L.filter (fun q => !(q.1 == (i : Nat)) && !(q.1 + 1 == (i : Nat) && q.2.category == 2)) = L') (K : gW E k n w (pc + 1) L' st) : gW E k n w pc L (.int x :: st) := by
  obtain ⟨p, l, e, R, s, m, args, below, meth, c, A, D, nL, Q⟩ := E
  obtain ⟨rfl, rfl, rfl, rfl, hx, hb, hml, hown, hts, hK, hO, hA, hZ⟩ := C
  intro H locs ls hP hD hS hl
  exact lv_istore_n hx hb hd rfl hl hn hl' (fun ls' h => K H locs ls' hP hD hS h)
theorem g_istore {i : Nat} {x : Int32} {L' : List (Nat × Value)} (C : gC E l R D nL own cc cI cG cJ) (hd : decode cc pc = .ok (.istore i, 2)) (hn : i < nL) (hl' : (i, Value.int x) :: L.filter (fun q => !(q.1 == i) && !(q.1 + 1 == i && q.2.category == 2)) = L') (K : gW E k n w (pc + 2) L' st) : gW E k n w pc L (.int x :: st) := by
  obtain ⟨p, l, e, R, s, m, args, below, meth, c, A, D, nL, Q⟩ := E
  obtain ⟨rfl, rfl, rfl, rfl, hx, hb, hml, hown, hts, hK, hO, hA, hZ⟩ := C
  intro H locs ls hP hD hS hl
  exact lv_istore hx hb hd hl hn hl' (fun ls' h => K H locs ls' hP hD hS h)
theorem g_astore_n {i : Fin 4} {x : Nat} {L' : List (Nat × Value)} (C : gC E l R D nL own cc cI cG cJ) (hd : decode cc pc = .ok (.astore_n i, 1)) (hn : (i : Nat) < nL) (hl' : ((i : Nat), Value.ref x) :: L.filter (fun q => !(q.1 == (i : Nat)) && !(q.1 + 1 == (i : Nat) && q.2.category == 2)) = L') (K : gW E k n w (pc + 1) L' st) : gW E k n w pc L (.ref x :: st) := by
  obtain ⟨p, l, e, R, s, m, args, below, meth, c, A, D, nL, Q⟩ := E
  obtain ⟨rfl, rfl, rfl, rfl, hx, hb, hml, hown, hts, hK, hO, hA, hZ⟩ := C
  intro H locs ls hP hD hS hl
  exact lv_astore_n hx hb hd rfl hl hn hl' (fun ls' h => K H locs ls' hP hD hS h)
theorem g_astore {i : Nat} {x : Nat} {L' : List (Nat × Value)} (C : gC E l R D nL own cc cI cG cJ) (hd : decode cc pc = .ok (.astore i, 2)) (hn : i < nL) (hl' : (i, Value.ref x) :: L.filter (fun q => !(q.1 == i) && !(q.1 + 1 == i && q.2.category == 2)) = L') (K : gW E k n w (pc + 2) L' st) : gW E k n w pc L (.ref x :: st) := by
  obtain ⟨p, l, e, R, s, m, args, below, meth, c, A, D, nL, Q⟩ := E
  obtain ⟨rfl, rfl, rfl, rfl, hx, hb, hml, hown, hts, hK, hO, hA, hZ⟩ := C
  intro H locs ls hP hD hS hl
  exact lv_astore hx hb hd hl hn hl' (fun ls' h => K H locs ls' hP hD hS h)
theorem g_lstore_n {i : Fin 4} {x : Int64} {L' : List (Nat × Value)} (C : gC E l R D nL own cc cI cG cJ) (hd : decode cc pc = .ok (.lstore_n i, 1)) (hn : (i : Nat) + 1 < nL) (hl' : ((i : Nat), Value.long x) :: L.filter (fun q => !(q.1 == (i : Nat)) && (!(q.1 == (i : Nat) + 1) && !(q.1 + 1 == (i : Nat) && q.2.category == 2))) = L') (K : gW E k n w (pc + 1) L' st) : gW E k n w pc L (.long x :: st) := by
  obtain ⟨p, l, e, R, s, m, args, below, meth, c, A, D, nL, Q⟩ := E
  obtain ⟨rfl, rfl, rfl, rfl, hx, hb, hml, hown, hts, hK, hO, hA, hZ⟩ := C
  intro H locs ls hP hD hS hl
  exact lv_lstore_n hx hb hd rfl hl hn hl' (fun ls' h => K H locs ls' hP hD hS h)
theorem g_lstore {i : Nat} {x : Int64} {L' : List (Nat × Value)} (C : gC E l R D nL own cc cI cG cJ) (hd : decode cc pc = .ok (.lstore i, 2)) (hn : i + 1 < nL) (hl' : (i, Value.long x) :: L.filter (fun q => !(q.1 == i) && (!(q.1 == i + 1) && !(q.1 + 1 == i && q.2.category == 2))) = L') (K : gW E k n w (pc + 2) L' st) : gW E k n w pc L (.long x :: st) := by
  obtain ⟨p, l, e, R, s, m, args, below, meth, c, A, D, nL, Q⟩ := E
  obtain ⟨rfl, rfl, rfl, rfl, hx, hb, hml, hown, hts, hK, hO, hA, hZ⟩ := C
  intro H locs ls hP hD hS hl
  exact lv_lstore hx hb hd hl hn hl' (fun ls' h => K H locs ls' hP hD hS h)
theorem g_dstore {i : Nat} {x : UInt64} {L' : List (Nat × Value)} (C : gC E l R D nL own cc cI cG cJ) (hd : decode cc pc = .ok (.dstore i, 2)) (hn : i + 1 < nL) (hl' : (i, Value.double x) :: L.filter (fun q => !(q.1 == i) && (!(q.1 == i + 1) && !(q.1 + 1 == i && q.2.category == 2))) = L') (K : gW E k n w (pc + 2) L' st) : gW E k n w pc L (.double x :: st) := by
  obtain ⟨p, l, e, R, s, m, args, below, meth, c, A, D, nL, Q⟩ := E
  obtain ⟨rfl, rfl, rfl, rfl, hx, hb, hml, hown, hts, hK, hO, hA, hZ⟩ := C
  intro H locs ls hP hD hS hl
  exact lv_dstore hx hb hd hl hn hl' (fun ls' h => K H locs ls' hP hD hS h)
theorem g_iinc {i : Nat} {d x : Int} {L' : List (Nat × Value)} (C : gC E l R D nL own cc cI cG cJ) (hd : decode cc pc = .ok (.iinc i d, 3)) (j : Nat) (hj : L[j]? = some (i, .int (zI x))) (hn : i < nL) (hl' : (i, Value.int (zI (x + d))) :: L.filter (fun q => !(q.1 == i) && !(q.1 + 1 == i && q.2.category == 2)) = L') (K : gW E k n w (pc + 3) L' st) : gW E k n w pc L st := by
  obtain ⟨p, l, e, R, s, m, args, below, meth, c, A, D, nL, Q⟩ := E
  obtain ⟨rfl, rfl, rfl, rfl, hx, hb, hml, hown, hts, hK, hO, hA, hZ⟩ := C
  intro H locs ls hP hD hS hl
  exact lv_iinc hx hb hd hl hj (zI_add x d) hn hl' (fun ls' h => K H locs ls' hP hD hS h)
theorem g_iadd {x y : Int} (C : gC E l R D nL own cc cI cG cJ) (hd : decode cc pc = .ok (.iadd, 1)) (K : gW E k n w (pc + 1) L (.int (zI (x + y)) :: st)) : gW E k n w pc L (.int (zI y) :: .int (zI x) :: st) := by
  obtain ⟨p, l, e, R, s, m, args, below, meth, c, A, D, nL, Q⟩ := E
  obtain ⟨rfl, rfl, rfl, rfl, hx, hb, hml, hown, hts, hK, hO, hA, hZ⟩ := C
  intro H locs ls hP hD hS hl
  refine lv_iadd hx hb hd ?_
  rw [zI_add]
  exact K H locs ls hP hD hS hl
theorem g_isub {x y : Int} (C : gC E l R D nL own cc cI cG cJ) (hd : decode cc pc = .ok (.isub, 1)) (K : gW E k n w (pc + 1) L (.int (zI (x - y)) :: st)) : gW E k n w pc L (.int (zI y) :: .int (zI x) :: st) := by
  obtain ⟨p, l, e, R, s, m, args, below, meth, c, A, D, nL, Q⟩ := E
  obtain ⟨rfl, rfl, rfl, rfl, hx, hb, hml, hown, hts, hK, hO, hA, hZ⟩ := C
  intro H locs ls hP hD hS hl
  refine lv_isub hx hb hd ?_
  rw [zI_sub]
  exact K H locs ls hP hD hS hl
theorem g_imul {x y : Int} (C : gC E l R D nL own cc cI cG cJ) (hd : decode cc pc = .ok (.imul, 1)) (K : gW E k n w (pc + 1) L (.int (zI (x * y)) :: st)) : gW E k n w pc L (.int (zI y) :: .int (zI x) :: st) := by
  obtain ⟨p, l, e, R, s, m, args, below, meth, c, A, D, nL, Q⟩ := E
  obtain ⟨rfl, rfl, rfl, rfl, hx, hb, hml, hown, hts, hK, hO, hA, hZ⟩ := C
  intro H locs ls hP hD hS hl
  refine lv_imul hx hb hd ?_
  rw [zI_mul]
  exact K H locs ls hP hD hS hl
theorem g_iand {x y : Int32} (C : gC E l R D nL own cc cI cG cJ) (hd : decode cc pc = .ok (.iand, 1)) (K : gW E k n w (pc + 1) L (.int (x &&& y) :: st)) : gW E k n w pc L (.int y :: .int x :: st) := by
  obtain ⟨p, l, e, R, s, m, args, below, meth, c, A, D, nL, Q⟩ := E
  obtain ⟨rfl, rfl, rfl, rfl, hx, hb, hml, hown, hts, hK, hO, hA, hZ⟩ := C
  intro H locs ls hP hD hS hl
  exact lv_iand hx hb hd (K H locs ls hP hD hS hl)
theorem g_ladd {x y : Int64} (C : gC E l R D nL own cc cI cG cJ) (hd : decode cc pc = .ok (.ladd, 1)) (K : gW E k n w (pc + 1) L (.long (x + y) :: st)) : gW E k n w pc L (.long y :: .long x :: st) := by
  obtain ⟨p, l, e, R, s, m, args, below, meth, c, A, D, nL, Q⟩ := E
  obtain ⟨rfl, rfl, rfl, rfl, hx, hb, hml, hown, hts, hK, hO, hA, hZ⟩ := C
  intro H locs ls hP hD hS hl
  exact lv_ladd hx hb hd (K H locs ls hP hD hS hl)
theorem g_lmul {x y : Int64} (C : gC E l R D nL own cc cI cG cJ) (hd : decode cc pc = .ok (.lmul, 1)) (K : gW E k n w (pc + 1) L (.long (x * y) :: st)) : gW E k n w pc L (.long y :: .long x :: st) := by
  obtain ⟨p, l, e, R, s, m, args, below, meth, c, A, D, nL, Q⟩ := E
  obtain ⟨rfl, rfl, rfl, rfl, hx, hb, hml, hown, hts, hK, hO, hA, hZ⟩ := C
  intro H locs ls hP hD hS hl
  exact lv_lmul hx hb hd (K H locs ls hP hD hS hl)
theorem g_i2l {x : Int32} (C : gC E l R D nL own cc cI cG cJ) (hd : decode cc pc = .ok (.i2l, 1)) (K : gW E k n w (pc + 1) L (.long x.toInt64 :: st)) : gW E k n w pc L (.int x :: st) := by
  obtain ⟨p, l, e, R, s, m, args, below, meth, c, A, D, nL, Q⟩ := E
  obtain ⟨rfl, rfl, rfl, rfl, hx, hb, hml, hown, hts, hK, hO, hA, hZ⟩ := C
  intro H locs ls hP hD hS hl
  exact lv_i2l hx hb hd rfl (K H locs ls hP hD hS hl)
theorem g_i2d {x : Int32} (C : gC E l R D nL own cc cI cG cJ) (hd : decode cc pc = .ok (.i2d, 1)) (K : gW E k n w (pc + 1) L (.double (FP.i2d x) :: st)) : gW E k n w pc L (.int x :: st) := by
  obtain ⟨p, l, e, R, s, m, args, below, meth, c, A, D, nL, Q⟩ := E
  obtain ⟨rfl, rfl, rfl, rfl, hx, hb, hml, hown, hts, hK, hO, hA, hZ⟩ := C
  intro H locs ls hP hD hS hl
  exact lv_i2d hx hb hd (K H locs ls hP hD hS hl)
theorem g_dconst0 (C : gC E l R D nL own cc cI cG cJ) (hd : decode cc pc = .ok (.dconst 0, 1)) (K : gW E k n w (pc + 1) L (.double FP.dconst0 :: st)) : gW E k n w pc L st := by
  obtain ⟨p, l, e, R, s, m, args, below, meth, c, A, D, nL, Q⟩ := E
  obtain ⟨rfl, rfl, rfl, rfl, hx, hb, hml, hown, hts, hK, hO, hA, hZ⟩ := C
  intro H locs ls hP hD hS hl
  exact lv_dconst0 hx hb hd (K H locs ls hP hD hS hl)
theorem g_ddiv {x y : UInt64} (C : gC E l R D nL own cc cI cG cJ) (hd : decode cc pc = .ok (.ddiv, 1)) (hn : vf_n64 (FP.ddiv x y)) (K : gW E k n w (pc + 1) L (.double (FP.ddiv x y) :: st)) : gW E k n w pc L (.double y :: .double x :: st) := by
  obtain ⟨p, l, e, R, s, m, args, below, meth, c, A, D, nL, Q⟩ := E
  obtain ⟨rfl, rfl, rfl, rfl, hx, hb, hml, hown, hts, hK, hO, hA, hZ⟩ := C
  intro H locs ls hP hD hS hl
  exact lv_ddiv hx hb hd hn (K H locs ls hP hD hS hl)
theorem g_dcmp {x y : UInt64} {op : CmpOp} (C : gC E l R D nL own cc cI cG cJ) (hd : decode cc pc = .ok (.dcmp op, 1)) (K : gW E k n w (pc + 1) L (.int (Op.cmpValue (FP.dcmp x y) op) :: st)) : gW E k n w pc L (.double y :: .double x :: st) := by
  obtain ⟨p, l, e, R, s, m, args, below, meth, c, A, D, nL, Q⟩ := E
  obtain ⟨rfl, rfl, rfl, rfl, hx, hb, hml, hown, hts, hK, hO, hA, hZ⟩ := C
  intro H locs ls hP hD hS hl
  exact lv_dcmp hx hb hd (K H locs ls hP hD hS hl)
theorem g_dup {v : Value} (C : gC E l R D nL own cc cI cG cJ) (hd : decode cc pc = .ok (.dup, 1)) (hv : v.category = 1) (K : gW E k n w (pc + 1) L (v :: v :: st)) : gW E k n w pc L (v :: st) := by
  obtain ⟨p, l, e, R, s, m, args, below, meth, c, A, D, nL, Q⟩ := E
  obtain ⟨rfl, rfl, rfl, rfl, hx, hb, hml, hown, hts, hK, hO, hA, hZ⟩ := C
  intro H locs ls hP hD hS hl
  exact lv_dup hx hb hd hv (K H locs ls hP hD hS hl)
theorem g_pop {v : Value} (C : gC E l R D nL own cc cI cG cJ) (hd : decode cc pc = .ok (.pop, 1)) (hv : v.category = 1) (K : gW E k n w (pc + 1) L st) : gW E k n w pc L (v :: st) := by
  obtain ⟨p, l, e, R, s, m, args, below, meth, c, A, D, nL, Q⟩ := E
  obtain ⟨rfl, rfl, rfl, rfl, hx, hb, hml, hown, hts, hK, hO, hA, hZ⟩ := C
  intro H locs ls hP hD hS hl
  exact lv_pop hx hb hd hv (K H locs ls hP hD hS hl)
theorem g_dup_x1 {v u : Value} (C : gC E l R D nL own cc cI cG cJ) (hd : decode cc pc = .ok (.dup_x1, 1)) (hv : v.category = 1) (hu : u.category = 1) (K : gW E k n w (pc + 1) L (v :: u :: v :: st)) : gW E k n w pc L (v :: u :: st) := by
  obtain ⟨p, l, e, R, s, m, args, below, meth, c, A, D, nL, Q⟩ := E
  obtain ⟨rfl, rfl, rfl, rfl, hx, hb, hml, hown, hts, hK, hO, hA, hZ⟩ := C
  intro H locs ls hP hD hS hl
  exact lv_dup_x1 hx hb hd hv hu (K H locs ls hP hD hS hl)
theorem g_dup2 {v u : Value} (C : gC E l R D nL own cc cI cG cJ) (hd : decode cc pc = .ok (.dup2, 1)) (hv : v.category = 1) (hu : u.category = 1) (K : gW E k n w (pc + 1) L (v :: u :: v :: u :: st)) : gW E k n w pc L (v :: u :: st) := by
  obtain ⟨p, l, e, R, s, m, args, below, meth, c, A, D, nL, Q⟩ := E
  obtain ⟨rfl, rfl, rfl, rfl, hx, hb, hml, hown, hts, hK, hO, hA, hZ⟩ := C
  intro H locs ls hP hD hS hl
  exact lv_dup2_11 hx hb hd hv hu (K H locs ls hP hD hS hl)
theorem g_goto {off : Int} (tgt : Nat) (C : gC E l R D nL own cc cI cG cJ) (hd : decode cc pc = .ok (.goto off, 3)) (ht : (pc : Int) + off = (tgt : Int)) (K : gW E k n w tgt L st) : gW E k n w pc L st := by
  obtain ⟨p, l, e, R, s, m, args, below, meth, c, A, D, nL, Q⟩ := E
  obtain ⟨rfl, rfl, rfl, rfl, hx, hb, hml, hown, hts, hK, hO, hA, hZ⟩ := C
  intro H locs ls hP hD hS hl
  exact lv_goto hx hb hd ht (K H locs ls hP hD hS hl)
theorem g_icmp_eq {off a b : Int} (tgt : Nat) (C : gC E l R D nL own cc cI cG cJ) (hd : decode cc pc = .ok (.if_icmp .eq off, 3)) (ht : (pc : Int) + off = (tgt : Int)) (ha : zr a) (hb : zr b) (kt : a = b → gW E k n w tgt L st) (kf : ¬ a = b → gW E k n w (pc + 3) L st) : gW E k n w pc L (.int (zI b) :: .int (zI a) :: st) := by
  obtain ⟨p, l, e, R, s, m, args, below, meth, c, A, D, nL, Q⟩ := E
  obtain ⟨rfl, rfl, rfl, rfl, hx, hcc, hml, hown, hts, hK, hO, hA, hZ⟩ := C
  intro H locs ls hP hD hS hl
  exact lv_icmp_eq hx hcc hd ht (fun c9 => kt ((zI_eq ha hb).mp c9) H locs ls hP hD hS hl) (fun c9 => kf (fun q => c9 ((zI_eq ha hb).mpr q)) H locs ls hP hD hS hl)
theorem g_if_eq {off a : Int} (tgt : Nat) (C : gC E l R D nL own cc cI cG cJ) (hd : decode cc pc = .ok (.ifCond .eq off, 3)) (ht : (pc : Int) + off = (tgt : Int)) (ha : zr a) (kt : a = 0 → gW E k n w tgt L st) (kf : ¬ a = 0 → gW E k n w (pc + 3) L st) : gW E k n w pc L (.int (zI a) :: st) := by
  obtain ⟨p, l, e, R, s, m, args, below, meth, c, A, D, nL, Q⟩ := E
  obtain ⟨rfl, rfl, rfl, rfl, hx, hcc, hml, hown, hts, hK, hO, hA, hZ⟩ := C
  intro H locs ls hP hD hS hl
  exact lv_if_eq hx hcc hd ht (fun c9 => kt ((zI_eq ha zr0).mp c9) H locs ls hP hD hS hl) (fun c9 => kf (fun q => c9 ((zI_eq ha zr0).mpr q)) H locs ls hP hD hS hl)
theorem g_icmp_ne {off a b : Int} (tgt : Nat) (C : gC E l R D nL own cc cI cG cJ) (hd : decode cc pc = .ok (.if_icmp .ne off, 3)) (ht : (pc : Int) + off = (tgt : Int)) (ha : zr a) (hb : zr b) (kt : ¬ a = b → gW E k n w tgt L st) (kf : a = b → gW E k n w (pc + 3) L st) : gW E k n w pc L (.int (zI b) :: .int (zI a) :: st) := by
  obtain ⟨p, l, e, R, s, m, args, below, meth, c, A, D, nL, Q⟩ := E
  obtain ⟨rfl, rfl, rfl, rfl, hx, hcc, hml, hown, hts, hK, hO, hA, hZ⟩ := C
  intro H locs ls hP hD hS hl
  exact lv_icmp_ne hx hcc hd ht (fun c9 => kt (fun q => c9 ((zI_eq ha hb).mpr q)) H locs ls hP hD hS hl) (fun c9 => kf ((zI_eq ha hb).mp c9) H locs ls hP hD hS hl)
theorem g_if_ne {off a : Int} (tgt : Nat) (C : gC E l R D nL own cc cI cG cJ) (hd : decode cc pc = .ok (.ifCond .ne off, 3)) (ht : (pc : Int) + off = (tgt : Int)) (ha : zr a) (kt : ¬ a = 0 → gW E k n w tgt L st) (kf : a = 0 → gW E k n w (pc + 3) L st) : gW E k n w pc L (.int (zI a) :: st) := by
  obtain ⟨p, l, e, R, s, m, args, below, meth, c, A, D, nL, Q⟩ := E
  obtain ⟨rfl, rfl, rfl, rfl, hx, hcc, hml, hown, hts, hK, hO, hA, hZ⟩ := C
  intro H locs ls hP hD hS hl
  exact lv_if_ne hx hcc hd ht (fun c9 => kt (fun q => c9 ((zI_eq ha zr0).mpr q)) H locs ls hP hD hS hl) (fun c9 => kf ((zI_eq ha zr0).mp c9) H locs ls hP hD hS hl)
theorem g_icmp_lt {off a b : Int} (tgt : Nat) (C : gC E l R D nL own cc cI cG cJ) (hd : decode cc pc = .ok (.if_icmp .lt off, 3)) (ht : (pc : Int) + off = (tgt : Int)) (ha : zr a) (hb : zr b) (kt : a < b → gW E k n w tgt L st) (kf : ¬ a < b → gW E k n w (pc + 3) L st) : gW E k n w pc L (.int (zI b) :: .int (zI a) :: st) := by
  obtain ⟨p, l, e, R, s, m, args, below, meth, c, A, D, nL, Q⟩ := E
  obtain ⟨rfl, rfl, rfl, rfl, hx, hcc, hml, hown, hts, hK, hO, hA, hZ⟩ := C
  intro H locs ls hP hD hS hl
  exact lv_icmp_lt hx hcc hd ht (fun c9 => kt ((zI_lt ha hb).mp c9) H locs ls hP hD hS hl) (fun c9 => kf (fun q => c9 ((zI_lt ha hb).mpr q)) H locs ls hP hD hS hl)
theorem g_if_lt {off a : Int} (tgt : Nat) (C : gC E l R D nL own cc cI cG cJ) (hd : decode cc pc = .ok (.ifCond .lt off, 3)) (ht : (pc : Int) + off = (tgt : Int)) (ha : zr a) (kt : a < 0 → gW E k n w tgt L st) (kf : ¬ a < 0 → gW E k n w (pc + 3) L st) : gW E k n w pc L (.int (zI a) :: st) := by
  obtain ⟨p, l, e, R, s, m, args, below, meth, c, A, D, nL, Q⟩ := E
  obtain ⟨rfl, rfl, rfl, rfl, hx, hcc, hml, hown, hts, hK, hO, hA, hZ⟩ := C
  intro H locs ls hP hD hS hl
  exact lv_if_lt hx hcc hd ht (fun c9 => kt ((zI_lt ha zr0).mp c9) H locs ls hP hD hS hl) (fun c9 => kf (fun q => c9 ((zI_lt ha zr0).mpr q)) H locs ls hP hD hS hl)
theorem g_icmp_ge {off a b : Int} (tgt : Nat) (C : gC E l R D nL own cc cI cG cJ) (hd : decode cc pc = .ok (.if_icmp .ge off, 3)) (ht : (pc : Int) + off = (tgt : Int)) (ha : zr a) (hb : zr b) (kt : b ≤ a → gW E k n w tgt L st) (kf : ¬ b ≤ a → gW E k n w (pc + 3) L st) : gW E k n w pc L (.int (zI b) :: .int (zI a) :: st) := by
  obtain ⟨p, l, e, R, s, m, args, below, meth, c, A, D, nL, Q⟩ := E
  obtain ⟨rfl, rfl, rfl, rfl, hx, hcc, hml, hown, hts, hK, hO, hA, hZ⟩ := C
  intro H locs ls hP hD hS hl
  exact lv_icmp_ge hx hcc hd ht (fun c9 => kt ((zI_le hb ha).mp c9) H locs ls hP hD hS hl) (fun c9 => kf (fun q => c9 ((zI_le hb ha).mpr q)) H locs ls hP hD hS hl)
theorem g_if_ge {off a : Int} (tgt : Nat) (C : gC E l R D nL own cc cI cG cJ) (hd : decode cc pc = .ok (.ifCond .ge off, 3)) (ht : (pc : Int) + off = (tgt : Int)) (ha : zr a) (kt : 0 ≤ a → gW E k n w tgt L st) (kf : ¬ 0 ≤ a → gW E k n w (pc + 3) L st) : gW E k n w pc L (.int (zI a) :: st) := by
  obtain ⟨p, l, e, R, s, m, args, below, meth, c, A, D, nL, Q⟩ := E
  obtain ⟨rfl, rfl, rfl, rfl, hx, hcc, hml, hown, hts, hK, hO, hA, hZ⟩ := C
  intro H locs ls hP hD hS hl
  exact lv_if_ge hx hcc hd ht (fun c9 => kt ((zI_le zr0 ha).mp c9) H locs ls hP hD hS hl) (fun c9 => kf (fun q => c9 ((zI_le zr0 ha).mpr q)) H locs ls hP hD hS hl)
theorem g_icmp_gt {off a b : Int} (tgt : Nat) (C : gC E l R D nL own cc cI cG cJ) (hd : decode cc pc = .ok (.if_icmp .gt off, 3)) (ht : (pc : Int) + off = (tgt : Int)) (ha : zr a) (hb : zr b) (kt : b < a → gW E k n w tgt L st) (kf : ¬ b < a → gW E k n w (pc + 3) L st) : gW E k n w pc L (.int (zI b) :: .int (zI a) :: st) := by
  obtain ⟨p, l, e, R, s, m, args, below, meth, c, A, D, nL, Q⟩ := E
  obtain ⟨rfl, rfl, rfl, rfl, hx, hcc, hml, hown, hts, hK, hO, hA, hZ⟩ := C
  intro H locs ls hP hD hS hl
  exact lv_icmp_gt hx hcc hd ht (fun c9 => kt ((zI_lt hb ha).mp c9) H locs ls hP hD hS hl) (fun c9 => kf (fun q => c9 ((zI_lt hb ha).mpr q)) H locs ls hP hD hS hl)
theorem g_if_gt {off a : Int} (tgt : Nat) (C : gC E l R D nL own cc cI cG cJ) (hd : decode cc pc = .ok (.ifCond .gt off, 3)) (ht : (pc : Int) + off = (tgt : Int)) (ha : zr a) (kt : 0 < a → gW E k n w tgt L st) (kf : ¬ 0 < a → gW E k n w (pc + 3) L st) : gW E k n w pc L (.int (zI a) :: st) := by
  obtain ⟨p, l, e, R, s, m, args, below, meth, c, A, D, nL, Q⟩ := E
  obtain ⟨rfl, rfl, rfl, rfl, hx, hcc, hml, hown, hts, hK, hO, hA, hZ⟩ := C
  intro H locs ls hP hD hS hl
  exact lv_if_gt hx hcc hd ht (fun c9 => kt ((zI_lt zr0 ha).mp c9) H locs ls hP hD hS hl) (fun c9 => kf (fun q => c9 ((zI_lt zr0 ha).mpr q)) H locs ls hP hD hS hl)
theorem g_icmp_le {off a b : Int} (tgt : Nat) (C : gC E l R D nL own cc cI cG cJ) (hd : decode cc pc = .ok (.if_icmp .le off, 3)) (ht : (pc : Int) + off = (tgt : Int)) (ha : zr a) (hb : zr b) (kt : a ≤ b → gW E k n w tgt L st) (kf : ¬ a ≤ b → gW E k n w (pc + 3) L st) : gW E k n w pc L (.int (zI b) :: .int (zI a) :: st) := by
  obtain ⟨p, l, e, R, s, m, args, below, meth, c, A, D, nL, Q⟩ := E
  obtain ⟨rfl, rfl, rfl, rfl, hx, hcc, hml, hown, hts, hK, hO, hA, hZ⟩ := C
  intro H locs ls hP hD hS hl
  exact lv_icmp_le hx hcc hd ht (fun c9 => kt ((zI_le ha hb).mp c9) H locs ls hP hD hS hl) (fun c9 => kf (fun q => c9 ((zI_le ha hb).mpr q)) H locs ls hP hD hS hl)
theorem g_if_le {off a : Int} (tgt : Nat) (C : gC E l R D nL own cc cI cG cJ) (hd : decode cc pc = .ok (.ifCond .le off, 3)) (ht : (pc : Int) + off = (tgt : Int)) (ha : zr a) (kt : a ≤ 0 → gW E k n w tgt L st) (kf : ¬ a ≤ 0 → gW E k n w (pc + 3) L st) : gW E k n w pc L (.int (zI a) :: st) := by
  obtain ⟨p, l, e, R, s, m, args, below, meth, c, A, D, nL, Q⟩ := E
  obtain ⟨rfl, rfl, rfl, rfl, hx, hcc, hml, hown, hts, hK, hO, hA, hZ⟩ := C
  intro H locs ls hP hD hS hl
  exact lv_if_le hx hcc hd ht (fun c9 => kt ((zI_le ha zr0).mp c9) H locs ls hP hD hS hl) (fun c9 => kf (fun q => c9 ((zI_le ha zr0).mpr q)) H locs ls hP hD hS hl)
theorem g_lcmp {x y : Int64} (C : gC E l R D nL own cc cI cG cJ) (hd : decode cc pc = .ok (.lcmp, 1)) (K : gW E k n w (pc + 1) L (.int (lg_cmp x y) :: st)) : gW E k n w pc L (.long y :: .long x :: st) := by
  obtain ⟨p, l, e, R, s, m, args, below, meth, c, A, D, nL, Q⟩ := E
  obtain ⟨rfl, rfl, rfl, rfl, hx, hb, hml, hown, hts, hK, hO, hA, hZ⟩ := C
  intro H locs ls hP hD hS hl
  exact W.lcmp hx hb hd (K H locs ls hP hD hS hl)
theorem g_ldc2 {ix : Nat} {v : Int64} (C : gC E l R D nL own cc cI cG cJ) (f : Cond.constantLong own ix v ∈ LW) (hd : decode cc pc = .ok (.ldc2_w ix, 3)) (K : gW E k n w (pc + 3) L (.long v :: st)) : gW E k n w pc L st := by
  obtain ⟨p, l, e, R, s, m, args, below, meth, c, A, D, nL, Q⟩ := E
  obtain ⟨rfl, rfl, rfl, rfl, hx, hb, hml, hown, hts, hK, hO, hA, hZ⟩ := C
  intro H locs ls hP hD hS hl
  exact lv_ldc2 hx hb hown (hts _ f) hd (K H locs ls hP hD hS hl)
/-- getfield; f: the words of the field -/
def gF (own : String) (ix ci kf : Nat) (Cn : String) (T : u_T) (N : Nat) : Prop := (Cond.fieldLink own ix (T kf).1 (T kf).2.1 (T kf).2.2.1 ∈ LW) ∧ vwCl[ci]? = some (Cn, T, N) ∧ kf < N ∧ ∀ w ∈ u_ws Cn T N, w ∈ LW
theorem g_getf {ix ci kf : Nat} {Cn : String} {T : u_T} {N a : Nat} {fs : List Value} {v : Value} (C : gC E l R D nL own cc cI cG cJ) (f : gF own ix ci kf Cn T N) (q0 : Nat) (he : w[q0]? = some (a, .inr (ci, fs))) (hv : fs[kf]? = some v) (hd : decode cc pc = .ok (.getfield ix, 3)) (K : gW E k n w (pc + 3) L (v :: st)) : gW E k n w pc L (.ref a :: st) := by
  obtain ⟨p, l, e, R, s, m, args, below, meth, c, A, D, nL, Q⟩ := E
  obtain ⟨rfl, rfl, rfl, rfl, hx, hb, hml, hown, hts, hK, hO, hA, hZ⟩ := C
  obtain ⟨f1, f2, f3, f4⟩ := f
  intro H locs ls hP hD hS hl
  exact va_get (D := D) (ci := ci) hx hb hts f4 hown hK hP q0 he f2 kf f3 (hts _ f1) (fun _ h9 => h9) hv hd (K H locs ls hP hD hS hl)
/-- putfield -/
def gP (own : String) (ix ci kf : Nat) (Cn : String) (T : u_T) (N : Nat) (ty : FieldType) (fin : Bool) : Prop := gF own ix ci kf Cn T N ∧ (∃ ty0 : Nat → FieldType, (∀ j, j < N → parseFieldDescriptor (T j).2.2.1 = some (ty0 j)) ∧ ∀ a, a < N → ∀ b, b < N → a ≠ b → (T a).2.1 ≠ (T b).2.1) ∧ (T kf).2.2.2 = fin ∧ parseFieldDescriptor (T kf).2.2.1 = some ty ∧ (T kf).1 = own
theorem g_putf {ix ci kf : Nat} {Cn : String} {T : u_T} {N a : Nat} {fs : List Value} {v : Value} {ty : FieldType} {w' : va_W} (C : gC E l R D nL own cc cI cG cJ) (f : gP own ix ci kf Cn T N ty false) (q0 : Nat) (he : w[q0]? = some (a, .inr (ci, fs))) (hn : narrow ty v = v) (hfit : fits ty v = true) (hk : kf < fs.length) (hw : w.set q0 (a, .inr (ci, fs.set kf v)) = w') (hd : decode cc pc = .ok (.putfield ix, 3)) (K : gW E k n w' (pc + 3) L st) : gW E k n w pc L (v :: .ref a :: st) := by
  obtain ⟨p, l, e, R, s, m, args, below, meth, c, A, D, nL, Q⟩ := E
  obtain ⟨rfl, rfl, rfl, rfl, hx, hb, hml, hown, hts, hK, hO, hA, hZ⟩ := C
  obtain ⟨⟨f1, f2, f3, f4⟩, ⟨ty0, g1, g2⟩, g3, g4, -⟩ := f
  subst hw
  intro H locs ls hP hD hS hl
  exact va_put (D := D) (ci := ci) hx hb hts f4 ty0 g1 g2 hown hK hP hD hS q0 he f2 kf f3 (hts _ f1) (fun _ h9 => h9) g3 g4 hn hfit hk hd (fun H1 locs1 hP1 hD1 hS1 => K H1 locs1 ls hP1 hD1 hS1 hl)
theorem g_iald {a N : Nat} {f : Nat → Int} {i v : Int} (C : gC E l R D nL own cc cI cG cJ) (q0 : Nat) (ha : w[q0]? = some (a, .inl (cI, N, .inl (zA f)))) (hN : N ≤ 2000) (h0 : 0 ≤ i) (h1 : i < N) (hv : f i.toNat = v) (hd : decode cc pc = .ok (.iaload, 1)) (K : gW E k n w (pc + 1) L (.int (zI v) :: st)) : gW E k n w pc L (.int (zI i) :: .ref a :: st) := by
  obtain ⟨p, l, e, R, s, m, args, below, meth, c, A, D, nL, Q⟩ := E
  obtain ⟨rfl, rfl, rfl, rfl, hx, hb, hml, hown, hts, hK, hO, hA, hZ⟩ := C
  intro H locs ls hP hD hS hl
  refine va_iald hx hb hK hP q0 0 ha rfl (zI_in h0 h1 hN) hd ?_
  subst hv
  rw [zI_cl h0 h1 hN]
  exact K H locs ls hP hD hS hl
theorem g_iast {a N : Nat} {f : Nat → Int} {i x : Int} {w' : va_W} (C : gC E l R D nL own cc cI cG cJ) (q0 : Nat) (ha : w[q0]? = some (a, .inl (cI, N, .inl (zA f)))) (hN : N ≤ 2000) (h0 : 0 ≤ i) (h1 : i < N) (hw : w.set q0 (a, .inl (cI, N, .inl (zA (zU f i.toNat x)))) = w') (hd : decode cc pc = .ok (.iastore, 1)) (K : gW E k n w' (pc + 1) L st) : gW E k n w pc L (.int (zI x) :: .int (zI i) :: .ref a :: st) := by
  obtain ⟨p, l, e, R, s, m, args, below, meth, c, A, D, nL, Q⟩ := E
  obtain ⟨rfl, rfl, rfl, rfl, hx, hb, hml, hown, hts, hK, hO, hA, hZ⟩ := C
  subst hw
  intro H locs ls hP hD hS hl
  refine va_iast hx hb hK hP hD hS q0 0 ha rfl (zI_in h0 h1 hN) hd (fun H1 locs1 hP1 hD1 hS1 => ?_)
  rw [zI_cl h0 h1 hN, zA_upd] at hP1 hD1
  exact K H1 locs1 ls hP1 hD1 hS1 hl
theorem g_lald {a N : Nat} {f : Nat → Int64} {i : Int} (C : gC E l R D nL own cc cI cG cJ) (q0 : Nat) (ha : w[q0]? = some (a, .inl (cJ, N, .inr (.inl f)))) (hN : N ≤ 2000) (h0 : 0 ≤ i) (h1 : i < N) (hd : decode cc pc = .ok (.laload, 1)) (K : gW E k n w (pc + 1) L (.long (f i.toNat) :: st)) : gW E k n w pc L (.int (zI i) :: .ref a :: st) := by
  obtain ⟨p, l, e, R, s, m, args, below, meth, c, A, D, nL, Q⟩ := E
  obtain ⟨rfl, rfl, rfl, rfl, hx, hb, hml, hown, hts, hK, hO, hA, hZ⟩ := C
  intro H locs ls hP hD hS hl
  refine va_lald hx hb hK hP q0 2 ha rfl (zI_in h0 h1 hN) hd ?_
  rw [zI_cl h0 h1 hN]
  exact K H locs ls hP hD hS hl
theorem g_last {a N : Nat} {f : Nat → Int64} {i : Int} {x : Int64} {w' : va_W} (C : gC E l R D nL own cc cI cG cJ) (q0 : Nat) (ha : w[q0]? = some (a, .inl (cJ, N, .inr (.inl f)))) (hN : N ≤ 2000) (h0 : 0 ≤ i) (h1 : i < N) (hw : w.set q0 (a, .inl (cJ, N, .inr (.inl (vp_updL f i.toNat x)))) = w') (hd : decode cc pc = .ok (.lastore, 1)) (K : gW E k n w' (pc + 1) L st) : gW E k n w pc L (.long x :: .int (zI i) :: .ref a :: st) := by
  obtain ⟨p, l, e, R, s, m, args, below, meth, c, A, D, nL, Q⟩ := E
  obtain ⟨rfl, rfl, rfl, rfl, hx, hb, hml, hown, hts, hK, hO, hA, hZ⟩ := C
  subst hw
  intro H locs ls hP hD hS hl
  refine va_last hx hb hK hP hD hS q0 2 ha rfl (zI_in h0 h1 hN) hd (fun H1 locs1 hP1 hD1 hS1 => ?_)
  rw [zI_cl h0 h1 hN] at hP1 hD1
  exact K H1 locs1 ls hP1 hD1 hS1 hl
/-- a row of an array of arrays -/
theorem g_aald {a N y : Nat} {f : Nat → Option Nat} {i : Int} (C : gC E l R D nL own cc cI cG cJ) (q0 : Nat) (ha : w[q0]? = some (a, .inl (cG, N, .inr (.inr (.inr (.inr f)))))) (hN : N ≤ 2000) (h0 : 0 ≤ i) (h1 : i < N) (hf : f i.toNat = some y) (hd : decode cc pc = .ok (.aaload, 1)) (K : gW E k n w (pc + 1) L (.ref y :: st)) : gW E k n w pc L (.int (zI i) :: .ref a :: st) := by
  obtain ⟨p, l, e, R, s, m, args, below, meth, c, A, D, nL, Q⟩ := E
  obtain ⟨rfl, rfl, rfl, rfl, hx, hb, hml, hown, hts, hK, hO, hA, hZ⟩ := C
  intro H locs ls hP hD hS hl
  have hin := zI_in h0 h1 hN
  have hlt : (zI i).toNatClampNeg < N := Nat.not_le.mp fun q => hin (Or.inr q)
  refine W.aald (v := va_rf (f (zI i).toNatClampNeg)) (ty := .array .int) hx hb (hP q0 _ ha) ((hK.2 1 _ rfl).1 N (fun j => va_rf (f j))) rfl (fun q => by cases q) (by show ¬ (zI i < 0 ∨ (arrV _ _ _).slots.size ≤ _); rw [arrV_size]; exact hin) (by show (arrV _ _ _).slots[_]? = _; rw [arrV_read _ _ hlt]) rfl rfl hd ?_
  rw [zI_cl h0 h1 hN, hf]
  exact K H locs ls hP hD hS hl
theorem g_alen {a N : Nat} {x : vp_A} (C : gC E l R D nL own cc cI cG cJ) (q0 : Nat) (ha : w[q0]? = some (a, .inl (cI, x))) (hN : x.1 = N) (hd : decode cc pc = .ok (.arraylength, 1)) (K : gW E k n w (pc + 1) L (.int (zI N) :: st)) : gW E k n w pc L (.ref a :: st) := by
  obtain ⟨p, l, e, R, s, m, args, below, meth, c, A, D, nL, Q⟩ := E
  obtain ⟨rfl, rfl, rfl, rfl, hx, hb, hml, hown, hts, hK, hO, hA, hZ⟩ := C
  intro H locs ls hP hD hS hl
  exact va_alen hx hb hK hP q0 0 ha rfl (by rw [hN]; exact Int32.ofInt_eq_ofNat.symm) hd (K H locs ls hP hD hS hl)
end GK1
end
section
/-! GC: contracts over worlds, and their calls -/
def gPre (D : va_G) (cI cG cJ : ClassId) (w : va_W) (sz : Nat) (as : List Value) : Array Value → State → Prop := va_Pc as (fun U => U.heap.size = sz ∧ va_P D vwCl w U.heap ∧ va_K D vwCl (T3 cI cG cJ) U ∧ va_AOA .int U ∧ va_D (fun _ => True) w ∧ gZ (va_A w sz) U)
def gPost (D : va_G) (w : va_W) (sz : Nat) (Post : Option Value → va_W → Prop) : Array Value → State → Outcome → State → Prop := fun _ st oc t => (∃ (v : Option Value) (w' : va_W), oc = .returned v ∧ Post v w' ∧ va_P D vwCl w' t.heap ∧ va_D (va_A w sz) w') ∧ va_F (va_A w sz) st t
def gXC (D : va_G) (w : va_W) (sz : Nat) (QX : String → va_W → Prop) : String → State → State → Prop := vx_X (fun _ : va_W => True) (fun E' w' t => QX E' w' ∧ va_P D vwCl w' t.heap ∧ va_D (va_A w sz) w') (va_A w sz)
abbrev gWs (y : MethodName) (b : ByteArray) (nL : Nat) (ret : Option FieldType) : List Cond := .code y b nL ret :: LW
def gMet (l : Launch) (y : MethodName) (b : ByteArray) (nL : Nat) (ret : Option FieldType) (rm : Room) (D : va_G) (cI cG cJ : ClassId) (as : List Value) (w : va_W) (Post : Option Value → va_W → Prop) : Prop := ∀ sz : Nat, Met l y (gWs y b nL ret) rm (gPre D cI cG cJ w sz as) (gPost D w sz Post) rm.cells rm.slots (va_A w sz)
def gMex (l : Launch) (y : MethodName) (b : ByteArray) (nL : Nat) (ret : Option FieldType) (rm : Room) (D : va_G) (cI cG cJ : ClassId) (as : List Value) (w : va_W) (Post : Option Value → va_W → Prop) (QX : String → va_W → Prop) : Prop := ∀ sz : Nat, vx_Met l y (gWs y b nL ret) rm (gPre D cI cG cJ w sz as) (gPost D w sz Post) (gXC D w sz QX) rm.cells rm.slots (va_A w sz)
/-- what comes back: a number, nothing, a long, a double -/
def gI (P : Int → va_W → Prop) : Option Value → va_W → Prop := fun v w => ∃ z : Int, v = some (.int (zI z)) ∧ P z w
def gN (P : va_W → Prop) : Option Value → va_W → Prop := fun v w => v = none ∧ P w
def gJ (P : Int64 → va_W → Prop) : Option Value → va_W → Prop := fun v w => ∃ z : Int64, v = some (.long z) ∧ P z w
def gB (P : UInt64 → va_W → Prop) : Option Value → va_W → Prop := fun v w => ∃ z : UInt64, v = some (.double z) ∧ P z w
/-- how a walk ends -/
def gRI (E : gEnv) (cc : ByteArray) (rm : Room) (P : Int → va_W → Prop) : Prop := ∀ (k n : Nat) (w : va_W) (pc : Nat) (L : List (Nat × Value)) (x : Int), k ≤ rm.cells → n ≤ rm.slots → decode cc pc = .ok (.ireturn, 1) → P x w → gW E k n w pc L [.int (zI x)]
def gRZ (E : gEnv) (cc : ByteArray) (rm : Room) (P : Int → va_W → Prop) : Prop := ∀ (k n : Nat) (w : va_W) (pc : Nat) (L : List (Nat × Value)) (x : Int), k ≤ rm.cells → n ≤ rm.slots → decode cc pc = .ok (.ireturn, 1) → (x = 0 ∨ x = 1) → P x w → gW E k n w pc L [.int (zI x)]
def gRJ (E : gEnv) (cc : ByteArray) (rm : Room) (P : Int64 → va_W → Prop) : Prop := ∀ (k n : Nat) (w : va_W) (pc : Nat) (L : List (Nat × Value)) (x : Int64), k ≤ rm.cells → n ≤ rm.slots → decode cc pc = .ok (.lreturn, 1) → P x w → gW E k n w pc L [.long x]
def gRB (E : gEnv) (cc : ByteArray) (rm : Room) (P : UInt64 → va_W → Prop) : Prop := ∀ (k n : Nat) (w : va_W) (pc : Nat) (L : List (Nat × Value)) (x : UInt64), k ≤ rm.cells → n ≤ rm.slots → decode cc pc = .ok (.dreturn, 1) → P x w → gW E k n w pc L [.double x]
def gRN (E : gEnv) (cc : ByteArray) (rm : Room) (P : va_W → Prop) : Prop := ∀ (k n : Nat) (w : va_W) (pc : Nat) (L : List (Nat × Value)), k ≤ rm.cells → n ≤ rm.slots → decode cc pc = .ok (.return_, 1) → P w → gW E k n w pc L []
/-- an exception that goes on to the caller -/
def gRX (E : gEnv) (rm : Room) (QX : String → va_W → Prop) : Prop := ∀ (k n : Nat) (w : va_W) (pc : Nat) (L : List (Nat × Value)) (nm : String), k ≤ rm.cells → n ≤ rm.slots → QX nm w → gWx E k n w pc L nm
/-- the words of a throw -/
def gTh (own : String) (ik ic : Nat) (nm : String) (names : List String) : Prop := Bundle.fit nm = true ∧ (∀ n ∈ names, Bundle.fit n = true) ∧ Cond.classLink own ik nm ∈ LW ∧ Cond.initialized nm ∈ LW ∧ (∀ w ∈ vx_at0 own ic nm names, w ∈ LW ∨ w ∈ NG) ∧ ∀ w ∈ Cond.classLink own ik nm :: Cond.initialized nm :: vx_at0 own ic nm names, vx_ot w = true
/-- throw new .. -/
def gRT (E : gEnv) (own : String) (cc : ByteArray) (rm : Room) (QX : String → va_W → Prop) : Prop := ∀ (k n : Nat) (w : va_W) (pc : Nat) (L : List (Nat × Value)) (st : List Value) (ik ic : Nat) (nm : String) (names : List String), gTh own ik ic nm names → k + 1 ≤ rm.cells → n + 6 ≤ rm.slots → names.length + 3 < rm.frames → (st.map fun v => v.category).sum + (13 * (names.length + 1) + 42) ≤ rm.locals → QX nm w →
  decode cc pc = .ok (.new ik, 3) → decode cc (pc + 3) = .ok (.dup, 1) → decode cc (pc + 4) = .ok (.invokespecial ic, 3) → decode cc (pc + 7) = .ok (.athrow, 1) → gW E k n w pc L st
theorem gPre_blind {D : va_G} {cI cG cJ : ClassId} {w : va_W} {sz : Nat} {as : List Value} : FrameBlind (gPre D cI cG cJ w sz as) := by
  intro a U g mk q
  obtain ⟨q0, q1, qP, qK, qO, qD, qZ⟩ := q
  exact ⟨q0, q1, qP, va_K.moved (u := U) (U := U.calling g mk a) (Vm.Alike.refl U.vm) qK, qO, qD, vx_Zq.moved (u := U) (U := U.calling g mk a) (Vm.Alike.refl U.vm) qZ.1, vx_Zq.moved (u := U) (U := U.calling g mk a) (Vm.Alike.refl U.vm) qZ.2.1, fun w h => va_Nw.same (NG_on w h) (u := U) (U := U.calling g mk a) rfl (qZ.2.2.1 w h), fun q h => va_Nc.moved (u := U) (U := U.calling g mk a) (Vm.Alike.refl U.vm) (qZ.2.2.2 q h)⟩
section GC1
variable {l : Launch} {y : MethodName} {own : String} {b : ByteArray} {nL : Nat} {rm : Room} {D : va_G} {cI cG cJ : ClassId} {as : List Value} {w : va_W} {QX : String → va_W → Prop}
theorem gMet_I {P : Int → va_W → Prop} (hy : plainName y.cls = true) (ho : y.cls = own) (hlen : (lg_sl as).length ≤ nL) (body : ∀ E : gEnv, gC E l rm D nL own b cI cG cJ → gRI E b rm P → gW E 0 0 w 0 (lv_args 0 as) []) : gMet l y b nL (some .int) rm D cI cG cJ as w (gI P) := by
  subst ho
  intro sz
  refine Met.ofW (cc := b) (maxL := nL) (ret := some .int) hy rfl ?_
  intro p e s m args below meth c s₁ B hml hv
  obtain ⟨rfl, hsz, hP, hK, hO, hD, hZ⟩ := hv
  have hts := atoms_spec (ws := gWs y b nL (some .int)) B.pre
  have hx := B.exec
  have hb := B.bytes
  have hr := B.returns
  have hlocks := B.notSynchronized
  subst hsz
  have hD := hD.self (sz := s.heap.size)
  rw [lg_entry_eq]
  refine body (p, l, e, (headSpec (gWs y b nL (some .int)) rm).room, s, m, as.toArray, below, meth, c, va_A w s.heap.size, D, nL, MQ below (gPost D w s.heap.size (gI P)) as.toArray s rm.cells rm.slots (va_A w s.heap.size)) ⟨rfl, rfl, rfl, rfl, hx, hb, hml, findClass_of_methodNamed B.named, fun w h => hts w (List.mem_cons_of_mem _ h), hK, hO, fun q h => Or.inr h, hZ⟩ ?_ s.heap [] _ hP hD va_S.rf (lv_entry as hlen)
  intro k n w' pc L x hk hn hd hpost H locs ls hP hD hS hl
  refine W.widen hk hn ?_
  exact W.iret hx hb hr (fun t ht hW => ⟨⟨_, w', rfl, ⟨x, rfl, hpost⟩, by rw [ht]; exact hP, hD⟩, hS.F ht⟩) hS.2.2 hd
theorem gMet_Z {P : Int → va_W → Prop} (hy : plainName y.cls = true) (ho : y.cls = own) (hlen : (lg_sl as).length ≤ nL) (body : ∀ E : gEnv, gC E l rm D nL own b cI cG cJ → gRZ E b rm P → gW E 0 0 w 0 (lv_args 0 as) []) : gMet l y b nL (some .boolean) rm D cI cG cJ as w (gI P) := by
  subst ho
  intro sz
  refine Met.ofW (cc := b) (maxL := nL) (ret := some .boolean) hy rfl ?_
  intro p e s m args below meth c s₁ B hml hv
  obtain ⟨rfl, hsz, hP, hK, hO, hD, hZ⟩ := hv
  have hts := atoms_spec (ws := gWs y b nL (some .boolean)) B.pre
  have hx := B.exec
  have hb := B.bytes
  have hr := B.returns
  have hlocks := B.notSynchronized
  subst hsz
  have hD := hD.self (sz := s.heap.size)
  rw [lg_entry_eq]
  refine body (p, l, e, (headSpec (gWs y b nL (some .boolean)) rm).room, s, m, as.toArray, below, meth, c, va_A w s.heap.size, D, nL, MQ below (gPost D w s.heap.size (gI P)) as.toArray s rm.cells rm.slots (va_A w s.heap.size)) ⟨rfl, rfl, rfl, rfl, hx, hb, hml, findClass_of_methodNamed B.named, fun w h => hts w (List.mem_cons_of_mem _ h), hK, hO, fun q h => Or.inr h, hZ⟩ ?_ s.heap [] _ hP hD va_S.rf (lv_entry as hlen)
  intro k n w' pc L x hk hn hd hx01 hpost H locs ls hP hD hS hl
  refine W.widen hk hn ?_
  exact W.zret hx hb hr (by rcases hx01 with rfl | rfl <;> rfl) (fun t ht hW => ⟨⟨_, w', rfl, ⟨x, rfl, hpost⟩, by rw [ht]; exact hP, hD⟩, hS.F ht⟩) hS.2.2 hd
theorem gMet_J {P : Int64 → va_W → Prop} (hy : plainName y.cls = true) (ho : y.cls = own) (hlen : (lg_sl as).length ≤ nL) (body : ∀ E : gEnv, gC E l rm D nL own b cI cG cJ → gRJ E b rm P → gW E 0 0 w 0 (lv_args 0 as) []) : gMet l y b nL (some .long) rm D cI cG cJ as w (gJ P) := by
  subst ho
  intro sz
  refine Met.ofW (cc := b) (maxL := nL) (ret := some .long) hy rfl ?_
  intro p e s m args below meth c s₁ B hml hv
  obtain ⟨rfl, hsz, hP, hK, hO, hD, hZ⟩ := hv
  have hts := atoms_spec (ws := gWs y b nL (some .long)) B.pre
  have hx := B.exec
  have hb := B.bytes
  have hr := B.returns
  have hlocks := B.notSynchronized
  subst hsz
  have hD := hD.self (sz := s.heap.size)
  rw [lg_entry_eq]
  refine body (p, l, e, (headSpec (gWs y b nL (some .long)) rm).room, s, m, as.toArray, below, meth, c, va_A w s.heap.size, D, nL, MQ below (gPost D w s.heap.size (gJ P)) as.toArray s rm.cells rm.slots (va_A w s.heap.size)) ⟨rfl, rfl, rfl, rfl, hx, hb, hml, findClass_of_methodNamed B.named, fun w h => hts w (List.mem_cons_of_mem _ h), hK, hO, fun q h => Or.inr h, hZ⟩ ?_ s.heap [] _ hP hD va_S.rf (lv_entry as hlen)
  intro k n w' pc L x hk hn hd hpost H locs ls hP hD hS hl
  refine W.widen hk hn ?_
  exact W.lret hx hb hr (fun t ht hW => ⟨⟨_, w', rfl, ⟨x, rfl, hpost⟩, by rw [ht]; exact hP, hD⟩, hS.F ht⟩) hS.2.2 hd
theorem gMet_B {P : UInt64 → va_W → Prop} (hy : plainName y.cls = true) (ho : y.cls = own) (hlen : (lg_sl as).length ≤ nL) (body : ∀ E : gEnv, gC E l rm D nL own b cI cG cJ → gRB E b rm P → gW E 0 0 w 0 (lv_args 0 as) []) : gMet l y b nL (some .double) rm D cI cG cJ as w (gB P) := by
  subst ho
  intro sz
  refine Met.ofW (cc := b) (maxL := nL) (ret := some .double) hy rfl ?_
  intro p e s m args below meth c s₁ B hml hv
  obtain ⟨rfl, hsz, hP, hK, hO, hD, hZ⟩ := hv
  have hts := atoms_spec (ws := gWs y b nL (some .double)) B.pre
  have hx := B.exec
  have hb := B.bytes
  have hr := B.returns
  have hlocks := B.notSynchronized
  subst hsz
  have hD := hD.self (sz := s.heap.size)
  rw [lg_entry_eq]
  refine body (p, l, e, (headSpec (gWs y b nL (some .double)) rm).room, s, m, as.toArray, below, meth, c, va_A w s.heap.size, D, nL, MQ below (gPost D w s.heap.size (gB P)) as.toArray s rm.cells rm.slots (va_A w s.heap.size)) ⟨rfl, rfl, rfl, rfl, hx, hb, hml, findClass_of_methodNamed B.named, fun w h => hts w (List.mem_cons_of_mem _ h), hK, hO, fun q h => Or.inr h, hZ⟩ ?_ s.heap [] _ hP hD va_S.rf (lv_entry as hlen)
  intro k n w' pc L x hk hn hd hpost H locs ls hP hD hS hl
  refine W.widen hk hn ?_
  exact W.dret hx hb hr (fun t ht hW => ⟨⟨_, w', rfl, ⟨x, rfl, hpost⟩, by rw [ht]; exact hP, hD⟩, hS.F ht⟩) hS.2.2 hd
theorem gMet_N {P : va_W → Prop} (hy : plainName y.cls = true) (ho : y.cls = own) (hlen : (lg_sl as).length ≤ nL) (body : ∀ E : gEnv, gC E l rm D nL own b cI cG cJ → gRN E b rm P → gW E 0 0 w 0 (lv_args 0 as) []) : gMet l y b nL none rm D cI cG cJ as w (gN P) := by
  subst ho
  intro sz
  refine Met.ofW (cc := b) (maxL := nL) (ret := none) hy rfl ?_
  intro p e s m args below meth c s₁ B hml hv
  obtain ⟨rfl, hsz, hP, hK, hO, hD, hZ⟩ := hv
  have hts := atoms_spec (ws := gWs y b nL none) B.pre
  have hx := B.exec
  have hb := B.bytes
  have hr := B.returns
  have hlocks := B.notSynchronized
  subst hsz
  have hD := hD.self (sz := s.heap.size)
  rw [lg_entry_eq]
  refine body (p, l, e, (headSpec (gWs y b nL none) rm).room, s, m, as.toArray, below, meth, c, va_A w s.heap.size, D, nL, MQ below (gPost D w s.heap.size (gN P)) as.toArray s rm.cells rm.slots (va_A w s.heap.size)) ⟨rfl, rfl, rfl, rfl, hx, hb, hml, findClass_of_methodNamed B.named, fun w h => hts w (List.mem_cons_of_mem _ h), hK, hO, fun q h => Or.inr h, hZ⟩ ?_ s.heap [] _ hP hD va_S.rf (lv_entry as hlen)
  intro k n w' pc L hk hn hd hpost H locs ls hP hD hS hl
  refine W.widen hk hn ?_
  exact W.vret hx hb hr (fun t ht hW => ⟨⟨_, w', rfl, ⟨rfl, hpost⟩, by rw [ht]; exact hP, hD⟩, hS.F ht⟩) hS.2.2 hd
/-- of a method that may throw: how an exception leaves -/
theorem gMex_ends {ret : Option FieldType} {Post : Option Value → va_W → Prop} {p : Program} {e : Env} {s : State} {m : MethodId} {below : List Frame} {meth : Method} {c : Code} (hl9 : l.stackTraces = false) (hx : p.tables.exec = Jvm.exec) (hb : c.code = b) (hml : c.maxLocals = nL) (hown : s.vm.findClass own = some m.cls) (hts : ∀ w ∈ LW, w.before as.toArray s = true) (hlocks : meth.locks = false) (htab : ∀ x ∈ c.exceptionTable.toList, False) (hZ : gZ (va_A w s.heap.size) s) :
    gRX (p, l, e, (headSpec (gWs y b nL ret) rm).room, s, m, as.toArray, below, meth, c, va_A w s.heap.size, D, nL, vx_MQ below (gPost D w s.heap.size Post) (gXC D w s.heap.size QX) as.toArray s rm.cells rm.slots (va_A w s.heap.size)) rm QX ∧
    gRT (p, l, e, (headSpec (gWs y b nL ret) rm).room, s, m, as.toArray, below, meth, c, va_A w s.heap.size, D, nL, vx_MQ below (gPost D w s.heap.size Post) (gXC D w s.heap.size QX) as.toArray s rm.cells rm.slots (va_A w s.heap.size)) own b rm QX := by
  refine ⟨?_, ?_⟩
  · intro k n w' pc L nm hk hn hq H locs ls q ce st hP hD hS hl hc hv hcl
    exact vx_out (fun x h => (htab x h).elim) hlocks hc hv hcl (fun t ht hW => ⟨w', trivial, ⟨hq, by rw [ht]; exact hP, hD⟩, hS.F ht⟩) hS.2.2 hk hn
  · intro k n w' pc L st ik ic nm names ht hk hn hfr hlo hq d0 d3 d4 d7 H locs ls hP hD hS hl
    obtain ⟨t1, t2, t3, t4, t5, t6⟩ := ht
    exact vx_throw0 hx hb hl9 hown t1 t2 (hts _ t3) (hts _ t4) (fun w h => (t5 w h).elim (hts w) (fun h9 => va_Nw.use (NG_on w h9) (hZ.2.2.1 w h9))) t6 hZ.1 hZ.2.1 hS (hl.1.trans hml.symm) d0 d3 d4 d7 (fun x h => (htab x h).elim) hfr hlo hk hn hlocks
      (fun t hvm hsz hk9 => ⟨w', trivial, ⟨hq, hP.kept (fun j q hj => hk9 q.1 ((hP j q hj).lt)), hD⟩, ⟨Nat.le_trans hS.1 hsz, fun q h1 h2 => (hk9 q (Nat.lt_of_lt_of_le h1 hS.1)).trans (hS.2.1 q h1 h2)⟩⟩) hS.2.2 hk hn
theorem gMex_I {P : Int → va_W → Prop} (hl9 : l.stackTraces = false) (hy : plainName y.cls = true) (ho : y.cls = own) (hlen : (lg_sl as).length ≤ nL) (body : ∀ E : gEnv, gC E l rm D nL own b cI cG cJ → gRI E b rm P → gRX E rm QX → gRT E own b rm QX → gW E 0 0 w 0 (lv_args 0 as) []) : gMex l y b nL (some .int) rm D cI cG cJ as w (gI P) QX := by
  subst ho
  intro sz
  refine vx_ofW (cc := b) (maxL := nL) (ret := (some .int)) hy rfl ?_
  intro p e s m args below meth c s₁ B hml htab hv
  obtain ⟨rfl, hsz, hP, hK, hO, hD, hZ⟩ := hv
  have hts := atoms_spec (ws := gWs y b nL (some .int)) B.pre
  have hx := B.exec
  have hb := B.bytes
  have hr := B.returns
  have hlocks := B.notSynchronized
  have hown := findClass_of_methodNamed B.named
  subst hsz
  have hD := hD.self (sz := s.heap.size)
  have hen := gMex_ends (l := l) (y := y) (own := y.cls) (b := b) (nL := nL) (rm := rm) (D := D) (as := as) (w := w) (QX := QX) (ret := (some .int)) (Post := gI P) (e := e) (below := below) hl9 hx hb hml hown (fun w h => hts w (List.mem_cons_of_mem _ h)) hlocks htab hZ
  rw [lg_entry_eq]
  refine body (p, l, e, (headSpec (gWs y b nL (some .int)) rm).room, s, m, as.toArray, below, meth, c, va_A w s.heap.size, D, nL, vx_MQ below (gPost D w s.heap.size (gI P)) (gXC D w s.heap.size QX) as.toArray s rm.cells rm.slots (va_A w s.heap.size)) ⟨rfl, rfl, rfl, rfl, hx, hb, hml, hown, fun w h => hts w (List.mem_cons_of_mem _ h), hK, hO, fun q h => Or.inr h, hZ⟩ ?_ hen.1 hen.2 s.heap [] _ hP hD va_S.rf (lv_entry as hlen)
  intro k n w' pc L x hk hn hd hpost H locs ls hP hD hS hl
  refine W.widen hk hn ?_
  refine vx_ret ?_
  exact W.iret hx hb hr (fun t ht hW => ⟨⟨_, w', rfl, ⟨x, rfl, hpost⟩, by rw [ht]; exact hP, hD⟩, hS.F ht⟩) hS.2.2 hd
theorem gMex_Z {P : Int → va_W → Prop} (hl9 : l.stackTraces = false) (hy : plainName y.cls = true) (ho : y.cls = own) (hlen : (lg_sl as).length ≤ nL) (body : ∀ E : gEnv, gC E l rm D nL own b cI cG cJ → gRZ E b rm P → gRX E rm QX → gRT E own b rm QX → gW E 0 0 w 0 (lv_args 0 as) []) : gMex l y b nL (some .boolean) rm D cI cG cJ as w (gI P) QX := by
  subst ho
  intro sz
  refine vx_ofW (cc := b) (maxL := nL) (ret := (some .boolean)) hy rfl ?_
  intro p e s m args below meth c s₁ B hml htab hv
  obtain ⟨rfl, hsz, hP, hK, hO, hD, hZ⟩ := hv
  have hts := atoms_spec (ws := gWs y b nL (some .boolean)) B.pre
  have hx := B.exec
  have hb := B.bytes
  have hr := B.returns
  have hlocks := B.notSynchronized
  have hown := findClass_of_methodNamed B.named
  subst hsz
  have hD := hD.self (sz := s.heap.size)
  have hen := gMex_ends (l := l) (y := y) (own := y.cls) (b := b) (nL := nL) (rm := rm) (D := D) (as := as) (w := w) (QX := QX) (ret := (some .boolean)) (Post := gI P) (e := e) (below := below) hl9 hx hb hml hown (fun w h => hts w (List.mem_cons_of_mem _ h)) hlocks htab hZ
  rw [lg_entry_eq]
  refine body (p, l, e, (headSpec (gWs y b nL (some .boolean)) rm).room, s, m, as.toArray, below, meth, c, va_A w s.heap.size, D, nL, vx_MQ below (gPost D w s.heap.size (gI P)) (gXC D w s.heap.size QX) as.toArray s rm.cells rm.slots (va_A w s.heap.size)) ⟨rfl, rfl, rfl, rfl, hx, hb, hml, hown, fun w h => hts w (List.mem_cons_of_mem _ h), hK, hO, fun q h => Or.inr h, hZ⟩ ?_ hen.1 hen.2 s.heap [] _ hP hD va_S.rf (lv_entry as hlen)
  intro k n w' pc L x hk hn hd hx01 hpost H locs ls hP hD hS hl
  refine W.widen hk hn ?_
  refine vx_ret ?_
  exact W.zret hx hb hr (by rcases hx01 with rfl | rfl <;> rfl) (fun t ht hW => ⟨⟨_, w', rfl, ⟨x, rfl, hpost⟩, by rw [ht]; exact hP, hD⟩, hS.F ht⟩) hS.2.2 hd
theorem gMex_J {P : Int64 → va_W → Prop} (hl9 : l.stackTraces = false) (hy : plainName y.cls = true) (ho : y.cls = own) (hlen : (lg_sl as).length ≤ nL) (body : ∀ E : gEnv, gC E l rm D nL own b cI cG cJ → gRJ E b rm P → gRX E rm QX → gRT E own b rm QX → gW E 0 0 w 0 (lv_args 0 as) []) : gMex l y b nL (some .long) rm D cI cG cJ as w (gJ P) QX := by
  subst ho
  intro sz
  refine vx_ofW (cc := b) (maxL := nL) (ret := (some .long)) hy rfl ?_
  intro p e s m args below meth c s₁ B hml htab hv
  obtain ⟨rfl, hsz, hP, hK, hO, hD, hZ⟩ := hv
  have hts := atoms_spec (ws := gWs y b nL (some .long)) B.pre
  have hx := B.exec
  have hb := B.bytes
  have hr := B.returns
  have hlocks := B.notSynchronized
  have hown := findClass_of_methodNamed B.named
  subst hsz
  have hD := hD.self (sz := s.heap.size)
  have hen := gMex_ends (l := l) (y := y) (own := y.cls) (b := b) (nL := nL) (rm := rm) (D := D) (as := as) (w := w) (QX := QX) (ret := (some .long)) (Post := gJ P) (e := e) (below := below) hl9 hx hb hml hown (fun w h => hts w (List.mem_cons_of_mem _ h)) hlocks htab hZ
  rw [lg_entry_eq]
  refine body (p, l, e, (headSpec (gWs y b nL (some .long)) rm).room, s, m, as.toArray, below, meth, c, va_A w s.heap.size, D, nL, vx_MQ below (gPost D w s.heap.size (gJ P)) (gXC D w s.heap.size QX) as.toArray s rm.cells rm.slots (va_A w s.heap.size)) ⟨rfl, rfl, rfl, rfl, hx, hb, hml, hown, fun w h => hts w (List.mem_cons_of_mem _ h), hK, hO, fun q h => Or.inr h, hZ⟩ ?_ hen.1 hen.2 s.heap [] _ hP hD va_S.rf (lv_entry as hlen)
  intro k n w' pc L x hk hn hd hpost H locs ls hP hD hS hl
  refine W.widen hk hn ?_
  refine vx_ret ?_
  exact W.lret hx hb hr (fun t ht hW => ⟨⟨_, w', rfl, ⟨x, rfl, hpost⟩, by rw [ht]; exact hP, hD⟩, hS.F ht⟩) hS.2.2 hd
theorem gMex_B {P : UInt64 → va_W → Prop} (hl9 : l.stackTraces = false) (hy : plainName y.cls = true) (ho : y.cls = own) (hlen : (lg_sl as).length ≤ nL) (body : ∀ E : gEnv, gC E l rm D nL own b cI cG cJ → gRB E b rm P → gRX E rm QX → gRT E own b rm QX → gW E 0 0 w 0 (lv_args 0 as) []) : gMex l y b nL (some .double) rm D cI cG cJ as w (gB P) QX := by
  subst ho
  intro sz
  refine vx_ofW (cc := b) (maxL := nL) (ret := (some .double)) hy rfl ?_
  intro p e s m args below meth c s₁ B hml htab hv
  obtain ⟨rfl, hsz, hP, hK, hO, hD, hZ⟩ := hv
  have hts := atoms_spec (ws := gWs y b nL (some .double)) B.pre
  have hx := B.exec
  have hb := B.bytes
  have hr := B.returns
  have hlocks := B.notSynchronized
  have hown := findClass_of_methodNamed B.named
  subst hsz
  have hD := hD.self (sz := s.heap.size)
  have hen := gMex_ends (l := l) (y := y) (own := y.cls) (b := b) (nL := nL) (rm := rm) (D := D) (as := as) (w := w) (QX := QX) (ret := (some .double)) (Post := gB P) (e := e) (below := below) hl9 hx hb hml hown (fun w h => hts w (List.mem_cons_of_mem _ h)) hlocks htab hZ
  rw [lg_entry_eq]
  refine body (p, l, e, (headSpec (gWs y b nL (some .double)) rm).room, s, m, as.toArray, below, meth, c, va_A w s.heap.size, D, nL, vx_MQ below (gPost D w s.heap.size (gB P)) (gXC D w s.heap.size QX) as.toArray s rm.cells rm.slots (va_A w s.heap.size)) ⟨rfl, rfl, rfl, rfl, hx, hb, hml, hown, fun w h => hts w (List.mem_cons_of_mem _ h), hK, hO, fun q h => Or.inr h, hZ⟩ ?_ hen.1 hen.2 s.heap [] _ hP hD va_S.rf (lv_entry as hlen)
  intro k n w' pc L x hk hn hd hpost H locs ls hP hD hS hl
  refine W.widen hk hn ?_
  refine vx_ret ?_
  exact W.dret hx hb hr (fun t ht hW => ⟨⟨_, w', rfl, ⟨x, rfl, hpost⟩, by rw [ht]; exact hP, hD⟩, hS.F ht⟩) hS.2.2 hd
theorem gMex_N {P : va_W → Prop} (hl9 : l.stackTraces = false) (hy : plainName y.cls = true) (ho : y.cls = own) (hlen : (lg_sl as).length ≤ nL) (body : ∀ E : gEnv, gC E l rm D nL own b cI cG cJ → gRN E b rm P → gRX E rm QX → gRT E own b rm QX → gW E 0 0 w 0 (lv_args 0 as) []) : gMex l y b nL none rm D cI cG cJ as w (gN P) QX := by
  subst ho
  intro sz
  refine vx_ofW (cc := b) (maxL := nL) (ret := none) hy rfl ?_
  intro p e s m args below meth c s₁ B hml htab hv
  obtain ⟨rfl, hsz, hP, hK, hO, hD, hZ⟩ := hv
  have hts := atoms_spec (ws := gWs y b nL none) B.pre
  have hx := B.exec
  have hb := B.bytes
  have hr := B.returns
  have hlocks := B.notSynchronized
  have hown := findClass_of_methodNamed B.named
  subst hsz
  have hD := hD.self (sz := s.heap.size)
  have hen := gMex_ends (l := l) (y := y) (own := y.cls) (b := b) (nL := nL) (rm := rm) (D := D) (as := as) (w := w) (QX := QX) (ret := none) (Post := gN P) (e := e) (below := below) hl9 hx hb hml hown (fun w h => hts w (List.mem_cons_of_mem _ h)) hlocks htab hZ
  rw [lg_entry_eq]
  refine body (p, l, e, (headSpec (gWs y b nL none) rm).room, s, m, as.toArray, below, meth, c, va_A w s.heap.size, D, nL, vx_MQ below (gPost D w s.heap.size (gN P)) (gXC D w s.heap.size QX) as.toArray s rm.cells rm.slots (va_A w s.heap.size)) ⟨rfl, rfl, rfl, rfl, hx, hb, hml, hown, fun w h => hts w (List.mem_cons_of_mem _ h), hK, hO, fun q h => Or.inr h, hZ⟩ ?_ hen.1 hen.2 s.heap [] _ hP hD va_S.rf (lv_entry as hlen)
  intro k n w' pc L hk hn hd hpost H locs ls hP hD hS hl
  refine W.widen hk hn ?_
  refine vx_ret ?_
  exact W.vret hx hb hr (fun t ht hW => ⟨⟨_, w', rfl, ⟨rfl, hpost⟩, by rw [ht]; exact hP, hD⟩, hS.F ht⟩) hS.2.2 hd
end GC1
end
section
/-! calls of contracts -/
theorem LW_in {w : Cond} (h : w ∈ LW) : w ∈ LW ∧ ((w.onTables && w.keeps) = true ∨ ∃ ty, w = .arrayClass ty) := ⟨h, good_of_word (List.all_eq_true.mp LW_good w h)⟩
/-- the words of a call: of an object's method, of a static one, of a constructor -/
def gV (own : String) (ix : Nat) (y : MethodName) (b : ByteArray) (nL : Nat) (ret : Option FieldType) (n : Nat) (Cn : String) : Prop := Cond.methodLink own ix y ∈ LW ∧ Cond.instanceMethod y ∈ LW ∧ Cond.selects Cn y y ∈ LW ∧ Cond.initialized Cn ∈ LW ∧ Cond.code y b nL ret ∈ LW ∧ y.cls = Cn ∧ y.cls ≠ "java/lang/invoke/MethodHandle" ∧ y.cls ≠ "java/lang/invoke/VarHandle" ∧ (parseMethodDescriptor y.desc).map (fun d => d.parameters.length) = some n
def gS (own : String) (ix : Nat) (y : MethodName) (b : ByteArray) (nL : Nat) (ret : Option FieldType) (n : Nat) : Prop := Cond.methodLink own ix y ∈ LW ∧ Cond.static y ∈ LW ∧ Cond.initialized y.cls ∈ LW ∧ Cond.code y b nL ret ∈ LW ∧ y.cls ≠ "java/lang/invoke/MethodHandle" ∧ y.cls ≠ "java/lang/invoke/VarHandle" ∧ (parseMethodDescriptor y.desc).map (fun d => d.parameters.length) = some n
def gCt (own : String) (ix : Nat) (y : MethodName) (b : ByteArray) (nL : Nat) (n : Nat) : Prop := Cond.methodLink own ix y ∈ LW ∧ Cond.instanceMethod y ∈ LW ∧ Cond.initialized y.cls ∈ LW ∧ Cond.code y b nL none ∈ LW ∧ y.name = "<init>" ∧ y.cls ≠ "java/lang/invoke/MethodHandle" ∧ y.cls ≠ "java/lang/invoke/VarHandle" ∧ (parseMethodDescriptor y.desc).map (fun d => d.parameters.length) = some n
theorem gWs_in {y : MethodName} {b : ByteArray} {nL : Nat} {ret : Option FieldType} (h : Cond.code y b nL ret ∈ LW) : GoodIn LW (gWs y b nL ret) := by
  intro w hw
  rcases List.mem_cons.mp hw with h1 | h1
  · rw [h1]; exact LW_in h
  · exact LW_in h1
/-- how the cells of a world part: the callee's, the rest -/
def gSp (w wc wr : va_W) (isC isR : List Nat) : Prop := isC.map (fun i => w[i]?) = wc.map some ∧ isR.map (fun i => w[i]?) = wr.map some ∧ va_nd isC = true ∧ va_nd isR = true ∧ ∀ i ∈ isR, i ∉ isC
theorem gZ_at {A0 : Nat → Prop} {s U : State} {H : Heap} {locs : List Loc} {wc : va_W} (hZ : gZ A0 s) (hS : va_S A0 s.heap H locs) (hF : ∀ q, va_A wc H.size q → A0 q) (hU : U.heap = H) (hW : s.WarmedH U.vm) : gZ (va_A wc H.size) U := by
  subst hU
  exact ⟨vx_Zq.narrow (vx_Zq.moved hW.alike (vx_Zq.kept hZ.1 (fun a h1 h2 => hS.2.1 a h1 h2))) hF, vx_Zq.narrow (vx_Zq.moved hW.alike (vx_Zq.kept hZ.2.1 (fun a h1 h2 => hS.2.1 a h1 h2))) hF, NG_warm hW hZ.2.2.1, fun q h => va_Nc.moved hW.alike (hZ.2.2.2 q h)⟩
theorem va_AOA.moved {t : FieldType} {u U : State} (hvm : u.vm.Alike U.vm) (h : va_AOA t u) : va_AOA t U := over_moved hvm h
theorem gP_sub {D : va_G} {cl : List vw_C} {ws ws' : va_W} {H : Heap} (h : va_P D cl ws H) (is : List Nat) (hs : is.map (fun i => ws[i]?) = ws'.map some) : va_P D cl ws' H := by
  intro j q hj
  have h1 : (is.map (fun i => ws[i]?))[j]? = some (some q) := by rw [hs, List.getElem?_map, hj]; rfl
  rw [List.getElem?_map] at h1
  cases hi : is[j]? with
  | none => rw [hi] at h1; cases h1
  | some i => rw [hi] at h1; exact h i q (Option.some.inj h1)
section GC2
variable {E : gEnv} {l : Launch} {R : Room} {D : va_G} {nL : Nat} {own : String} {cc : ByteArray} {cI cG cJ : ClassId} {k n : Nat} {w : va_W} {pc : Nat} {L : List (Nat × Value)} {st stk : List Value}
variable {y : MethodName} {b : ByteArray} {nL' : Nat} {ret : Option FieldType} {rm : Room} {as : List Value} {wc wr : va_W} {a n' ix : Nat} {Cn : String} {Post : Option Value → va_W → Prop} {QX : String → va_W → Prop}
theorem g_callV0 (isC isR : List Nat) (C : gC E l R D nL own cc cI cG cJ) (f : gV own ix y b nL' ret n' Cn) (hM : gMet l y b nL' ret rm D cI cG cJ (.ref a :: as) wc Post) (hs : gSp w wc wr isC isR) {q0 ci N : Nat} {T : u_T} {fs : List Value} (he : w[q0]? = some (a, .inr (ci, fs))) (hci : vwCl[ci]? = some (Cn, T, N))
    (hR : rm.frames + 1 ≤ R.frames ∧ 8 + (nL' + 11) + rm.locals ≤ R.locals) (hf : k + rm.cells ≤ R.cells ∧ n + rm.slots ≤ R.slots) (hn : as.length = n') (hst : stk = as.reverse ++ .ref a :: st) (hroom : (st.map fun v => v.category).sum ≤ 8) (hd : decode cc pc = .ok (.invokevirtual ix, 3))
    (K : ∀ (v : Option Value) (w1 : va_W), Post v w1 → gW E (k + rm.cells) (n + rm.slots) (wr ++ w1) (pc + 3) L (v.toList ++ st)) : gW E k n w pc L stk := by
  obtain ⟨p, l, e, R, s, m, args, below, meth, c, A, D, nL, Q⟩ := E
  obtain ⟨rfl, rfl, rfl, rfl, hx, hb, hml, hown, hts, hK, hO, hA, hZ⟩ := C
  obtain ⟨f1, f2, f3, f4, f5, rfl, f7, f8, f9⟩ := f
  obtain ⟨s1, s2, s3, s4, s5⟩ := hs
  intro H locs ls hP hD hS hl
  have hDc := hD.sub isC s3 s1
  have hPc := gP_sub hP isC s1
  have hFc := va_free (wc := wc) hD hS hA isC s1
  have hgood : GoodIn LW (wsV own ix y.cls y (gWs y b nL' ret)) := by
    intro w hw
    rcases List.mem_append.mp hw with h1 | h1
    · simp only [List.mem_cons, List.not_mem_nil, or_false] at h1
      rcases h1 with rfl | rfl | rfl | rfl
      · exact LW_in f1
      · exact LW_in f2
      · exact LW_in f3
      · exact LW_in f4
    · exact gWs_in f5 w h1
  have run := va_runV (As := as) (rest := st) (H := H) (locs := locs) (cells := k) (slots := n) (l := l) (e := e) (below := below) (meth := meth) (g := F0 m pc ls stk) ⟨hx, hb, hml, hown, hts⟩ (hM H.size) (cwV n' hts hgood rfl rfl rfl (by first | exact ⟨rfl, f7, f8, f9⟩ | exact ⟨f7, f8, f9⟩) hR) ⟨gPre_blind, va_recv hK hP hci he, fun U hU hW => ⟨rfl, by rw [hU], by rw [hU]; exact hPc, va_K.moved hW.alike hK, va_AOA.moved hW.alike hO, hDc.weaken (fun _ _ _ _ => trivial), gZ_at hZ hS hFc hU hW⟩⟩ rfl hn hl.1 hst (lv_room hroom) hd hf
  intro T hT X
  obtain ⟨v, st₀, t, T', L9, h0, X', hL, e1, e2, ⟨⟨v', w1, hv, hpost, hP1, hD1⟩, hF⟩, step⟩ := run T hT X
  cases hv
  obtain ⟨k1, k2, k3⟩ := vx_keep h0 e1 hS (fun q _ h => hFc q h) hFc hL hF
  obtain ⟨hPj, hDj⟩ := va_join hP hD isC isR s1 s2 s4 s5 k2 hFc (by rw [e1]; exact hP1) hD1
  obtain ⟨t2, a1, b1⟩ := K v w1 hpost T'.heap (locs ++ L9) ls hPj hDj k3 hl T' rfl X'
  exact ⟨t2, step t2 a1, b1⟩
theorem g_callV (isC isR : List Nat) (C : gC E l R D nL own cc cI cG cJ) (f : gV own ix y b nL' ret n' Cn) (hM : gMet l y b nL' ret rm D cI cG cJ (.ref a :: as) wc Post) (hs : gSp w wc wr isC isR) {q0 ci N : Nat} {T : u_T} {fs : List Value} (he : w[q0]? = some (a, .inr (ci, fs))) (hci : vwCl[ci]? = some (Cn, T, N))
    (hR : rm.frames + 1 ≤ R.frames ∧ 8 + (nL' + 11) + rm.locals ≤ R.locals) (hf : k + rm.cells ≤ R.cells ∧ n + rm.slots ≤ R.slots) (hn : as.length = n') (hst : stk = as.reverse ++ .ref a :: st) (hroom : (st.map fun v => v.category).sum ≤ 8) (hd : decode cc pc = .ok (.invokevirtual ix, 3))
    (K : ∀ (v : Option Value) (w1 : va_W), Post v w1 → gW E (k + rm.cells) (n + rm.slots) (wr ++ w1) (pc + 3) L (v.toList ++ st)) : gW E k n w pc L stk := g_callV0 isC isR C f hM hs he hci hR hf hn hst hroom hd K
theorem g_callS (isC isR : List Nat) (C : gC E l R D nL own cc cI cG cJ) (f : gS own ix y b nL' ret n') (hM : gMet l y b nL' ret rm D cI cG cJ as wc Post) (hs : gSp w wc wr isC isR)
    (hR : rm.frames + 1 ≤ R.frames ∧ 8 + (nL' + 11) + rm.locals ≤ R.locals) (hf : k + rm.cells ≤ R.cells ∧ n + rm.slots ≤ R.slots) (hn : as.length = n') (hst : stk = as.reverse ++ st) (hroom : (st.map fun v => v.category).sum ≤ 8) (hd : decode cc pc = .ok (.invokestatic ix, 3))
    (K : ∀ (v : Option Value) (w1 : va_W), Post v w1 → gW E (k + rm.cells) (n + rm.slots) (wr ++ w1) (pc + 3) L (v.toList ++ st)) : gW E k n w pc L stk := by
  obtain ⟨p, l, e, R, s, m, args, below, meth, c, A, D, nL, Q⟩ := E
  obtain ⟨rfl, rfl, rfl, rfl, hx, hb, hml, hown, hts, hK, hO, hA, hZ⟩ := C
  obtain ⟨f1, f2, f4, f5, f7, f8, f9⟩ := f
  obtain ⟨s1, s2, s3, s4, s5⟩ := hs
  intro H locs ls hP hD hS hl
  have hDc := hD.sub isC s3 s1
  have hPc := gP_sub hP isC s1
  have hFc := va_free (wc := wc) hD hS hA isC s1
  have hgood : GoodIn LW (va_wsS own ix y (gWs y b nL' ret)) := by
    intro w hw
    rcases List.mem_append.mp hw with h1 | h1
    · simp only [List.mem_cons, List.not_mem_nil, or_false] at h1
      rcases h1 with rfl | rfl | rfl
      · exact LW_in f1
      · exact LW_in f2
      · exact LW_in f4
    · exact gWs_in f5 w h1
  have run := va_runS (As := as) (rest := st) (H := H) (locs := locs) (cells := k) (slots := n) (l := l) (e := e) (below := below) (meth := meth) (g := F0 m pc ls stk) ⟨hx, hb, hml, hown, hts⟩ (hM H.size) (va_cwS n' hts hgood rfl rfl rfl ⟨f7, f8, f9⟩ hR) ⟨gPre_blind, fun U hU hW => ⟨rfl, by rw [hU], by rw [hU]; exact hPc, va_K.moved hW.alike hK, va_AOA.moved hW.alike hO, hDc.weaken (fun _ _ _ _ => trivial), gZ_at hZ hS hFc hU hW⟩⟩ rfl hn hl.1 hst (lv_room hroom) hd hf
  intro T hT X
  obtain ⟨v, st₀, t, T', L9, h0, X', hL, e1, e2, ⟨⟨v', w1, hv, hpost, hP1, hD1⟩, hF⟩, step⟩ := run T hT X
  cases hv
  obtain ⟨k1, k2, k3⟩ := vx_keep h0 e1 hS (fun q _ h => hFc q h) hFc hL hF
  obtain ⟨hPj, hDj⟩ := va_join hP hD isC isR s1 s2 s4 s5 k2 hFc (by rw [e1]; exact hP1) hD1
  obtain ⟨t2, a1, b1⟩ := K v w1 hpost T'.heap (locs ++ L9) ls hPj hDj k3 hl T' rfl X'
  exact ⟨t2, step t2 a1, b1⟩
theorem g_callC (isC isR : List Nat) (C : gC E l R D nL own cc cI cG cJ) (f : gCt own ix y b nL' n') (hM : gMet l y b nL' none rm D cI cG cJ (.ref a :: as) wc Post) (hs : gSp w wc wr isC isR)
    (hR : rm.frames + 1 ≤ R.frames ∧ 8 + (nL' + 11) + rm.locals ≤ R.locals) (hf : k + rm.cells ≤ R.cells ∧ n + rm.slots ≤ R.slots) (hn : as.length = n') (hst : stk = as.reverse ++ .ref a :: st) (hroom : (st.map fun v => v.category).sum ≤ 8) (hd : decode cc pc = .ok (.invokespecial ix, 3))
    (K : ∀ (v : Option Value) (w1 : va_W), Post v w1 → gW E (k + rm.cells) (n + rm.slots) (wr ++ w1) (pc + 3) L (v.toList ++ st)) : gW E k n w pc L stk := by
  obtain ⟨p, l, e, R, s, m, args, below, meth, c, A, D, nL, Q⟩ := E
  obtain ⟨rfl, rfl, rfl, rfl, hx, hb, hml, hown, hts, hK, hO, hA, hZ⟩ := C
  obtain ⟨f1, f2, f4, f5, f6, f7, f8, f9⟩ := f
  obtain ⟨s1, s2, s3, s4, s5⟩ := hs
  intro H locs ls hP hD hS hl
  have hDc := hD.sub isC s3 s1
  have hPc := gP_sub hP isC s1
  have hFc := va_free (wc := wc) hD hS hA isC s1
  have run := va_runI (As := as) (rest := st) (H := H) (locs := locs) (cells := k) (slots := n) (l := l) (e := e) (below := below) (meth := meth) (g := F0 m pc ls stk) ⟨hx, hb, hml, hown, hts⟩ (hM H.size) (cwI n' hts (gWs_in f5) rfl rfl rfl (hts _ f4) (hts _ f1) (hts _ f2) f6 ⟨f7, f8, f9⟩ hR) ⟨gPre_blind, fun U hU hW => ⟨rfl, by rw [hU], by rw [hU]; exact hPc, va_K.moved hW.alike hK, va_AOA.moved hW.alike hO, hDc.weaken (fun _ _ _ _ => trivial), gZ_at hZ hS hFc hU hW⟩⟩ rfl hn hl.1 hst (lv_room hroom) hd hf
  intro T hT X
  obtain ⟨v, st₀, t, T', L9, h0, X', hL, e1, e2, ⟨⟨v', w1, hv, hpost, hP1, hD1⟩, hF⟩, step⟩ := run T hT X
  cases hv
  obtain ⟨k1, k2, k3⟩ := vx_keep h0 e1 hS (fun q _ h => hFc q h) hFc hL hF
  obtain ⟨hPj, hDj⟩ := va_join hP hD isC isR s1 s2 s4 s5 k2 hFc (by rw [e1]; exact hP1) hD1
  obtain ⟨t2, a1, b1⟩ := K v w1 hpost T'.heap (locs ++ L9) ls hPj hDj k3 hl T' rfl X'
  exact ⟨t2, step t2 a1, b1⟩
/-- a callee that may throw -/
theorem g_callVX (isC isR : List Nat) (C : gC E l R D nL own cc cI cG cJ) (f : gV own ix y b nL' ret n' Cn) (hM : gMex l y b nL' ret rm D cI cG cJ (.ref a :: as) wc Post QX) (hs : gSp w wc wr isC isR) {q0 ci N : Nat} {T : u_T} {fs : List Value} (he : w[q0]? = some (a, .inr (ci, fs))) (hci : vwCl[ci]? = some (Cn, T, N))
    (hR : rm.frames + 1 ≤ R.frames ∧ 8 + (nL' + 11) + rm.locals ≤ R.locals) (hf : k + rm.cells ≤ R.cells ∧ n + rm.slots ≤ R.slots) (hn : as.length = n') (hst : stk = as.reverse ++ .ref a :: st) (hroom : (st.map fun v => v.category).sum ≤ 8) (hd : decode cc pc = .ok (.invokevirtual ix, 3))
    (Kx : ∀ (nm : String) (w1 : va_W), QX nm w1 → gWx E (k + rm.cells) (n + rm.slots) (wr ++ w1) pc L nm)
    (K : ∀ (v : Option Value) (w1 : va_W), Post v w1 → gW E (k + rm.cells) (n + rm.slots) (wr ++ w1) (pc + 3) L (v.toList ++ st)) : gW E k n w pc L stk := by
  obtain ⟨p, l, e, R, s, m, args, below, meth, c, A, D, nL, Q⟩ := E
  obtain ⟨rfl, rfl, rfl, rfl, hx, hb, hml, hown, hts, hK, hO, hA, hZ⟩ := C
  obtain ⟨f1, f2, f3, f4, f5, rfl, f7, f8, f9⟩ := f
  obtain ⟨s1, s2, s3, s4, s5⟩ := hs
  intro H locs ls hP hD hS hl
  have hDc := hD.sub isC s3 s1
  have hPc := gP_sub hP isC s1
  have hFc := va_free (wc := wc) hD hS hA isC s1
  have hgood : GoodIn LW (wsV own ix y.cls y (gWs y b nL' ret)) := by
    intro w hw
    rcases List.mem_append.mp hw with h1 | h1
    · simp only [List.mem_cons, List.not_mem_nil, or_false] at h1
      rcases h1 with rfl | rfl | rfl | rfl
      · exact LW_in f1
      · exact LW_in f2
      · exact LW_in f3
      · exact LW_in f4
    · exact gWs_in f5 w h1
  have run := vx_runV (As := as) (rest := st) (H := H) (locs := locs) (cells := k) (slots := n) (l := l) (e := e) (below := below) (meth := meth) (g := F0 m pc ls stk) ⟨hx, hb, hml, hown, hts⟩ (hM H.size) (cwV n' hts hgood rfl rfl rfl (by first | exact ⟨rfl, f7, f8, f9⟩ | exact ⟨f7, f8, f9⟩) hR) ⟨gPre_blind, va_recv hK hP hci he, fun U hU hW => ⟨rfl, by rw [hU], by rw [hU]; exact hPc, va_K.moved hW.alike hK, va_AOA.moved hW.alike hO, hDc.weaken (fun _ _ _ _ => trivial), gZ_at hZ hS hFc hU hW⟩⟩ rfl hn hl.1 hst (lv_room hroom) hd hf
  intro T hT X
  rcases run T hT X with ⟨v, st₀, t, T', L9, h0, X', hL, e1, e2, ⟨⟨v', w1, hv, hpost, hP1, hD1⟩, hF⟩, step⟩ | ⟨q, st₀, t, T', L9, E9, ce, h0, X', hL, e1, e2, ⟨w1, -, ⟨hq, hP1, hD1⟩, hF⟩, hce, hcv, hcl, step⟩
  · cases hv
    obtain ⟨k1, k2, k3⟩ := vx_keep h0 e1 hS (fun q _ h => hFc q h) hFc hL hF
    obtain ⟨hPj, hDj⟩ := va_join hP hD isC isR s1 s2 s4 s5 k2 hFc (by rw [e1]; exact hP1) hD1
    obtain ⟨t2, a1, b1⟩ := K v w1 hpost T'.heap (locs ++ L9) ls hPj hDj k3 hl T' rfl X'
    exact ⟨t2, step t2 a1, b1⟩
  · obtain ⟨k1, k2, k3⟩ := vx_keep h0 e1 hS (fun q _ h => hFc q h) hFc hL hF
    obtain ⟨hPj, hDj⟩ := va_join hP hD isC isR s1 s2 s4 s5 k2 hFc (by rw [e1]; exact hP1) hD1
    obtain ⟨t2, a1, b1⟩ := Kx E9 w1 hq T'.heap (locs ++ L9) ls q ce st hPj hDj k3 hl (by rw [e1]; exact hce) hcv hcl T' rfl X'
    exact ⟨t2, step.trans a1, b1⟩
theorem g_callSX (isC isR : List Nat) (C : gC E l R D nL own cc cI cG cJ) (f : gS own ix y b nL' ret n') (hM : gMex l y b nL' ret rm D cI cG cJ as wc Post QX) (hs : gSp w wc wr isC isR)
    (hR : rm.frames + 1 ≤ R.frames ∧ 8 + (nL' + 11) + rm.locals ≤ R.locals) (hf : k + rm.cells ≤ R.cells ∧ n + rm.slots ≤ R.slots) (hn : as.length = n') (hst : stk = as.reverse ++ st) (hroom : (st.map fun v => v.category).sum ≤ 8) (hd : decode cc pc = .ok (.invokestatic ix, 3))
    (Kx : ∀ (nm : String) (w1 : va_W), QX nm w1 → gWx E (k + rm.cells) (n + rm.slots) (wr ++ w1) pc L nm)
    (K : ∀ (v : Option Value) (w1 : va_W), Post v w1 → gW E (k + rm.cells) (n + rm.slots) (wr ++ w1) (pc + 3) L (v.toList ++ st)) : gW E k n w pc L stk := by
  obtain ⟨p, l, e, R, s, m, args, below, meth, c, A, D, nL, Q⟩ := E
  obtain ⟨rfl, rfl, rfl, rfl, hx, hb, hml, hown, hts, hK, hO, hA, hZ⟩ := C
  obtain ⟨f1, f2, f4, f5, f7, f8, f9⟩ := f
  obtain ⟨s1, s2, s3, s4, s5⟩ := hs
  intro H locs ls hP hD hS hl
  have hDc := hD.sub isC s3 s1
  have hPc := gP_sub hP isC s1
  have hFc := va_free (wc := wc) hD hS hA isC s1
  have hgood : GoodIn LW (va_wsS own ix y (gWs y b nL' ret)) := by
    intro w hw
    rcases List.mem_append.mp hw with h1 | h1
    · simp only [List.mem_cons, List.not_mem_nil, or_false] at h1
      rcases h1 with rfl | rfl | rfl
      · exact LW_in f1
      · exact LW_in f2
      · exact LW_in f4
    · exact gWs_in f5 w h1
  have run := vx_runS (As := as) (rest := st) (H := H) (locs := locs) (cells := k) (slots := n) (l := l) (e := e) (below := below) (meth := meth) (g := F0 m pc ls stk) ⟨hx, hb, hml, hown, hts⟩ (hM H.size) (va_cwS n' hts hgood rfl rfl rfl ⟨f7, f8, f9⟩ hR) ⟨gPre_blind, fun U hU hW => ⟨rfl, by rw [hU], by rw [hU]; exact hPc, va_K.moved hW.alike hK, va_AOA.moved hW.alike hO, hDc.weaken (fun _ _ _ _ => trivial), gZ_at hZ hS hFc hU hW⟩⟩ rfl hn hl.1 hst (lv_room hroom) hd hf
  intro T hT X
  rcases run T hT X with ⟨v, st₀, t, T', L9, h0, X', hL, e1, e2, ⟨⟨v', w1, hv, hpost, hP1, hD1⟩, hF⟩, step⟩ | ⟨q, st₀, t, T', L9, E9, ce, h0, X', hL, e1, e2, ⟨w1, -, ⟨hq, hP1, hD1⟩, hF⟩, hce, hcv, hcl, step⟩
  · cases hv
    obtain ⟨k1, k2, k3⟩ := vx_keep h0 e1 hS (fun q _ h => hFc q h) hFc hL hF
    obtain ⟨hPj, hDj⟩ := va_join hP hD isC isR s1 s2 s4 s5 k2 hFc (by rw [e1]; exact hP1) hD1
    obtain ⟨t2, a1, b1⟩ := K v w1 hpost T'.heap (locs ++ L9) ls hPj hDj k3 hl T' rfl X'
    exact ⟨t2, step t2 a1, b1⟩
  · obtain ⟨k1, k2, k3⟩ := vx_keep h0 e1 hS (fun q _ h => hFc q h) hFc hL hF
    obtain ⟨hPj, hDj⟩ := va_join hP hD isC isR s1 s2 s4 s5 k2 hFc (by rw [e1]; exact hP1) hD1
    obtain ⟨t2, a1, b1⟩ := Kx E9 w1 hq T'.heap (locs ++ L9) ls q ce st hPj hDj k3 hl (by rw [e1]; exact hce) hcv hcl T' rfl X'
    exact ⟨t2, step.trans a1, b1⟩
/-- Math.min -/
def gMn (own : String) (ix : Nat) : Prop := Cond.methodLink own ix Lib.Math.min.name ∈ LW ∧ Cond.static Lib.Math.min.name ∈ LW ∧ Cond.initialized "java/lang/Math" ∈ LW ∧ Cond.code Lib.Math.min.name Lib.Math.min.code 2 (some .int) ∈ LW
theorem g_min {u v : Int} (C : gC E l R D nL own cc cI cG cJ) (f : gMn own ix) (hu : zr u) (hv : zr v) (hR : 1 ≤ R.frames ∧ 21 ≤ R.locals ∧ k ≤ R.cells ∧ n ≤ R.slots) (hroom : (st.map fun v => v.category).sum ≤ 8) (hd : decode cc pc = .ok (.invokestatic ix, 3)) (K : gW E k n w (pc + 3) L (.int (zI (min u v)) :: st)) : gW E k n w pc L (.int (zI v) :: .int (zI u) :: st) := by
  obtain ⟨p, l, e, R, s, m, args, below, meth, c, A, D, nL, Q⟩ := E
  obtain ⟨rfl, rfl, rfl, rfl, hx, hb, hml, hown, hts, hK, hO, hA, hZ⟩ := C
  obtain ⟨f1, f2, f3, f4⟩ := f
  intro H locs ls hP hD hS hl
  refine va_mmin hx hb (hml.trans hl.1.symm) hown (hts _ f1) (hts _ f2) (hts _ f3) (hts _ f4) hR.1 (Nat.le_trans (Nat.add_le_add_right hroom 13) hR.2.1) hR.2.2.1 hR.2.2.2 hd ?_
  rw [zI_min hu hv]
  exact K H locs ls hP hD hS hl
/-- new int[N] -/
theorem g_newi {N : Nat} (C : gC E l R D nL own cc cI cG cJ) (f : Cond.arrayClass .int ∈ LW) (hN : N ≤ 2000) (hR : k + 1 ≤ R.cells ∧ n + N ≤ R.slots) (hd : decode cc pc = .ok (.newarray .int, 2)) (K : ∀ q : Nat, gW E (k + 1) (n + N) (w ++ [(q, .inl (cI, N, .inl (zA (fun _ => 0))))]) (pc + 2) L (.ref q :: st)) : gW E k n w pc L (.int (zI N) :: st) := by
  obtain ⟨p, l, e, R, s, m, args, below, meth, c, A, D, nL, Q⟩ := E
  obtain ⟨rfl, rfl, rfl, rfl, hx, hb, hml, hown, hts, hK, hO, hA, hZ⟩ := C
  intro H locs ls hP hD hS hl
  have hNr : zr (N : Int) := ⟨by omega, by omega⟩
  have h1 : ¬ zI (N : Int) < 0 := fun q => by
    have := (zI_lt hNr zr0).mp q
    omega
  have h2 : (zI (N : Int)).toNatClampNeg = N := by
    have h3 : (N : Int) < 2 ^ 31 := by omega
    have h4 : -2 ^ 31 ≤ (N : Int) := by omega
    exact Int32.toNatClampNeg_ofInt_of_le h4 h3
  have h5 : N * componentBytes .int ≤ 536870912 := by
    show N * 4 ≤ _
    omega
  refine va_newa (atype := .int) (ty := .int) (N' := N) (a0 := (N, .inl (zA (fun _ => 0)))) hx hb (hts _ f) rfl hK hP hD hS hA (fun _ => rfl) h1 h2 h5 hR.1 hR.2 hd (fun q cA H1 hK1 hP1 hD1 hS1 => ?_)
  have e1 : some cA = some cI := (hK1.2 3 _ rfl).2.symm.trans (hK.2 0 _ rfl).2
  cases e1
  exact K q H1 locs ls hP1 hD1 hS1 hl
end GC2
end
section
/-! the words of fields and calls, by their places in LW -/
theorem mr_1 : ∀ w ∈ wsL_law0_r1, w ∈ LW := fun w h => List.mem_append_left _ (List.mem_append_left _ (List.mem_append_left _ (List.mem_append_left _ (List.mem_append_left _ (List.mem_append_left _ (List.mem_append_left _ (List.mem_append_left _ (List.mem_append_left _ (List.mem_append_left _ h)))))))))
theorem mr_2 : ∀ w ∈ wsL_law0_r2, w ∈ LW := fun w h => List.mem_append_left _ (List.mem_append_left _ (List.mem_append_left _ (List.mem_append_left _ (List.mem_append_left _ (List.mem_append_left _ (List.mem_append_left _ (List.mem_append_left _ (List.mem_append_left _ (List.mem_append_right _ (List.mem_append_left _ h))))))))))
theorem mr_3 : ∀ w ∈ wsL_law0_r3, w ∈ LW := fun w h => List.mem_append_left _ (List.mem_append_left _ (List.mem_append_left _ (List.mem_append_left _ (List.mem_append_left _ (List.mem_append_left _ (List.mem_append_left _ (List.mem_append_left _ (List.mem_append_left _ (List.mem_append_right _ (List.mem_append_right _ (List.mem_append_left _ h)))))))))))
theorem mr_4 : ∀ w ∈ wsL_law0_r4, w ∈ LW := fun w h => List.mem_append_left _ (List.mem_append_left _ (List.mem_append_left _ (List.mem_append_left _ (List.mem_append_left _ (List.mem_append_left _ (List.mem_append_left _ (List.mem_append_left _ (List.mem_append_left _ (List.mem_append_right _ (List.mem_append_right _ (List.mem_append_right _ (List.mem_append_left _ h))))))))))))
theorem mr_5 : ∀ w ∈ wsL_law0_r5, w ∈ LW := fun w h => List.mem_append_left _ (List.mem_append_left _ (List.mem_append_left _ (List.mem_append_left _ (List.mem_append_left _ (List.mem_append_left _ (List.mem_append_left _ (List.mem_append_left _ (List.mem_append_left _ (List.mem_append_right _ (List.mem_append_right _ (List.mem_append_right _ (List.mem_append_right _ (List.mem_append_left _ h)))))))))))))
theorem mr_6 : ∀ w ∈ wsL_law0_r6, w ∈ LW := fun w h => List.mem_append_left _ (List.mem_append_left _ (List.mem_append_left _ (List.mem_append_left _ (List.mem_append_left _ (List.mem_append_left _ (List.mem_append_left _ (List.mem_append_left _ (List.mem_append_left _ (List.mem_append_right _ (List.mem_append_right _ (List.mem_append_right _ (List.mem_append_right _ (List.mem_append_right _ (List.mem_append_left _ h))))))))))))))
theorem mr_7 : ∀ w ∈ wsL_law0_r7, w ∈ LW := fun w h => List.mem_append_left _ (List.mem_append_left _ (List.mem_append_left _ (List.mem_append_left _ (List.mem_append_left _ (List.mem_append_left _ (List.mem_append_left _ (List.mem_append_left _ (List.mem_append_left _ (List.mem_append_right _ (List.mem_append_right _ (List.mem_append_right _ (List.mem_append_right _ (List.mem_append_right _ (List.mem_append_right _ (List.mem_append_left _ h)))))))))))))))
theorem mr_8 : ∀ w ∈ wsL_law0_r8, w ∈ LW := fun w h => List.mem_append_left _ (List.mem_append_left _ (List.mem_append_left _ (List.mem_append_left _ (List.mem_append_left _ (List.mem_append_left _ (List.mem_append_left _ (List.mem_append_left _ (List.mem_append_left _ (List.mem_append_right _ (List.mem_append_right _ (List.mem_append_right _ (List.mem_append_right _ (List.mem_append_right _ (List.mem_append_right _ (List.mem_append_right _ (List.mem_append_left _ h))))))))))))))))
theorem mr_9 : ∀ w ∈ wsL_law0_r9, w ∈ LW := fun w h => List.mem_append_left _ (List.mem_append_left _ (List.mem_append_left _ (List.mem_append_left _ (List.mem_append_left _ (List.mem_append_left _ (List.mem_append_left _ (List.mem_append_left _ (List.mem_append_left _ (List.mem_append_right _ (List.mem_append_right _ (List.mem_append_right _ (List.mem_append_right _ (List.mem_append_right _ (List.mem_append_right _ (List.mem_append_right _ (List.mem_append_right _ (List.mem_append_left _ h)))))))))))))))))
theorem mr_10 : ∀ w ∈ wsL_law0_r10, w ∈ LW := fun w h => List.mem_append_left _ (List.mem_append_left _ (List.mem_append_left _ (List.mem_append_left _ (List.mem_append_left _ (List.mem_append_left _ (List.mem_append_left _ (List.mem_append_left _ (List.mem_append_left _ (List.mem_append_right _ (List.mem_append_right _ (List.mem_append_right _ (List.mem_append_right _ (List.mem_append_right _ (List.mem_append_right _ (List.mem_append_right _ (List.mem_append_right _ (List.mem_append_right _ (List.mem_append_left _ h))))))))))))))))))
theorem mr_11 : ∀ w ∈ wsL_law0_r11, w ∈ LW := fun w h => List.mem_append_left _ (List.mem_append_left _ (List.mem_append_left _ (List.mem_append_left _ (List.mem_append_left _ (List.mem_append_left _ (List.mem_append_left _ (List.mem_append_left _ (List.mem_append_left _ (List.mem_append_right _ (List.mem_append_right _ (List.mem_append_right _ (List.mem_append_right _ (List.mem_append_right _ (List.mem_append_right _ (List.mem_append_right _ (List.mem_append_right _ (List.mem_append_right _ (List.mem_append_right _ (List.mem_append_left _ h)))))))))))))))))))
theorem mr_12 : ∀ w ∈ wsL_law0_r12, w ∈ LW := fun w h => List.mem_append_left _ (List.mem_append_left _ (List.mem_append_left _ (List.mem_append_left _ (List.mem_append_left _ (List.mem_append_left _ (List.mem_append_left _ (List.mem_append_left _ (List.mem_append_left _ (List.mem_append_right _ (List.mem_append_right _ (List.mem_append_right _ (List.mem_append_right _ (List.mem_append_right _ (List.mem_append_right _ (List.mem_append_right _ (List.mem_append_right _ (List.mem_append_right _ (List.mem_append_right _ (List.mem_append_right _ (List.mem_append_left _ h))))))))))))))))))))
theorem mr_13 : ∀ w ∈ wsL_law0_r13, w ∈ LW := fun w h => List.mem_append_left _ (List.mem_append_left _ (List.mem_append_left _ (List.mem_append_left _ (List.mem_append_left _ (List.mem_append_left _ (List.mem_append_left _ (List.mem_append_left _ (List.mem_append_left _ (List.mem_append_right _ (List.mem_append_right _ (List.mem_append_right _ (List.mem_append_right _ (List.mem_append_right _ (List.mem_append_right _ (List.mem_append_right _ (List.mem_append_right _ (List.mem_append_right _ (List.mem_append_right _ (List.mem_append_right _ (List.mem_append_right _ (List.mem_append_left _ h)))))))))))))))))))))
theorem mr_14 : ∀ w ∈ wsL_law0_r14, w ∈ LW := fun w h => List.mem_append_left _ (List.mem_append_left _ (List.mem_append_left _ (List.mem_append_left _ (List.mem_append_left _ (List.mem_append_left _ (List.mem_append_left _ (List.mem_append_left _ (List.mem_append_left _ (List.mem_append_right _ (List.mem_append_right _ (List.mem_append_right _ (List.mem_append_right _ (List.mem_append_right _ (List.mem_append_right _ (List.mem_append_right _ (List.mem_append_right _ (List.mem_append_right _ (List.mem_append_right _ (List.mem_append_right _ (List.mem_append_right _ (List.mem_append_right _ (List.mem_append_left _ h))))))))))))))))))))))
theorem mr_15 : ∀ w ∈ wsL_law0_r15, w ∈ LW := fun w h => List.mem_append_left _ (List.mem_append_left _ (List.mem_append_left _ (List.mem_append_left _ (List.mem_append_left _ (List.mem_append_left _ (List.mem_append_left _ (List.mem_append_left _ (List.mem_append_left _ (List.mem_append_right _ (List.mem_append_right _ (List.mem_append_right _ (List.mem_append_right _ (List.mem_append_right _ (List.mem_append_right _ (List.mem_append_right _ (List.mem_append_right _ (List.mem_append_right _ (List.mem_append_right _ (List.mem_append_right _ (List.mem_append_right _ (List.mem_append_right _ (List.mem_append_right _ (List.mem_append_left _ h)))))))))))))))))))))))
theorem mr_16 : ∀ w ∈ wsL_law0_r16, w ∈ LW := fun w h => List.mem_append_left _ (List.mem_append_left _ (List.mem_append_left _ (List.mem_append_left _ (List.mem_append_left _ (List.mem_append_left _ (List.mem_append_left _ (List.mem_append_left _ (List.mem_append_left _ (List.mem_append_right _ (List.mem_append_right _ (List.mem_append_right _ (List.mem_append_right _ (List.mem_append_right _ (List.mem_append_right _ (List.mem_append_right _ (List.mem_append_right _ (List.mem_append_right _ (List.mem_append_right _ (List.mem_append_right _ (List.mem_append_right _ (List.mem_append_right _ (List.mem_append_right _ (List.mem_append_right _ (List.mem_append_left _ h))))))))))))))))))))))))
theorem mr_17 : ∀ w ∈ wsL_law0_r17, w ∈ LW := fun w h => List.mem_append_left _ (List.mem_append_left _ (List.mem_append_left _ (List.mem_append_left _ (List.mem_append_left _ (List.mem_append_left _ (List.mem_append_left _ (List.mem_append_left _ (List.mem_append_left _ (List.mem_append_right _ (List.mem_append_right _ (List.mem_append_right _ (List.mem_append_right _ (List.mem_append_right _ (List.mem_append_right _ (List.mem_append_right _ (List.mem_append_right _ (List.mem_append_right _ (List.mem_append_right _ (List.mem_append_right _ (List.mem_append_right _ (List.mem_append_right _ (List.mem_append_right _ (List.mem_append_right _ (List.mem_append_right _ (List.mem_append_left _ h)))))))))))))))))))))))))
theorem mr_18 : ∀ w ∈ wsL_law0_r18, w ∈ LW := fun w h => List.mem_append_left _ (List.mem_append_left _ (List.mem_append_left _ (List.mem_append_left _ (List.mem_append_left _ (List.mem_append_left _ (List.mem_append_left _ (List.mem_append_left _ (List.mem_append_left _ (List.mem_append_right _ (List.mem_append_right _ (List.mem_append_right _ (List.mem_append_right _ (List.mem_append_right _ (List.mem_append_right _ (List.mem_append_right _ (List.mem_append_right _ (List.mem_append_right _ (List.mem_append_right _ (List.mem_append_right _ (List.mem_append_right _ (List.mem_append_right _ (List.mem_append_right _ (List.mem_append_right _ (List.mem_append_right _ (List.mem_append_right _ (List.mem_append_left _ h))))))))))))))))))))))))))
theorem mr_19 : ∀ w ∈ wsL_law0_r19, w ∈ LW := fun w h => List.mem_append_left _ (List.mem_append_left _ (List.mem_append_left _ (List.mem_append_left _ (List.mem_append_left _ (List.mem_append_left _ (List.mem_append_left _ (List.mem_append_left _ (List.mem_append_left _ (List.mem_append_right _ (List.mem_append_right _ (List.mem_append_right _ (List.mem_append_right _ (List.mem_append_right _ (List.mem_append_right _ (List.mem_append_right _ (List.mem_append_right _ (List.mem_append_right _ (List.mem_append_right _ (List.mem_append_right _ (List.mem_append_right _ (List.mem_append_right _ (List.mem_append_right _ (List.mem_append_right _ (List.mem_append_right _ (List.mem_append_right _ (List.mem_append_right _ (List.mem_append_left _ h)))))))))))))))))))))))))))
theorem mr_20 : ∀ w ∈ wsL_law0_r20, w ∈ LW := fun w h => List.mem_append_left _ (List.mem_append_left _ (List.mem_append_left _ (List.mem_append_left _ (List.mem_append_left _ (List.mem_append_left _ (List.mem_append_left _ (List.mem_append_left _ (List.mem_append_left _ (List.mem_append_right _ (List.mem_append_right _ (List.mem_append_right _ (List.mem_append_right _ (List.mem_append_right _ (List.mem_append_right _ (List.mem_append_right _ (List.mem_append_right _ (List.mem_append_right _ (List.mem_append_right _ (List.mem_append_right _ (List.mem_append_right _ (List.mem_append_right _ (List.mem_append_right _ (List.mem_append_right _ (List.mem_append_right _ (List.mem_append_right _ (List.mem_append_right _ (List.mem_append_right _ (List.mem_append_left _ h))))))))))))))))))))))))))))
theorem mr_21 : ∀ w ∈ wsL_law0_r21, w ∈ LW := fun w h => List.mem_append_left _ (List.mem_append_left _ (List.mem_append_left _ (List.mem_append_left _ (List.mem_append_left _ (List.mem_append_left _ (List.mem_append_left _ (List.mem_append_left _ (List.mem_append_left _ (List.mem_append_right _ (List.mem_append_right _ (List.mem_append_right _ (List.mem_append_right _ (List.mem_append_right _ (List.mem_append_right _ (List.mem_append_right _ (List.mem_append_right _ (List.mem_append_right _ (List.mem_append_right _ (List.mem_append_right _ (List.mem_append_right _ (List.mem_append_right _ (List.mem_append_right _ (List.mem_append_right _ (List.mem_append_right _ (List.mem_append_right _ (List.mem_append_right _ (List.mem_append_right _ (List.mem_append_right _ (List.mem_append_left _ h)))))))))))))))))))))))))))))
theorem mr_22 : ∀ w ∈ wsL_law0_r22, w ∈ LW := fun w h => List.mem_append_left _ (List.mem_append_left _ (List.mem_append_left _ (List.mem_append_left _ (List.mem_append_left _ (List.mem_append_left _ (List.mem_append_left _ (List.mem_append_left _ (List.mem_append_left _ (List.mem_append_right _ (List.mem_append_right _ (List.mem_append_right _ (List.mem_append_right _ (List.mem_append_right _ (List.mem_append_right _ (List.mem_append_right _ (List.mem_append_right _ (List.mem_append_right _ (List.mem_append_right _ (List.mem_append_right _ (List.mem_append_right _ (List.mem_append_right _ (List.mem_append_right _ (List.mem_append_right _ (List.mem_append_right _ (List.mem_append_right _ (List.mem_append_right _ (List.mem_append_right _ (List.mem_append_right _ (List.mem_append_right _ (List.mem_append_left _ h))))))))))))))))))))))))))))))
theorem mr_23 : ∀ w ∈ wsL_law0_r23, w ∈ LW := fun w h => List.mem_append_left _ (List.mem_append_left _ (List.mem_append_left _ (List.mem_append_left _ (List.mem_append_left _ (List.mem_append_left _ (List.mem_append_left _ (List.mem_append_left _ (List.mem_append_left _ (List.mem_append_right _ (List.mem_append_right _ (List.mem_append_right _ (List.mem_append_right _ (List.mem_append_right _ (List.mem_append_right _ (List.mem_append_right _ (List.mem_append_right _ (List.mem_append_right _ (List.mem_append_right _ (List.mem_append_right _ (List.mem_append_right _ (List.mem_append_right _ (List.mem_append_right _ (List.mem_append_right _ (List.mem_append_right _ (List.mem_append_right _ (List.mem_append_right _ (List.mem_append_right _ (List.mem_append_right _ (List.mem_append_right _ (List.mem_append_right _ (List.mem_append_left _ h)))))))))))))))))))))))))))))))
theorem mr_24 : ∀ w ∈ wsL_law0_r24, w ∈ LW := fun w h => List.mem_append_left _ (List.mem_append_left _ (List.mem_append_left _ (List.mem_append_left _ (List.mem_append_left _ (List.mem_append_left _ (List.mem_append_left _ (List.mem_append_left _ (List.mem_append_left _ (List.mem_append_right _ (List.mem_append_right _ (List.mem_append_right _ (List.mem_append_right _ (List.mem_append_right _ (List.mem_append_right _ (List.mem_append_right _ (List.mem_append_right _ (List.mem_append_right _ (List.mem_append_right _ (List.mem_append_right _ (List.mem_append_right _ (List.mem_append_right _ (List.mem_append_right _ (List.mem_append_right _ (List.mem_append_right _ (List.mem_append_right _ (List.mem_append_right _ (List.mem_append_right _ (List.mem_append_right _ (List.mem_append_right _ (List.mem_append_right _ (List.mem_append_right _ (List.mem_append_left _ h))))))))))))))))))))))))))))))))
theorem mr_25 : ∀ w ∈ wsL_law0_r25, w ∈ LW := fun w h => List.mem_append_left _ (List.mem_append_left _ (List.mem_append_left _ (List.mem_append_left _ (List.mem_append_left _ (List.mem_append_left _ (List.mem_append_left _ (List.mem_append_left _ (List.mem_append_left _ (List.mem_append_right _ (List.mem_append_right _ (List.mem_append_right _ (List.mem_append_right _ (List.mem_append_right _ (List.mem_append_right _ (List.mem_append_right _ (List.mem_append_right _ (List.mem_append_right _ (List.mem_append_right _ (List.mem_append_right _ (List.mem_append_right _ (List.mem_append_right _ (List.mem_append_right _ (List.mem_append_right _ (List.mem_append_right _ (List.mem_append_right _ (List.mem_append_right _ (List.mem_append_right _ (List.mem_append_right _ (List.mem_append_right _ (List.mem_append_right _ (List.mem_append_right _ (List.mem_append_right _ (List.mem_append_left _ h)))))))))))))))))))))))))))))))))
theorem mr_26 : ∀ w ∈ wsL_law0_r26, w ∈ LW := fun w h => List.mem_append_left _ (List.mem_append_left _ (List.mem_append_left _ (List.mem_append_left _ (List.mem_append_left _ (List.mem_append_left _ (List.mem_append_left _ (List.mem_append_left _ (List.mem_append_left _ (List.mem_append_right _ (List.mem_append_right _ (List.mem_append_right _ (List.mem_append_right _ (List.mem_append_right _ (List.mem_append_right _ (List.mem_append_right _ (List.mem_append_right _ (List.mem_append_right _ (List.mem_append_right _ (List.mem_append_right _ (List.mem_append_right _ (List.mem_append_right _ (List.mem_append_right _ (List.mem_append_right _ (List.mem_append_right _ (List.mem_append_right _ (List.mem_append_right _ (List.mem_append_right _ (List.mem_append_right _ (List.mem_append_right _ (List.mem_append_right _ (List.mem_append_right _ (List.mem_append_right _ (List.mem_append_right _ (List.mem_append_left _ h))))))))))))))))))))))))))))))))))
theorem mr_27 : ∀ w ∈ wsL_law0_r27, w ∈ LW := fun w h => List.mem_append_left _ (List.mem_append_left _ (List.mem_append_left _ (List.mem_append_left _ (List.mem_append_left _ (List.mem_append_left _ (List.mem_append_left _ (List.mem_append_left _ (List.mem_append_left _ (List.mem_append_right _ (List.mem_append_right _ (List.mem_append_right _ (List.mem_append_right _ (List.mem_append_right _ (List.mem_append_right _ (List.mem_append_right _ (List.mem_append_right _ (List.mem_append_right _ (List.mem_append_right _ (List.mem_append_right _ (List.mem_append_right _ (List.mem_append_right _ (List.mem_append_right _ (List.mem_append_right _ (List.mem_append_right _ (List.mem_append_right _ (List.mem_append_right _ (List.mem_append_right _ (List.mem_append_right _ (List.mem_append_right _ (List.mem_append_right _ (List.mem_append_right _ (List.mem_append_right _ (List.mem_append_right _ (List.mem_append_right _ (List.mem_append_left _ h)))))))))))))))))))))))))))))))))))
theorem mr_28 : ∀ w ∈ wsL_law0_r28, w ∈ LW := fun w h => List.mem_append_left _ (List.mem_append_left _ (List.mem_append_left _ (List.mem_append_left _ (List.mem_append_left _ (List.mem_append_left _ (List.mem_append_left _ (List.mem_append_left _ (List.mem_append_left _ (List.mem_append_right _ (List.mem_append_right _ (List.mem_append_right _ (List.mem_append_right _ (List.mem_append_right _ (List.mem_append_right _ (List.mem_append_right _ (List.mem_append_right _ (List.mem_append_right _ (List.mem_append_right _ (List.mem_append_right _ (List.mem_append_right _ (List.mem_append_right _ (List.mem_append_right _ (List.mem_append_right _ (List.mem_append_right _ (List.mem_append_right _ (List.mem_append_right _ (List.mem_append_right _ (List.mem_append_right _ (List.mem_append_right _ (List.mem_append_right _ (List.mem_append_right _ (List.mem_append_right _ (List.mem_append_right _ (List.mem_append_right _ (List.mem_append_right _ (h))))))))))))))))))))))))))))))))))))
theorem cL_72 : gCt RL 72 yX3_init cX3_init 1 0 := ⟨(mr_1 _ (List.mem_of_getElem? (i := 7) rfl)), (mr_1 _ (List.mem_of_getElem? (i := 8) rfl)), (mr_1 _ (List.mem_of_getElem? (i := 2) rfl)), (mr_1 _ (List.mem_of_getElem? (i := 9) rfl)), rfl, by decide +kernel, by decide +kernel, by decide +kernel⟩
theorem fX3_12 : gF RX3 12 3 0 RX3 TX3 8 := ⟨(mr_1 _ (List.mem_of_getElem? (i := 16) rfl)), rfl, by decide, inlX3⟩
theorem pX3_12 : gP RX3 12 3 0 RX3 TX3 8 (.object "StampVendor$Stamps") true := ⟨fX3_12, ⟨tyX3, tyX3_ok, nmX3⟩, rfl, tyX3_ok 0 (by decide), rfl⟩
theorem fX3_16 : gF RX3 16 3 1 RX3 TX3 8 := ⟨(mr_1 _ (List.mem_of_getElem? (i := 17) rfl)), rfl, by decide, inlX3⟩
theorem pX3_16 : gP RX3 16 3 1 RX3 TX3 8 (.object "StampVendor$Stamps") true := ⟨fX3_16, ⟨tyX3, tyX3_ok, nmX3⟩, rfl, tyX3_ok 1 (by decide), rfl⟩
theorem fX3_22 : gF RX3 22 3 2 RX3 TX3 8 := ⟨(mr_1 _ (List.mem_of_getElem? (i := 21) rfl)), rfl, by decide, inlX3⟩
theorem pX3_22 : gP RX3 22 3 2 RX3 TX3 8 (.object "StampVendor$StockTable") true := ⟨fX3_22, ⟨tyX3, tyX3_ok, nmX3⟩, rfl, tyX3_ok 2 (by decide), rfl⟩
theorem fX3_29 : gF RX3 29 3 3 RX3 TX3 8 := ⟨(mr_2 _ (List.mem_of_getElem? (i := 1) rfl)), rfl, by decide, inlX3⟩
theorem pX3_29 : gP RX3 29 3 3 RX3 TX3 8 (.object "StampVendor$PrintTable") true := ⟨fX3_29, ⟨tyX3, tyX3_ok, nmX3⟩, rfl, tyX3_ok 3 (by decide), rfl⟩
theorem fX3_33 : gF RX3 33 3 4 RX3 TX3 8 := ⟨(mr_2 _ (List.mem_of_getElem? (i := 2) rfl)), rfl, by decide, inlX3⟩
theorem pX3_33 : gP RX3 33 3 4 RX3 TX3 8 (.int) false := ⟨fX3_33, ⟨tyX3, tyX3_ok, nmX3⟩, rfl, tyX3_ok 4 (by decide), rfl⟩
theorem fX3_37 : gF RX3 37 3 5 RX3 TX3 8 := ⟨(mr_2 _ (List.mem_of_getElem? (i := 3) rfl)), rfl, by decide, inlX3⟩
theorem pX3_37 : gP RX3 37 3 5 RX3 TX3 8 (.int) false := ⟨fX3_37, ⟨tyX3, tyX3_ok, nmX3⟩, rfl, tyX3_ok 5 (by decide), rfl⟩
theorem fX3_40 : gF RX3 40 3 6 RX3 TX3 8 := ⟨(mr_2 _ (List.mem_of_getElem? (i := 4) rfl)), rfl, by decide, inlX3⟩
theorem pX3_40 : gP RX3 40 3 6 RX3 TX3 8 (.int) false := ⟨fX3_40, ⟨tyX3, tyX3_ok, nmX3⟩, rfl, tyX3_ok 6 (by decide), rfl⟩
theorem fX3_43 : gF RX3 43 3 7 RX3 TX3 8 := ⟨(mr_2 _ (List.mem_of_getElem? (i := 5) rfl)), rfl, by decide, inlX3⟩
theorem pX3_43 : gP RX3 43 3 7 RX3 TX3 8 (.int) false := ⟨fX3_43, ⟨tyX3, tyX3_ok, nmX3⟩, rfl, tyX3_ok 7 (by decide), rfl⟩
theorem fX1_9 : gF RX1 9 1 0 RX1 TX1 4 := ⟨(mr_2 _ (List.mem_of_getElem? (i := 10) rfl)), rfl, by decide, inlX1⟩
theorem pX1_9 : gP RX1 9 1 0 RX1 TX1 4 (.array .int) true := ⟨fX1_9, ⟨tyX1, tyX1_ok, nmX1⟩, rfl, tyX1_ok 0 (by decide), rfl⟩
theorem fX1_15 : gF RX1 15 1 1 RX1 TX1 4 := ⟨(mr_2 _ (List.mem_of_getElem? (i := 11) rfl)), rfl, by decide, inlX1⟩
theorem pX1_15 : gP RX1 15 1 1 RX1 TX1 4 (.array .int) true := ⟨fX1_15, ⟨tyX1, tyX1_ok, nmX1⟩, rfl, tyX1_ok 1 (by decide), rfl⟩
theorem fX1_18 : gF RX1 18 1 2 RX1 TX1 4 := ⟨(mr_2 _ (List.mem_of_getElem? (i := 12) rfl)), rfl, by decide, inlX1⟩
theorem pX1_18 : gP RX1 18 1 2 RX1 TX1 4 (.array .int) true := ⟨fX1_18, ⟨tyX1, tyX1_ok, nmX1⟩, rfl, tyX1_ok 2 (by decide), rfl⟩
theorem fX1_21 : gF RX1 21 1 3 RX1 TX1 4 := ⟨(mr_2 _ (List.mem_of_getElem? (i := 13) rfl)), rfl, by decide, inlX1⟩
theorem pX1_21 : gP RX1 21 1 3 RX1 TX1 4 (.int) false := ⟨fX1_21, ⟨tyX1, tyX1_ok, nmX1⟩, rfl, tyX1_ok 3 (by decide), rfl⟩
theorem fX2_11 : gF RX2 11 2 0 RX2 TX2 7 := ⟨(mr_2 _ (List.mem_of_getElem? (i := 18) rfl)), rfl, by decide, inlX2⟩
theorem pX2_11 : gP RX2 11 2 0 RX2 TX2 7 (.array (.array .int)) true := ⟨fX2_11, ⟨tyX2, tyX2_ok, nmX2⟩, rfl, tyX2_ok 0 (by decide), rfl⟩
theorem fX2_16 : gF RX2 16 2 1 RX2 TX2 7 := ⟨(mr_2 _ (List.mem_of_getElem? (i := 19) rfl)), rfl, by decide, inlX2⟩
theorem pX2_16 : gP RX2 16 2 1 RX2 TX2 7 (.array .int) true := ⟨fX2_16, ⟨tyX2, tyX2_ok, nmX2⟩, rfl, tyX2_ok 1 (by decide), rfl⟩
theorem fX2_20 : gF RX2 20 2 2 RX2 TX2 7 := ⟨(mr_2 _ (List.mem_of_getElem? (i := 20) rfl)), rfl, by decide, inlX2⟩
theorem pX2_20 : gP RX2 20 2 2 RX2 TX2 7 (.array .int) true := ⟨fX2_20, ⟨tyX2, tyX2_ok, nmX2⟩, rfl, tyX2_ok 2 (by decide), rfl⟩
theorem fX2_23 : gF RX2 23 2 3 RX2 TX2 7 := ⟨(mr_2 _ (List.mem_of_getElem? (i := 21) rfl)), rfl, by decide, inlX2⟩
theorem pX2_23 : gP RX2 23 2 3 RX2 TX2 7 (.array .int) true := ⟨fX2_23, ⟨tyX2, tyX2_ok, nmX2⟩, rfl, tyX2_ok 3 (by decide), rfl⟩
theorem fX2_26 : gF RX2 26 2 4 RX2 TX2 7 := ⟨(mr_2 _ (List.mem_of_getElem? (i := 22) rfl)), rfl, by decide, inlX2⟩
theorem pX2_26 : gP RX2 26 2 4 RX2 TX2 7 (.int) false := ⟨fX2_26, ⟨tyX2, tyX2_ok, nmX2⟩, rfl, tyX2_ok 4 (by decide), rfl⟩
theorem fX2_30 : gF RX2 30 2 5 RX2 TX2 7 := ⟨(mr_2 _ (List.mem_of_getElem? (i := 23) rfl)), rfl, by decide, inlX2⟩
theorem pX2_30 : gP RX2 30 2 5 RX2 TX2 7 (.int) false := ⟨fX2_30, ⟨tyX2, tyX2_ok, nmX2⟩, rfl, tyX2_ok 5 (by decide), rfl⟩
theorem fX2_33 : gF RX2 33 2 6 RX2 TX2 7 := ⟨(mr_3 _ (List.mem_of_getElem? (i := 0) rfl)), rfl, by decide, inlX2⟩
theorem pX2_33 : gP RX2 33 2 6 RX2 TX2 7 (.array .int) true := ⟨fX2_33, ⟨tyX2, tyX2_ok, nmX2⟩, rfl, tyX2_ok 6 (by decide), rfl⟩
theorem fX0_9 : gF RX0 9 0 0 RX0 TX0 3 := ⟨(mr_3 _ (List.mem_of_getElem? (i := 4) rfl)), rfl, by decide, inlX0⟩
theorem pX0_9 : gP RX0 9 0 0 RX0 TX0 3 (.array .int) true := ⟨fX0_9, ⟨tyX0, tyX0_ok, nmX0⟩, rfl, tyX0_ok 0 (by decide), rfl⟩
theorem fX0_15 : gF RX0 15 0 1 RX0 TX0 3 := ⟨(mr_3 _ (List.mem_of_getElem? (i := 5) rfl)), rfl, by decide, inlX0⟩
theorem pX0_15 : gP RX0 15 0 1 RX0 TX0 3 (.array .int) true := ⟨fX0_15, ⟨tyX0, tyX0_ok, nmX0⟩, rfl, tyX0_ok 1 (by decide), rfl⟩
theorem fX0_20 : gF RX0 20 0 2 RX0 TX0 3 := ⟨(mr_3 _ (List.mem_of_getElem? (i := 7) rfl)), rfl, by decide, inlX0⟩
theorem pX0_20 : gP RX0 20 0 2 RX0 TX0 3 (.array (.array .int)) true := ⟨fX0_20, ⟨tyX0, tyX0_ok, nmX0⟩, rfl, tyX0_ok 2 (by decide), rfl⟩
theorem cL_75 : gCt RL 75 yX4_init cX4_init 1 0 := ⟨(mr_3 _ (List.mem_of_getElem? (i := 8) rfl)), (mr_3 _ (List.mem_of_getElem? (i := 9) rfl)), (mr_1 _ (List.mem_of_getElem? (i := 5) rfl)), (mr_3 _ (List.mem_of_getElem? (i := 10) rfl)), rfl, by decide +kernel, by decide +kernel, by decide +kernel⟩
theorem fX4_9 : gF RX4 9 4 2 RX4 TX4 14 := ⟨(mr_3 _ (List.mem_of_getElem? (i := 12) rfl)), rfl, by decide, inlX4⟩
theorem pX4_9 : gP RX4 9 4 2 RX4 TX4 14 (.int) false := ⟨fX4_9, ⟨tyX4, tyX4_ok, nmX4⟩, rfl, tyX4_ok 2 (by decide), rfl⟩
theorem fX4_13 : gF RX4 13 4 6 RX4 TX4 14 := ⟨(mr_3 _ (List.mem_of_getElem? (i := 13) rfl)), rfl, by decide, inlX4⟩
theorem pX4_13 : gP RX4 13 4 6 RX4 TX4 14 (.array .int) true := ⟨fX4_13, ⟨tyX4, tyX4_ok, nmX4⟩, rfl, tyX4_ok 6 (by decide), rfl⟩
theorem fX4_17 : gF RX4 17 4 7 RX4 TX4 14 := ⟨(mr_3 _ (List.mem_of_getElem? (i := 14) rfl)), rfl, by decide, inlX4⟩
theorem pX4_17 : gP RX4 17 4 7 RX4 TX4 14 (.array .int) true := ⟨fX4_17, ⟨tyX4, tyX4_ok, nmX4⟩, rfl, tyX4_ok 7 (by decide), rfl⟩
theorem fX4_20 : gF RX4 20 4 8 RX4 TX4 14 := ⟨(mr_3 _ (List.mem_of_getElem? (i := 15) rfl)), rfl, by decide, inlX4⟩
theorem pX4_20 : gP RX4 20 4 8 RX4 TX4 14 (.array .int) true := ⟨fX4_20, ⟨tyX4, tyX4_ok, nmX4⟩, rfl, tyX4_ok 8 (by decide), rfl⟩
theorem fX4_23 : gF RX4 23 4 9 RX4 TX4 14 := ⟨(mr_3 _ (List.mem_of_getElem? (i := 16) rfl)), rfl, by decide, inlX4⟩
theorem pX4_23 : gP RX4 23 4 9 RX4 TX4 14 (.array .int) true := ⟨fX4_23, ⟨tyX4, tyX4_ok, nmX4⟩, rfl, tyX4_ok 9 (by decide), rfl⟩
theorem fX4_28 : gF RX4 28 4 10 RX4 TX4 14 := ⟨(mr_3 _ (List.mem_of_getElem? (i := 18) rfl)), rfl, by decide, inlX4⟩
theorem pX4_28 : gP RX4 28 4 10 RX4 TX4 14 (.array (.array .int)) true := ⟨fX4_28, ⟨tyX4, tyX4_ok, nmX4⟩, rfl, tyX4_ok 10 (by decide), rfl⟩
theorem fX4_31 : gF RX4 31 4 11 RX4 TX4 14 := ⟨(mr_3 _ (List.mem_of_getElem? (i := 19) rfl)), rfl, by decide, inlX4⟩
theorem pX4_31 : gP RX4 31 4 11 RX4 TX4 14 (.array .int) true := ⟨fX4_31, ⟨tyX4, tyX4_ok, nmX4⟩, rfl, tyX4_ok 11 (by decide), rfl⟩
theorem fX4_34 : gF RX4 34 4 12 RX4 TX4 14 := ⟨(mr_3 _ (List.mem_of_getElem? (i := 20) rfl)), rfl, by decide, inlX4⟩
theorem pX4_34 : gP RX4 34 4 12 RX4 TX4 14 (.array .int) true := ⟨fX4_34, ⟨tyX4, tyX4_ok, nmX4⟩, rfl, tyX4_ok 12 (by decide), rfl⟩
theorem fX4_37 : gF RX4 37 4 13 RX4 TX4 14 := ⟨(mr_3 _ (List.mem_of_getElem? (i := 21) rfl)), rfl, by decide, inlX4⟩
theorem pX4_37 : gP RX4 37 4 13 RX4 TX4 14 (.array (.array .int)) true := ⟨fX4_37, ⟨tyX4, tyX4_ok, nmX4⟩, rfl, tyX4_ok 13 (by decide), rfl⟩
theorem cL_7 : gV RL 7 yX3_addStamp cX3_addStamp 3 (some .int) 2 RX3 := ⟨(mr_4 _ (List.mem_of_getElem? (i := 4) rfl)), (mr_4 _ (List.mem_of_getElem? (i := 5) rfl)), (mr_4 _ (List.mem_of_getElem? (i := 6) rfl)), (mr_1 _ (List.mem_of_getElem? (i := 2) rfl)), (mr_4 _ (List.mem_of_getElem? (i := 7) rfl)), rfl, by decide +kernel, by decide +kernel, by decide +kernel⟩
theorem fX3_49 : gF RX3 49 1 3 RX1 TX1 4 := ⟨(mr_4 _ (List.mem_of_getElem? (i := 12) rfl)), rfl, by decide, inlX1⟩
theorem cX3_52 : gV RX3 52 yX1_hasValue cX1_hasValue 3 (some .boolean) 1 RX1 := ⟨(mr_4 _ (List.mem_of_getElem? (i := 13) rfl)), (mr_4 _ (List.mem_of_getElem? (i := 14) rfl)), (mr_4 _ (List.mem_of_getElem? (i := 15) rfl)), (mr_1 _ (List.mem_of_getElem? (i := 15) rfl)), (mr_4 _ (List.mem_of_getElem? (i := 16) rfl)), rfl, by decide +kernel, by decide +kernel, by decide +kernel⟩
theorem cX3_59 : gV RX3 59 yX1_append cX1_append 4 (some .int) 2 RX1 := ⟨(mr_4 _ (List.mem_of_getElem? (i := 17) rfl)), (mr_4 _ (List.mem_of_getElem? (i := 18) rfl)), (mr_4 _ (List.mem_of_getElem? (i := 19) rfl)), (mr_1 _ (List.mem_of_getElem? (i := 15) rfl)), (mr_4 _ (List.mem_of_getElem? (i := 20) rfl)), rfl, by decide +kernel, by decide +kernel, by decide +kernel⟩
theorem cL_81 : gV RL 81 yX4_addStamp cX4_addStamp 3 (some .int) 2 RX4 := ⟨(mr_4 _ (List.mem_of_getElem? (i := 21) rfl)), (mr_4 _ (List.mem_of_getElem? (i := 22) rfl)), (mr_4 _ (List.mem_of_getElem? (i := 23) rfl)), (mr_1 _ (List.mem_of_getElem? (i := 5) rfl)), (mr_5 _ (List.mem_of_getElem? (i := 0) rfl)), rfl, by decide +kernel, by decide +kernel, by decide +kernel⟩
theorem fX4_40 : gF RX4 40 4 0 RX4 TX4 14 := ⟨(mr_5 _ (List.mem_of_getElem? (i := 1) rfl)), rfl, by decide, inlX4⟩
theorem pX4_40 : gP RX4 40 4 0 RX4 TX4 14 (.int) false := ⟨fX4_40, ⟨tyX4, tyX4_ok, nmX4⟩, rfl, tyX4_ok 0 (by decide), rfl⟩
theorem fX4_43 : gF RX4 43 4 1 RX4 TX4 14 := ⟨(mr_5 _ (List.mem_of_getElem? (i := 2) rfl)), rfl, by decide, inlX4⟩
theorem pX4_43 : gP RX4 43 4 1 RX4 TX4 14 (.int) false := ⟨fX4_43, ⟨tyX4, tyX4_ok, nmX4⟩, rfl, tyX4_ok 1 (by decide), rfl⟩
theorem cX4_46 : gS RX4 46 yX4_isIn cX4_isIn 3 (some .boolean) 3 := ⟨(mr_5 _ (List.mem_of_getElem? (i := 3) rfl)), (mr_5 _ (List.mem_of_getElem? (i := 4) rfl)), (mr_1 _ (List.mem_of_getElem? (i := 5) rfl)), (mr_5 _ (List.mem_of_getElem? (i := 5) rfl)), by decide +kernel, by decide +kernel, by decide +kernel⟩
theorem cX4_80 : gV RX4 80 yX4_no cX4_no 2 (some .int) 1 RX4 := ⟨(mr_5 _ (List.mem_of_getElem? (i := 6) rfl)), (mr_5 _ (List.mem_of_getElem? (i := 7) rfl)), (mr_5 _ (List.mem_of_getElem? (i := 8) rfl)), (mr_1 _ (List.mem_of_getElem? (i := 5) rfl)), (mr_5 _ (List.mem_of_getElem? (i := 9) rfl)), rfl, by decide +kernel, by decide +kernel, by decide +kernel⟩
theorem cX4_83 : gV RX4 83 yX4_isThere cX4_isThere 3 (some .boolean) 1 RX4 := ⟨(mr_5 _ (List.mem_of_getElem? (i := 10) rfl)), (mr_5 _ (List.mem_of_getElem? (i := 11) rfl)), (mr_5 _ (List.mem_of_getElem? (i := 12) rfl)), (mr_1 _ (List.mem_of_getElem? (i := 5) rfl)), (mr_5 _ (List.mem_of_getElem? (i := 13) rfl)), rfl, by decide +kernel, by decide +kernel, by decide +kernel⟩
theorem cL_82 : gV RL 82 yX4_thrown cX4_thrown 1 (some .int) 0 RX4 := ⟨(mr_5 _ (List.mem_of_getElem? (i := 14) rfl)), (mr_5 _ (List.mem_of_getElem? (i := 15) rfl)), (mr_5 _ (List.mem_of_getElem? (i := 16) rfl)), (mr_1 _ (List.mem_of_getElem? (i := 5) rfl)), (mr_5 _ (List.mem_of_getElem? (i := 17) rfl)), rfl, by decide +kernel, by decide +kernel, by decide +kernel⟩
theorem cL_17 : gV RL 17 yX3_withdraw cX3_withdraw 3 (some .int) 1 RX3 := ⟨(mr_5 _ (List.mem_of_getElem? (i := 22) rfl)), (mr_5 _ (List.mem_of_getElem? (i := 23) rfl)), (mr_6 _ (List.mem_of_getElem? (i := 0) rfl)), (mr_1 _ (List.mem_of_getElem? (i := 2) rfl)), (mr_6 _ (List.mem_of_getElem? (i := 1) rfl)), rfl, by decide +kernel, by decide +kernel, by decide +kernel⟩
theorem fX3_67 : gF RX3 67 1 1 RX1 TX1 4 := ⟨(mr_6 _ (List.mem_of_getElem? (i := 2) rfl)), rfl, by decide, inlX1⟩
theorem cX3_63 : gV RX3 63 yX3_checkStamp cX3_checkStamp 2 none 1 RX3 := ⟨(mr_6 _ (List.mem_of_getElem? (i := 3) rfl)), (mr_6 _ (List.mem_of_getElem? (i := 4) rfl)), (mr_6 _ (List.mem_of_getElem? (i := 5) rfl)), (mr_1 _ (List.mem_of_getElem? (i := 2) rfl)), (mr_6 _ (List.mem_of_getElem? (i := 6) rfl)), rfl, by decide +kernel, by decide +kernel, by decide +kernel⟩
theorem cX3_71 : gV RX3 71 yX1_removeAt cX1_removeAt 3 none 1 RX1 := ⟨(mr_6 _ (List.mem_of_getElem? (i := 9) rfl)), (mr_6 _ (List.mem_of_getElem? (i := 10) rfl)), (mr_6 _ (List.mem_of_getElem? (i := 11) rfl)), (mr_1 _ (List.mem_of_getElem? (i := 15) rfl)), (mr_6 _ (List.mem_of_getElem? (i := 12) rfl)), rfl, by decide +kernel, by decide +kernel, by decide +kernel⟩
theorem cL_89 : gV RL 89 yX4_withdraw cX4_withdraw 3 (some .int) 1 RX4 := ⟨(mr_6 _ (List.mem_of_getElem? (i := 13) rfl)), (mr_6 _ (List.mem_of_getElem? (i := 14) rfl)), (mr_6 _ (List.mem_of_getElem? (i := 15) rfl)), (mr_1 _ (List.mem_of_getElem? (i := 5) rfl)), (mr_6 _ (List.mem_of_getElem? (i := 16) rfl)), rfl, by decide +kernel, by decide +kernel, by decide +kernel⟩
theorem cX4_86 : gV RX4 86 yX4_isStamp cX4_isStamp 2 (some .boolean) 1 RX4 := ⟨(mr_6 _ (List.mem_of_getElem? (i := 17) rfl)), (mr_6 _ (List.mem_of_getElem? (i := 18) rfl)), (mr_6 _ (List.mem_of_getElem? (i := 19) rfl)), (mr_1 _ (List.mem_of_getElem? (i := 5) rfl)), (mr_6 _ (List.mem_of_getElem? (i := 20) rfl)), rfl, by decide +kernel, by decide +kernel, by decide +kernel⟩
theorem cX4_89 : gS RX4 89 yX4_close cX4_close 4 none 3 := ⟨(mr_6 _ (List.mem_of_getElem? (i := 21) rfl)), (mr_6 _ (List.mem_of_getElem? (i := 22) rfl)), (mr_1 _ (List.mem_of_getElem? (i := 5) rfl)), (mr_6 _ (List.mem_of_getElem? (i := 23) rfl)), by decide +kernel, by decide +kernel, by decide +kernel⟩
theorem cL_23 : gV RL 23 yX3_print cX3_print 3 (some .int) 2 RX3 := ⟨(mr_7 _ (List.mem_of_getElem? (i := 3) rfl)), (mr_7 _ (List.mem_of_getElem? (i := 4) rfl)), (mr_7 _ (List.mem_of_getElem? (i := 5) rfl)), (mr_1 _ (List.mem_of_getElem? (i := 2) rfl)), (mr_7 _ (List.mem_of_getElem? (i := 6) rfl)), rfl, by decide +kernel, by decide +kernel, by decide +kernel⟩
theorem mX3_74 : gMn RX3 74 := ⟨(mr_7 _ (List.mem_of_getElem? (i := 7) rfl)), (mr_7 _ (List.mem_of_getElem? (i := 8) rfl)), (mr_7 _ (List.mem_of_getElem? (i := 9) rfl)), (mr_7 _ (List.mem_of_getElem? (i := 10) rfl))⟩
theorem cL_92 : gV RL 92 yX4_print cX4_print 3 (some .int) 2 RX4 := ⟨(mr_7 _ (List.mem_of_getElem? (i := 11) rfl)), (mr_7 _ (List.mem_of_getElem? (i := 12) rfl)), (mr_7 _ (List.mem_of_getElem? (i := 13) rfl)), (mr_1 _ (List.mem_of_getElem? (i := 5) rfl)), (mr_7 _ (List.mem_of_getElem? (i := 14) rfl)), rfl, by decide +kernel, by decide +kernel, by decide +kernel⟩
theorem mX4_50 : gMn RX4 50 := ⟨(mr_7 _ (List.mem_of_getElem? (i := 15) rfl)), (mr_7 _ (List.mem_of_getElem? (i := 8) rfl)), (mr_7 _ (List.mem_of_getElem? (i := 9) rfl)), (mr_7 _ (List.mem_of_getElem? (i := 10) rfl))⟩
theorem cL_26 : gV RL 26 yX3_setRoom cX3_setRoom 3 (some .int) 1 RX3 := ⟨(mr_7 _ (List.mem_of_getElem? (i := 19) rfl)), (mr_7 _ (List.mem_of_getElem? (i := 20) rfl)), (mr_7 _ (List.mem_of_getElem? (i := 21) rfl)), (mr_1 _ (List.mem_of_getElem? (i := 2) rfl)), (mr_7 _ (List.mem_of_getElem? (i := 22) rfl)), rfl, by decide +kernel, by decide +kernel, by decide +kernel⟩
theorem cX3_79 : gS RX3 79 yX3_checkRoom cX3_checkRoom 1 none 1 := ⟨(mr_7 _ (List.mem_of_getElem? (i := 23) rfl)), (mr_8 _ (List.mem_of_getElem? (i := 0) rfl)), (mr_1 _ (List.mem_of_getElem? (i := 2) rfl)), (mr_8 _ (List.mem_of_getElem? (i := 1) rfl)), by decide +kernel, by decide +kernel, by decide +kernel⟩
theorem cL_95 : gV RL 95 yX4_setRoom cX4_setRoom 3 (some .int) 1 RX4 := ⟨(mr_8 _ (List.mem_of_getElem? (i := 2) rfl)), (mr_8 _ (List.mem_of_getElem? (i := 3) rfl)), (mr_8 _ (List.mem_of_getElem? (i := 4) rfl)), (mr_1 _ (List.mem_of_getElem? (i := 5) rfl)), (mr_8 _ (List.mem_of_getElem? (i := 5) rfl)), rfl, by decide +kernel, by decide +kernel, by decide +kernel⟩
theorem cL_29 : gV RL 29 yX3_vend cX3_vend 4 (some .int) 1 RX3 := ⟨(mr_8 _ (List.mem_of_getElem? (i := 9) rfl)), (mr_8 _ (List.mem_of_getElem? (i := 10) rfl)), (mr_8 _ (List.mem_of_getElem? (i := 11) rfl)), (mr_1 _ (List.mem_of_getElem? (i := 2) rfl)), (mr_8 _ (List.mem_of_getElem? (i := 12) rfl)), rfl, by decide +kernel, by decide +kernel, by decide +kernel⟩
theorem fX3_96 : gF RX3 96 2 6 RX2 TX2 7 := ⟨(mr_8 _ (List.mem_of_getElem? (i := 13) rfl)), rfl, by decide, inlX2⟩
theorem cX3_82 : gS RX3 82 yX3_checkPostage cX3_checkPostage 1 none 1 := ⟨(mr_8 _ (List.mem_of_getElem? (i := 14) rfl)), (mr_8 _ (List.mem_of_getElem? (i := 15) rfl)), (mr_1 _ (List.mem_of_getElem? (i := 2) rfl)), (mr_8 _ (List.mem_of_getElem? (i := 16) rfl)), by decide +kernel, by decide +kernel, by decide +kernel⟩
theorem cX3_85 : gV RX3 85 yX2_fill cX2_fill 5 none 2 RX2 := ⟨(mr_8 _ (List.mem_of_getElem? (i := 17) rfl)), (mr_8 _ (List.mem_of_getElem? (i := 18) rfl)), (mr_8 _ (List.mem_of_getElem? (i := 19) rfl)), (mr_1 _ (List.mem_of_getElem? (i := 20) rfl)), (mr_8 _ (List.mem_of_getElem? (i := 20) rfl)), rfl, by decide +kernel, by decide +kernel, by decide +kernel⟩
theorem cX2_55 : gV RX2 55 yX2_rank cX2_rank 5 none 2 RX2 := ⟨(mr_8 _ (List.mem_of_getElem? (i := 21) rfl)), (mr_8 _ (List.mem_of_getElem? (i := 22) rfl)), (mr_8 _ (List.mem_of_getElem? (i := 23) rfl)), (mr_1 _ (List.mem_of_getElem? (i := 20) rfl)), (mr_9 _ (List.mem_of_getElem? (i := 0) rfl)), rfl, by decide +kernel, by decide +kernel, by decide +kernel⟩
theorem fX2_36 : gF RX2 36 1 3 RX1 TX1 4 := ⟨(mr_9 _ (List.mem_of_getElem? (i := 1) rfl)), rfl, by decide, inlX1⟩
theorem fX2_43 : gF RX2 43 1 0 RX1 TX1 4 := ⟨(mr_9 _ (List.mem_of_getElem? (i := 2) rfl)), rfl, by decide, inlX1⟩
theorem fX2_46 : gF RX2 46 1 1 RX1 TX1 4 := ⟨(mr_9 _ (List.mem_of_getElem? (i := 3) rfl)), rfl, by decide, inlX1⟩
theorem mX2_49 : gMn RX2 49 := ⟨(mr_9 _ (List.mem_of_getElem? (i := 4) rfl)), (mr_7 _ (List.mem_of_getElem? (i := 8) rfl)), (mr_7 _ (List.mem_of_getElem? (i := 9) rfl)), (mr_7 _ (List.mem_of_getElem? (i := 10) rfl))⟩
theorem cX2_39 : gV RX2 39 yX1_countAbove cX1_countAbove 4 (some .int) 1 RX1 := ⟨(mr_9 _ (List.mem_of_getElem? (i := 5) rfl)), (mr_9 _ (List.mem_of_getElem? (i := 6) rfl)), (mr_9 _ (List.mem_of_getElem? (i := 7) rfl)), (mr_1 _ (List.mem_of_getElem? (i := 15) rfl)), (mr_9 _ (List.mem_of_getElem? (i := 8) rfl)), rfl, by decide +kernel, by decide +kernel, by decide +kernel⟩
theorem cX2_59 : gV RX2 59 yX2_fillRow cX2_fillRow 9 none 1 RX2 := ⟨(mr_9 _ (List.mem_of_getElem? (i := 9) rfl)), (mr_9 _ (List.mem_of_getElem? (i := 10) rfl)), (mr_9 _ (List.mem_of_getElem? (i := 11) rfl)), (mr_1 _ (List.mem_of_getElem? (i := 20) rfl)), (mr_9 _ (List.mem_of_getElem? (i := 12) rfl)), rfl, by decide +kernel, by decide +kernel, by decide +kernel⟩
theorem cX3_89 : gV RX3 89 yX2_leastSum cX2_leastSum 3 (some .int) 1 RX2 := ⟨(mr_9 _ (List.mem_of_getElem? (i := 13) rfl)), (mr_9 _ (List.mem_of_getElem? (i := 14) rfl)), (mr_9 _ (List.mem_of_getElem? (i := 15) rfl)), (mr_1 _ (List.mem_of_getElem? (i := 20) rfl)), (mr_9 _ (List.mem_of_getElem? (i := 16) rfl)), rfl, by decide +kernel, by decide +kernel, by decide +kernel⟩
theorem cX2_63 : gV RX2 63 yX2_pays cX2_pays 2 (some .boolean) 1 RX2 := ⟨(mr_9 _ (List.mem_of_getElem? (i := 17) rfl)), (mr_9 _ (List.mem_of_getElem? (i := 18) rfl)), (mr_9 _ (List.mem_of_getElem? (i := 19) rfl)), (mr_1 _ (List.mem_of_getElem? (i := 20) rfl)), (mr_9 _ (List.mem_of_getElem? (i := 20) rfl)), rfl, by decide +kernel, by decide +kernel, by decide +kernel⟩
theorem cX3_93 : gV RX3 93 yX2_choose cX2_choose 5 none 1 RX2 := ⟨(mr_9 _ (List.mem_of_getElem? (i := 21) rfl)), (mr_9 _ (List.mem_of_getElem? (i := 22) rfl)), (mr_9 _ (List.mem_of_getElem? (i := 23) rfl)), (mr_1 _ (List.mem_of_getElem? (i := 20) rfl)), (mr_10 _ (List.mem_of_getElem? (i := 0) rfl)), rfl, by decide +kernel, by decide +kernel, by decide +kernel⟩
theorem cX2_70 : gV RX2 70 yX2_mostOf cX2_mostOf 8 (some .int) 2 RX2 := ⟨(mr_10 _ (List.mem_of_getElem? (i := 1) rfl)), (mr_10 _ (List.mem_of_getElem? (i := 2) rfl)), (mr_10 _ (List.mem_of_getElem? (i := 3) rfl)), (mr_1 _ (List.mem_of_getElem? (i := 20) rfl)), (mr_10 _ (List.mem_of_getElem? (i := 4) rfl)), rfl, by decide +kernel, by decide +kernel, by decide +kernel⟩
theorem cX3_99 : gV RX3 99 yX1_take cX1_take 3 none 1 RX1 := ⟨(mr_10 _ (List.mem_of_getElem? (i := 5) rfl)), (mr_10 _ (List.mem_of_getElem? (i := 6) rfl)), (mr_10 _ (List.mem_of_getElem? (i := 7) rfl)), (mr_1 _ (List.mem_of_getElem? (i := 15) rfl)), (mr_10 _ (List.mem_of_getElem? (i := 8) rfl)), rfl, by decide +kernel, by decide +kernel, by decide +kernel⟩
theorem cL_98 : gV RL 98 yX4_vend cX4_vend 4 (some .int) 1 RX4 := ⟨(mr_10 _ (List.mem_of_getElem? (i := 9) rfl)), (mr_10 _ (List.mem_of_getElem? (i := 10) rfl)), (mr_10 _ (List.mem_of_getElem? (i := 11) rfl)), (mr_1 _ (List.mem_of_getElem? (i := 5) rfl)), (mr_10 _ (List.mem_of_getElem? (i := 12) rfl)), rfl, by decide +kernel, by decide +kernel, by decide +kernel⟩
theorem fX4_99 : gF RX4 99 4 3 RX4 TX4 14 := ⟨(mr_10 _ (List.mem_of_getElem? (i := 13) rfl)), rfl, by decide, inlX4⟩
theorem pX4_99 : gP RX4 99 4 3 RX4 TX4 14 (.int) false := ⟨fX4_99, ⟨tyX4, tyX4_ok, nmX4⟩, rfl, tyX4_ok 3 (by decide), rfl⟩
theorem fX4_102 : gF RX4 102 4 4 RX4 TX4 14 := ⟨(mr_10 _ (List.mem_of_getElem? (i := 14) rfl)), rfl, by decide, inlX4⟩
theorem pX4_102 : gP RX4 102 4 4 RX4 TX4 14 (.int) false := ⟨fX4_102, ⟨tyX4, tyX4_ok, nmX4⟩, rfl, tyX4_ok 4 (by decide), rfl⟩
theorem fX4_105 : gF RX4 105 4 5 RX4 TX4 14 := ⟨(mr_10 _ (List.mem_of_getElem? (i := 15) rfl)), rfl, by decide, inlX4⟩
theorem pX4_105 : gP RX4 105 4 5 RX4 TX4 14 (.int) false := ⟨fX4_105, ⟨tyX4, tyX4_ok, nmX4⟩, rfl, tyX4_ok 5 (by decide), rfl⟩
theorem cX4_93 : gS RX4 93 yX4_isPostage cX4_isPostage 1 (some .boolean) 1 := ⟨(mr_10 _ (List.mem_of_getElem? (i := 16) rfl)), (mr_10 _ (List.mem_of_getElem? (i := 17) rfl)), (mr_1 _ (List.mem_of_getElem? (i := 5) rfl)), (mr_10 _ (List.mem_of_getElem? (i := 18) rfl)), by decide +kernel, by decide +kernel, by decide +kernel⟩
theorem cX4_96 : gV RX4 96 yX4_give cX4_give 4 (some .int) 1 RX4 := ⟨(mr_10 _ (List.mem_of_getElem? (i := 19) rfl)), (mr_10 _ (List.mem_of_getElem? (i := 20) rfl)), (mr_10 _ (List.mem_of_getElem? (i := 21) rfl)), (mr_1 _ (List.mem_of_getElem? (i := 5) rfl)), (mr_10 _ (List.mem_of_getElem? (i := 22) rfl)), rfl, by decide +kernel, by decide +kernel, by decide +kernel⟩
theorem cX4_67 : gV RX4 67 yX4_table cX4_table 2 none 0 RX4 := ⟨(mr_10 _ (List.mem_of_getElem? (i := 23) rfl)), (mr_11 _ (List.mem_of_getElem? (i := 0) rfl)), (mr_11 _ (List.mem_of_getElem? (i := 1) rfl)), (mr_1 _ (List.mem_of_getElem? (i := 5) rfl)), (mr_11 _ (List.mem_of_getElem? (i := 2) rfl)), rfl, by decide +kernel, by decide +kernel, by decide +kernel⟩
theorem cX4_56 : gV RX4 56 yX4_sort cX4_sort 3 none 0 RX4 := ⟨(mr_11 _ (List.mem_of_getElem? (i := 3) rfl)), (mr_11 _ (List.mem_of_getElem? (i := 4) rfl)), (mr_11 _ (List.mem_of_getElem? (i := 5) rfl)), (mr_1 _ (List.mem_of_getElem? (i := 5) rfl)), (mr_11 _ (List.mem_of_getElem? (i := 6) rfl)), rfl, by decide +kernel, by decide +kernel, by decide +kernel⟩
theorem cX4_59 : gV RX4 59 yX4_with cX4_with 7 none 1 RX4 := ⟨(mr_11 _ (List.mem_of_getElem? (i := 7) rfl)), (mr_11 _ (List.mem_of_getElem? (i := 8) rfl)), (mr_11 _ (List.mem_of_getElem? (i := 9) rfl)), (mr_1 _ (List.mem_of_getElem? (i := 5) rfl)), (mr_11 _ (List.mem_of_getElem? (i := 10) rfl)), rfl, by decide +kernel, by decide +kernel, by decide +kernel⟩
theorem cX4_70 : gV RX4 70 yX4_covers cX4_covers 3 (some .int) 1 RX4 := ⟨(mr_11 _ (List.mem_of_getElem? (i := 11) rfl)), (mr_11 _ (List.mem_of_getElem? (i := 12) rfl)), (mr_11 _ (List.mem_of_getElem? (i := 13) rfl)), (mr_1 _ (List.mem_of_getElem? (i := 5) rfl)), (mr_11 _ (List.mem_of_getElem? (i := 14) rfl)), rfl, by decide +kernel, by decide +kernel, by decide +kernel⟩
theorem cX4_63 : gV RX4 63 yX4_pays cX4_pays 2 (some .boolean) 1 RX4 := ⟨(mr_11 _ (List.mem_of_getElem? (i := 15) rfl)), (mr_11 _ (List.mem_of_getElem? (i := 16) rfl)), (mr_11 _ (List.mem_of_getElem? (i := 17) rfl)), (mr_1 _ (List.mem_of_getElem? (i := 5) rfl)), (mr_11 _ (List.mem_of_getElem? (i := 18) rfl)), rfl, by decide +kernel, by decide +kernel, by decide +kernel⟩
theorem cX4_74 : gV RX4 74 yX4_take cX4_take 6 none 1 RX4 := ⟨(mr_11 _ (List.mem_of_getElem? (i := 19) rfl)), (mr_11 _ (List.mem_of_getElem? (i := 20) rfl)), (mr_11 _ (List.mem_of_getElem? (i := 21) rfl)), (mr_1 _ (List.mem_of_getElem? (i := 5) rfl)), (mr_11 _ (List.mem_of_getElem? (i := 22) rfl)), rfl, by decide +kernel, by decide +kernel, by decide +kernel⟩
theorem cL_99 : gV RL 99 yX3_stamps cX3_stamps 1 (some .int) 0 RX3 := ⟨(mr_11 _ (List.mem_of_getElem? (i := 23) rfl)), (mr_12 _ (List.mem_of_getElem? (i := 0) rfl)), (mr_12 _ (List.mem_of_getElem? (i := 1) rfl)), (mr_1 _ (List.mem_of_getElem? (i := 2) rfl)), (mr_12 _ (List.mem_of_getElem? (i := 2) rfl)), rfl, by decide +kernel, by decide +kernel, by decide +kernel⟩
theorem cL_102 : gV RL 102 yX4_stamps cX4_stamps 1 (some .int) 0 RX4 := ⟨(mr_12 _ (List.mem_of_getElem? (i := 3) rfl)), (mr_12 _ (List.mem_of_getElem? (i := 4) rfl)), (mr_12 _ (List.mem_of_getElem? (i := 5) rfl)), (mr_1 _ (List.mem_of_getElem? (i := 5) rfl)), (mr_12 _ (List.mem_of_getElem? (i := 6) rfl)), rfl, by decide +kernel, by decide +kernel, by decide +kernel⟩
theorem cX4_108 : gV RX4 108 yX4_ok cX4_ok 2 (some .int) 1 RX4 := ⟨(mr_12 _ (List.mem_of_getElem? (i := 7) rfl)), (mr_12 _ (List.mem_of_getElem? (i := 8) rfl)), (mr_12 _ (List.mem_of_getElem? (i := 9) rfl)), (mr_1 _ (List.mem_of_getElem? (i := 5) rfl)), (mr_12 _ (List.mem_of_getElem? (i := 10) rfl)), rfl, by decide +kernel, by decide +kernel, by decide +kernel⟩
theorem cL_103 : gV RL 103 yX3_room cX3_room 1 (some .int) 0 RX3 := ⟨(mr_12 _ (List.mem_of_getElem? (i := 11) rfl)), (mr_12 _ (List.mem_of_getElem? (i := 12) rfl)), (mr_12 _ (List.mem_of_getElem? (i := 13) rfl)), (mr_1 _ (List.mem_of_getElem? (i := 2) rfl)), (mr_12 _ (List.mem_of_getElem? (i := 14) rfl)), rfl, by decide +kernel, by decide +kernel, by decide +kernel⟩
theorem cL_106 : gV RL 106 yX4_room cX4_room 1 (some .int) 0 RX4 := ⟨(mr_12 _ (List.mem_of_getElem? (i := 15) rfl)), (mr_12 _ (List.mem_of_getElem? (i := 16) rfl)), (mr_12 _ (List.mem_of_getElem? (i := 17) rfl)), (mr_1 _ (List.mem_of_getElem? (i := 5) rfl)), (mr_12 _ (List.mem_of_getElem? (i := 18) rfl)), rfl, by decide +kernel, by decide +kernel, by decide +kernel⟩
theorem cL_32 : gV RL 32 yX3_valueOf cX3_valueOf 2 (some .int) 1 RX3 := ⟨(mr_12 _ (List.mem_of_getElem? (i := 22) rfl)), (mr_12 _ (List.mem_of_getElem? (i := 23) rfl)), (mr_13 _ (List.mem_of_getElem? (i := 0) rfl)), (mr_1 _ (List.mem_of_getElem? (i := 2) rfl)), (mr_13 _ (List.mem_of_getElem? (i := 1) rfl)), rfl, by decide +kernel, by decide +kernel, by decide +kernel⟩
theorem fX3_103 : gF RX3 103 1 0 RX1 TX1 4 := ⟨(mr_13 _ (List.mem_of_getElem? (i := 2) rfl)), rfl, by decide, inlX1⟩
theorem cL_109 : gV RL 109 yX4_valueOf cX4_valueOf 2 (some .int) 1 RX4 := ⟨(mr_13 _ (List.mem_of_getElem? (i := 3) rfl)), (mr_13 _ (List.mem_of_getElem? (i := 4) rfl)), (mr_13 _ (List.mem_of_getElem? (i := 5) rfl)), (mr_1 _ (List.mem_of_getElem? (i := 5) rfl)), (mr_13 _ (List.mem_of_getElem? (i := 6) rfl)), rfl, by decide +kernel, by decide +kernel, by decide +kernel⟩
theorem cX4_111 : gV RX4 111 yX4_of cX4_of 3 (some .int) 2 RX4 := ⟨(mr_13 _ (List.mem_of_getElem? (i := 7) rfl)), (mr_13 _ (List.mem_of_getElem? (i := 8) rfl)), (mr_13 _ (List.mem_of_getElem? (i := 9) rfl)), (mr_1 _ (List.mem_of_getElem? (i := 5) rfl)), (mr_13 _ (List.mem_of_getElem? (i := 10) rfl)), rfl, by decide +kernel, by decide +kernel, by decide +kernel⟩
theorem cL_35 : gV RL 35 yX3_stockOf cX3_stockOf 2 (some .int) 1 RX3 := ⟨(mr_13 _ (List.mem_of_getElem? (i := 14) rfl)), (mr_13 _ (List.mem_of_getElem? (i := 15) rfl)), (mr_13 _ (List.mem_of_getElem? (i := 16) rfl)), (mr_1 _ (List.mem_of_getElem? (i := 2) rfl)), (mr_13 _ (List.mem_of_getElem? (i := 17) rfl)), rfl, by decide +kernel, by decide +kernel, by decide +kernel⟩
theorem cL_112 : gV RL 112 yX4_stockOf cX4_stockOf 2 (some .int) 1 RX4 := ⟨(mr_13 _ (List.mem_of_getElem? (i := 18) rfl)), (mr_13 _ (List.mem_of_getElem? (i := 19) rfl)), (mr_13 _ (List.mem_of_getElem? (i := 20) rfl)), (mr_1 _ (List.mem_of_getElem? (i := 5) rfl)), (mr_13 _ (List.mem_of_getElem? (i := 21) rfl)), rfl, by decide +kernel, by decide +kernel, by decide +kernel⟩
theorem cL_38 : gV RL 38 yX3_vendedOf cX3_vendedOf 2 (some .int) 1 RX3 := ⟨(mr_14 _ (List.mem_of_getElem? (i := 1) rfl)), (mr_14 _ (List.mem_of_getElem? (i := 2) rfl)), (mr_14 _ (List.mem_of_getElem? (i := 3) rfl)), (mr_1 _ (List.mem_of_getElem? (i := 2) rfl)), (mr_14 _ (List.mem_of_getElem? (i := 4) rfl)), rfl, by decide +kernel, by decide +kernel, by decide +kernel⟩
theorem fX3_106 : gF RX3 106 1 2 RX1 TX1 4 := ⟨(mr_14 _ (List.mem_of_getElem? (i := 5) rfl)), rfl, by decide, inlX1⟩
theorem cL_115 : gV RL 115 yX4_vendedOf cX4_vendedOf 2 (some .int) 1 RX4 := ⟨(mr_14 _ (List.mem_of_getElem? (i := 6) rfl)), (mr_14 _ (List.mem_of_getElem? (i := 7) rfl)), (mr_14 _ (List.mem_of_getElem? (i := 8) rfl)), (mr_1 _ (List.mem_of_getElem? (i := 5) rfl)), (mr_14 _ (List.mem_of_getElem? (i := 9) rfl)), rfl, by decide +kernel, by decide +kernel, by decide +kernel⟩
theorem cL_116 : gV RL 116 yX3_letters cX3_letters 1 (some .int) 0 RX3 := ⟨(mr_14 _ (List.mem_of_getElem? (i := 10) rfl)), (mr_14 _ (List.mem_of_getElem? (i := 11) rfl)), (mr_14 _ (List.mem_of_getElem? (i := 12) rfl)), (mr_1 _ (List.mem_of_getElem? (i := 2) rfl)), (mr_14 _ (List.mem_of_getElem? (i := 13) rfl)), rfl, by decide +kernel, by decide +kernel, by decide +kernel⟩
theorem cL_119 : gV RL 119 yX4_letters cX4_letters 1 (some .int) 0 RX4 := ⟨(mr_14 _ (List.mem_of_getElem? (i := 14) rfl)), (mr_14 _ (List.mem_of_getElem? (i := 15) rfl)), (mr_14 _ (List.mem_of_getElem? (i := 16) rfl)), (mr_1 _ (List.mem_of_getElem? (i := 5) rfl)), (mr_14 _ (List.mem_of_getElem? (i := 17) rfl)), rfl, by decide +kernel, by decide +kernel, by decide +kernel⟩
theorem cL_120 : gV RL 120 yX3_taken cX3_taken 1 (some .int) 0 RX3 := ⟨(mr_14 _ (List.mem_of_getElem? (i := 18) rfl)), (mr_14 _ (List.mem_of_getElem? (i := 19) rfl)), (mr_14 _ (List.mem_of_getElem? (i := 20) rfl)), (mr_1 _ (List.mem_of_getElem? (i := 2) rfl)), (mr_14 _ (List.mem_of_getElem? (i := 21) rfl)), rfl, by decide +kernel, by decide +kernel, by decide +kernel⟩
theorem cL_123 : gV RL 123 yX4_taken cX4_taken 1 (some .int) 0 RX4 := ⟨(mr_14 _ (List.mem_of_getElem? (i := 22) rfl)), (mr_14 _ (List.mem_of_getElem? (i := 23) rfl)), (mr_15 _ (List.mem_of_getElem? (i := 0) rfl)), (mr_1 _ (List.mem_of_getElem? (i := 5) rfl)), (mr_15 _ (List.mem_of_getElem? (i := 1) rfl)), rfl, by decide +kernel, by decide +kernel, by decide +kernel⟩
theorem cL_124 : gV RL 124 yX3_overpaid cX3_overpaid 1 (some .int) 0 RX3 := ⟨(mr_15 _ (List.mem_of_getElem? (i := 2) rfl)), (mr_15 _ (List.mem_of_getElem? (i := 3) rfl)), (mr_15 _ (List.mem_of_getElem? (i := 4) rfl)), (mr_1 _ (List.mem_of_getElem? (i := 2) rfl)), (mr_15 _ (List.mem_of_getElem? (i := 5) rfl)), rfl, by decide +kernel, by decide +kernel, by decide +kernel⟩
theorem cL_127 : gV RL 127 yX4_overpaid cX4_overpaid 1 (some .int) 0 RX4 := ⟨(mr_15 _ (List.mem_of_getElem? (i := 6) rfl)), (mr_15 _ (List.mem_of_getElem? (i := 7) rfl)), (mr_15 _ (List.mem_of_getElem? (i := 8) rfl)), (mr_1 _ (List.mem_of_getElem? (i := 5) rfl)), (mr_15 _ (List.mem_of_getElem? (i := 9) rfl)), rfl, by decide +kernel, by decide +kernel, by decide +kernel⟩
theorem cL_128 : gV RL 128 yX3_scarcest cX3_scarcest 4 (some .int) 0 RX3 := ⟨(mr_15 _ (List.mem_of_getElem? (i := 10) rfl)), (mr_15 _ (List.mem_of_getElem? (i := 11) rfl)), (mr_15 _ (List.mem_of_getElem? (i := 12) rfl)), (mr_1 _ (List.mem_of_getElem? (i := 2) rfl)), (mr_15 _ (List.mem_of_getElem? (i := 13) rfl)), rfl, by decide +kernel, by decide +kernel, by decide +kernel⟩
theorem cL_131 : gV RL 131 yX4_scarcest cX4_scarcest 1 (some .int) 0 RX4 := ⟨(mr_15 _ (List.mem_of_getElem? (i := 14) rfl)), (mr_15 _ (List.mem_of_getElem? (i := 15) rfl)), (mr_15 _ (List.mem_of_getElem? (i := 16) rfl)), (mr_1 _ (List.mem_of_getElem? (i := 5) rfl)), (mr_15 _ (List.mem_of_getElem? (i := 17) rfl)), rfl, by decide +kernel, by decide +kernel, by decide +kernel⟩
theorem cX4_115 : gV RX4 115 yX4_scarce cX4_scarce 3 (some .int) 0 RX4 := ⟨(mr_15 _ (List.mem_of_getElem? (i := 18) rfl)), (mr_15 _ (List.mem_of_getElem? (i := 19) rfl)), (mr_15 _ (List.mem_of_getElem? (i := 20) rfl)), (mr_1 _ (List.mem_of_getElem? (i := 5) rfl)), (mr_15 _ (List.mem_of_getElem? (i := 21) rfl)), rfl, by decide +kernel, by decide +kernel, by decide +kernel⟩
theorem cL_41 : gV RL 41 yX3_canPay cX3_canPay 2 (some .boolean) 1 RX3 := ⟨(mr_16 _ (List.mem_of_getElem? (i := 1) rfl)), (mr_16 _ (List.mem_of_getElem? (i := 2) rfl)), (mr_16 _ (List.mem_of_getElem? (i := 3) rfl)), (mr_1 _ (List.mem_of_getElem? (i := 2) rfl)), (mr_16 _ (List.mem_of_getElem? (i := 4) rfl)), rfl, by decide +kernel, by decide +kernel, by decide +kernel⟩
theorem cX3_109 : gV RX3 109 yX2_pays cX2_pays 2 (some .boolean) 1 RX2 := ⟨(mr_16 _ (List.mem_of_getElem? (i := 5) rfl)), (mr_9 _ (List.mem_of_getElem? (i := 18) rfl)), (mr_9 _ (List.mem_of_getElem? (i := 19) rfl)), (mr_1 _ (List.mem_of_getElem? (i := 20) rfl)), (mr_9 _ (List.mem_of_getElem? (i := 20) rfl)), rfl, by decide +kernel, by decide +kernel, by decide +kernel⟩
theorem cL_134 : gV RL 134 yX4_canPay cX4_canPay 2 (some .boolean) 1 RX4 := ⟨(mr_16 _ (List.mem_of_getElem? (i := 6) rfl)), (mr_16 _ (List.mem_of_getElem? (i := 7) rfl)), (mr_16 _ (List.mem_of_getElem? (i := 8) rfl)), (mr_1 _ (List.mem_of_getElem? (i := 5) rfl)), (mr_16 _ (List.mem_of_getElem? (i := 9) rfl)), rfl, by decide +kernel, by decide +kernel, by decide +kernel⟩
theorem cX4_119 : gV RX4 119 yX4_isNot cX4_isNot 2 (some .boolean) 1 RX4 := ⟨(mr_16 _ (List.mem_of_getElem? (i := 10) rfl)), (mr_16 _ (List.mem_of_getElem? (i := 11) rfl)), (mr_16 _ (List.mem_of_getElem? (i := 12) rfl)), (mr_1 _ (List.mem_of_getElem? (i := 5) rfl)), (mr_16 _ (List.mem_of_getElem? (i := 13) rfl)), rfl, by decide +kernel, by decide +kernel, by decide +kernel⟩
theorem cL_45 : gV RL 45 yX3_overpay cX3_overpay 2 (some .int) 1 RX3 := ⟨(mr_16 _ (List.mem_of_getElem? (i := 17) rfl)), (mr_16 _ (List.mem_of_getElem? (i := 18) rfl)), (mr_16 _ (List.mem_of_getElem? (i := 19) rfl)), (mr_1 _ (List.mem_of_getElem? (i := 2) rfl)), (mr_16 _ (List.mem_of_getElem? (i := 20) rfl)), rfl, by decide +kernel, by decide +kernel, by decide +kernel⟩
theorem cX3_112 : gV RX3 112 yX2_moreThan cX2_moreThan 3 (some .int) 1 RX2 := ⟨(mr_16 _ (List.mem_of_getElem? (i := 21) rfl)), (mr_16 _ (List.mem_of_getElem? (i := 22) rfl)), (mr_16 _ (List.mem_of_getElem? (i := 23) rfl)), (mr_1 _ (List.mem_of_getElem? (i := 20) rfl)), (mr_17 _ (List.mem_of_getElem? (i := 0) rfl)), rfl, by decide +kernel, by decide +kernel, by decide +kernel⟩
theorem cX2_67 : gV RX2 67 yX2_leastSum cX2_leastSum 3 (some .int) 1 RX2 := ⟨(mr_17 _ (List.mem_of_getElem? (i := 1) rfl)), (mr_9 _ (List.mem_of_getElem? (i := 14) rfl)), (mr_9 _ (List.mem_of_getElem? (i := 15) rfl)), (mr_1 _ (List.mem_of_getElem? (i := 20) rfl)), (mr_9 _ (List.mem_of_getElem? (i := 16) rfl)), rfl, by decide +kernel, by decide +kernel, by decide +kernel⟩
theorem cL_137 : gV RL 137 yX4_overpay cX4_overpay 2 (some .int) 1 RX4 := ⟨(mr_17 _ (List.mem_of_getElem? (i := 2) rfl)), (mr_17 _ (List.mem_of_getElem? (i := 3) rfl)), (mr_17 _ (List.mem_of_getElem? (i := 4) rfl)), (mr_1 _ (List.mem_of_getElem? (i := 5) rfl)), (mr_17 _ (List.mem_of_getElem? (i := 5) rfl)), rfl, by decide +kernel, by decide +kernel, by decide +kernel⟩
theorem cX4_122 : gV RX4 122 yX4_over cX4_over 3 (some .int) 1 RX4 := ⟨(mr_17 _ (List.mem_of_getElem? (i := 6) rfl)), (mr_17 _ (List.mem_of_getElem? (i := 7) rfl)), (mr_17 _ (List.mem_of_getElem? (i := 8) rfl)), (mr_1 _ (List.mem_of_getElem? (i := 5) rfl)), (mr_17 _ (List.mem_of_getElem? (i := 9) rfl)), rfl, by decide +kernel, by decide +kernel, by decide +kernel⟩
theorem cL_48 : gV RL 48 yX3_stampsFor cX3_stampsFor 2 (some .int) 1 RX3 := ⟨(mr_17 _ (List.mem_of_getElem? (i := 13) rfl)), (mr_17 _ (List.mem_of_getElem? (i := 14) rfl)), (mr_17 _ (List.mem_of_getElem? (i := 15) rfl)), (mr_1 _ (List.mem_of_getElem? (i := 2) rfl)), (mr_17 _ (List.mem_of_getElem? (i := 16) rfl)), rfl, by decide +kernel, by decide +kernel, by decide +kernel⟩
theorem cX3_115 : gV RX3 115 yX2_stampsOnLetter cX2_stampsOnLetter 3 (some .int) 1 RX2 := ⟨(mr_17 _ (List.mem_of_getElem? (i := 17) rfl)), (mr_17 _ (List.mem_of_getElem? (i := 18) rfl)), (mr_17 _ (List.mem_of_getElem? (i := 19) rfl)), (mr_1 _ (List.mem_of_getElem? (i := 20) rfl)), (mr_17 _ (List.mem_of_getElem? (i := 20) rfl)), rfl, by decide +kernel, by decide +kernel, by decide +kernel⟩
theorem cL_140 : gV RL 140 yX4_stampsFor cX4_stampsFor 2 (some .int) 1 RX4 := ⟨(mr_17 _ (List.mem_of_getElem? (i := 21) rfl)), (mr_17 _ (List.mem_of_getElem? (i := 22) rfl)), (mr_17 _ (List.mem_of_getElem? (i := 23) rfl)), (mr_1 _ (List.mem_of_getElem? (i := 5) rfl)), (mr_18 _ (List.mem_of_getElem? (i := 0) rfl)), rfl, by decide +kernel, by decide +kernel, by decide +kernel⟩
theorem cX4_125 : gV RX4 125 yX4_many cX4_many 3 (some .int) 1 RX4 := ⟨(mr_18 _ (List.mem_of_getElem? (i := 1) rfl)), (mr_18 _ (List.mem_of_getElem? (i := 2) rfl)), (mr_18 _ (List.mem_of_getElem? (i := 3) rfl)), (mr_1 _ (List.mem_of_getElem? (i := 5) rfl)), (mr_18 _ (List.mem_of_getElem? (i := 4) rfl)), rfl, by decide +kernel, by decide +kernel, by decide +kernel⟩
theorem cL_51 : gV RL 51 yX3_ofStampFor cX3_ofStampFor 4 (some .int) 2 RX3 := ⟨(mr_18 _ (List.mem_of_getElem? (i := 8) rfl)), (mr_18 _ (List.mem_of_getElem? (i := 9) rfl)), (mr_18 _ (List.mem_of_getElem? (i := 10) rfl)), (mr_1 _ (List.mem_of_getElem? (i := 2) rfl)), (mr_18 _ (List.mem_of_getElem? (i := 11) rfl)), rfl, by decide +kernel, by decide +kernel, by decide +kernel⟩
theorem cL_143 : gV RL 143 yX4_ofStampFor cX4_ofStampFor 4 (some .int) 2 RX4 := ⟨(mr_18 _ (List.mem_of_getElem? (i := 12) rfl)), (mr_18 _ (List.mem_of_getElem? (i := 13) rfl)), (mr_18 _ (List.mem_of_getElem? (i := 14) rfl)), (mr_1 _ (List.mem_of_getElem? (i := 5) rfl)), (mr_18 _ (List.mem_of_getElem? (i := 15) rfl)), rfl, by decide +kernel, by decide +kernel, by decide +kernel⟩
theorem cL_144 : gV RL 144 yX3_reachNow cX3_reachNow 1 (some .int) 0 RX3 := ⟨(mr_18 _ (List.mem_of_getElem? (i := 16) rfl)), (mr_18 _ (List.mem_of_getElem? (i := 17) rfl)), (mr_18 _ (List.mem_of_getElem? (i := 18) rfl)), (mr_1 _ (List.mem_of_getElem? (i := 2) rfl)), (mr_18 _ (List.mem_of_getElem? (i := 19) rfl)), rfl, by decide +kernel, by decide +kernel, by decide +kernel⟩
theorem cX3_118 : gV RX3 118 yX2_reachOfStock cX2_reachOfStock 2 (some .int) 0 RX2 := ⟨(mr_18 _ (List.mem_of_getElem? (i := 20) rfl)), (mr_18 _ (List.mem_of_getElem? (i := 21) rfl)), (mr_18 _ (List.mem_of_getElem? (i := 22) rfl)), (mr_1 _ (List.mem_of_getElem? (i := 20) rfl)), (mr_18 _ (List.mem_of_getElem? (i := 23) rfl)), rfl, by decide +kernel, by decide +kernel, by decide +kernel⟩
theorem cL_147 : gV RL 147 yX4_reachNow cX4_reachNow 1 (some .int) 0 RX4 := ⟨(mr_19 _ (List.mem_of_getElem? (i := 0) rfl)), (mr_19 _ (List.mem_of_getElem? (i := 1) rfl)), (mr_19 _ (List.mem_of_getElem? (i := 2) rfl)), (mr_1 _ (List.mem_of_getElem? (i := 5) rfl)), (mr_19 _ (List.mem_of_getElem? (i := 3) rfl)), rfl, by decide +kernel, by decide +kernel, by decide +kernel⟩
theorem cX4_128 : gV RX4 128 yX4_reached cX4_reached 2 (some .int) 0 RX4 := ⟨(mr_19 _ (List.mem_of_getElem? (i := 4) rfl)), (mr_19 _ (List.mem_of_getElem? (i := 5) rfl)), (mr_19 _ (List.mem_of_getElem? (i := 6) rfl)), (mr_1 _ (List.mem_of_getElem? (i := 5) rfl)), (mr_19 _ (List.mem_of_getElem? (i := 7) rfl)), rfl, by decide +kernel, by decide +kernel, by decide +kernel⟩
theorem cL_148 : gV RL 148 yX3_most cX3_most 1 (some .int) 0 RX3 := ⟨(mr_19 _ (List.mem_of_getElem? (i := 8) rfl)), (mr_19 _ (List.mem_of_getElem? (i := 9) rfl)), (mr_19 _ (List.mem_of_getElem? (i := 10) rfl)), (mr_1 _ (List.mem_of_getElem? (i := 2) rfl)), (mr_19 _ (List.mem_of_getElem? (i := 11) rfl)), rfl, by decide +kernel, by decide +kernel, by decide +kernel⟩
theorem cX3_122 : gV RX3 122 yX2_rank cX2_rank 5 none 2 RX2 := ⟨(mr_19 _ (List.mem_of_getElem? (i := 12) rfl)), (mr_8 _ (List.mem_of_getElem? (i := 22) rfl)), (mr_8 _ (List.mem_of_getElem? (i := 23) rfl)), (mr_1 _ (List.mem_of_getElem? (i := 20) rfl)), (mr_9 _ (List.mem_of_getElem? (i := 0) rfl)), rfl, by decide +kernel, by decide +kernel, by decide +kernel⟩
theorem cX3_125 : gV RX3 125 yX2_greatestSum cX2_greatestSum 5 (some .int) 0 RX2 := ⟨(mr_19 _ (List.mem_of_getElem? (i := 13) rfl)), (mr_19 _ (List.mem_of_getElem? (i := 14) rfl)), (mr_19 _ (List.mem_of_getElem? (i := 15) rfl)), (mr_1 _ (List.mem_of_getElem? (i := 20) rfl)), (mr_19 _ (List.mem_of_getElem? (i := 16) rfl)), rfl, by decide +kernel, by decide +kernel, by decide +kernel⟩
theorem cL_151 : gV RL 151 yX4_most cX4_most 1 (some .int) 0 RX4 := ⟨(mr_19 _ (List.mem_of_getElem? (i := 17) rfl)), (mr_19 _ (List.mem_of_getElem? (i := 18) rfl)), (mr_19 _ (List.mem_of_getElem? (i := 19) rfl)), (mr_1 _ (List.mem_of_getElem? (i := 5) rfl)), (mr_19 _ (List.mem_of_getElem? (i := 20) rfl)), rfl, by decide +kernel, by decide +kernel, by decide +kernel⟩
theorem cX4_131 : gV RX4 131 yX4_greatest cX4_greatest 5 (some .int) 0 RX4 := ⟨(mr_19 _ (List.mem_of_getElem? (i := 21) rfl)), (mr_19 _ (List.mem_of_getElem? (i := 22) rfl)), (mr_19 _ (List.mem_of_getElem? (i := 23) rfl)), (mr_1 _ (List.mem_of_getElem? (i := 5) rfl)), (mr_20 _ (List.mem_of_getElem? (i := 0) rfl)), rfl, by decide +kernel, by decide +kernel, by decide +kernel⟩
theorem cL_54 : gV RL 54 yX3_fewest cX3_fewest 2 (some .int) 1 RX3 := ⟨(mr_20 _ (List.mem_of_getElem? (i := 4) rfl)), (mr_20 _ (List.mem_of_getElem? (i := 5) rfl)), (mr_20 _ (List.mem_of_getElem? (i := 6) rfl)), (mr_1 _ (List.mem_of_getElem? (i := 2) rfl)), (mr_20 _ (List.mem_of_getElem? (i := 7) rfl)), rfl, by decide +kernel, by decide +kernel, by decide +kernel⟩
theorem cX3_128 : gV RX3 128 yX0_fill cX0_fill 6 none 1 RX0 := ⟨(mr_20 _ (List.mem_of_getElem? (i := 8) rfl)), (mr_20 _ (List.mem_of_getElem? (i := 9) rfl)), (mr_20 _ (List.mem_of_getElem? (i := 10) rfl)), (mr_2 _ (List.mem_of_getElem? (i := 0) rfl)), (mr_20 _ (List.mem_of_getElem? (i := 11) rfl)), rfl, by decide +kernel, by decide +kernel, by decide +kernel⟩
theorem fX0_23 : gF RX0 23 1 3 RX1 TX1 4 := ⟨(mr_20 _ (List.mem_of_getElem? (i := 12) rfl)), rfl, by decide, inlX1⟩
theorem fX0_29 : gF RX0 29 1 0 RX1 TX1 4 := ⟨(mr_20 _ (List.mem_of_getElem? (i := 13) rfl)), rfl, by decide, inlX1⟩
theorem mX0_32 : gMn RX0 32 := ⟨(mr_20 _ (List.mem_of_getElem? (i := 14) rfl)), (mr_7 _ (List.mem_of_getElem? (i := 8) rfl)), (mr_7 _ (List.mem_of_getElem? (i := 9) rfl)), (mr_7 _ (List.mem_of_getElem? (i := 10) rfl))⟩
theorem cX3_131 : gV RX3 131 yX0_fewestWithin cX0_fewestWithin 3 (some .int) 2 RX0 := ⟨(mr_20 _ (List.mem_of_getElem? (i := 15) rfl)), (mr_20 _ (List.mem_of_getElem? (i := 16) rfl)), (mr_20 _ (List.mem_of_getElem? (i := 17) rfl)), (mr_2 _ (List.mem_of_getElem? (i := 0) rfl)), (mr_20 _ (List.mem_of_getElem? (i := 18) rfl)), rfl, by decide +kernel, by decide +kernel, by decide +kernel⟩
theorem cL_154 : gV RL 154 yX4_fewest cX4_fewest 2 (some .int) 1 RX4 := ⟨(mr_20 _ (List.mem_of_getElem? (i := 19) rfl)), (mr_20 _ (List.mem_of_getElem? (i := 20) rfl)), (mr_20 _ (List.mem_of_getElem? (i := 21) rfl)), (mr_1 _ (List.mem_of_getElem? (i := 5) rfl)), (mr_20 _ (List.mem_of_getElem? (i := 22) rfl)), rfl, by decide +kernel, by decide +kernel, by decide +kernel⟩
theorem cX4_77 : gV RX4 77 yX4_printed cX4_printed 5 none 1 RX4 := ⟨(mr_20 _ (List.mem_of_getElem? (i := 23) rfl)), (mr_21 _ (List.mem_of_getElem? (i := 0) rfl)), (mr_21 _ (List.mem_of_getElem? (i := 1) rfl)), (mr_1 _ (List.mem_of_getElem? (i := 5) rfl)), (mr_21 _ (List.mem_of_getElem? (i := 2) rfl)), rfl, by decide +kernel, by decide +kernel, by decide +kernel⟩
theorem cX4_134 : gV RX4 134 yX4_fewestFor cX4_fewestFor 2 (some .int) 1 RX4 := ⟨(mr_21 _ (List.mem_of_getElem? (i := 3) rfl)), (mr_21 _ (List.mem_of_getElem? (i := 4) rfl)), (mr_21 _ (List.mem_of_getElem? (i := 5) rfl)), (mr_1 _ (List.mem_of_getElem? (i := 5) rfl)), (mr_21 _ (List.mem_of_getElem? (i := 6) rfl)), rfl, by decide +kernel, by decide +kernel, by decide +kernel⟩
theorem cL_57 : gV RL 57 yX3_ways cX3_ways 2 (some .int) 1 RX3 := ⟨(mr_21 _ (List.mem_of_getElem? (i := 10) rfl)), (mr_21 _ (List.mem_of_getElem? (i := 11) rfl)), (mr_21 _ (List.mem_of_getElem? (i := 12) rfl)), (mr_1 _ (List.mem_of_getElem? (i := 2) rfl)), (mr_21 _ (List.mem_of_getElem? (i := 13) rfl)), rfl, by decide +kernel, by decide +kernel, by decide +kernel⟩
theorem cX3_134 : gV RX3 134 yX0_countChoices cX0_countChoices 6 (some .int) 3 RX0 := ⟨(mr_21 _ (List.mem_of_getElem? (i := 14) rfl)), (mr_21 _ (List.mem_of_getElem? (i := 15) rfl)), (mr_21 _ (List.mem_of_getElem? (i := 16) rfl)), (mr_2 _ (List.mem_of_getElem? (i := 0) rfl)), (mr_21 _ (List.mem_of_getElem? (i := 17) rfl)), rfl, by decide +kernel, by decide +kernel, by decide +kernel⟩
theorem cX0_41 : gV RX0 41 yX0_clearChoices cX0_clearChoices 5 none 2 RX0 := ⟨(mr_21 _ (List.mem_of_getElem? (i := 18) rfl)), (mr_21 _ (List.mem_of_getElem? (i := 19) rfl)), (mr_21 _ (List.mem_of_getElem? (i := 20) rfl)), (mr_2 _ (List.mem_of_getElem? (i := 0) rfl)), (mr_21 _ (List.mem_of_getElem? (i := 21) rfl)), rfl, by decide +kernel, by decide +kernel, by decide +kernel⟩
theorem cX0_45 : gV RX0 45 yX0_addChoicesWith cX0_addChoicesWith 6 none 3 RX0 := ⟨(mr_21 _ (List.mem_of_getElem? (i := 22) rfl)), (mr_21 _ (List.mem_of_getElem? (i := 23) rfl)), (mr_22 _ (List.mem_of_getElem? (i := 0) rfl)), (mr_2 _ (List.mem_of_getElem? (i := 0) rfl)), (mr_22 _ (List.mem_of_getElem? (i := 1) rfl)), rfl, by decide +kernel, by decide +kernel, by decide +kernel⟩
theorem cL_157 : gV RL 157 yX4_ways cX4_ways 2 (some .int) 1 RX4 := ⟨(mr_22 _ (List.mem_of_getElem? (i := 2) rfl)), (mr_22 _ (List.mem_of_getElem? (i := 3) rfl)), (mr_22 _ (List.mem_of_getElem? (i := 4) rfl)), (mr_1 _ (List.mem_of_getElem? (i := 5) rfl)), (mr_22 _ (List.mem_of_getElem? (i := 5) rfl)), rfl, by decide +kernel, by decide +kernel, by decide +kernel⟩
theorem cX4_137 : gV RX4 137 yX4_allWays cX4_allWays 5 (some .int) 1 RX4 := ⟨(mr_22 _ (List.mem_of_getElem? (i := 6) rfl)), (mr_22 _ (List.mem_of_getElem? (i := 7) rfl)), (mr_22 _ (List.mem_of_getElem? (i := 8) rfl)), (mr_1 _ (List.mem_of_getElem? (i := 5) rfl)), (mr_22 _ (List.mem_of_getElem? (i := 9) rfl)), rfl, by decide +kernel, by decide +kernel, by decide +kernel⟩
theorem cL_158 : gV RL 158 yX3_reach cX3_reach 1 (some .int) 0 RX3 := ⟨(mr_22 _ (List.mem_of_getElem? (i := 10) rfl)), (mr_22 _ (List.mem_of_getElem? (i := 11) rfl)), (mr_22 _ (List.mem_of_getElem? (i := 12) rfl)), (mr_1 _ (List.mem_of_getElem? (i := 2) rfl)), (mr_22 _ (List.mem_of_getElem? (i := 13) rfl)), rfl, by decide +kernel, by decide +kernel, by decide +kernel⟩
theorem cX3_138 : gV RX3 138 yX0_reachWithin cX0_reachWithin 3 (some .int) 1 RX0 := ⟨(mr_22 _ (List.mem_of_getElem? (i := 14) rfl)), (mr_22 _ (List.mem_of_getElem? (i := 15) rfl)), (mr_22 _ (List.mem_of_getElem? (i := 16) rfl)), (mr_2 _ (List.mem_of_getElem? (i := 0) rfl)), (mr_22 _ (List.mem_of_getElem? (i := 17) rfl)), rfl, by decide +kernel, by decide +kernel, by decide +kernel⟩
theorem cX0_38 : gV RX0 38 yX0_firstGap cX0_firstGap 4 (some .int) 2 RX0 := ⟨(mr_22 _ (List.mem_of_getElem? (i := 18) rfl)), (mr_22 _ (List.mem_of_getElem? (i := 19) rfl)), (mr_22 _ (List.mem_of_getElem? (i := 20) rfl)), (mr_2 _ (List.mem_of_getElem? (i := 0) rfl)), (mr_22 _ (List.mem_of_getElem? (i := 21) rfl)), rfl, by decide +kernel, by decide +kernel, by decide +kernel⟩
theorem cL_161 : gV RL 161 yX4_reach cX4_reach 1 (some .int) 0 RX4 := ⟨(mr_22 _ (List.mem_of_getElem? (i := 22) rfl)), (mr_22 _ (List.mem_of_getElem? (i := 23) rfl)), (mr_23 _ (List.mem_of_getElem? (i := 0) rfl)), (mr_1 _ (List.mem_of_getElem? (i := 5) rfl)), (mr_23 _ (List.mem_of_getElem? (i := 1) rfl)), rfl, by decide +kernel, by decide +kernel, by decide +kernel⟩
theorem cX4_140 : gV RX4 140 yX4_printReach cX4_printReach 4 (some .int) 2 RX4 := ⟨(mr_23 _ (List.mem_of_getElem? (i := 2) rfl)), (mr_23 _ (List.mem_of_getElem? (i := 3) rfl)), (mr_23 _ (List.mem_of_getElem? (i := 4) rfl)), (mr_1 _ (List.mem_of_getElem? (i := 5) rfl)), (mr_23 _ (List.mem_of_getElem? (i := 5) rfl)), rfl, by decide +kernel, by decide +kernel, by decide +kernel⟩
theorem cL_60 : gV RL 60 yX3_gapFrom cX3_gapFrom 2 (some .int) 1 RX3 := ⟨(mr_23 _ (List.mem_of_getElem? (i := 9) rfl)), (mr_23 _ (List.mem_of_getElem? (i := 10) rfl)), (mr_23 _ (List.mem_of_getElem? (i := 11) rfl)), (mr_1 _ (List.mem_of_getElem? (i := 2) rfl)), (mr_23 _ (List.mem_of_getElem? (i := 12) rfl)), rfl, by decide +kernel, by decide +kernel, by decide +kernel⟩
theorem cX3_141 : gV RX3 141 yX0_firstGap cX0_firstGap 4 (some .int) 2 RX0 := ⟨(mr_23 _ (List.mem_of_getElem? (i := 13) rfl)), (mr_22 _ (List.mem_of_getElem? (i := 19) rfl)), (mr_22 _ (List.mem_of_getElem? (i := 20) rfl)), (mr_2 _ (List.mem_of_getElem? (i := 0) rfl)), (mr_22 _ (List.mem_of_getElem? (i := 21) rfl)), rfl, by decide +kernel, by decide +kernel, by decide +kernel⟩
theorem cL_164 : gV RL 164 yX4_gapFrom cX4_gapFrom 3 (some .int) 1 RX4 := ⟨(mr_23 _ (List.mem_of_getElem? (i := 14) rfl)), (mr_23 _ (List.mem_of_getElem? (i := 15) rfl)), (mr_23 _ (List.mem_of_getElem? (i := 16) rfl)), (mr_1 _ (List.mem_of_getElem? (i := 5) rfl)), (mr_23 _ (List.mem_of_getElem? (i := 17) rfl)), rfl, by decide +kernel, by decide +kernel, by decide +kernel⟩
theorem cL_63 : gV RL 63 yX3_gapsTo cX3_gapsTo 2 (some .int) 1 RX3 := ⟨(mr_23 _ (List.mem_of_getElem? (i := 21) rfl)), (mr_23 _ (List.mem_of_getElem? (i := 22) rfl)), (mr_23 _ (List.mem_of_getElem? (i := 23) rfl)), (mr_1 _ (List.mem_of_getElem? (i := 2) rfl)), (mr_24 _ (List.mem_of_getElem? (i := 0) rfl)), rfl, by decide +kernel, by decide +kernel, by decide +kernel⟩
theorem cX3_144 : gV RX3 144 yX0_countGaps cX0_countGaps 5 (some .int) 2 RX0 := ⟨(mr_24 _ (List.mem_of_getElem? (i := 1) rfl)), (mr_24 _ (List.mem_of_getElem? (i := 2) rfl)), (mr_24 _ (List.mem_of_getElem? (i := 3) rfl)), (mr_2 _ (List.mem_of_getElem? (i := 0) rfl)), (mr_24 _ (List.mem_of_getElem? (i := 4) rfl)), rfl, by decide +kernel, by decide +kernel, by decide +kernel⟩
theorem cL_167 : gV RL 167 yX4_gapsTo cX4_gapsTo 4 (some .int) 1 RX4 := ⟨(mr_24 _ (List.mem_of_getElem? (i := 5) rfl)), (mr_24 _ (List.mem_of_getElem? (i := 6) rfl)), (mr_24 _ (List.mem_of_getElem? (i := 7) rfl)), (mr_1 _ (List.mem_of_getElem? (i := 5) rfl)), (mr_24 _ (List.mem_of_getElem? (i := 8) rfl)), rfl, by decide +kernel, by decide +kernel, by decide +kernel⟩
theorem cL_66 : gV RL 66 yX3_lettersOf cX3_lettersOf 5 (some .int) 1 RX3 := ⟨(mr_24 _ (List.mem_of_getElem? (i := 12) rfl)), (mr_24 _ (List.mem_of_getElem? (i := 13) rfl)), (mr_24 _ (List.mem_of_getElem? (i := 14) rfl)), (mr_1 _ (List.mem_of_getElem? (i := 2) rfl)), (mr_24 _ (List.mem_of_getElem? (i := 15) rfl)), rfl, by decide +kernel, by decide +kernel, by decide +kernel⟩
theorem cX3_147 : gV RX3 147 yX1_copyFrom cX1_copyFrom 3 none 1 RX1 := ⟨(mr_24 _ (List.mem_of_getElem? (i := 16) rfl)), (mr_24 _ (List.mem_of_getElem? (i := 17) rfl)), (mr_24 _ (List.mem_of_getElem? (i := 18) rfl)), (mr_1 _ (List.mem_of_getElem? (i := 15) rfl)), (mr_24 _ (List.mem_of_getElem? (i := 19) rfl)), rfl, by decide +kernel, by decide +kernel, by decide +kernel⟩
theorem cX3_150 : gV RX3 150 yX1_holds cX1_holds 3 (some .boolean) 1 RX1 := ⟨(mr_24 _ (List.mem_of_getElem? (i := 20) rfl)), (mr_24 _ (List.mem_of_getElem? (i := 21) rfl)), (mr_24 _ (List.mem_of_getElem? (i := 22) rfl)), (mr_1 _ (List.mem_of_getElem? (i := 15) rfl)), (mr_24 _ (List.mem_of_getElem? (i := 23) rfl)), rfl, by decide +kernel, by decide +kernel, by decide +kernel⟩
theorem cL_170 : gV RL 170 yX4_lettersOf cX4_lettersOf 4 (some .int) 1 RX4 := ⟨(mr_25 _ (List.mem_of_getElem? (i := 0) rfl)), (mr_25 _ (List.mem_of_getElem? (i := 1) rfl)), (mr_25 _ (List.mem_of_getElem? (i := 2) rfl)), (mr_1 _ (List.mem_of_getElem? (i := 5) rfl)), (mr_25 _ (List.mem_of_getElem? (i := 3) rfl)), rfl, by decide +kernel, by decide +kernel, by decide +kernel⟩
theorem cL_171 : gV RL 171 yX3_bestValue cX3_bestValue 5 (some .int) 0 RX3 := ⟨(mr_25 _ (List.mem_of_getElem? (i := 8) rfl)), (mr_25 _ (List.mem_of_getElem? (i := 9) rfl)), (mr_25 _ (List.mem_of_getElem? (i := 10) rfl)), (mr_1 _ (List.mem_of_getElem? (i := 2) rfl)), (mr_25 _ (List.mem_of_getElem? (i := 11) rfl)), rfl, by decide +kernel, by decide +kernel, by decide +kernel⟩
theorem cX3_154 : gV RX3 154 yX0_reachWithValue cX0_reachWithValue 5 (some .int) 2 RX0 := ⟨(mr_25 _ (List.mem_of_getElem? (i := 12) rfl)), (mr_25 _ (List.mem_of_getElem? (i := 13) rfl)), (mr_25 _ (List.mem_of_getElem? (i := 14) rfl)), (mr_2 _ (List.mem_of_getElem? (i := 0) rfl)), (mr_25 _ (List.mem_of_getElem? (i := 15) rfl)), rfl, by decide +kernel, by decide +kernel, by decide +kernel⟩
theorem cL_174 : gV RL 174 yX4_bestValue cX4_bestValue 1 (some .int) 0 RX4 := ⟨(mr_25 _ (List.mem_of_getElem? (i := 16) rfl)), (mr_25 _ (List.mem_of_getElem? (i := 17) rfl)), (mr_25 _ (List.mem_of_getElem? (i := 18) rfl)), (mr_1 _ (List.mem_of_getElem? (i := 5) rfl)), (mr_25 _ (List.mem_of_getElem? (i := 19) rfl)), rfl, by decide +kernel, by decide +kernel, by decide +kernel⟩
theorem cX4_149 : gV RX4 149 yX4_valueBest cX4_valueBest 5 (some .int) 0 RX4 := ⟨(mr_25 _ (List.mem_of_getElem? (i := 20) rfl)), (mr_25 _ (List.mem_of_getElem? (i := 21) rfl)), (mr_25 _ (List.mem_of_getElem? (i := 22) rfl)), (mr_1 _ (List.mem_of_getElem? (i := 5) rfl)), (mr_25 _ (List.mem_of_getElem? (i := 23) rfl)), rfl, by decide +kernel, by decide +kernel, by decide +kernel⟩
theorem cL_175 : gV RL 175 yX3_bestToPrint cX3_bestToPrint 5 (some .int) 0 RX3 := ⟨(mr_26 _ (List.mem_of_getElem? (i := 0) rfl)), (mr_26 _ (List.mem_of_getElem? (i := 1) rfl)), (mr_26 _ (List.mem_of_getElem? (i := 2) rfl)), (mr_1 _ (List.mem_of_getElem? (i := 2) rfl)), (mr_26 _ (List.mem_of_getElem? (i := 3) rfl)), rfl, by decide +kernel, by decide +kernel, by decide +kernel⟩
theorem cL_178 : gV RL 178 yX4_bestToPrint cX4_bestToPrint 1 (some .int) 0 RX4 := ⟨(mr_26 _ (List.mem_of_getElem? (i := 4) rfl)), (mr_26 _ (List.mem_of_getElem? (i := 5) rfl)), (mr_26 _ (List.mem_of_getElem? (i := 6) rfl)), (mr_1 _ (List.mem_of_getElem? (i := 5) rfl)), (mr_26 _ (List.mem_of_getElem? (i := 7) rfl)), rfl, by decide +kernel, by decide +kernel, by decide +kernel⟩
theorem cX4_152 : gV RX4 152 yX4_toPrint cX4_toPrint 6 (some .int) 0 RX4 := ⟨(mr_26 _ (List.mem_of_getElem? (i := 8) rfl)), (mr_26 _ (List.mem_of_getElem? (i := 9) rfl)), (mr_26 _ (List.mem_of_getElem? (i := 10) rfl)), (mr_1 _ (List.mem_of_getElem? (i := 5) rfl)), (mr_26 _ (List.mem_of_getElem? (i := 11) rfl)), rfl, by decide +kernel, by decide +kernel, by decide +kernel⟩
theorem cL_69 : gV RL 69 yX3_reachWithRoom cX3_reachWithRoom 2 (some .int) 1 RX3 := ⟨(mr_26 _ (List.mem_of_getElem? (i := 15) rfl)), (mr_26 _ (List.mem_of_getElem? (i := 16) rfl)), (mr_26 _ (List.mem_of_getElem? (i := 17) rfl)), (mr_1 _ (List.mem_of_getElem? (i := 2) rfl)), (mr_26 _ (List.mem_of_getElem? (i := 18) rfl)), rfl, by decide +kernel, by decide +kernel, by decide +kernel⟩
theorem cL_181 : gV RL 181 yX4_reachWithRoom cX4_reachWithRoom 2 (some .int) 1 RX4 := ⟨(mr_26 _ (List.mem_of_getElem? (i := 19) rfl)), (mr_26 _ (List.mem_of_getElem? (i := 20) rfl)), (mr_26 _ (List.mem_of_getElem? (i := 21) rfl)), (mr_1 _ (List.mem_of_getElem? (i := 5) rfl)), (mr_26 _ (List.mem_of_getElem? (i := 22) rfl)), rfl, by decide +kernel, by decide +kernel, by decide +kernel⟩
theorem cL_182 : gV RL 182 yX3_meanValue cX3_meanValue 3 (some .double) 0 RX3 := ⟨(mr_26 _ (List.mem_of_getElem? (i := 23) rfl)), (mr_27 _ (List.mem_of_getElem? (i := 0) rfl)), (mr_27 _ (List.mem_of_getElem? (i := 1) rfl)), (mr_1 _ (List.mem_of_getElem? (i := 2) rfl)), (mr_27 _ (List.mem_of_getElem? (i := 2) rfl)), rfl, by decide +kernel, by decide +kernel, by decide +kernel⟩
theorem cL_186 : gV RL 186 yX4_meanValue cX4_meanValue 3 (some .double) 0 RX4 := ⟨(mr_27 _ (List.mem_of_getElem? (i := 3) rfl)), (mr_27 _ (List.mem_of_getElem? (i := 4) rfl)), (mr_27 _ (List.mem_of_getElem? (i := 5) rfl)), (mr_1 _ (List.mem_of_getElem? (i := 5) rfl)), (mr_27 _ (List.mem_of_getElem? (i := 6) rfl)), rfl, by decide +kernel, by decide +kernel, by decide +kernel⟩
theorem cL_187 : gV RL 187 yX3_digest cX3_digest 3 (some .long) 0 RX3 := ⟨(mr_27 _ (List.mem_of_getElem? (i := 7) rfl)), (mr_27 _ (List.mem_of_getElem? (i := 8) rfl)), (mr_27 _ (List.mem_of_getElem? (i := 9) rfl)), (mr_1 _ (List.mem_of_getElem? (i := 2) rfl)), (mr_27 _ (List.mem_of_getElem? (i := 10) rfl)), rfl, by decide +kernel, by decide +kernel, by decide +kernel⟩
theorem cX3_161 : gV RX3 161 yX3_stamps cX3_stamps 1 (some .int) 0 RX3 := ⟨(mr_27 _ (List.mem_of_getElem? (i := 13) rfl)), (mr_12 _ (List.mem_of_getElem? (i := 0) rfl)), (mr_12 _ (List.mem_of_getElem? (i := 1) rfl)), (mr_1 _ (List.mem_of_getElem? (i := 2) rfl)), (mr_12 _ (List.mem_of_getElem? (i := 2) rfl)), rfl, by decide +kernel, by decide +kernel, by decide +kernel⟩
theorem cX3_163 : gV RX3 163 yX3_room cX3_room 1 (some .int) 0 RX3 := ⟨(mr_27 _ (List.mem_of_getElem? (i := 14) rfl)), (mr_12 _ (List.mem_of_getElem? (i := 12) rfl)), (mr_12 _ (List.mem_of_getElem? (i := 13) rfl)), (mr_1 _ (List.mem_of_getElem? (i := 2) rfl)), (mr_12 _ (List.mem_of_getElem? (i := 14) rfl)), rfl, by decide +kernel, by decide +kernel, by decide +kernel⟩
theorem cX3_165 : gV RX3 165 yX3_letters cX3_letters 1 (some .int) 0 RX3 := ⟨(mr_27 _ (List.mem_of_getElem? (i := 15) rfl)), (mr_14 _ (List.mem_of_getElem? (i := 11) rfl)), (mr_14 _ (List.mem_of_getElem? (i := 12) rfl)), (mr_1 _ (List.mem_of_getElem? (i := 2) rfl)), (mr_14 _ (List.mem_of_getElem? (i := 13) rfl)), rfl, by decide +kernel, by decide +kernel, by decide +kernel⟩
theorem cX3_167 : gV RX3 167 yX3_taken cX3_taken 1 (some .int) 0 RX3 := ⟨(mr_27 _ (List.mem_of_getElem? (i := 16) rfl)), (mr_14 _ (List.mem_of_getElem? (i := 19) rfl)), (mr_14 _ (List.mem_of_getElem? (i := 20) rfl)), (mr_1 _ (List.mem_of_getElem? (i := 2) rfl)), (mr_14 _ (List.mem_of_getElem? (i := 21) rfl)), rfl, by decide +kernel, by decide +kernel, by decide +kernel⟩
theorem cX3_169 : gV RX3 169 yX3_overpaid cX3_overpaid 1 (some .int) 0 RX3 := ⟨(mr_27 _ (List.mem_of_getElem? (i := 17) rfl)), (mr_15 _ (List.mem_of_getElem? (i := 3) rfl)), (mr_15 _ (List.mem_of_getElem? (i := 4) rfl)), (mr_1 _ (List.mem_of_getElem? (i := 2) rfl)), (mr_15 _ (List.mem_of_getElem? (i := 5) rfl)), rfl, by decide +kernel, by decide +kernel, by decide +kernel⟩
theorem cX3_171 : gV RX3 171 yX3_scarcest cX3_scarcest 4 (some .int) 0 RX3 := ⟨(mr_27 _ (List.mem_of_getElem? (i := 18) rfl)), (mr_15 _ (List.mem_of_getElem? (i := 11) rfl)), (mr_15 _ (List.mem_of_getElem? (i := 12) rfl)), (mr_1 _ (List.mem_of_getElem? (i := 2) rfl)), (mr_15 _ (List.mem_of_getElem? (i := 13) rfl)), rfl, by decide +kernel, by decide +kernel, by decide +kernel⟩
theorem cX3_174 : gV RX3 174 yX3_reachNow cX3_reachNow 1 (some .int) 0 RX3 := ⟨(mr_27 _ (List.mem_of_getElem? (i := 19) rfl)), (mr_18 _ (List.mem_of_getElem? (i := 17) rfl)), (mr_18 _ (List.mem_of_getElem? (i := 18) rfl)), (mr_1 _ (List.mem_of_getElem? (i := 2) rfl)), (mr_18 _ (List.mem_of_getElem? (i := 19) rfl)), rfl, by decide +kernel, by decide +kernel, by decide +kernel⟩
theorem cX3_177 : gV RX3 177 yX3_most cX3_most 1 (some .int) 0 RX3 := ⟨(mr_27 _ (List.mem_of_getElem? (i := 20) rfl)), (mr_19 _ (List.mem_of_getElem? (i := 9) rfl)), (mr_19 _ (List.mem_of_getElem? (i := 10) rfl)), (mr_1 _ (List.mem_of_getElem? (i := 2) rfl)), (mr_19 _ (List.mem_of_getElem? (i := 11) rfl)), rfl, by decide +kernel, by decide +kernel, by decide +kernel⟩
theorem cX3_180 : gV RX3 180 yX3_reach cX3_reach 1 (some .int) 0 RX3 := ⟨(mr_27 _ (List.mem_of_getElem? (i := 21) rfl)), (mr_22 _ (List.mem_of_getElem? (i := 11) rfl)), (mr_22 _ (List.mem_of_getElem? (i := 12) rfl)), (mr_1 _ (List.mem_of_getElem? (i := 2) rfl)), (mr_22 _ (List.mem_of_getElem? (i := 13) rfl)), rfl, by decide +kernel, by decide +kernel, by decide +kernel⟩
theorem cX3_183 : gV RX3 183 yX3_bestValue cX3_bestValue 5 (some .int) 0 RX3 := ⟨(mr_27 _ (List.mem_of_getElem? (i := 22) rfl)), (mr_25 _ (List.mem_of_getElem? (i := 9) rfl)), (mr_25 _ (List.mem_of_getElem? (i := 10) rfl)), (mr_1 _ (List.mem_of_getElem? (i := 2) rfl)), (mr_25 _ (List.mem_of_getElem? (i := 11) rfl)), rfl, by decide +kernel, by decide +kernel, by decide +kernel⟩
theorem cX3_186 : gV RX3 186 yX3_bestToPrint cX3_bestToPrint 5 (some .int) 0 RX3 := ⟨(mr_27 _ (List.mem_of_getElem? (i := 23) rfl)), (mr_26 _ (List.mem_of_getElem? (i := 1) rfl)), (mr_26 _ (List.mem_of_getElem? (i := 2) rfl)), (mr_1 _ (List.mem_of_getElem? (i := 2) rfl)), (mr_26 _ (List.mem_of_getElem? (i := 3) rfl)), rfl, by decide +kernel, by decide +kernel, by decide +kernel⟩
theorem cX3_189 : gV RX3 189 yX3_digestStamps cX3_digestStamps 6 (some .long) 1 RX3 := ⟨(mr_28 _ (List.mem_of_getElem? (i := 0) rfl)), (mr_28 _ (List.mem_of_getElem? (i := 1) rfl)), (mr_28 _ (List.mem_of_getElem? (i := 2) rfl)), (mr_1 _ (List.mem_of_getElem? (i := 2) rfl)), (mr_28 _ (List.mem_of_getElem? (i := 3) rfl)), rfl, by decide +kernel, by decide +kernel, by decide +kernel⟩
theorem cX3_193 : gV RX3 193 yX3_digestPostages cX3_digestPostages 6 (some .long) 1 RX3 := ⟨(mr_28 _ (List.mem_of_getElem? (i := 4) rfl)), (mr_28 _ (List.mem_of_getElem? (i := 5) rfl)), (mr_28 _ (List.mem_of_getElem? (i := 6) rfl)), (mr_1 _ (List.mem_of_getElem? (i := 2) rfl)), (mr_28 _ (List.mem_of_getElem? (i := 7) rfl)), rfl, by decide +kernel, by decide +kernel, by decide +kernel⟩
theorem cL_191 : gV RL 191 yX4_digest cX4_digest 8 (some .long) 0 RX4 := ⟨(mr_28 _ (List.mem_of_getElem? (i := 8) rfl)), (mr_28 _ (List.mem_of_getElem? (i := 9) rfl)), (mr_28 _ (List.mem_of_getElem? (i := 10) rfl)), (mr_1 _ (List.mem_of_getElem? (i := 5) rfl)), (mr_28 _ (List.mem_of_getElem? (i := 11) rfl)), rfl, by decide +kernel, by decide +kernel, by decide +kernel⟩
end
section
/-! the worlds: a kit of stamps, the two tables, the vendor, the reference; rows of grids by their numbers -/
def wR (ad : Nat → Nat) (b N : Nat) : Nat → Option Nat := fun j => if j < N then some (ad (b + j)) else none
theorem wR_at {ad : Nat → Nat} {b N j : Nat} (h : j < N) : wR ad b N j = some (ad (b + j)) := if_pos h
def gU (M : Nat → Nat → Int) (i j : Nat) (x : Int) : Nat → Nat → Int := fun a => if a = i then zU (M a) j x else M a
def wS (ad : Nat → Nat) (cI : ClassId) (c : Int) (fv fs fd : Nat → Int) : va_W := [(ad 0, .inr (1, [.ref (ad 1), .ref (ad 2), .ref (ad 3), .int (zI c)])), (ad 1, .inl (cI, 8, .inl (zA fv))), (ad 2, .inl (cI, 8, .inl (zA fs))), (ad 3, .inl (cI, 8, .inl (zA fd)))]
def wT (ad : Nat → Nat) (cI cG : ClassId) (c rm : Int) (ft fv fu fc : Nat → Int) (M : Nat → Nat → Int) : va_W := [(ad 0, .inr (2, [.ref (ad 1), .ref (ad 2), .ref (ad 3), .ref (ad 4), .int (zI c), .int (zI rm), .ref (ad 5)])), (ad 1, .inl (cG, 9, .inr (.inr (.inr (.inr (wR ad 6 9)))))), (ad 2, .inl (cI, 8, .inl (zA ft))), (ad 3, .inl (cI, 8, .inl (zA fv))), (ad 4, .inl (cI, 8, .inl (zA fu))), (ad 5, .inl (cI, 8, .inl (zA fc))), (ad 6, .inl (cI, 360, .inl (zA (M 0)))), (ad 7, .inl (cI, 360, .inl (zA (M 1)))), (ad 8, .inl (cI, 360, .inl (zA (M 2)))), (ad 9, .inl (cI, 360, .inl (zA (M 3)))), (ad 10, .inl (cI, 360, .inl (zA (M 4)))), (ad 11, .inl (cI, 360, .inl (zA (M 5)))), (ad 12, .inl (cI, 360, .inl (zA (M 6)))), (ad 13, .inl (cI, 360, .inl (zA (M 7)))), (ad 14, .inl (cI, 360, .inl (zA (M 8))))]
def wP (ad : Nat → Nat) (cI cG : ClassId) (fa fb : Nat → Int) (M : Nat → Nat → Int) : va_W := [(ad 0, .inr (0, [.ref (ad 1), .ref (ad 2), .ref (ad 3)])), (ad 1, .inl (cI, 301, .inl (zA fa))), (ad 2, .inl (cI, 301, .inl (zA fb))), (ad 3, .inl (cG, 13, .inr (.inr (.inr (.inr (wR ad 4 13)))))), (ad 4, .inl (cI, 301, .inl (zA (M 0)))), (ad 5, .inl (cI, 301, .inl (zA (M 1)))), (ad 6, .inl (cI, 301, .inl (zA (M 2)))), (ad 7, .inl (cI, 301, .inl (zA (M 3)))), (ad 8, .inl (cI, 301, .inl (zA (M 4)))), (ad 9, .inl (cI, 301, .inl (zA (M 5)))), (ad 10, .inl (cI, 301, .inl (zA (M 6)))), (ad 11, .inl (cI, 301, .inl (zA (M 7)))), (ad 12, .inl (cI, 301, .inl (zA (M 8)))), (ad 13, .inl (cI, 301, .inl (zA (M 9)))), (ad 14, .inl (cI, 301, .inl (zA (M 10)))), (ad 15, .inl (cI, 301, .inl (zA (M 11)))), (ad 16, .inl (cI, 301, .inl (zA (M 12))))]
def wV (h st tr bs bp : Nat) (rm lt tk ov : Int) : va_W := [(h, .inr (3, [.ref st, .ref tr, .ref bs, .ref bp, .int (zI rm), .int (zI lt), .int (zI tk), .int (zI ov)]))]
def wM (ad : Nat → Nat) (cI cG : ClassId) (th c rm lt tk ov : Int) (fv fs fd fo : Nat → Int) (F : Nat → Nat → Int) (fg fp : Nat → Int) (Y : Nat → Nat → Int) : va_W := [(ad 0, .inr (4, [.int (zI th), .int (zI c), .int (zI rm), .int (zI lt), .int (zI tk), .int (zI ov), .ref (ad 1), .ref (ad 2), .ref (ad 3), .ref (ad 4), .ref (ad 5), .ref (ad 6), .ref (ad 7), .ref (ad 8)])), (ad 1, .inl (cI, 8, .inl (zA fv))), (ad 2, .inl (cI, 8, .inl (zA fs))), (ad 3, .inl (cI, 8, .inl (zA fd))), (ad 4, .inl (cI, 8, .inl (zA fo))), (ad 5, .inl (cG, 9, .inr (.inr (.inr (.inr (wR ad 9 9)))))), (ad 6, .inl (cI, 8, .inl (zA fg))), (ad 7, .inl (cI, 301, .inl (zA fp))), (ad 8, .inl (cG, 13, .inr (.inr (.inr (.inr (wR ad 18 13)))))), (ad 9, .inl (cI, 721, .inl (zA (F 0)))), (ad 10, .inl (cI, 721, .inl (zA (F 1)))), (ad 11, .inl (cI, 721, .inl (zA (F 2)))), (ad 12, .inl (cI, 721, .inl (zA (F 3)))), (ad 13, .inl (cI, 721, .inl (zA (F 4)))), (ad 14, .inl (cI, 721, .inl (zA (F 5)))), (ad 15, .inl (cI, 721, .inl (zA (F 6)))), (ad 16, .inl (cI, 721, .inl (zA (F 7)))), (ad 17, .inl (cI, 721, .inl (zA (F 8)))), (ad 18, .inl (cI, 301, .inl (zA (Y 0)))), (ad 19, .inl (cI, 301, .inl (zA (Y 1)))), (ad 20, .inl (cI, 301, .inl (zA (Y 2)))), (ad 21, .inl (cI, 301, .inl (zA (Y 3)))), (ad 22, .inl (cI, 301, .inl (zA (Y 4)))), (ad 23, .inl (cI, 301, .inl (zA (Y 5)))), (ad 24, .inl (cI, 301, .inl (zA (Y 6)))), (ad 25, .inl (cI, 301, .inl (zA (Y 7)))), (ad 26, .inl (cI, 301, .inl (zA (Y 8)))), (ad 27, .inl (cI, 301, .inl (zA (Y 9)))), (ad 28, .inl (cI, 301, .inl (zA (Y 10)))), (ad 29, .inl (cI, 301, .inl (zA (Y 11)))), (ad 30, .inl (cI, 301, .inl (zA (Y 12))))]
theorem wT_row {ad : Nat → Nat} {cI cG : ClassId} {c rm : Int} {ft fv fu fc : Nat → Int} {M : Nat → Nat → Int} {z : va_W} {i : Nat} (h : i < 9) : (wT ad cI cG c rm ft fv fu fc M ++ z)[6 + i]? = some (ad (6 + i), .inl (cI, 360, .inl (zA (M i)))) := match i, h with
  | 0, _ => rfl
  | 1, _ => rfl
  | 2, _ => rfl
  | 3, _ => rfl
  | 4, _ => rfl
  | 5, _ => rfl
  | 6, _ => rfl
  | 7, _ => rfl
  | 8, _ => rfl
  | i + 9, h => absurd h (by omega)
theorem wT_set {ad : Nat → Nat} {cI cG : ClassId} {c rm : Int} {ft fv fu fc : Nat → Int} {M : Nat → Nat → Int} {z : va_W} {i : Nat} (h : i < 9) (j : Nat) (x : Int) : (wT ad cI cG c rm ft fv fu fc M ++ z).set (6 + i) (ad (6 + i), .inl (cI, 360, .inl (zA (zU (M i) j x)))) = wT ad cI cG c rm ft fv fu fc (gU M i j x) ++ z := match i, h with
  | 0, _ => rfl
  | 1, _ => rfl
  | 2, _ => rfl
  | 3, _ => rfl
  | 4, _ => rfl
  | 5, _ => rfl
  | 6, _ => rfl
  | 7, _ => rfl
  | 8, _ => rfl
  | i + 9, h => absurd h (by omega)
theorem wP_row {ad : Nat → Nat} {cI cG : ClassId} {fa fb : Nat → Int} {M : Nat → Nat → Int} {z : va_W} {i : Nat} (h : i < 13) : (wP ad cI cG fa fb M ++ z)[4 + i]? = some (ad (4 + i), .inl (cI, 301, .inl (zA (M i)))) := match i, h with
  | 0, _ => rfl
  | 1, _ => rfl
  | 2, _ => rfl
  | 3, _ => rfl
  | 4, _ => rfl
  | 5, _ => rfl
  | 6, _ => rfl
  | 7, _ => rfl
  | 8, _ => rfl
  | 9, _ => rfl
  | 10, _ => rfl
  | 11, _ => rfl
  | 12, _ => rfl
  | i + 13, h => absurd h (by omega)
theorem wP_set {ad : Nat → Nat} {cI cG : ClassId} {fa fb : Nat → Int} {M : Nat → Nat → Int} {z : va_W} {i : Nat} (h : i < 13) (j : Nat) (x : Int) : (wP ad cI cG fa fb M ++ z).set (4 + i) (ad (4 + i), .inl (cI, 301, .inl (zA (zU (M i) j x)))) = wP ad cI cG fa fb (gU M i j x) ++ z := match i, h with
  | 0, _ => rfl
  | 1, _ => rfl
  | 2, _ => rfl
  | 3, _ => rfl
  | 4, _ => rfl
  | 5, _ => rfl
  | 6, _ => rfl
  | 7, _ => rfl
  | 8, _ => rfl
  | 9, _ => rfl
  | 10, _ => rfl
  | 11, _ => rfl
  | 12, _ => rfl
  | i + 13, h => absurd h (by omega)
theorem wMF_row {ad : Nat → Nat} {cI cG : ClassId} {th c rm lt tk ov : Int} {fv fs fd fo : Nat → Int} {F : Nat → Nat → Int} {fg fp : Nat → Int} {Y : Nat → Nat → Int} {z : va_W} {i : Nat} (h : i < 9) : (wM ad cI cG th c rm lt tk ov fv fs fd fo F fg fp Y ++ z)[9 + i]? = some (ad (9 + i), .inl (cI, 721, .inl (zA (F i)))) := match i, h with
  | 0, _ => rfl
  | 1, _ => rfl
  | 2, _ => rfl
  | 3, _ => rfl
  | 4, _ => rfl
  | 5, _ => rfl
  | 6, _ => rfl
  | 7, _ => rfl
  | 8, _ => rfl
  | i + 9, h => absurd h (by omega)
theorem wMF_set {ad : Nat → Nat} {cI cG : ClassId} {th c rm lt tk ov : Int} {fv fs fd fo : Nat → Int} {F : Nat → Nat → Int} {fg fp : Nat → Int} {Y : Nat → Nat → Int} {z : va_W} {i : Nat} (h : i < 9) (j : Nat) (x : Int) : (wM ad cI cG th c rm lt tk ov fv fs fd fo F fg fp Y ++ z).set (9 + i) (ad (9 + i), .inl (cI, 721, .inl (zA (zU (F i) j x)))) = wM ad cI cG th c rm lt tk ov fv fs fd fo (gU F i j x) fg fp Y ++ z := match i, h with
  | 0, _ => rfl
  | 1, _ => rfl
  | 2, _ => rfl
  | 3, _ => rfl
  | 4, _ => rfl
  | 5, _ => rfl
  | 6, _ => rfl
  | 7, _ => rfl
  | 8, _ => rfl
  | i + 9, h => absurd h (by omega)
theorem wMY_row {ad : Nat → Nat} {cI cG : ClassId} {th c rm lt tk ov : Int} {fv fs fd fo : Nat → Int} {F : Nat → Nat → Int} {fg fp : Nat → Int} {Y : Nat → Nat → Int} {z : va_W} {i : Nat} (h : i < 13) : (wM ad cI cG th c rm lt tk ov fv fs fd fo F fg fp Y ++ z)[18 + i]? = some (ad (18 + i), .inl (cI, 301, .inl (zA (Y i)))) := match i, h with
  | 0, _ => rfl
  | 1, _ => rfl
  | 2, _ => rfl
  | 3, _ => rfl
  | 4, _ => rfl
  | 5, _ => rfl
  | 6, _ => rfl
  | 7, _ => rfl
  | 8, _ => rfl
  | 9, _ => rfl
  | 10, _ => rfl
  | 11, _ => rfl
  | 12, _ => rfl
  | i + 13, h => absurd h (by omega)
theorem wMY_set {ad : Nat → Nat} {cI cG : ClassId} {th c rm lt tk ov : Int} {fv fs fd fo : Nat → Int} {F : Nat → Nat → Int} {fg fp : Nat → Int} {Y : Nat → Nat → Int} {z : va_W} {i : Nat} (h : i < 13) (j : Nat) (x : Int) : (wM ad cI cG th c rm lt tk ov fv fs fd fo F fg fp Y ++ z).set (18 + i) (ad (18 + i), .inl (cI, 301, .inl (zA (zU (Y i) j x)))) = wM ad cI cG th c rm lt tk ov fv fs fd fo F fg fp (gU Y i j x) ++ z := match i, h with
  | 0, _ => rfl
  | 1, _ => rfl
  | 2, _ => rfl
  | 3, _ => rfl
  | 4, _ => rfl
  | 5, _ => rfl
  | 6, _ => rfl
  | 7, _ => rfl
  | 8, _ => rfl
  | 9, _ => rfl
  | 10, _ => rfl
  | 11, _ => rfl
  | 12, _ => rfl
  | i + 13, h => absurd h (by omega)
theorem wT_row1 {ad : Nat → Nat} {cI cG : ClassId} {c rm : Int} {ft fv fu fc : Nat → Int} {M : Nat → Nat → Int} {i : Nat} (h : i < 9) : (wT ad cI cG c rm ft fv fu fc M)[6 + i]? = some (ad (6 + i), .inl (cI, 360, .inl (zA (M i)))) := by
  have h9 := wT_row (ad := ad) (cI := cI) (cG := cG) (c := c) (rm := rm) (ft := ft) (fv := fv) (fu := fu) (fc := fc) (M := M) (z := []) h
  rw [List.append_nil] at h9
  exact h9
theorem wT_set1 {ad : Nat → Nat} {cI cG : ClassId} {c rm : Int} {ft fv fu fc : Nat → Int} {M : Nat → Nat → Int} {i : Nat} (h : i < 9) (j : Nat) (x : Int) : (wT ad cI cG c rm ft fv fu fc M).set (6 + i) (ad (6 + i), .inl (cI, 360, .inl (zA (zU (M i) j x)))) = wT ad cI cG c rm ft fv fu fc (gU M i j x) := by
  have h9 := wT_set (ad := ad) (cI := cI) (cG := cG) (c := c) (rm := rm) (ft := ft) (fv := fv) (fu := fu) (fc := fc) (M := M) (z := []) h j x
  rw [List.append_nil, List.append_nil] at h9
  exact h9
theorem wP_row1 {ad : Nat → Nat} {cI cG : ClassId} {fa fb : Nat → Int} {M : Nat → Nat → Int} {i : Nat} (h : i < 13) : (wP ad cI cG fa fb M)[4 + i]? = some (ad (4 + i), .inl (cI, 301, .inl (zA (M i)))) := by
  have h9 := wP_row (ad := ad) (cI := cI) (cG := cG) (fa := fa) (fb := fb) (M := M) (z := []) h
  rw [List.append_nil] at h9
  exact h9
theorem wP_set1 {ad : Nat → Nat} {cI cG : ClassId} {fa fb : Nat → Int} {M : Nat → Nat → Int} {i : Nat} (h : i < 13) (j : Nat) (x : Int) : (wP ad cI cG fa fb M).set (4 + i) (ad (4 + i), .inl (cI, 301, .inl (zA (zU (M i) j x)))) = wP ad cI cG fa fb (gU M i j x) := by
  have h9 := wP_set (ad := ad) (cI := cI) (cG := cG) (fa := fa) (fb := fb) (M := M) (z := []) h j x
  rw [List.append_nil, List.append_nil] at h9
  exact h9
theorem wMF_row1 {ad : Nat → Nat} {cI cG : ClassId} {th c rm lt tk ov : Int} {fv fs fd fo : Nat → Int} {F : Nat → Nat → Int} {fg fp : Nat → Int} {Y : Nat → Nat → Int} {i : Nat} (h : i < 9) : (wM ad cI cG th c rm lt tk ov fv fs fd fo F fg fp Y)[9 + i]? = some (ad (9 + i), .inl (cI, 721, .inl (zA (F i)))) := by
  have h9 := wMF_row (ad := ad) (cI := cI) (cG := cG) (th := th) (c := c) (rm := rm) (lt := lt) (tk := tk) (ov := ov) (fv := fv) (fs := fs) (fd := fd) (fo := fo) (F := F) (fg := fg) (fp := fp) (Y := Y) (z := []) h
  rw [List.append_nil] at h9
  exact h9
theorem wMF_set1 {ad : Nat → Nat} {cI cG : ClassId} {th c rm lt tk ov : Int} {fv fs fd fo : Nat → Int} {F : Nat → Nat → Int} {fg fp : Nat → Int} {Y : Nat → Nat → Int} {i : Nat} (h : i < 9) (j : Nat) (x : Int) : (wM ad cI cG th c rm lt tk ov fv fs fd fo F fg fp Y).set (9 + i) (ad (9 + i), .inl (cI, 721, .inl (zA (zU (F i) j x)))) = wM ad cI cG th c rm lt tk ov fv fs fd fo (gU F i j x) fg fp Y := by
  have h9 := wMF_set (ad := ad) (cI := cI) (cG := cG) (th := th) (c := c) (rm := rm) (lt := lt) (tk := tk) (ov := ov) (fv := fv) (fs := fs) (fd := fd) (fo := fo) (F := F) (fg := fg) (fp := fp) (Y := Y) (z := []) h j x
  rw [List.append_nil, List.append_nil] at h9
  exact h9
theorem wMY_row1 {ad : Nat → Nat} {cI cG : ClassId} {th c rm lt tk ov : Int} {fv fs fd fo : Nat → Int} {F : Nat → Nat → Int} {fg fp : Nat → Int} {Y : Nat → Nat → Int} {i : Nat} (h : i < 13) : (wM ad cI cG th c rm lt tk ov fv fs fd fo F fg fp Y)[18 + i]? = some (ad (18 + i), .inl (cI, 301, .inl (zA (Y i)))) := by
  have h9 := wMY_row (ad := ad) (cI := cI) (cG := cG) (th := th) (c := c) (rm := rm) (lt := lt) (tk := tk) (ov := ov) (fv := fv) (fs := fs) (fd := fd) (fo := fo) (F := F) (fg := fg) (fp := fp) (Y := Y) (z := []) h
  rw [List.append_nil] at h9
  exact h9
theorem wMY_set1 {ad : Nat → Nat} {cI cG : ClassId} {th c rm lt tk ov : Int} {fv fs fd fo : Nat → Int} {F : Nat → Nat → Int} {fg fp : Nat → Int} {Y : Nat → Nat → Int} {i : Nat} (h : i < 13) (j : Nat) (x : Int) : (wM ad cI cG th c rm lt tk ov fv fs fd fo F fg fp Y).set (18 + i) (ad (18 + i), .inl (cI, 301, .inl (zA (zU (Y i) j x)))) = wM ad cI cG th c rm lt tk ov fv fs fd fo F fg fp (gU Y i j x) := by
  have h9 := wMY_set (ad := ad) (cI := cI) (cG := cG) (th := th) (c := c) (rm := rm) (lt := lt) (tk := tk) (ov := ov) (fv := fv) (fs := fs) (fd := fd) (fo := fo) (F := F) (fg := fg) (fp := fp) (Y := Y) (z := []) h j x
  rw [List.append_nil, List.append_nil] at h9
  exact h9
theorem zr_i {a : Int} (h1 : -2147483648 ≤ a) (h2 : a ≤ 2147483647) : zr a := ⟨h1, h2⟩
section WW
variable {E : gEnv} {k n : Nat} {w : va_W} {pc : Nat} {L : List (Nat × Value)} {st : List Value}
theorem g_top {a : Int} (b : Int) (h : a = b) (K : gW E k n w pc L (.int (zI b) :: st)) : gW E k n w pc L (.int (zI a) :: st) := h ▸ K
theorem g_ws {w' : va_W} {st' : List Value} (hw : w = w') (hs : st = st') (K : gW E k n w' pc L st') : gW E k n w pc L st := hw ▸ hs ▸ K
theorem g_pcs {pc' : Nat} (h : pc = pc') (K : gW E k n w pc' L st) : gW E k n w pc L st := h ▸ K
theorem g_lw {L' : List (Nat × Value)} {w' : va_W} (hw : w = w') (hL : L = L') (K : gW E k n w' pc L' st) : gW E k n w pc L st := hw ▸ hL ▸ K
end WW
end
section
/-! pure functions: how many are greater; two numbers that are one -/
def cab (fv : Nat → Int) (x : Int) : Nat → Nat
  | 0 => 0
  | n + 1 => cab fv x n + (if x < fv n then 1 else 0)
theorem cab_t {fv : Nat → Int} {x : Int} {n : Nat} (h : x < fv n) : ((cab fv x (n + 1) : Nat) : Int) = (cab fv x n : Int) + 1 := by simp [cab, h]
theorem cab_f {fv : Nat → Int} {x : Int} {n : Nat} (h : ¬ x < fv n) : cab fv x (n + 1) = cab fv x n := by simp [cab, h]
theorem lt_or {j i : Nat} {p : Nat → Prop} (hj : j < i + 1) (h : ∀ j, j < i → p j) (hi : p i) : p j := by
  rcases Nat.lt_or_eq_of_le (Nat.le_of_lt_succ hj) with h1 | h1
  · exact h j h1
  · rw [h1]; exact hi
def rmv (f : Nat → Int) (s i : Nat) : Nat → Int := fun j => if s ≤ j ∧ j < i then f (j + 1) else f j
theorem rmv_0 {f : Nat → Int} {s : Nat} : rmv f s s = f := by
  funext j
  simp only [rmv]
  rw [if_neg (by omega)]
theorem rmv_s {f : Nat → Int} {s i : Nat} (h : s ≤ i) : zU (rmv f s i) i (rmv f s i (i + 1)) = rmv f s (i + 1) := by
  funext j
  simp only [rmv, zU]
  by_cases h1 : j = i
  · subst h1
    rw [if_pos rfl, if_neg (by omega), if_pos (by omega)]
  · rw [if_neg h1]
    by_cases h2 : s ≤ j ∧ j < i
    · rw [if_pos h2, if_pos (by omega)]
    · rw [if_neg h2, if_neg (by omega)]
def cpy (f g : Nat → Int) (i : Nat) : Nat → Int := fun j => if j < i then g j else f j
theorem cpy_0 {f g : Nat → Int} : cpy f g 0 = f := by
  funext j
  simp [cpy]
theorem cpy_s {f g : Nat → Int} {i : Nat} : zU (cpy f g i) i (g i) = cpy f g (i + 1) := by
  funext j
  simp only [cpy, zU]
  by_cases h1 : j = i
  · subst h1
    rw [if_pos rfl, if_pos (by omega)]
  · rw [if_neg h1]
    by_cases h2 : j < i
    · rw [if_pos h2, if_pos (by omega)]
    · rw [if_neg h2, if_neg (by omega)]
theorem cpy_g {f g : Nat → Int} {i j : Nat} (h : i ≤ j) : cpy f g i j = f j := if_neg (by omega)
theorem cpy_l {f g : Nat → Int} {i j : Nat} (h : j < i) : cpy f g i j = g j := if_pos h
/-- numbers written at places k 0, k 1 .. -/
def rkU (k : Nat → Nat) (g f : Nat → Int) : Nat → Nat → Int
  | 0 => f
  | n + 1 => zU (rkU k g f n) (k n) (g n)
theorem rkU_at {k : Nat → Nat} {g f : Nat → Int} : ∀ (n : Nat), (∀ a b, a < n → b < n → k a = k b → a = b) → ∀ s, s < n → rkU k g f n (k s) = g s
  | 0, _, s, hs => absurd hs (Nat.not_lt_zero _)
  | n + 1, hi, s, hs => by
    simp only [rkU, zU]
    by_cases h : k s = k n
    · rw [if_pos h, hi s n hs (Nat.lt_succ_self n) h]
    · rw [if_neg h]
      have hsn : s ≠ n := fun e => h (by rw [e])
      exact rkU_at n (fun a b ha hb => hi a b (Nat.lt_succ_of_lt ha) (Nat.lt_succ_of_lt hb)) s (by omega)
theorem cab_le (fv : Nat → Int) (x : Int) : ∀ n, cab fv x n ≤ n
  | 0 => Nat.le_refl _
  | n + 1 => by
    have := cab_le fv x n
    simp only [cab]
    split <;> omega
theorem cab_lt {fv : Nat → Int} {s : Nat} : ∀ n, s < n → cab fv (fv s) n < n
  | 0, h => absurd h (Nat.not_lt_zero _)
  | n + 1, h => by
    simp only [cab]
    by_cases e : s = n
    · subst e
      have := cab_le fv (fv s) s
      rw [if_neg (by omega)]
      omega
    · have := cab_lt (fv := fv) n (by omega : s < n)
      split <;> omega
theorem cab_mono {fv : Nat → Int} {x y : Int} (h : x ≤ y) : ∀ n, cab fv y n ≤ cab fv x n
  | 0 => Nat.le_refl _
  | n + 1 => by
    have := cab_mono (fv := fv) h n
    simp only [cab]
    split <;> split <;> omega
theorem cab_strict {fv : Nat → Int} {x : Int} {b : Nat} (h : x < fv b) : ∀ n, b < n → cab fv (fv b) n < cab fv x n
  | 0, hb => absurd hb (Nat.not_lt_zero _)
  | n + 1, hb => by
    simp only [cab]
    by_cases e : b = n
    · subst e
      have := cab_mono (fv := fv) (Int.le_of_lt h) b
      rw [if_neg (by omega), if_pos h]
      omega
    · have := cab_strict h n (by omega : b < n)
      split <;> split <;> omega
theorem cab_inj {fv : Nat → Int} {n : Nat} (hd : ∀ a b, a < n → b < n → fv a = fv b → a = b) (a b : Nat) (ha : a < n) (hb : b < n) (h : cab fv (fv a) n = cab fv (fv b) n) : a = b := by
  rcases Int.lt_trichotomy (fv a) (fv b) with h1 | h1 | h1
  · have := cab_strict h1 n hb
    omega
  · exact hd a b ha hb h1
  · have := cab_strict h1 n ha
    omega
/-- one row of the table: the fewest with up to m of one more stamp; all of them -/
def tIn (f : Nat → Int) (v u : Int) (s : Nat) : Nat → Int
  | 0 => f s
  | m + 1 => if ((m + 1 : Nat) : Int) ≤ u ∧ ((m + 1 : Nat) : Int) * v ≤ (s : Int) then min (tIn f v u s m) (f ((s : Int) - ((m + 1 : Nat) : Int) * v).toNat + ((m + 1 : Nat) : Int)) else tIn f v u s m
def tRow (f : Nat → Int) (v u : Int) : Nat → Int := fun s => tIn f v u s 12
theorem tIn_s {f : Nat → Int} {v u : Int} {s m : Nat} (h1 : ¬ u < ((m + 1 : Nat) : Int)) (h2 : ¬ (s : Int) < ((m + 1 : Nat) : Int) * v) : min (tIn f v u s m) (f ((s : Int) - ((m + 1 : Nat) : Int) * v).toNat + ((m + 1 : Nat) : Int)) = tIn f v u s (m + 1) := by
  simp only [tIn]
  rw [if_pos ⟨by omega, by omega⟩]
theorem tIn_k {f : Nat → Int} {v u : Int} {s m : Nat} (hv : 0 ≤ v) (h : u < ((m + 1 : Nat) : Int) ∨ (s : Int) < ((m + 1 : Nat) : Int) * v) : ∀ k, tIn f v u s (m + k) = tIn f v u s m
  | 0 => rfl
  | k + 1 => by
    have hm : ((m + 1 : Nat) : Int) * v ≤ ((m + k + 1 : Nat) : Int) * v := Int.mul_le_mul_of_nonneg_right (by omega) hv
    show tIn f v u s ((m + k) + 1) = _
    simp only [tIn]
    rw [if_neg (by omega)]
    exact tIn_k hv h k
theorem tIn_x {f : Nat → Int} {v u : Int} {s m : Nat} (hv : 0 ≤ v) (hm : m ≤ 12) (h : u < ((m + 1 : Nat) : Int) ∨ (s : Int) < ((m + 1 : Nat) : Int) * v) : tIn f v u s m = tRow f v u s := by
  have h1 := tIn_k (f := f) hv h (12 - m)
  rw [show m + (12 - m) = 12 by omega] at h1
  exact h1.symm
theorem tIn_bd {f : Nat → Int} {v u : Int} {s : Nat} (hv : 0 ≤ v) (hf : ∀ j, j ≤ s → 0 ≤ f j ∧ f j ≤ 1000) : ∀ m, 0 ≤ tIn f v u s m ∧ tIn f v u s m ≤ f s
  | 0 => ⟨(hf s (Nat.le_refl _)).1, Int.le_refl _⟩
  | m + 1 => by
    obtain ⟨h1, h2⟩ := tIn_bd (u := u) hv hf m
    simp only [tIn]
    split
    · have h4 : (0 : Int) ≤ ((m + 1 : Nat) : Int) * v := Int.mul_nonneg (by omega) hv
      have h3 := (hf ((s : Int) - ((m + 1 : Nat) : Int) * v).toNat (by omega)).1
      omega
    · exact ⟨h1, h2⟩
theorem tRow_bd {f : Nat → Int} {v u : Int} {s : Nat} (hv : 0 ≤ v) (hf : ∀ j, j ≤ s → 0 ≤ f j ∧ f j ≤ 1000) : 0 ≤ tRow f v u s ∧ tRow f v u s ≤ 1000 := by
  have h1 := tIn_bd (u := u) hv hf 12
  have h2 := (hf s (Nat.le_refl _)).2
  exact ⟨h1.1, Int.le_trans h1.2 h2⟩
theorem tIn_congr {f g : Nat → Int} {v u : Int} {s : Nat} (hv : 0 ≤ v) (h : ∀ j, j ≤ s → f j = g j) : ∀ m, tIn f v u s m = tIn g v u s m
  | 0 => h s (Nat.le_refl _)
  | m + 1 => by
    have h4 : (0 : Int) ≤ ((m + 1 : Nat) : Int) * v := Int.mul_nonneg (by omega) hv
    simp only [tIn]
    rw [tIn_congr hv h m]
    by_cases hc : ((m + 1 : Nat) : Int) ≤ u ∧ ((m + 1 : Nat) : Int) * v ≤ (s : Int)
    · rw [if_pos hc, if_pos hc, h _ (by omega)]
    · rw [if_neg hc, if_neg hc]
theorem tRow_congr {f g : Nat → Int} {v u : Int} {s : Nat} (hv : 0 ≤ v) (h : ∀ j, j ≤ s → f j = g j) : tRow f v u s = tRow g v u s := tIn_congr hv h 12
/-- row r of a grid, its first n places as g -/
def gR (M : Nat → Nat → Int) (r : Nat) (g : Nat → Int) (n : Nat) : Nat → Nat → Int := fun a s => if a = r ∧ s < n then g s else M a s
theorem gR_0 {M : Nat → Nat → Int} {r : Nat} {g : Nat → Int} : gR M r g 0 = M := by
  funext a s
  simp [gR]
theorem gR_ne {M : Nat → Nat → Int} {r a : Nat} {g : Nat → Int} {n s : Nat} (h : a ≠ r) : gR M r g n a s = M a s := if_neg (by omega)
theorem gR_eq {M : Nat → Nat → Int} {r : Nat} {g : Nat → Int} {n s : Nat} (h : s < n) : gR M r g n r s = g s := if_pos ⟨rfl, h⟩
theorem gR_s {M : Nat → Nat → Int} {r : Nat} {g : Nat → Int} {n : Nat} : gU (gR M r g n) r n (g n) = gR M r g (n + 1) := by
  funext a s
  by_cases h1 : a = r
  · subst h1
    show (if a = a then zU (gR M a g n a) n (g n) else gR M a g n a) s = (if a = a ∧ s < n + 1 then g s else M a s)
    rw [if_pos rfl]
    by_cases h2 : s = n
    · subst h2
      rw [if_pos ⟨rfl, Nat.lt_succ_self _⟩]
      exact if_pos rfl
    · show (if s = n then g n else (if a = a ∧ s < n then g s else M a s)) = _
      rw [if_neg h2]
      by_cases h3 : s < n
      · rw [if_pos ⟨rfl, h3⟩, if_pos ⟨rfl, Nat.lt_succ_of_lt h3⟩]
      · rw [if_neg (fun q => h3 q.2), if_neg (fun q => h2 (by omega))]
  · show (if a = r then zU (gR M r g n a) n (g n) else gR M r g n a) s = (if a = r ∧ s < n + 1 then g s else M a s)
    rw [if_neg h1, if_neg (fun q => h1 q.1)]
    exact if_neg (fun q => h1 q.1)
theorem mul_bd {m : Nat} {v : Int} (hv : 1 ≤ v) (hv2 : v ≤ 60) (hm : m ≤ 12) : 0 ≤ ((m + 1 : Nat) : Int) * v ∧ ((m + 1 : Nat) : Int) * v ≤ 780 := by
  refine ⟨Int.mul_nonneg (by omega) (by omega), ?_⟩
  have h := Int.mul_le_mul (a := ((m + 1 : Nat) : Int)) (c := 13) (b := v) (d := 60) (by omega) hv2 (by omega) (by omega)
  omega
/-- the first sum, from s on, n of them looked at, that the table pays; -1 -/
def fsm (f : Nat → Int) (rm : Int) : Nat → Nat → Int
  | 0, _ => -1
  | n + 1, s => if f s ≤ rm then (s : Int) else fsm f rm n (s + 1)
theorem fsm_t {f : Nat → Int} {rm : Int} {n s : Nat} (h : f s ≤ rm) : fsm f rm (n + 1) s = (s : Int) := if_pos h
theorem fsm_f {f : Nat → Int} {rm : Int} {n s : Nat} (h : ¬ f s ≤ rm) : fsm f rm (n + 1) s = fsm f rm n (s + 1) := if_neg h
theorem fsm_bd {f : Nat → Int} {rm : Int} : ∀ (n s : Nat), fsm f rm n s = -1 ∨ ∃ j : Nat, s ≤ j ∧ j < s + n ∧ fsm f rm n s = (j : Int) ∧ f j ≤ rm
  | 0, _ => Or.inl rfl
  | n + 1, s => by
    by_cases h : f s ≤ rm
    · exact Or.inr ⟨s, Nat.le_refl _, by omega, fsm_t h, h⟩
    · rw [fsm_f h]
      rcases fsm_bd n (s + 1) with h1 | ⟨j, h1, h2, h3, h4⟩
      · exact Or.inl h1
      · exact Or.inr ⟨j, by omega, by omega, h3, h4⟩
/-- how far all is paid, n more looked at -/
def rch (f : Nat → Int) (rm : Int) : Nat → Nat → Nat
  | 0, p => p
  | n + 1, p => if f (p + 1) ≤ rm then rch f rm n (p + 1) else p
theorem rch_t {f : Nat → Int} {rm : Int} {n p : Nat} (h : f (p + 1) ≤ rm) : rch f rm (n + 1) p = rch f rm n (p + 1) := if_pos h
theorem rch_f {f : Nat → Int} {rm : Int} {n p : Nat} (h : ¬ f (p + 1) ≤ rm) : rch f rm n p = p := by
  cases n with
  | zero => rfl
  | succ n => exact if_neg h
theorem rch_bd {f : Nat → Int} {rm : Int} : ∀ n p, rch f rm n p ≤ p + n
  | 0, p => Nat.le_refl _
  | n + 1, p => by
    have := rch_bd (f := f) (rm := rm) n (p + 1)
    simp only [rch]
    split <;> omega
/-- the most of one stamp that still makes the fewest -/
def mo (g : Nat → Int) (v nd : Int) (s : Nat) : Nat → Nat
  | 0 => 0
  | m + 1 => if ((m + 1 : Nat) : Int) * v ≤ (s : Int) ∧ g ((s : Int) - ((m + 1 : Nat) : Int) * v).toNat + ((m + 1 : Nat) : Int) = nd then m + 1 else mo g v nd s m
theorem mo_t {g : Nat → Int} {v nd : Int} {s m : Nat} (h1 : ((m + 1 : Nat) : Int) * v ≤ (s : Int)) (h2 : g ((s : Int) - ((m + 1 : Nat) : Int) * v).toNat + ((m + 1 : Nat) : Int) = nd) : mo g v nd s (m + 1) = m + 1 := if_pos ⟨h1, h2⟩
theorem mo_f {g : Nat → Int} {v nd : Int} {s m : Nat} (h : ¬ (((m + 1 : Nat) : Int) * v ≤ (s : Int) ∧ g ((s : Int) - ((m + 1 : Nat) : Int) * v).toNat + ((m + 1 : Nat) : Int) = nd)) : mo g v nd s (m + 1) = mo g v nd s m := if_neg h
theorem mo_le {g : Nat → Int} {v nd : Int} {s : Nat} : ∀ m, mo g v nd s m ≤ m ∧ ((mo g v nd s m : Nat) : Int) * v ≤ (s : Int)
  | 0 => ⟨Nat.le_refl _, by simp [mo]⟩
  | m + 1 => by
    by_cases h : ((m + 1 : Nat) : Int) * v ≤ (s : Int) ∧ g ((s : Int) - ((m + 1 : Nat) : Int) * v).toNat + ((m + 1 : Nat) : Int) = nd
    · rw [mo_t h.1 h.2]
      exact ⟨Nat.le_refl _, h.1⟩
    · rw [mo_f h]
      exact ⟨Nat.le_succ_of_le (mo_le m).1, (mo_le m).2⟩
theorem mul_bd0 {m : Nat} {v : Int} (hv : 1 ≤ v) (hv2 : v ≤ 60) (hm : m ≤ 13) : 0 ≤ (m : Int) * v ∧ (m : Int) * v ≤ 780 := by
  refine ⟨Int.mul_nonneg (by omega) (by omega), ?_⟩
  have h := Int.mul_le_mul (a := (m : Int)) (c := 13) (b := v) (d := 60) (by omega) hv2 (by omega) (by omega)
  omega
/-- what is left of a sum, and how many of each are taken: by the ranks -/
def rst (M : Nat → Nat → Int) (tv tu : Nat → Int) (s : Nat) : Nat → Nat
  | 0 => s
  | r + 1 => ((rst M tv tu s r : Int) - ((mo (M (r + 1)) (tv r) (M r (rst M tv tu s r)) (rst M tv tu s r) (tu r).toNat : Nat) : Int) * tv r).toNat
def chm (M : Nat → Nat → Int) (tv tu : Nat → Int) (s r : Nat) : Nat := mo (M (r + 1)) (tv r) (M r (rst M tv tu s r)) (rst M tv tu s r) (tu r).toNat
theorem chm_bd {M : Nat → Nat → Int} {tv tu : Nat → Int} {s r : Nat} : ((chm M tv tu s r : Nat) : Int) * tv r ≤ (rst M tv tu s r : Int) := (mo_le _).2
theorem rst_s {M : Nat → Nat → Int} {tv tu : Nat → Int} {s r : Nat} : ((rst M tv tu s (r + 1) : Nat) : Int) = (rst M tv tu s r : Int) - ((chm M tv tu s r : Nat) : Int) * tv r := by
  have := chm_bd (M := M) (tv := tv) (tu := tu) (s := s) (r := r)
  show (((rst M tv tu s r : Int) - ((chm M tv tu s r : Nat) : Int) * tv r).toNat : Int) = _
  omega
theorem rst_le {M : Nat → Nat → Int} {tv tu : Nat → Int} {s : Nat} : ∀ r, (∀ j, j < r → 0 ≤ tv j) → rst M tv tu s r ≤ s
  | 0, _ => Nat.le_refl _
  | r + 1, h => by
    have h1 := rst_le (M := M) (tv := tv) (tu := tu) (s := s) r (fun j hj => h j (Nat.lt_succ_of_lt hj))
    have h2 := rst_s (M := M) (tv := tv) (tu := tu) (s := s) (r := r)
    have h3 : (0 : Int) ≤ ((chm M tv tu s r : Nat) : Int) * tv r := Int.mul_nonneg (by omega) (h r (Nat.lt_succ_self r))
    omega
/-- the greatest sum: room left and sum, by the ranks -/
def gsm (tv tu : Nat → Int) (rm : Int) : Nat → Int × Int
  | 0 => (rm, 0)
  | r + 1 => ((gsm tv tu rm r).1 - min (tu r) (gsm tv tu rm r).1, (gsm tv tu rm r).2 + min (tu r) (gsm tv tu rm r).1 * tv r)
theorem gsm_bd {tv tu : Nat → Int} {rm : Int} (hr : 0 ≤ rm) : ∀ r, (∀ j, j < r → 0 ≤ tu j) → 0 ≤ (gsm tv tu rm r).1 ∧ (gsm tv tu rm r).1 ≤ rm
  | 0, _ => ⟨hr, Int.le_refl _⟩
  | r + 1, h => by
    have h1 := gsm_bd (tv := tv) hr r (fun j hj => h j (Nat.lt_succ_of_lt hj))
    have h2 := h r (Nat.lt_succ_self r)
    show 0 ≤ (gsm tv tu rm r).1 - min (tu r) (gsm tv tu rm r).1 ∧ (gsm tv tu rm r).1 - min (tu r) (gsm tv tu rm r).1 ≤ rm
    omega
/-- the table by the stamps from the smallest value on -/
def tb (vs us : Nat → Int) : Nat → Nat → Int
  | 0 => fun s => if s = 0 then 0 else 1000
  | k + 1 => tRow (tb vs us k) (vs k) (us k)
theorem tb_bd {vs us : Nat → Int} : ∀ k, (∀ j, j < k → 0 ≤ vs j) → ∀ s, 0 ≤ tb vs us k s ∧ tb vs us k s ≤ 1000
  | 0, _, s => by
    show 0 ≤ (if s = 0 then (0 : Int) else 1000) ∧ (if s = 0 then (0 : Int) else 1000) ≤ 1000
    split <;> omega
  | k + 1, h, s => tRow_bd (h k (Nat.lt_succ_self k)) (fun j _ => tb_bd k (fun i hi => h i (Nat.lt_succ_of_lt hi)) j)
theorem tb_congr {vs us vs' us' : Nat → Int} : ∀ k, (∀ j, j < k → vs j = vs' j ∧ us j = us' j) → tb vs us k = tb vs' us' k
  | 0, _ => rfl
  | k + 1, h => by
    show tRow (tb vs us k) (vs k) (us k) = tRow (tb vs' us' k) (vs' k) (us' k)
    rw [tb_congr k (fun j hj => h j (Nat.lt_succ_of_lt hj)), (h k (Nat.lt_succ_self k)).1, (h k (Nat.lt_succ_self k)).2]
theorem mo_p {g : Nat → Int} {v nd : Int} {s m : Nat} (hm : ¬ (m : Int) ≤ 0) (h1 : (m : Int) * v ≤ (s : Int)) (h2 : g ((s : Int) - (m : Int) * v).toNat + (m : Int) = nd) : mo g v nd s m = m := by
  cases m with
  | zero => exact absurd (Int.le_refl _) hm
  | succ m => exact mo_t h1 h2
theorem mo_n {g : Nat → Int} {v nd : Int} {s m : Nat} (hm : ¬ (m : Int) ≤ 0) (h : ¬ ((m : Int) * v ≤ (s : Int) ∧ g ((s : Int) - (m : Int) * v).toNat + (m : Int) = nd)) : mo g v nd s m = mo g v nd s (m - 1) := by
  cases m with
  | zero => exact absurd (Int.le_refl _) hm
  | succ m => exact mo_f h
theorem chU_0 : True := trivial
/-- what is chosen, written at the stamps' own places -/
def chU (M : Nat → Nat → Int) (ft tv tu fc : Nat → Int) (s : Nat) : Nat → Nat → Int
  | 0 => fc
  | r + 1 => zU (chU M ft tv tu fc s r) (ft r).toNat ((chm M tv tu s r : Nat) : Int)
/-! the order of the values, as an insertion makes it -/
def insA (o : Nat → Nat) (p e : Nat) : Nat → Nat := fun j => if j < p then o j else if j = p then e else o (j - 1)
def ptI (fv : Nat → Int) (o : Nat → Nat) (x : Int) : Nat → Nat
  | 0 => 0
  | n + 1 => if x < fv (o n) then ptI fv o x n else n + 1
def ordF (fv : Nat → Int) : Nat → Nat → Nat
  | 0 => fun _ => 0
  | n + 1 => insA (ordF fv n) (ptI fv (ordF fv n) (fv n) n) n
theorem ptI_le {fv : Nat → Int} {o : Nat → Nat} {x : Int} : ∀ n, ptI fv o x n ≤ n
  | 0 => Nat.le_refl _
  | n + 1 => by
    have := ptI_le (fv := fv) (o := o) (x := x) n
    simp only [ptI]
    split <;> omega
theorem ptI_hi {fv : Nat → Int} {o : Nat → Nat} {x : Int} : ∀ n j, ptI fv o x n ≤ j → j < n → x < fv (o j)
  | 0, _, _, h => absurd h (Nat.not_lt_zero _)
  | n + 1, j, h1, h2 => by
    simp only [ptI] at h1
    split at h1
    · by_cases e : j = n
      · subst e; assumption
      · exact ptI_hi n j h1 (by omega)
    · omega
theorem ptI_lo {fv : Nat → Int} {o : Nat → Nat} {x : Int} : ∀ n, (∀ a b, a < b → b < n → fv (o a) < fv (o b)) → (∀ j, j < n → fv (o j) ≠ x) → ∀ j, j < ptI fv o x n → fv (o j) < x
  | 0, _, _, _, h => absurd h (Nat.not_lt_zero _)
  | n + 1, hs, hd, j, h => by
    simp only [ptI] at h
    split at h
    · exact ptI_lo n (fun a b h1 h2 => hs a b h1 (Nat.lt_succ_of_lt h2)) (fun i hi => hd i (Nat.lt_succ_of_lt hi)) j h
    · have h3 := hd n (Nat.lt_succ_self n)
      by_cases e : j = n
      · subst e; omega
      · have := hs j n (by omega) (Nat.lt_succ_self n)
        omega
theorem ordF_ok (fv : Nat → Int) : ∀ n, (∀ a b, a < n → b < n → fv a = fv b → a = b) → (∀ j, j < n → ordF fv n j < n) ∧ ∀ a b, a < b → b < n → fv (ordF fv n a) < fv (ordF fv n b)
  | 0, _ => ⟨fun _ h => absurd h (Nat.not_lt_zero _), fun _ _ _ h => absurd h (Nat.not_lt_zero _)⟩
  | n + 1, hd => by
    obtain ⟨h1, h2⟩ := ordF_ok fv n (fun a b ha hb => hd a b (Nat.lt_succ_of_lt ha) (Nat.lt_succ_of_lt hb))
    have hp := ptI_le (fv := fv) (o := ordF fv n) (x := fv n) n
    have hne : ∀ j, j < n → fv (ordF fv n j) ≠ fv n := fun j hj e => by
      have h3 := h1 j hj
      have := hd _ _ (Nat.lt_succ_of_lt h3) (Nat.lt_succ_self n) e
      omega
    have hlo := ptI_lo (x := fv n) n h2 hne
    have hhi := ptI_hi (fv := fv) (o := ordF fv n) (x := fv n) n
    generalize hq : ptI fv (ordF fv n) (fv n) n = p at hp hlo hhi
    refine ⟨fun j hj => ?_, fun a b hab hb => ?_⟩
    · simp only [ordF, insA, hq]
      split
      · exact Nat.lt_succ_of_lt (h1 j (by omega))
      · split
        · exact Nat.lt_succ_self n
        · exact Nat.lt_succ_of_lt (h1 (j - 1) (by omega))
    · simp only [ordF, insA, hq]
      by_cases ha1 : a < p
      · rw [if_pos ha1]
        by_cases hb1 : b < p
        · rw [if_pos hb1]; exact h2 a b hab (by omega)
        · rw [if_neg hb1]
          by_cases hb2 : b = p
          · rw [if_pos hb2]; exact hlo a ha1
          · rw [if_neg hb2]; exact h2 a (b - 1) (by omega) (by omega)
      · rw [if_neg ha1, if_neg (by omega : ¬ b < p), if_neg (by omega : ¬ b = p)]
        by_cases ha2 : a = p
        · rw [if_pos ha2]; exact hhi (b - 1) (by omega) (by omega)
        · rw [if_neg ha2]; exact h2 (a - 1) (b - 1) (by omega) (by omega)
theorem cab_congr {f g : Nat → Int} {x : Int} : ∀ n, (∀ j, j < n → f j = g j) → cab f x n = cab g x n
  | 0, _ => rfl
  | n + 1, h => by
    simp only [cab]
    rw [cab_congr n (fun j hj => h j (Nat.lt_succ_of_lt hj)), h n (Nat.lt_succ_self n)]
theorem cab_ins {fv : Nat → Int} {o : Nat → Nat} {p e : Nat} {x : Int} : ∀ n, p ≤ n → cab (fun j => fv (insA o p e j)) x (n + 1) = cab (fun j => fv (o j)) x n + (if x < fv e then 1 else 0)
  | 0, h => by
    have : p = 0 := by omega
    subst this
    simp [cab, insA]
  | n + 1, h => by
    by_cases hp : p = n + 1
    · subst hp
      have h1 : cab (fun j => fv (insA o (n + 1) e j)) x (n + 1) = cab (fun j => fv (o j)) x (n + 1) := cab_congr (n + 1) (fun j hj => by simp only [insA]; rw [if_pos hj])
      show cab (fun j => fv (insA o (n + 1) e j)) x (n + 1) + (if x < fv (insA o (n + 1) e (n + 1)) then 1 else 0) = _
      rw [h1]
      have h2 : insA o (n + 1) e (n + 1) = e := by simp [insA]
      rw [h2]
    · have ih := cab_ins (fv := fv) (o := o) (p := p) (e := e) (x := x) n (by omega)
      show cab (fun j => fv (insA o p e j)) x (n + 1) + (if x < fv (insA o p e (n + 1)) then 1 else 0) = _
      rw [ih]
      have h2 : insA o p e (n + 1) = o n := by
        simp only [insA]
        rw [if_neg (by omega), if_neg (by omega)]
        rfl
      rw [h2]
      show _ = cab (fun j => fv (o j)) x n + (if x < fv (o n) then 1 else 0) + (if x < fv e then 1 else 0)
      omega
theorem cab_ord (fv : Nat → Int) (x : Int) : ∀ n, cab fv x n = cab (fun j => fv (ordF fv n j)) x n
  | 0 => rfl
  | n + 1 => by
    show cab fv x n + (if x < fv n then 1 else 0) = cab (fun j => fv (insA (ordF fv n) (ptI fv (ordF fv n) (fv n) n) n j)) x (n + 1)
    rw [cab_ins n (ptI_le n), cab_ord fv x n]
theorem cab_none {w : Nat → Int} {x : Int} : ∀ n, (∀ j, j < n → w j ≤ x) → cab w x n = 0
  | 0, _ => rfl
  | n + 1, h => by
    simp only [cab]
    rw [cab_none n (fun j hj => h j (Nat.lt_succ_of_lt hj)), if_neg (by have := h n (Nat.lt_succ_self n); omega)]
theorem cab_sorted {w : Nat → Int} : ∀ n, (∀ a b, a < b → b < n → w a < w b) → ∀ j, j < n → cab w (w j) n = n - 1 - j
  | 0, _, _, h => absurd h (Nat.not_lt_zero _)
  | n + 1, h, j, hj => by
    simp only [cab]
    by_cases e : j = n
    · subst e
      rw [cab_none j (fun i hi => Int.le_of_lt (h i j hi (Nat.lt_succ_self j))), if_neg (by omega)]
      omega
    · rw [cab_sorted n (fun a b h1 h2 => h a b h1 (Nat.lt_succ_of_lt h2)) j (by omega), if_pos (h j n (by omega) (Nat.lt_succ_self n))]
      omega
theorem rank_ord {fv : Nat → Int} {n : Nat} (hd : ∀ a b, a < n → b < n → fv a = fv b → a = b) {j : Nat} (hj : j < n) : cab fv (fv (ordF fv n j)) n = n - 1 - j := by
  rw [cab_ord fv _ n]
  exact cab_sorted n (ordF_ok fv n hd).2 j hj
theorem rkU_ord {fv g f : Nat → Int} {n r : Nat} (hd : ∀ a b, a < n → b < n → fv a = fv b → a = b) (hr : r < n) : rkU (fun s => cab fv (fv s) n) g f n r = g (ordF fv n (n - 1 - r)) := by
  have h1 := rank_ord hd (j := n - 1 - r) (by omega)
  have h2 := rkU_at (k := fun s => cab fv (fv s) n) (g := g) (f := f) n (fun a b ha hb h => cab_inj hd a b ha hb h) (ordF fv n (n - 1 - r)) ((ordF_ok fv n hd).1 _ (by omega))
  rw [h1, show n - 1 - (n - 1 - r) = r by omega] at h2
  exact h2
theorem gU_eq {M : Nat → Nat → Int} {r j : Nat} {x : Int} : gU M r j x r j = x := by simp [gU, zU]
theorem gU_ne {M : Nat → Nat → Int} {r j a s : Nat} {x : Int} (h : a = r → s ≠ j) : gU M r j x a s = M a s := by
  simp only [gU]
  split
  · rename_i h1
    simp only [zU]
    rw [if_neg (h h1)]
  · rfl
/-- the table's state, filled for these stamps -/
def vsF (fv : Nat → Int) (cnt : Nat) : Nat → Int := fun j => fv (ordF fv cnt j)
def usF (fv fs : Nat → Int) (cnt : Nat) (rm : Int) : Nat → Int := fun j => min (fs (ordF fv cnt j)) rm
def Rok (fv fs : Nat → Int) (cnt : Nat) (rm : Int) (ft tv tu : Nat → Int) : Prop := ∀ r, r < cnt → ft r = (ordF fv cnt (cnt - 1 - r) : Int) ∧ tv r = vsF fv cnt (cnt - 1 - r) ∧ tu r = usF fv fs cnt rm (cnt - 1 - r)
def Mok (fv fs : Nat → Int) (cnt : Nat) (rm : Int) (M : Nat → Nat → Int) (k : Nat) : Prop := ∀ r, k ≤ r → r ≤ cnt → ∀ s, s < 360 → M r s = tb (vsF fv cnt) (usF fv fs cnt rm) (cnt - r) s
/-- stamps as they may stand -/
def Sok (cnt : Nat) (fv fs : Nat → Int) : Prop := (∀ j, j < cnt → 1 ≤ fv j ∧ fv j ≤ 60) ∧ (∀ j, j < cnt → 0 ≤ fs j ∧ fs j ≤ 119) ∧ ∀ a b, a < cnt → b < cnt → fv a = fv b → a = b
theorem Sok.vs {cnt : Nat} {fv fs : Nat → Int} (h : Sok cnt fv fs) {j : Nat} (hj : j < cnt) : 1 ≤ vsF fv cnt j ∧ vsF fv cnt j ≤ 60 := h.1 _ ((ordF_ok fv cnt h.2.2).1 j hj)
theorem Sok.us {cnt : Nat} {fv fs : Nat → Int} (h : Sok cnt fv fs) {rm : Int} (hr : 0 ≤ rm ∧ rm ≤ 12) {j : Nat} (hj : j < cnt) : 0 ≤ usF fv fs cnt rm j ∧ usF fv fs cnt rm j ≤ 12 := by
  have := h.2.1 _ ((ordF_ok fv cnt h.2.2).1 j hj)
  show 0 ≤ min (fs (ordF fv cnt j)) rm ∧ min (fs (ordF fv cnt j)) rm ≤ 12
  omega
theorem Rok.tv {cnt : Nat} {fv fs ft tv tu : Nat → Int} {rm : Int} (h : Rok fv fs cnt rm ft tv tu) (hs : Sok cnt fv fs) : ∀ r, r < cnt → 1 ≤ tv r ∧ tv r ≤ 60 := fun r hr => by
  rw [(h r hr).2.1]; exact hs.vs (by omega)
theorem Rok.tu {cnt : Nat} {fv fs ft tv tu : Nat → Int} {rm : Int} (h : Rok fv fs cnt rm ft tv tu) (hs : Sok cnt fv fs) (hr9 : 0 ≤ rm ∧ rm ≤ 12) : ∀ r, r < cnt → 0 ≤ tu r ∧ tu r ≤ 12 := fun r hr => by
  rw [(h r hr).2.2]; exact hs.us hr9 (by omega)
theorem Rok.ft {cnt : Nat} {fv fs ft tv tu : Nat → Int} {rm : Int} (h : Rok fv fs cnt rm ft tv tu) (hs : Sok cnt fv fs) : ∀ r, r < cnt → 0 ≤ ft r ∧ ft r < cnt := fun r hr => by
  rw [(h r hr).1]
  have := (ordF_ok fv cnt hs.2.2).1 (cnt - 1 - r) (by omega)
  omega
theorem Mok.bd {cnt : Nat} {fv fs : Nat → Int} {rm : Int} {M : Nat → Nat → Int} {k : Nat} (h : Mok fv fs cnt rm M k) (hs : Sok cnt fv fs) {r j : Nat} (h1 : k ≤ r) (h2 : r ≤ cnt) (h3 : j < 360) : 0 ≤ M r j ∧ M r j ≤ 1000 := by
  rw [h r h1 h2 j h3]
  exact tb_bd _ (fun i hi => by have := hs.vs (j := i) (by omega); omega) j
theorem Mok.step {cnt : Nat} {fv fs ft tv tu : Nat → Int} {rm : Int} {M : Nat → Nat → Int} {r : Nat} (h : Mok fv fs cnt rm M (r + 1)) (hR : Rok fv fs cnt rm ft tv tu) (hs : Sok cnt fv fs) (hr : r < cnt) : Mok fv fs cnt rm (gR M r (tRow (M (r + 1)) (tv r) (tu r)) 360) r := by
  intro a h1 h2 s h3
  by_cases e : a = r
  · subst e
    rw [gR_eq h3, (hR a hr).2.1, (hR a hr).2.2]
    have hv := hs.vs (j := cnt - 1 - a) (by omega)
    rw [tRow_congr (g := tb (vsF fv cnt) (usF fv fs cnt rm) (cnt - 1 - a)) (by omega) (fun j hj => by rw [h (a + 1) (Nat.le_refl _) (by omega) j (by omega), show cnt - (a + 1) = cnt - 1 - a by omega])]
    rw [show cnt - a = (cnt - 1 - a) + 1 by omega]
    rfl
  · rw [gR_ne e]
    exact h a (by omega) h2 s h3
end
section
abbrev rmX1_hasValue : Room := { frames := 0, cells := 0, slots := 0, locals := 0 }
set_option maxHeartbeats 4000000 in
set_option maxRecDepth 100000 in
theorem met_X1_hasValue (l : Launch) (D : va_G) (cI cG cJ : ClassId) (ad : Nat → Nat) (cnt : Nat) (hc : cnt ≤ 8) (fv fs fd : Nat → Int) (hv : ∀ j, j < cnt → zr (fv j)) (x : Int) (hx : zr x) : gMet l yX1_hasValue cX1_hasValue 3 (some .boolean) rmX1_hasValue D cI cG cJ [.ref (ad 0), .int (zI x)] (wS ad cI (cnt : Int) fv fs fd) (gI (fun z w9 => ((z = 1 ∧ ∃ j, j < cnt ∧ fv j = x) ∨ (z = 0 ∧ ∀ j, j < cnt → fv j ≠ x)) ∧ w9 = wS ad cI (cnt : Int) fv fs fd)) := by
  refine gMet_Z (by decide) rfl (Nat.le_of_ble_eq_true rfl) (fun E C ret => ?_)
  refine g_iconst C dX1_hasValue_0 ?_
  refine g_istore_n (L' := [(2, .int (zI 0)), (0, .ref (ad 0)), (1, .int (zI x))]) C dX1_hasValue_1 (by decide) rfl ?_
  have loop_2 : ∀ (fu : Nat) (i : Nat), (hi : i ≤ cnt) → (hn : ∀ j, j < i → fv j ≠ x) → cnt - i < fu → gW E 0 0 (wS ad cI (cnt : Int) fv fs fd) 2 [(2, .int (zI (i : Int))), (0, .ref (ad 0)), (1, .int (zI x))] [] := by
    intro fu
    induction fu with
    | zero => intro i hi hn h9; exact absurd h9 (Nat.not_lt_zero _)
    | succ fu ih_2 =>
      intro i hi hn hmu_2
      refine g_iload_n C dX1_hasValue_2 0 rfl ?_
      refine g_aload_n C dX1_hasValue_3 1 rfl ?_
      refine g_getf C fX1_21 0 rfl rfl dX1_hasValue_4 ?_
      refine g_icmp_ge 28 C dX1_hasValue_7 (by decide) (zr_i (by omega) (by omega)) (zr_i (by omega) (by omega)) (fun c_7 => ?_) (fun c_7 => ?_)
      · refine g_iconst C dX1_hasValue_28 ?_
        exact ret _ _ _ _ _ _ (by decide) (by decide) dX1_hasValue_29 (Or.inl rfl) (⟨Or.inr ⟨rfl, fun j hj => hn j (by omega)⟩, rfl⟩)
      · refine g_aload_n C dX1_hasValue_10 1 rfl ?_
        refine g_getf C fX1_9 0 rfl rfl dX1_hasValue_11 ?_
        refine g_iload_n C dX1_hasValue_14 0 rfl ?_
        refine g_iald C 1 rfl (by decide) (by omega) (by omega) (v := (fv i)) rfl dX1_hasValue_15 ?_
        refine g_iload_n C dX1_hasValue_16 2 rfl ?_
        refine g_icmp_ne 22 C dX1_hasValue_17 (by decide) (hv i (by omega)) hx (fun c_17 => ?_) (fun c_17 => ?_)
        · refine g_iinc (L' := [(2, .int (zI ((i : Int) + 1))), (0, .ref (ad 0)), (1, .int (zI x))]) C dX1_hasValue_22 0 rfl (by decide) rfl ?_
          refine g_goto 2 C dX1_hasValue_25 (by decide) ?_
          refine g_loc (L' := [(2, .int (zI ((i : Int) + 1))), (0, .ref (ad 0)), (1, .int (zI x))]) [0, 1, 2] rfl ?_
          exact ih_2 (i + 1) (by omega) (fun j hj => lt_or (p := fun j => fv j ≠ x) hj hn c_17) (by omega)
        · refine g_iconst C dX1_hasValue_20 ?_
          exact ret _ _ _ _ _ _ (by decide) (by decide) dX1_hasValue_21 (Or.inr rfl) (⟨Or.inl ⟨rfl, i, by omega, c_17⟩, rfl⟩)
  refine g_loc (L' := [(2, .int (zI 0)), (0, .ref (ad 0)), (1, .int (zI x))]) [0, 1, 2] rfl ?_
  exact loop_2 _ 0 (Nat.zero_le _) (fun j hj => absurd hj (Nat.not_lt_zero _)) (Nat.lt_succ_self _)
abbrev rmX1_countAbove : Room := { frames := 0, cells := 0, slots := 0, locals := 0 }
set_option maxHeartbeats 4000000 in
set_option maxRecDepth 100000 in
theorem met_X1_countAbove (l : Launch) (D : va_G) (cI cG cJ : ClassId) (ad : Nat → Nat) (cnt : Nat) (hc : cnt ≤ 8) (fv fs fd : Nat → Int) (hv : ∀ j, j < cnt → zr (fv j)) (s : Nat) (hs : s < cnt) : gMet l yX1_countAbove cX1_countAbove 4 (some .int) rmX1_countAbove D cI cG cJ [.ref (ad 0), .int (zI (s : Int))] (wS ad cI (cnt : Int) fv fs fd) (gI (fun z w9 => z = ((cab fv (fv s) cnt : Nat) : Int) ∧ w9 = wS ad cI (cnt : Int) fv fs fd)) := by
  refine gMet_I (by decide) rfl (Nat.le_of_ble_eq_true rfl) (fun E C ret => ?_)
  refine g_iconst C dX1_countAbove_0 ?_
  refine g_istore_n (L' := [(2, .int (zI 0)), (0, .ref (ad 0)), (1, .int (zI (s : Int)))]) C dX1_countAbove_1 (by decide) rfl ?_
  refine g_iconst C dX1_countAbove_2 ?_
  refine g_istore_n (L' := [(3, .int (zI 0)), (2, .int (zI 0)), (0, .ref (ad 0)), (1, .int (zI (s : Int)))]) C dX1_countAbove_3 (by decide) rfl ?_
  have loop_4 : ∀ (fu : Nat) (i : Nat), (hi : i ≤ cnt) → cnt - i < fu → gW E 0 0 (wS ad cI (cnt : Int) fv fs fd) 4 [(2, .int (zI ((cab fv (fv s) i : Nat) : Int))), (3, .int (zI (i : Int))), (0, .ref (ad 0)), (1, .int (zI (s : Int)))] [] := by
    intro fu
    induction fu with
    | zero => intro i hi h9; exact absurd h9 (Nat.not_lt_zero _)
    | succ fu ih_4 =>
      intro i hi hmu_4
      refine g_iload_n C dX1_countAbove_4 1 rfl ?_
      refine g_aload_n C dX1_countAbove_5 2 rfl ?_
      refine g_getf C fX1_21 0 rfl rfl dX1_countAbove_6 ?_
      refine g_icmp_ge 36 C dX1_countAbove_9 (by decide) (zr_i (by omega) (by omega)) (zr_i (by omega) (by omega)) (fun c_9 => ?_) (fun c_9 => ?_)
      · have e9 : i = cnt := by omega
        subst e9
        refine g_iload_n C dX1_countAbove_36 0 rfl ?_
        exact ret _ _ _ _ _ _ (by decide) (by decide) dX1_countAbove_37 (⟨rfl, rfl⟩)
      · refine g_aload_n C dX1_countAbove_12 2 rfl ?_
        refine g_getf C fX1_9 0 rfl rfl dX1_countAbove_13 ?_
        refine g_iload_n C dX1_countAbove_16 1 rfl ?_
        refine g_iald C 1 rfl (by decide) (by omega) (by omega) (v := (fv i)) rfl dX1_countAbove_17 ?_
        refine g_aload_n C dX1_countAbove_18 2 rfl ?_
        refine g_getf C fX1_9 0 rfl rfl dX1_countAbove_19 ?_
        refine g_iload_n C dX1_countAbove_22 3 rfl ?_
        refine g_iald C 1 rfl (by decide) (by omega) (by omega) (v := (fv s)) rfl dX1_countAbove_23 ?_
        refine g_icmp_le 30 C dX1_countAbove_24 (by decide) (hv i (by omega)) (hv s hs) (fun c_24 => ?_) (fun c_24 => ?_)
        · refine g_iinc (L' := [(3, .int (zI ((i : Int) + 1))), (2, .int (zI ((cab fv (fv s) i : Nat) : Int))), (0, .ref (ad 0)), (1, .int (zI (s : Int)))]) C dX1_countAbove_30 1 rfl (by decide) rfl ?_
          refine g_goto 4 C dX1_countAbove_33 (by decide) ?_
          refine g_loc (L' := [(2, .int (zI ((cab fv (fv s) i : Nat) : Int))), (3, .int (zI ((i : Int) + 1))), (0, .ref (ad 0)), (1, .int (zI (s : Int)))]) [1, 0, 2, 3] rfl ?_
          refine g_lw (w' := wS ad cI (cnt : Int) fv fs fd) (L' := [(2, .int (zI ((cab fv (fv s) (i + 1) : Nat) : Int))), (3, .int (zI ((i + 1 : Nat) : Int))), (0, .ref (ad 0)), (1, .int (zI (s : Int)))]) rfl (by rw [cab_f (by omega)]; rfl) ?_
          exact ih_4 (i + 1) (by omega) (by omega)
        · refine g_iinc (L' := [(2, .int (zI (((cab fv (fv s) i : Nat) : Int) + 1))), (3, .int (zI (i : Int))), (0, .ref (ad 0)), (1, .int (zI (s : Int)))]) C dX1_countAbove_27 0 rfl (by decide) rfl ?_
          refine g_iinc (L' := [(3, .int (zI ((i : Int) + 1))), (2, .int (zI (((cab fv (fv s) i : Nat) : Int) + 1))), (0, .ref (ad 0)), (1, .int (zI (s : Int)))]) C dX1_countAbove_30 1 rfl (by decide) rfl ?_
          refine g_goto 4 C dX1_countAbove_33 (by decide) ?_
          refine g_loc (L' := [(2, .int (zI (((cab fv (fv s) i : Nat) : Int) + 1))), (3, .int (zI ((i : Int) + 1))), (0, .ref (ad 0)), (1, .int (zI (s : Int)))]) [1, 0, 2, 3] rfl ?_
          refine g_lw (w' := wS ad cI (cnt : Int) fv fs fd) (L' := [(2, .int (zI ((cab fv (fv s) (i + 1) : Nat) : Int))), (3, .int (zI ((i + 1 : Nat) : Int))), (0, .ref (ad 0)), (1, .int (zI (s : Int)))]) rfl (by rw [cab_t (by omega)]; rfl) ?_
          exact ih_4 (i + 1) (by omega) (by omega)
  refine g_loc (L' := [(2, .int (zI 0)), (3, .int (zI 0)), (0, .ref (ad 0)), (1, .int (zI (s : Int)))]) [1, 0, 2, 3] rfl ?_
  exact loop_4 _ 0 (Nat.zero_le _) (Nat.lt_succ_self _)
abbrev rmX1_append : Room := { frames := 0, cells := 0, slots := 0, locals := 0 }
set_option maxHeartbeats 4000000 in
set_option maxRecDepth 100000 in
theorem met_X1_append (l : Launch) (D : va_G) (cI cG cJ : ClassId) (ad : Nat → Nat) (cnt : Nat) (hc : cnt < 8) (fv fs fd : Nat → Int) (x y : Int) : gMet l yX1_append cX1_append 4 (some .int) rmX1_append D cI cG cJ [.ref (ad 0), .int (zI x), .int (zI y)] (wS ad cI (cnt : Int) fv fs fd) (gI (fun z w9 => z = (cnt : Int) ∧ w9 = wS ad cI ((cnt : Int) + 1) (zU fv cnt x) (zU fs cnt y) (zU fd cnt 0))) := by
  refine gMet_I (by decide) rfl (Nat.le_of_ble_eq_true rfl) (fun E C ret => ?_)
  refine g_aload_n C dX1_append_0 0 rfl ?_
  refine g_getf C fX1_21 0 rfl rfl dX1_append_1 ?_
  refine g_istore_n (L' := [(3, .int (zI (cnt : Int))), (0, .ref (ad 0)), (1, .int (zI x)), (2, .int (zI y))]) C dX1_append_4 (by decide) rfl ?_
  refine g_iload_n C dX1_append_5 0 rfl ?_
  refine g_bipush C dX1_append_6 (by decide) ?_
  refine g_icmp_lt 13 C dX1_append_8 (by decide) (zr_i (by omega) (by omega)) (zr_i (by omega) (by omega)) (fun c_8 => ?_) (fun c_8 => ?_)
  · refine g_aload_n C dX1_append_13 1 rfl ?_
    refine g_getf C fX1_9 0 rfl rfl dX1_append_14 ?_
    refine g_iload_n C dX1_append_17 0 rfl ?_
    refine g_iload_n C dX1_append_18 2 rfl ?_
    refine g_iast (w' := wS ad cI (cnt : Int) (zU fv cnt x) fs fd) C 1 rfl (by decide) (by omega) (by omega) rfl dX1_append_19 ?_
    refine g_aload_n C dX1_append_20 1 rfl ?_
    refine g_getf C fX1_15 0 rfl rfl dX1_append_21 ?_
    refine g_iload_n C dX1_append_24 0 rfl ?_
    refine g_iload_n C dX1_append_25 3 rfl ?_
    refine g_iast (w' := wS ad cI (cnt : Int) (zU fv cnt x) (zU fs cnt y) fd) C 2 rfl (by decide) (by omega) (by omega) rfl dX1_append_26 ?_
    refine g_aload_n C dX1_append_27 1 rfl ?_
    refine g_getf C fX1_18 0 rfl rfl dX1_append_28 ?_
    refine g_iload_n C dX1_append_31 0 rfl ?_
    refine g_iconst C dX1_append_32 ?_
    refine g_iast (w' := wS ad cI (cnt : Int) (zU fv cnt x) (zU fs cnt y) (zU fd cnt 0)) C 3 rfl (by decide) (by omega) (by omega) rfl dX1_append_33 ?_
    refine g_aload_n C dX1_append_34 1 rfl ?_
    refine g_iload_n C dX1_append_35 0 rfl ?_
    refine g_iconst C dX1_append_36 ?_
    refine g_iadd C dX1_append_37 ?_
    refine g_putf (w' := wS ad cI ((cnt : Int) + 1) (zU fv cnt x) (zU fs cnt y) (zU fd cnt 0)) C pX1_21 0 rfl rfl rfl (Nat.le_of_ble_eq_true rfl) rfl dX1_append_38 ?_
    refine g_iload_n C dX1_append_41 0 rfl ?_
    exact ret _ _ _ _ _ _ (by decide) (by decide) dX1_append_42 (⟨rfl, rfl⟩)
  · exfalso; omega
end
section
abbrev rmX1_removeAt : Room := { frames := 0, cells := 0, slots := 0, locals := 0 }
set_option maxHeartbeats 4000000 in
set_option maxRecDepth 100000 in
theorem met_X1_removeAt (l : Launch) (D : va_G) (cI cG cJ : ClassId) (ad : Nat → Nat) (cnt : Nat) (hc : cnt ≤ 8) (fv fs fd : Nat → Int) (s : Nat) (hs : s < cnt) : gMet l yX1_removeAt cX1_removeAt 3 none rmX1_removeAt D cI cG cJ [.ref (ad 0), .int (zI (s : Int))] (wS ad cI (cnt : Int) fv fs fd) (gN (fun w9 => w9 = wS ad cI ((cnt : Int) - 1) (rmv fv s (cnt - 1)) (rmv fs s (cnt - 1)) (rmv fd s (cnt - 1)))) := by
  refine gMet_N (by decide) rfl (Nat.le_of_ble_eq_true rfl) (fun E C ret => ?_)
  refine g_iload_n C dX1_removeAt_0 1 rfl ?_
  refine g_iconst C dX1_removeAt_1 ?_
  refine g_iadd C dX1_removeAt_2 ?_
  refine g_istore_n (L' := [(2, .int (zI ((s : Int) + 1))), (0, .ref (ad 0)), (1, .int (zI (s : Int)))]) C dX1_removeAt_3 (by decide) rfl ?_
  have loop_4 : ∀ (fu : Nat) (i : Nat), (hs1 : s ≤ i) → (hi : i < cnt) → cnt - i < fu → gW E 0 0 (wS ad cI (cnt : Int) (rmv fv s i) (rmv fs s i) (rmv fd s i)) 4 [(2, .int (zI ((i + 1 : Nat) : Int))), (0, .ref (ad 0))] [] := by
    intro fu
    induction fu with
    | zero => intro i hs1 hi h9; exact absurd h9 (Nat.not_lt_zero _)
    | succ fu ih_4 =>
      intro i hs1 hi hmu_4
      refine g_iload_n C dX1_removeAt_4 0 rfl ?_
      refine g_aload_n C dX1_removeAt_5 1 rfl ?_
      refine g_getf C fX1_21 0 rfl rfl dX1_removeAt_6 ?_
      refine g_icmp_ge 60 C dX1_removeAt_9 (by decide) (zr_i (by omega) (by omega)) (zr_i (by omega) (by omega)) (fun c_9 => ?_) (fun c_9 => ?_)
      · refine g_aload_n C dX1_removeAt_60 1 rfl ?_
        refine g_dup C dX1_removeAt_61 rfl ?_
        refine g_getf C fX1_21 0 rfl rfl dX1_removeAt_62 ?_
        refine g_iconst C dX1_removeAt_65 ?_
        refine g_isub C dX1_removeAt_66 ?_
        refine g_putf (w' := wS ad cI ((cnt : Int) - 1) (rmv fv s i) (rmv fs s i) (rmv fd s i)) C pX1_21 0 rfl rfl rfl (Nat.le_of_ble_eq_true rfl) rfl dX1_removeAt_67 ?_
        exact ret _ _ _ _ _ (by decide) (by decide) dX1_removeAt_70 (by rw [show i = cnt - 1 by omega])
      · refine g_aload_n C dX1_removeAt_12 1 rfl ?_
        refine g_getf C fX1_9 0 rfl rfl dX1_removeAt_13 ?_
        refine g_iload_n C dX1_removeAt_16 0 rfl ?_
        refine g_iconst C dX1_removeAt_17 ?_
        refine g_isub C dX1_removeAt_18 ?_
        refine g_top (i : Int) (by omega) ?_
        refine g_aload_n C dX1_removeAt_19 1 rfl ?_
        refine g_getf C fX1_9 0 rfl rfl dX1_removeAt_20 ?_
        refine g_iload_n C dX1_removeAt_23 0 rfl ?_
        refine g_iald C 1 rfl (by decide) (by omega) (by omega) (v := ((rmv fv s i) (i + 1))) rfl dX1_removeAt_24 ?_
        refine g_iast (w' := wS ad cI (cnt : Int) (zU (rmv fv s i) i ((rmv fv s i) (i + 1))) (rmv fs s i) (rmv fd s i)) C 1 rfl (by decide) (by omega) (by omega) rfl dX1_removeAt_25 ?_
        refine g_aload_n C dX1_removeAt_26 1 rfl ?_
        refine g_getf C fX1_15 0 rfl rfl dX1_removeAt_27 ?_
        refine g_iload_n C dX1_removeAt_30 0 rfl ?_
        refine g_iconst C dX1_removeAt_31 ?_
        refine g_isub C dX1_removeAt_32 ?_
        refine g_top (i : Int) (by omega) ?_
        refine g_aload_n C dX1_removeAt_33 1 rfl ?_
        refine g_getf C fX1_15 0 rfl rfl dX1_removeAt_34 ?_
        refine g_iload_n C dX1_removeAt_37 0 rfl ?_
        refine g_iald C 2 rfl (by decide) (by omega) (by omega) (v := ((rmv fs s i) (i + 1))) rfl dX1_removeAt_38 ?_
        refine g_iast (w' := wS ad cI (cnt : Int) (zU (rmv fv s i) i ((rmv fv s i) (i + 1))) (zU (rmv fs s i) i ((rmv fs s i) (i + 1))) (rmv fd s i)) C 2 rfl (by decide) (by omega) (by omega) rfl dX1_removeAt_39 ?_
        refine g_aload_n C dX1_removeAt_40 1 rfl ?_
        refine g_getf C fX1_18 0 rfl rfl dX1_removeAt_41 ?_
        refine g_iload_n C dX1_removeAt_44 0 rfl ?_
        refine g_iconst C dX1_removeAt_45 ?_
        refine g_isub C dX1_removeAt_46 ?_
        refine g_top (i : Int) (by omega) ?_
        refine g_aload_n C dX1_removeAt_47 1 rfl ?_
        refine g_getf C fX1_18 0 rfl rfl dX1_removeAt_48 ?_
        refine g_iload_n C dX1_removeAt_51 0 rfl ?_
        refine g_iald C 3 rfl (by decide) (by omega) (by omega) (v := ((rmv fd s i) (i + 1))) rfl dX1_removeAt_52 ?_
        refine g_iast (w' := wS ad cI (cnt : Int) (zU (rmv fv s i) i ((rmv fv s i) (i + 1))) (zU (rmv fs s i) i ((rmv fs s i) (i + 1))) (zU (rmv fd s i) i ((rmv fd s i) (i + 1)))) C 3 rfl (by decide) (by omega) (by omega) rfl dX1_removeAt_53 ?_
        refine g_iinc (L' := [(2, .int (zI (((i + 1 : Nat) : Int) + 1))), (0, .ref (ad 0))]) C dX1_removeAt_54 0 rfl (by decide) rfl ?_
        refine g_goto 4 C dX1_removeAt_57 (by decide) ?_
        refine g_loc (L' := [(2, .int (zI (((i + 1 : Nat) : Int) + 1))), (0, .ref (ad 0))]) [0, 1] rfl ?_
        refine g_ws (w' := wS ad cI (cnt : Int) (rmv fv s (i + 1)) (rmv fs s (i + 1)) (rmv fd s (i + 1))) (by rw [rmv_s hs1, rmv_s hs1, rmv_s hs1]) rfl ?_
        exact ih_4 (i + 1) (by omega) (by omega) (by omega)
  refine g_loc (L' := [(2, .int (zI ((s : Int) + 1))), (0, .ref (ad 0))]) [0, 1] rfl ?_
  refine g_ws (w' := wS ad cI (cnt : Int) (rmv fv s s) (rmv fs s s) (rmv fd s s)) (by rw [rmv_0, rmv_0, rmv_0]) rfl ?_
  exact loop_4 _ s (Nat.le_refl _) hs (Nat.lt_succ_self _)
abbrev rmX1_copyFrom : Room := { frames := 0, cells := 0, slots := 0, locals := 0 }
set_option maxHeartbeats 4000000 in
set_option maxRecDepth 100000 in
theorem met_X1_copyFrom (l : Launch) (D : va_G) (cI cG cJ : ClassId) (ad : Nat → Nat) (cnt : Nat) (fv fs fd : Nat → Int) (a2 : Nat → Nat) (cnt2 : Nat) (hc : cnt2 ≤ 8) (gv gs gd : Nat → Int) : gMet l yX1_copyFrom cX1_copyFrom 3 none rmX1_copyFrom D cI cG cJ [.ref (ad 0), .ref (a2 0)] ((wS ad cI (cnt : Int) fv fs fd) ++ (wS a2 cI (cnt2 : Int) gv gs gd)) (gN (fun w9 => w9 = (wS ad cI (cnt2 : Int) (cpy fv gv cnt2) (cpy fs gs cnt2) (cpy fd gd cnt2)) ++ (wS a2 cI (cnt2 : Int) gv gs gd))) := by
  refine gMet_N (by decide) rfl (Nat.le_of_ble_eq_true rfl) (fun E C ret => ?_)
  refine g_aload_n C dX1_copyFrom_0 0 rfl ?_
  refine g_aload_n C dX1_copyFrom_1 1 rfl ?_
  refine g_getf C fX1_21 4 rfl rfl dX1_copyFrom_2 ?_
  refine g_putf (w' := (wS ad cI (cnt2 : Int) fv fs fd) ++ (wS a2 cI (cnt2 : Int) gv gs gd)) C pX1_21 0 rfl rfl rfl (Nat.le_of_ble_eq_true rfl) rfl dX1_copyFrom_5 ?_
  refine g_iconst C dX1_copyFrom_8 ?_
  refine g_istore_n (L' := [(2, .int (zI 0)), (0, .ref (ad 0)), (1, .ref (a2 0))]) C dX1_copyFrom_9 (by decide) rfl ?_
  have loop_10 : ∀ (fu : Nat) (i : Nat), (hi : i ≤ cnt2) → cnt2 - i < fu → gW E 0 0 ((wS ad cI (cnt2 : Int) (cpy fv gv i) (cpy fs gs i) (cpy fd gd i)) ++ (wS a2 cI (cnt2 : Int) gv gs gd)) 10 [(2, .int (zI (i : Int))), (0, .ref (ad 0)), (1, .ref (a2 0))] [] := by
    intro fu
    induction fu with
    | zero => intro i hi h9; exact absurd h9 (Nat.not_lt_zero _)
    | succ fu ih_10 =>
      intro i hi hmu_10
      refine g_iload_n C dX1_copyFrom_10 0 rfl ?_
      refine g_aload_n C dX1_copyFrom_11 1 rfl ?_
      refine g_getf C fX1_21 0 rfl rfl dX1_copyFrom_12 ?_
      refine g_icmp_ge 60 C dX1_copyFrom_15 (by decide) (zr_i (by omega) (by omega)) (zr_i (by omega) (by omega)) (fun c_15 => ?_) (fun c_15 => ?_)
      · have e9 : i = cnt2 := by omega
        subst e9
        exact ret _ _ _ _ _ (by decide) (by decide) dX1_copyFrom_60 (rfl)
      · refine g_aload_n C dX1_copyFrom_18 1 rfl ?_
        refine g_getf C fX1_9 0 rfl rfl dX1_copyFrom_19 ?_
        refine g_iload_n C dX1_copyFrom_22 0 rfl ?_
        refine g_aload_n C dX1_copyFrom_23 2 rfl ?_
        refine g_getf C fX1_9 4 rfl rfl dX1_copyFrom_24 ?_
        refine g_iload_n C dX1_copyFrom_27 0 rfl ?_
        refine g_iald C 5 rfl (by decide) (by omega) (by omega) (v := (gv i)) rfl dX1_copyFrom_28 ?_
        refine g_iast (w' := (wS ad cI (cnt2 : Int) (zU (cpy fv gv i) i (gv i)) (cpy fs gs i) (cpy fd gd i)) ++ (wS a2 cI (cnt2 : Int) gv gs gd)) C 1 rfl (by decide) (by omega) (by omega) rfl dX1_copyFrom_29 ?_
        refine g_aload_n C dX1_copyFrom_30 1 rfl ?_
        refine g_getf C fX1_15 0 rfl rfl dX1_copyFrom_31 ?_
        refine g_iload_n C dX1_copyFrom_34 0 rfl ?_
        refine g_aload_n C dX1_copyFrom_35 2 rfl ?_
        refine g_getf C fX1_15 4 rfl rfl dX1_copyFrom_36 ?_
        refine g_iload_n C dX1_copyFrom_39 0 rfl ?_
        refine g_iald C 6 rfl (by decide) (by omega) (by omega) (v := (gs i)) rfl dX1_copyFrom_40 ?_
        refine g_iast (w' := (wS ad cI (cnt2 : Int) (zU (cpy fv gv i) i (gv i)) (zU (cpy fs gs i) i (gs i)) (cpy fd gd i)) ++ (wS a2 cI (cnt2 : Int) gv gs gd)) C 2 rfl (by decide) (by omega) (by omega) rfl dX1_copyFrom_41 ?_
        refine g_aload_n C dX1_copyFrom_42 1 rfl ?_
        refine g_getf C fX1_18 0 rfl rfl dX1_copyFrom_43 ?_
        refine g_iload_n C dX1_copyFrom_46 0 rfl ?_
        refine g_aload_n C dX1_copyFrom_47 2 rfl ?_
        refine g_getf C fX1_18 4 rfl rfl dX1_copyFrom_48 ?_
        refine g_iload_n C dX1_copyFrom_51 0 rfl ?_
        refine g_iald C 7 rfl (by decide) (by omega) (by omega) (v := (gd i)) rfl dX1_copyFrom_52 ?_
        refine g_iast (w' := (wS ad cI (cnt2 : Int) (zU (cpy fv gv i) i (gv i)) (zU (cpy fs gs i) i (gs i)) (zU (cpy fd gd i) i (gd i))) ++ (wS a2 cI (cnt2 : Int) gv gs gd)) C 3 rfl (by decide) (by omega) (by omega) rfl dX1_copyFrom_53 ?_
        refine g_iinc (L' := [(2, .int (zI ((i : Int) + 1))), (0, .ref (ad 0)), (1, .ref (a2 0))]) C dX1_copyFrom_54 0 rfl (by decide) rfl ?_
        refine g_goto 10 C dX1_copyFrom_57 (by decide) ?_
        refine g_loc (L' := [(2, .int (zI ((i : Int) + 1))), (0, .ref (ad 0)), (1, .ref (a2 0))]) [0, 1, 2] rfl ?_
        refine g_ws (w' := (wS ad cI (cnt2 : Int) (cpy fv gv (i + 1)) (cpy fs gs (i + 1)) (cpy fd gd (i + 1))) ++ (wS a2 cI (cnt2 : Int) gv gs gd)) (by rw [cpy_s, cpy_s, cpy_s]) rfl ?_
        exact ih_10 (i + 1) (by omega) (by omega)
  refine g_loc (L' := [(2, .int (zI 0)), (0, .ref (ad 0)), (1, .ref (a2 0))]) [0, 1, 2] rfl ?_
  refine g_ws (w' := (wS ad cI (cnt2 : Int) (cpy fv gv 0) (cpy fs gs 0) (cpy fd gd 0)) ++ (wS a2 cI (cnt2 : Int) gv gs gd)) (by rw [cpy_0, cpy_0, cpy_0]) rfl ?_
  exact loop_10 _ 0 (Nat.zero_le _) (Nat.lt_succ_self _)
abbrev rmX1_holds : Room := { frames := 0, cells := 0, slots := 0, locals := 0 }
set_option maxHeartbeats 4000000 in
set_option maxRecDepth 100000 in
theorem met_X1_holds (l : Launch) (D : va_G) (cI cG cJ : ClassId) (ad : Nat → Nat) (cnt : Nat) (hc : cnt ≤ 8) (fv fs fd : Nat → Int) (bd : Nat → Nat) (tc tr : Int) (ft tv tu fc : Nat → Int) (M : Nat → Nat → Int) (hz : ∀ j, j < cnt → zr (fs j) ∧ zr (fc j)) : gMet l yX1_holds cX1_holds 3 (some .boolean) rmX1_holds D cI cG cJ [.ref (ad 0), .ref (bd 5)] ((wS ad cI (cnt : Int) fv fs fd) ++ (wT bd cI cG tc tr ft tv tu fc M)) (gI (fun z w9 => ((z = 1 ∧ ∀ j, j < cnt → fc j ≤ fs j) ∨ (z = 0 ∧ ∃ j, j < cnt ∧ fs j < fc j)) ∧ w9 = (wS ad cI (cnt : Int) fv fs fd) ++ (wT bd cI cG tc tr ft tv tu fc M))) := by
  refine gMet_Z (by decide) rfl (Nat.le_of_ble_eq_true rfl) (fun E C ret => ?_)
  refine g_iconst C dX1_holds_0 ?_
  refine g_istore_n (L' := [(2, .int (zI 0)), (0, .ref (ad 0)), (1, .ref (bd 5))]) C dX1_holds_1 (by decide) rfl ?_
  have loop_2 : ∀ (fu : Nat) (i : Nat), (hi : i ≤ cnt) → (hn : ∀ j, j < i → fc j ≤ fs j) → cnt - i < fu → gW E 0 0 ((wS ad cI (cnt : Int) fv fs fd) ++ (wT bd cI cG tc tr ft tv tu fc M)) 2 [(2, .int (zI (i : Int))), (0, .ref (ad 0)), (1, .ref (bd 5))] [] := by
    intro fu
    induction fu with
    | zero => intro i hi hn h9; exact absurd h9 (Nat.not_lt_zero _)
    | succ fu ih_2 =>
      intro i hi hn hmu_2
      refine g_iload_n C dX1_holds_2 0 rfl ?_
      refine g_aload_n C dX1_holds_3 1 rfl ?_
      refine g_getf C fX1_21 0 rfl rfl dX1_holds_4 ?_
      refine g_icmp_ge 30 C dX1_holds_7 (by decide) (zr_i (by omega) (by omega)) (zr_i (by omega) (by omega)) (fun c_7 => ?_) (fun c_7 => ?_)
      · refine g_iconst C dX1_holds_30 ?_
        exact ret _ _ _ _ _ _ (by decide) (by decide) dX1_holds_31 (Or.inr rfl) (⟨Or.inl ⟨rfl, fun j hj => hn j (by omega)⟩, rfl⟩)
      · refine g_aload_n C dX1_holds_10 2 rfl ?_
        refine g_iload_n C dX1_holds_11 0 rfl ?_
        refine g_iald C 9 rfl (by decide) (by omega) (by omega) (v := (fc i)) rfl dX1_holds_12 ?_
        refine g_aload_n C dX1_holds_13 1 rfl ?_
        refine g_getf C fX1_15 0 rfl rfl dX1_holds_14 ?_
        refine g_iload_n C dX1_holds_17 0 rfl ?_
        refine g_iald C 2 rfl (by decide) (by omega) (by omega) (v := (fs i)) rfl dX1_holds_18 ?_
        refine g_icmp_le 24 C dX1_holds_19 (by decide) (hz i (by omega)).2 (hz i (by omega)).1 (fun c_19 => ?_) (fun c_19 => ?_)
        · refine g_iinc (L' := [(2, .int (zI ((i : Int) + 1))), (0, .ref (ad 0)), (1, .ref (bd 5))]) C dX1_holds_24 0 rfl (by decide) rfl ?_
          refine g_goto 2 C dX1_holds_27 (by decide) ?_
          refine g_loc (L' := [(2, .int (zI ((i : Int) + 1))), (0, .ref (ad 0)), (1, .ref (bd 5))]) [0, 1, 2] rfl ?_
          exact ih_2 (i + 1) (by omega) (fun j hj => lt_or (p := fun j => fc j ≤ fs j) hj hn c_19) (by omega)
        · refine g_iconst C dX1_holds_22 ?_
          exact ret _ _ _ _ _ _ (by decide) (by decide) dX1_holds_23 (Or.inl rfl) (⟨Or.inr ⟨rfl, i, by omega, by omega⟩, rfl⟩)
  refine g_loc (L' := [(2, .int (zI 0)), (0, .ref (ad 0)), (1, .ref (bd 5))]) [0, 1, 2] rfl ?_
  exact loop_2 _ 0 (Nat.zero_le _) (fun j hj => absurd hj (Nat.not_lt_zero _)) (Nat.lt_succ_self _)
abbrev rmX1_take : Room := { frames := 0, cells := 0, slots := 0, locals := 0 }
set_option maxHeartbeats 4000000 in
set_option maxRecDepth 100000 in
theorem met_X1_take (l : Launch) (D : va_G) (cI cG cJ : ClassId) (ad : Nat → Nat) (cnt : Nat) (hc : cnt ≤ 8) (fv fs fd : Nat → Int) (bd : Nat → Nat) (tc tr : Int) (ft tv tu fc : Nat → Int) (M : Nat → Nat → Int)  : gMet l yX1_take cX1_take 3 none rmX1_take D cI cG cJ [.ref (ad 0), .ref (bd 5)] ((wS ad cI (cnt : Int) fv fs fd) ++ (wT bd cI cG tc tr ft tv tu fc M)) (gN (fun w9 => w9 = (wS ad cI (cnt : Int) fv (cpy fs (fun j => fs j - fc j) cnt) (cpy fd (fun j => fd j + fc j) cnt)) ++ (wT bd cI cG tc tr ft tv tu fc M))) := by
  refine gMet_N (by decide) rfl (Nat.le_of_ble_eq_true rfl) (fun E C ret => ?_)
  refine g_iconst C dX1_take_0 ?_
  refine g_istore_n (L' := [(2, .int (zI 0)), (0, .ref (ad 0)), (1, .ref (bd 5))]) C dX1_take_1 (by decide) rfl ?_
  have loop_2 : ∀ (fu : Nat) (i : Nat), (hi : i ≤ cnt) → cnt - i < fu → gW E 0 0 ((wS ad cI (cnt : Int) fv (cpy fs (fun j => fs j - fc j) i) (cpy fd (fun j => fd j + fc j) i)) ++ (wT bd cI cG tc tr ft tv tu fc M)) 2 [(2, .int (zI (i : Int))), (0, .ref (ad 0)), (1, .ref (bd 5))] [] := by
    intro fu
    induction fu with
    | zero => intro i hi h9; exact absurd h9 (Nat.not_lt_zero _)
    | succ fu ih_2 =>
      intro i hi hmu_2
      refine g_iload_n C dX1_take_2 0 rfl ?_
      refine g_aload_n C dX1_take_3 1 rfl ?_
      refine g_getf C fX1_21 0 rfl rfl dX1_take_4 ?_
      refine g_icmp_ge 40 C dX1_take_7 (by decide) (zr_i (by omega) (by omega)) (zr_i (by omega) (by omega)) (fun c_7 => ?_) (fun c_7 => ?_)
      · have e9 : i = cnt := by omega
        subst e9
        exact ret _ _ _ _ _ (by decide) (by decide) dX1_take_40 (rfl)
      · refine g_aload_n C dX1_take_10 1 rfl ?_
        refine g_getf C fX1_15 0 rfl rfl dX1_take_11 ?_
        refine g_iload_n C dX1_take_14 0 rfl ?_
        refine g_dup2 C dX1_take_15 rfl rfl ?_
        refine g_iald C 2 rfl (by decide) (by omega) (by omega) (v := ((cpy fs (fun j => fs j - fc j) i) i)) rfl dX1_take_16 ?_
        refine g_aload_n C dX1_take_17 2 rfl ?_
        refine g_iload_n C dX1_take_18 0 rfl ?_
        refine g_iald C 9 rfl (by decide) (by omega) (by omega) (v := (fc i)) rfl dX1_take_19 ?_
        refine g_isub C dX1_take_20 ?_
        refine g_iast (w' := (wS ad cI (cnt : Int) fv (zU (cpy fs (fun j => fs j - fc j) i) i (((cpy fs (fun j => fs j - fc j) i) i) - (fc i))) (cpy fd (fun j => fd j + fc j) i)) ++ (wT bd cI cG tc tr ft tv tu fc M)) C 2 rfl (by decide) (by omega) (by omega) rfl dX1_take_21 ?_
        refine g_aload_n C dX1_take_22 1 rfl ?_
        refine g_getf C fX1_18 0 rfl rfl dX1_take_23 ?_
        refine g_iload_n C dX1_take_26 0 rfl ?_
        refine g_dup2 C dX1_take_27 rfl rfl ?_
        refine g_iald C 3 rfl (by decide) (by omega) (by omega) (v := ((cpy fd (fun j => fd j + fc j) i) i)) rfl dX1_take_28 ?_
        refine g_aload_n C dX1_take_29 2 rfl ?_
        refine g_iload_n C dX1_take_30 0 rfl ?_
        refine g_iald C 9 rfl (by decide) (by omega) (by omega) (v := (fc i)) rfl dX1_take_31 ?_
        refine g_iadd C dX1_take_32 ?_
        refine g_iast (w' := (wS ad cI (cnt : Int) fv (zU (cpy fs (fun j => fs j - fc j) i) i (((cpy fs (fun j => fs j - fc j) i) i) - (fc i))) (zU (cpy fd (fun j => fd j + fc j) i) i (((cpy fd (fun j => fd j + fc j) i) i) + (fc i)))) ++ (wT bd cI cG tc tr ft tv tu fc M)) C 3 rfl (by decide) (by omega) (by omega) rfl dX1_take_33 ?_
        refine g_iinc (L' := [(2, .int (zI ((i : Int) + 1))), (0, .ref (ad 0)), (1, .ref (bd 5))]) C dX1_take_34 0 rfl (by decide) rfl ?_
        refine g_goto 2 C dX1_take_37 (by decide) ?_
        refine g_loc (L' := [(2, .int (zI ((i : Int) + 1))), (0, .ref (ad 0)), (1, .ref (bd 5))]) [0, 1, 2] rfl ?_
        refine g_ws (w' := (wS ad cI (cnt : Int) fv (cpy fs (fun j => fs j - fc j) (i + 1)) (cpy fd (fun j => fd j + fc j) (i + 1))) ++ (wT bd cI cG tc tr ft tv tu fc M)) (by rw [← cpy_s (f := fs), ← cpy_s (f := fd), cpy_g (f := fs) (Nat.le_refl i), cpy_g (f := fd) (Nat.le_refl i)]) rfl ?_
        exact ih_2 (i + 1) (by omega) (by omega)
  refine g_loc (L' := [(2, .int (zI 0)), (0, .ref (ad 0)), (1, .ref (bd 5))]) [0, 1, 2] rfl ?_
  refine g_ws (w' := (wS ad cI (cnt : Int) fv (cpy fs (fun j => fs j - fc j) 0) (cpy fd (fun j => fd j + fc j) 0)) ++ (wT bd cI cG tc tr ft tv tu fc M)) (by rw [cpy_0, cpy_0]) rfl ?_
  exact loop_2 _ 0 (Nat.zero_le _) (Nat.lt_succ_self _)
end
section
abbrev rmX2_rank : Room := { frames := 1, cells := 0, slots := 0, locals := 40 }
set_option maxHeartbeats 4000000 in
set_option maxRecDepth 100000 in
theorem met_X2_rank (l : Launch) (D : va_G) (cI cG cJ : ClassId) (ad : Nat → Nat) (cnt : Nat) (hc : cnt ≤ 8) (fv fs fd : Nat → Int) (bd : Nat → Nat) (tc tr : Int) (ft tv tu fc : Nat → Int) (M : Nat → Nat → Int) (hv : ∀ j, j < cnt → zr (fv j)) (hs : ∀ j, j < cnt → zr (fs j)) (rm : Int) (hr : zr rm) : gMet l yX2_rank cX2_rank 5 none rmX2_rank D cI cG cJ [.ref (bd 0), .ref (ad 0), .int (zI rm)] ((wT bd cI cG tc tr ft tv tu fc M) ++ (wS ad cI (cnt : Int) fv fs fd)) (gN (fun w9 => w9 = (wT bd cI cG (cnt : Int) rm (rkU (fun s => cab fv (fv s) cnt) (fun s => (s : Int)) ft cnt) (rkU (fun s => cab fv (fv s) cnt) fv tv cnt) (rkU (fun s => cab fv (fv s) cnt) (fun s => min (fs s) rm) tu cnt) fc M) ++ (wS ad cI (cnt : Int) fv fs fd))) := by
  refine gMet_N (by decide) rfl (Nat.le_of_ble_eq_true rfl) (fun E C ret => ?_)
  refine g_aload_n C dX2_rank_0 0 rfl ?_
  refine g_aload_n C dX2_rank_1 1 rfl ?_
  refine g_getf C fX2_36 15 rfl rfl dX2_rank_2 ?_
  refine g_putf (w' := (wT bd cI cG (cnt : Int) tr ft tv tu fc M) ++ (wS ad cI (cnt : Int) fv fs fd)) C pX2_26 0 rfl rfl rfl (Nat.le_of_ble_eq_true rfl) rfl dX2_rank_5 ?_
  refine g_aload_n C dX2_rank_8 0 rfl ?_
  refine g_iload_n C dX2_rank_9 2 rfl ?_
  refine g_putf (w' := (wT bd cI cG (cnt : Int) rm ft tv tu fc M) ++ (wS ad cI (cnt : Int) fv fs fd)) C pX2_30 0 rfl rfl rfl (Nat.le_of_ble_eq_true rfl) rfl dX2_rank_10 ?_
  refine g_iconst C dX2_rank_13 ?_
  refine g_istore_n (L' := [(3, .int (zI 0)), (0, .ref (bd 0)), (1, .ref (ad 0)), (2, .int (zI rm))]) C dX2_rank_14 (by decide) rfl ?_
  have loop_15 : ∀ (fu : Nat) (i : Nat), (hi : i ≤ cnt) → cnt - i < fu → gW E 0 0 ((wT bd cI cG (cnt : Int) rm (rkU (fun s => cab fv (fv s) cnt) (fun s => (s : Int)) ft i) (rkU (fun s => cab fv (fv s) cnt) fv tv i) (rkU (fun s => cab fv (fv s) cnt) (fun s => min (fs s) rm) tu i) fc M) ++ (wS ad cI (cnt : Int) fv fs fd)) 15 [(3, .int (zI (i : Int))), (0, .ref (bd 0)), (1, .ref (ad 0)), (2, .int (zI rm))] [] := by
    intro fu
    induction fu with
    | zero => intro i hi h9; exact absurd h9 (Nat.not_lt_zero _)
    | succ fu ih_15 =>
      intro i hi hmu_15
      refine g_iload_n C dX2_rank_15 0 rfl ?_
      refine g_aload_n C dX2_rank_16 1 rfl ?_
      refine g_getf C fX2_26 0 rfl rfl dX2_rank_17 ?_
      refine g_icmp_ge 74 C dX2_rank_20 (by decide) (zr_i (by omega) (by omega)) (zr_i (by omega) (by omega)) (fun c_20 => ?_) (fun c_20 => ?_)
      · have e9 : i = cnt := by omega
        subst e9
        exact ret _ _ _ _ _ (by decide) (by decide) dX2_rank_74 (rfl)
      · refine g_aload_n C dX2_rank_23 2 rfl ?_
        refine g_iload_n C dX2_rank_24 0 rfl ?_
        refine g_callV (wr := wT bd cI cG (cnt : Int) rm (rkU (fun s => cab fv (fv s) cnt) (fun s => (s : Int)) ft i) (rkU (fun s => cab fv (fv s) cnt) fv tv i) (rkU (fun s => cab fv (fv s) cnt) (fun s => min (fs s) rm) tu i) fc M) (st := []) [15, 16, 17, 18] [0, 1, 2, 3, 4, 5, 6, 7, 8, 9, 10, 11, 12, 13, 14] C cX2_39 (met_X1_countAbove l D cI cG cJ ad cnt hc fv fs fd hv i (by omega)) ⟨rfl, rfl, by decide, by decide, by decide⟩ (q0 := 15) rfl rfl (by decide) (by decide) rfl rfl (Nat.le_of_ble_eq_true rfl) dX2_rank_25 ?_
        rintro v9 w9 ⟨z9, rfl, rfl, rfl⟩
        refine g_ws (w' := (wT bd cI cG (cnt : Int) rm (rkU (fun s => cab fv (fv s) cnt) (fun s => (s : Int)) ft i) (rkU (fun s => cab fv (fv s) cnt) fv tv i) (rkU (fun s => cab fv (fv s) cnt) (fun s => min (fs s) rm) tu i) fc M) ++ (wS ad cI (cnt : Int) fv fs fd)) (st' := [.int (zI ((cab fv (fv i) cnt : Nat) : Int))]) rfl rfl ?_
        refine g_perm (w' := (wT bd cI cG (cnt : Int) rm (rkU (fun s => cab fv (fv s) cnt) (fun s => (s : Int)) ft i) (rkU (fun s => cab fv (fv s) cnt) fv tv i) (rkU (fun s => cab fv (fv s) cnt) (fun s => min (fs s) rm) tu i) fc M) ++ (wS ad cI (cnt : Int) fv fs fd)) [0, 1, 2, 3, 4, 5, 6, 7, 8, 9, 10, 11, 12, 13, 14, 15, 16, 17, 18] (by decide) rfl ?_
        have hk : cab fv (fv i) cnt < cnt := cab_lt cnt (by omega)
        refine g_istore (L' := [(4, .int (zI ((cab fv (fv i) cnt : Nat) : Int))), (3, .int (zI (i : Int))), (0, .ref (bd 0)), (1, .ref (ad 0)), (2, .int (zI rm))]) C dX2_rank_28 (by decide) rfl ?_
        refine g_aload_n C dX2_rank_30 2 rfl ?_
        refine g_getf C fX2_16 0 rfl rfl dX2_rank_31 ?_
        refine g_iload C dX2_rank_34 0 rfl ?_
        refine g_iload_n C dX2_rank_36 1 rfl ?_
        refine g_iast (w' := (wT bd cI cG (cnt : Int) rm (zU (rkU (fun s => cab fv (fv s) cnt) (fun s => (s : Int)) ft i) (cab fv (fv i) cnt) (i : Int)) (rkU (fun s => cab fv (fv s) cnt) fv tv i) (rkU (fun s => cab fv (fv s) cnt) (fun s => min (fs s) rm) tu i) fc M) ++ (wS ad cI (cnt : Int) fv fs fd)) C 2 rfl (by decide) (by omega) (by omega) rfl dX2_rank_37 ?_
        refine g_aload_n C dX2_rank_38 2 rfl ?_
        refine g_getf C fX2_20 0 rfl rfl dX2_rank_39 ?_
        refine g_iload C dX2_rank_42 0 rfl ?_
        refine g_aload_n C dX2_rank_44 3 rfl ?_
        refine g_getf C fX2_43 15 rfl rfl dX2_rank_45 ?_
        refine g_iload_n C dX2_rank_48 1 rfl ?_
        refine g_iald C 16 rfl (by decide) (by omega) (by omega) (v := (fv i)) rfl dX2_rank_49 ?_
        refine g_iast (w' := (wT bd cI cG (cnt : Int) rm (zU (rkU (fun s => cab fv (fv s) cnt) (fun s => (s : Int)) ft i) (cab fv (fv i) cnt) (i : Int)) (zU (rkU (fun s => cab fv (fv s) cnt) fv tv i) (cab fv (fv i) cnt) (fv i)) (rkU (fun s => cab fv (fv s) cnt) (fun s => min (fs s) rm) tu i) fc M) ++ (wS ad cI (cnt : Int) fv fs fd)) C 3 rfl (by decide) (by omega) (by omega) rfl dX2_rank_50 ?_
        refine g_aload_n C dX2_rank_51 2 rfl ?_
        refine g_getf C fX2_23 0 rfl rfl dX2_rank_52 ?_
        refine g_iload C dX2_rank_55 0 rfl ?_
        refine g_aload_n C dX2_rank_57 3 rfl ?_
        refine g_getf C fX2_46 15 rfl rfl dX2_rank_58 ?_
        refine g_iload_n C dX2_rank_61 1 rfl ?_
        refine g_iald C 17 rfl (by decide) (by omega) (by omega) (v := (fs i)) rfl dX2_rank_62 ?_
        refine g_iload_n C dX2_rank_63 4 rfl ?_
        refine g_min C mX2_49 (hs i (by omega)) hr (by decide) (Nat.le_of_ble_eq_true rfl) dX2_rank_64 ?_
        refine g_iast (w' := (wT bd cI cG (cnt : Int) rm (zU (rkU (fun s => cab fv (fv s) cnt) (fun s => (s : Int)) ft i) (cab fv (fv i) cnt) (i : Int)) (zU (rkU (fun s => cab fv (fv s) cnt) fv tv i) (cab fv (fv i) cnt) (fv i)) (zU (rkU (fun s => cab fv (fv s) cnt) (fun s => min (fs s) rm) tu i) (cab fv (fv i) cnt) (min (fs i) rm)) fc M) ++ (wS ad cI (cnt : Int) fv fs fd)) C 4 rfl (by decide) (by omega) (by omega) rfl dX2_rank_67 ?_
        refine g_iinc (L' := [(3, .int (zI ((i : Int) + 1))), (4, .int (zI ((cab fv (fv i) cnt : Nat) : Int))), (0, .ref (bd 0)), (1, .ref (ad 0)), (2, .int (zI rm))]) C dX2_rank_68 1 rfl (by decide) rfl ?_
        refine g_goto 15 C dX2_rank_71 (by decide) ?_
        refine g_loc (L' := [(3, .int (zI ((i : Int) + 1))), (0, .ref (bd 0)), (1, .ref (ad 0)), (2, .int (zI rm))]) [0, 2, 3, 4] rfl ?_
        exact ih_15 (i + 1) (by omega) (by omega)
  refine g_loc (L' := [(3, .int (zI 0)), (0, .ref (bd 0)), (1, .ref (ad 0)), (2, .int (zI rm))]) [0, 1, 2, 3] rfl ?_
  exact loop_15 _ 0 (Nat.zero_le _) (Nat.lt_succ_self _)
abbrev rmX2_fillRow : Room := { frames := 1, cells := 0, slots := 0, locals := 21 }
set_option maxHeartbeats 4000000 in
set_option maxRecDepth 100000 in
theorem met_X2_fillRow (l : Launch) (D : va_G) (cI cG cJ : ClassId) (bd : Nat → Nat) (tc tr : Int) (ft tv tu fc : Nat → Int) (M : Nat → Nat → Int) (r : Nat) (hr : r < 8) (hv : 1 ≤ tv r ∧ tv r ≤ 60) (hu : 0 ≤ tu r ∧ tu r ≤ 12) (hM : ∀ j, j < 360 → 0 ≤ M (r + 1) j ∧ M (r + 1) j ≤ 1000) : gMet l yX2_fillRow cX2_fillRow 9 none rmX2_fillRow D cI cG cJ [.ref (bd 0), .int (zI (r : Int))] (wT bd cI cG tc tr ft tv tu fc M) (gN (fun w9 => w9 = wT bd cI cG tc tr ft tv tu fc (gR M r (tRow (M (r + 1)) (tv r) (tu r)) 360))) := by
  refine gMet_N (by decide) rfl (Nat.le_of_ble_eq_true rfl) (fun E C ret => ?_)
  refine g_aload_n C dX2_fillRow_0 0 rfl ?_
  refine g_getf C fX2_11 0 rfl rfl dX2_fillRow_1 ?_
  refine g_iload_n C dX2_fillRow_4 1 rfl ?_
  refine g_aald (y := bd (6 + r)) C 1 rfl (by decide) (by omega) (by omega) (wR_at (by omega)) dX2_fillRow_5 ?_
  refine g_astore_n (L' := [(2, .ref (bd (6 + r))), (0, .ref (bd 0)), (1, .int (zI (r : Int)))]) C dX2_fillRow_6 (by decide) rfl ?_
  refine g_aload_n C dX2_fillRow_7 1 rfl ?_
  refine g_getf C fX2_11 0 rfl rfl dX2_fillRow_8 ?_
  refine g_iload_n C dX2_fillRow_11 2 rfl ?_
  refine g_iconst C dX2_fillRow_12 ?_
  refine g_iadd C dX2_fillRow_13 ?_
  refine g_aald (y := bd (6 + (r + 1))) C 1 rfl (by decide) (by omega) (by omega) (wR_at (by omega)) dX2_fillRow_14 ?_
  refine g_astore_n (L' := [(3, .ref (bd (6 + (r + 1)))), (2, .ref (bd (6 + r))), (0, .ref (bd 0)), (1, .int (zI (r : Int)))]) C dX2_fillRow_15 (by decide) rfl ?_
  refine g_aload_n C dX2_fillRow_16 2 rfl ?_
  refine g_getf C fX2_20 0 rfl rfl dX2_fillRow_17 ?_
  refine g_iload_n C dX2_fillRow_20 3 rfl ?_
  refine g_iald C 3 rfl (by decide) (by omega) (by omega) (v := (tv r)) rfl dX2_fillRow_21 ?_
  refine g_istore (L' := [(4, .int (zI (tv r))), (3, .ref (bd (6 + (r + 1)))), (2, .ref (bd (6 + r))), (0, .ref (bd 0)), (1, .int (zI (r : Int)))]) C dX2_fillRow_22 (by decide) rfl ?_
  refine g_aload_n C dX2_fillRow_24 3 rfl ?_
  refine g_getf C fX2_23 0 rfl rfl dX2_fillRow_25 ?_
  refine g_iload_n C dX2_fillRow_28 4 rfl ?_
  refine g_iald C 4 rfl (by decide) (by omega) (by omega) (v := (tu r)) rfl dX2_fillRow_29 ?_
  refine g_istore (L' := [(5, .int (zI (tu r))), (4, .int (zI (tv r))), (3, .ref (bd (6 + (r + 1)))), (2, .ref (bd (6 + r))), (0, .ref (bd 0)), (1, .int (zI (r : Int)))]) C dX2_fillRow_30 (by decide) rfl ?_
  refine g_iconst C dX2_fillRow_32 ?_
  refine g_istore (L' := [(6, .int (zI 0)), (5, .int (zI (tu r))), (4, .int (zI (tv r))), (3, .ref (bd (6 + (r + 1)))), (2, .ref (bd (6 + r))), (0, .ref (bd 0)), (1, .int (zI (r : Int)))]) C dX2_fillRow_33 (by decide) rfl ?_
  have loop_35 : ∀ (fu : Nat) (i : Nat), (hi : i ≤ 360) → 360 - i < fu → gW E 0 0 (wT bd cI cG tc tr ft tv tu fc (gR M r (tRow (M (r + 1)) (tv r) (tu r)) i)) 35 [(6, .int (zI (i : Int))), (5, .int (zI (tu r))), (4, .int (zI (tv r))), (3, .ref (bd (6 + (r + 1)))), (2, .ref (bd (6 + r))), (1, .int (zI (r : Int))), (0, .ref (bd 0))] [] := by
    intro fu
    induction fu with
    | zero => intro i hi h9; exact absurd h9 (Nat.not_lt_zero _)
    | succ fu ih_35 =>
      intro i hi hmu_35
      have hMi : i < 360 → ∀ j, j ≤ i → 0 ≤ M (r + 1) j ∧ M (r + 1) j ≤ 1000 := fun h j hj => hM j (by omega)
      refine g_iload C dX2_fillRow_35 0 rfl ?_
      refine g_sipush C dX2_fillRow_37 (by decide) ?_
      refine g_icmp_gt 107 C dX2_fillRow_40 (by decide) (zr_i (by omega) (by omega)) (zr_i (by omega) (by omega)) (fun c_40 => ?_) (fun c_40 => ?_)
      · have e9 : i = 360 := by omega
        subst e9
        exact ret _ _ _ _ _ (by decide) (by decide) dX2_fillRow_107 (rfl)
      · refine g_aload_n C dX2_fillRow_43 3 rfl ?_
        refine g_iload C dX2_fillRow_44 0 rfl ?_
        refine g_iald C (6 + (r + 1)) (wT_row1 (by omega)) (by decide) (by omega) (by omega) (v := ((gR M r (tRow (M (r + 1)) (tv r) (tu r)) i) (r + 1) i)) rfl dX2_fillRow_46 ?_
        refine g_top (tIn (M (r + 1)) (tv r) (tu r) i 0) (gR_ne (by omega)) ?_
        refine g_istore (L' := [(7, .int (zI (tIn (M (r + 1)) (tv r) (tu r) i 0))), (6, .int (zI (i : Int))), (5, .int (zI (tu r))), (4, .int (zI (tv r))), (3, .ref (bd (6 + (r + 1)))), (2, .ref (bd (6 + r))), (1, .int (zI (r : Int))), (0, .ref (bd 0))]) C dX2_fillRow_47 (by decide) rfl ?_
        refine g_iconst C dX2_fillRow_49 ?_
        refine g_istore (L' := [(8, .int (zI 1)), (7, .int (zI (tIn (M (r + 1)) (tv r) (tu r) i 0))), (6, .int (zI (i : Int))), (5, .int (zI (tu r))), (4, .int (zI (tv r))), (3, .ref (bd (6 + (r + 1)))), (2, .ref (bd (6 + r))), (1, .int (zI (r : Int))), (0, .ref (bd 0))]) C dX2_fillRow_50 (by decide) rfl ?_
        have loop_52 : ∀ (fu : Nat) (m : Nat), (hm : m ≤ 12) → 13 - m < fu → gW E 0 0 (wT bd cI cG tc tr ft tv tu fc (gR M r (tRow (M (r + 1)) (tv r) (tu r)) i)) 52 [(8, .int (zI ((m + 1 : Nat) : Int))), (7, .int (zI (tIn (M (r + 1)) (tv r) (tu r) i m))), (6, .int (zI (i : Int))), (5, .int (zI (tu r))), (4, .int (zI (tv r))), (3, .ref (bd (6 + (r + 1)))), (2, .ref (bd (6 + r))), (1, .int (zI (r : Int))), (0, .ref (bd 0))] [] := by
          intro fu
          induction fu with
          | zero => intro m hm h9; exact absurd h9 (Nat.not_lt_zero _)
          | succ fu ih_52 =>
            intro m hm hmu_52
            have hb := tIn_bd (u := tu r) (by omega : 0 ≤ tv r) (hMi (by omega)) m
            have hb2 := hM i (by omega)
            have hp := mul_bd hv.1 hv.2 hm
            refine g_iload C dX2_fillRow_52 0 rfl ?_
            refine g_iload C dX2_fillRow_54 3 rfl ?_
            refine g_icmp_gt 95 C dX2_fillRow_56 (by decide) (zr_i (by omega) (by omega)) (zr_i (by omega) (by omega)) (fun c_56 => ?_) (fun c_56 => ?_)
            · have ex := tIn_x (f := M (r + 1)) (s := i) (by omega : 0 ≤ tv r) hm (Or.inl c_56)
              refine g_aload_n C dX2_fillRow_95 6 rfl ?_
              refine g_iload C dX2_fillRow_96 2 rfl ?_
              refine g_iload C dX2_fillRow_98 1 rfl ?_
              refine g_top ((tRow (M (r + 1)) (tv r) (tu r)) i) (ex) ?_
              refine g_iast (w' := wT bd cI cG tc tr ft tv tu fc (gU (gR M r (tRow (M (r + 1)) (tv r) (tu r)) i) r i ((tRow (M (r + 1)) (tv r) (tu r)) i))) C (6 + r) (wT_row1 (by omega)) (by decide) (by omega) (by omega) (wT_set1 (by omega) i ((tRow (M (r + 1)) (tv r) (tu r)) i)) dX2_fillRow_100 ?_
              refine g_iinc (L' := [(6, .int (zI ((i : Int) + 1))), (8, .int (zI ((m + 1 : Nat) : Int))), (7, .int (zI (tIn (M (r + 1)) (tv r) (tu r) i m))), (5, .int (zI (tu r))), (4, .int (zI (tv r))), (3, .ref (bd (6 + (r + 1)))), (2, .ref (bd (6 + r))), (1, .int (zI (r : Int))), (0, .ref (bd 0))]) C dX2_fillRow_101 2 rfl (by decide) rfl ?_
              refine g_goto 35 C dX2_fillRow_104 (by decide) ?_
              refine g_loc (L' := [(6, .int (zI ((i : Int) + 1))), (5, .int (zI (tu r))), (4, .int (zI (tv r))), (3, .ref (bd (6 + (r + 1)))), (2, .ref (bd (6 + r))), (1, .int (zI (r : Int))), (0, .ref (bd 0))]) [0, 3, 4, 5, 6, 7, 8] rfl ?_
              refine g_ws (w' := wT bd cI cG tc tr ft tv tu fc (gR M r (tRow (M (r + 1)) (tv r) (tu r)) (i + 1))) (by rw [gR_s]) rfl ?_
              exact ih_35 (i + 1) (by omega) (by omega)
            · refine g_iload C dX2_fillRow_59 0 rfl ?_
              refine g_iload C dX2_fillRow_61 4 rfl ?_
              refine g_imul C dX2_fillRow_63 ?_
              refine g_iload C dX2_fillRow_64 2 rfl ?_
              refine g_icmp_gt 95 C dX2_fillRow_66 (by decide) (zr_i (by omega) (by omega)) (zr_i (by omega) (by omega)) (fun c_66 => ?_) (fun c_66 => ?_)
              · have ex := tIn_x (f := M (r + 1)) (u := tu r) (by omega : 0 ≤ tv r) hm (Or.inr c_66)
                refine g_aload_n C dX2_fillRow_95 6 rfl ?_
                refine g_iload C dX2_fillRow_96 2 rfl ?_
                refine g_iload C dX2_fillRow_98 1 rfl ?_
                refine g_top ((tRow (M (r + 1)) (tv r) (tu r)) i) (ex) ?_
                refine g_iast (w' := wT bd cI cG tc tr ft tv tu fc (gU (gR M r (tRow (M (r + 1)) (tv r) (tu r)) i) r i ((tRow (M (r + 1)) (tv r) (tu r)) i))) C (6 + r) (wT_row1 (by omega)) (by decide) (by omega) (by omega) (wT_set1 (by omega) i ((tRow (M (r + 1)) (tv r) (tu r)) i)) dX2_fillRow_100 ?_
                refine g_iinc (L' := [(6, .int (zI ((i : Int) + 1))), (8, .int (zI ((m + 1 : Nat) : Int))), (7, .int (zI (tIn (M (r + 1)) (tv r) (tu r) i m))), (5, .int (zI (tu r))), (4, .int (zI (tv r))), (3, .ref (bd (6 + (r + 1)))), (2, .ref (bd (6 + r))), (1, .int (zI (r : Int))), (0, .ref (bd 0))]) C dX2_fillRow_101 2 rfl (by decide) rfl ?_
                refine g_goto 35 C dX2_fillRow_104 (by decide) ?_
                refine g_loc (L' := [(6, .int (zI ((i : Int) + 1))), (5, .int (zI (tu r))), (4, .int (zI (tv r))), (3, .ref (bd (6 + (r + 1)))), (2, .ref (bd (6 + r))), (1, .int (zI (r : Int))), (0, .ref (bd 0))]) [0, 3, 4, 5, 6, 7, 8] rfl ?_
                refine g_ws (w' := wT bd cI cG tc tr ft tv tu fc (gR M r (tRow (M (r + 1)) (tv r) (tu r)) (i + 1))) (by rw [gR_s]) rfl ?_
                exact ih_35 (i + 1) (by omega) (by omega)
              · refine g_iload C dX2_fillRow_69 1 rfl ?_
                refine g_aload_n C dX2_fillRow_71 5 rfl ?_
                refine g_iload C dX2_fillRow_72 2 rfl ?_
                refine g_iload C dX2_fillRow_74 0 rfl ?_
                refine g_iload C dX2_fillRow_76 4 rfl ?_
                refine g_imul C dX2_fillRow_78 ?_
                refine g_isub C dX2_fillRow_79 ?_
                refine g_iald C (6 + (r + 1)) (wT_row1 (by omega)) (by decide) (by omega) (by omega) (v := ((gR M r (tRow (M (r + 1)) (tv r) (tu r)) i) (r + 1) ((((i : Int) - (((m + 1 : Nat) : Int) * (tv r)))).toNat))) rfl dX2_fillRow_80 ?_
                refine g_top (M (r + 1) ((i : Int) - ((m + 1 : Nat) : Int) * tv r).toNat) (gR_ne (by omega)) ?_
                refine g_iload C dX2_fillRow_81 0 rfl ?_
                refine g_iadd C dX2_fillRow_83 ?_
                have hb3 := hM ((i : Int) - ((m + 1 : Nat) : Int) * tv r).toNat (by omega)
                refine g_min C mX2_49 (zr_i (by omega) (by omega)) (zr_i (by omega) (by omega)) (by decide) (Nat.le_of_ble_eq_true rfl) dX2_fillRow_84 ?_
                refine g_top (tIn (M (r + 1)) (tv r) (tu r) i (m + 1)) (tIn_s c_56 c_66) ?_
                refine g_istore (L' := [(7, .int (zI (tIn (M (r + 1)) (tv r) (tu r) i (m + 1)))), (8, .int (zI ((m + 1 : Nat) : Int))), (6, .int (zI (i : Int))), (5, .int (zI (tu r))), (4, .int (zI (tv r))), (3, .ref (bd (6 + (r + 1)))), (2, .ref (bd (6 + r))), (1, .int (zI (r : Int))), (0, .ref (bd 0))]) C dX2_fillRow_87 (by decide) rfl ?_
                refine g_iinc (L' := [(8, .int (zI (((m + 1 : Nat) : Int) + 1))), (7, .int (zI (tIn (M (r + 1)) (tv r) (tu r) i (m + 1)))), (6, .int (zI (i : Int))), (5, .int (zI (tu r))), (4, .int (zI (tv r))), (3, .ref (bd (6 + (r + 1)))), (2, .ref (bd (6 + r))), (1, .int (zI (r : Int))), (0, .ref (bd 0))]) C dX2_fillRow_89 1 rfl (by decide) rfl ?_
                refine g_goto 52 C dX2_fillRow_92 (by decide) ?_
                refine g_loc (L' := [(8, .int (zI (((m + 1 : Nat) : Int) + 1))), (7, .int (zI (tIn (M (r + 1)) (tv r) (tu r) i (m + 1)))), (6, .int (zI (i : Int))), (5, .int (zI (tu r))), (4, .int (zI (tv r))), (3, .ref (bd (6 + (r + 1)))), (2, .ref (bd (6 + r))), (1, .int (zI (r : Int))), (0, .ref (bd 0))]) [0, 1, 2, 3, 4, 5, 6, 7, 8] rfl ?_
                exact ih_52 (m + 1) (by omega) (by omega)
        refine g_loc (L' := [(8, .int (zI 1)), (7, .int (zI (tIn (M (r + 1)) (tv r) (tu r) i 0))), (6, .int (zI (i : Int))), (5, .int (zI (tu r))), (4, .int (zI (tv r))), (3, .ref (bd (6 + (r + 1)))), (2, .ref (bd (6 + r))), (1, .int (zI (r : Int))), (0, .ref (bd 0))]) [0, 1, 2, 3, 4, 5, 6, 7, 8] rfl ?_
        exact loop_52 _ 0 (Nat.zero_le _) (Nat.lt_succ_self _)
  refine g_loc (L' := [(6, .int (zI 0)), (5, .int (zI (tu r))), (4, .int (zI (tv r))), (3, .ref (bd (6 + (r + 1)))), (2, .ref (bd (6 + r))), (1, .int (zI (r : Int))), (0, .ref (bd 0))]) [0, 1, 2, 3, 4, 6, 5] rfl ?_
  refine g_ws (w' := wT bd cI cG tc tr ft tv tu fc (gR M r (tRow (M (r + 1)) (tv r) (tu r)) 0)) (by rw [gR_0]) rfl ?_
  exact loop_35 _ 0 (Nat.zero_le _) (Nat.lt_succ_self _)
end
section
abbrev rmX2_pays : Room := { frames := 0, cells := 0, slots := 0, locals := 0 }
set_option maxHeartbeats 4000000 in
set_option maxRecDepth 100000 in
theorem met_X2_pays (l : Launch) (D : va_G) (cI cG cJ : ClassId) (bd : Nat → Nat) (cnt : Nat) (hc : cnt ≤ 8) (rm : Int) (hr : 0 ≤ rm ∧ rm ≤ 12) (ft tv tu fc : Nat → Int) (M : Nat → Nat → Int) (hM : ∀ r j, r ≤ cnt → j < 360 → 0 ≤ M r j ∧ M r j ≤ 1000) (s : Nat) (hs : s < 360) : gMet l yX2_pays cX2_pays 2 (some .boolean) rmX2_pays D cI cG cJ [.ref (bd 0), .int (zI (s : Int))] (wT bd cI cG (cnt : Int) rm ft tv tu fc M) (gI (fun z w9 => z = (if M 0 s ≤ rm then (1 : Int) else 0) ∧ w9 = wT bd cI cG (cnt : Int) rm ft tv tu fc M)) := by
  have h0 := hM 0 s (Nat.zero_le _) hs
  refine gMet_Z (by decide) rfl (Nat.le_of_ble_eq_true rfl) (fun E C ret => ?_)
  refine g_aload_n C dX2_pays_0 0 rfl ?_
  refine g_getf C fX2_11 0 rfl rfl dX2_pays_1 ?_
  refine g_iconst C dX2_pays_4 ?_
  refine g_aald (y := bd (6 + 0)) C 1 rfl (by decide) (by omega) (by omega) (wR_at (by omega)) dX2_pays_5 ?_
  refine g_iload_n C dX2_pays_6 1 rfl ?_
  refine g_iald C (6 + 0) (wT_row1 (by omega)) (by decide) (by omega) (by omega) (v := (M 0 s)) rfl dX2_pays_7 ?_
  refine g_aload_n C dX2_pays_8 0 rfl ?_
  refine g_getf C fX2_30 0 rfl rfl dX2_pays_9 ?_
  refine g_icmp_gt 19 C dX2_pays_12 (by decide) (zr_i (by omega) (by omega)) (zr_i (by omega) (by omega)) (fun c_12 => ?_) (fun c_12 => ?_)
  · refine g_iconst C dX2_pays_19 ?_
    exact ret _ _ _ _ _ _ (by decide) (by decide) dX2_pays_20 (Or.inl rfl) (⟨(if_neg (by omega)).symm, rfl⟩)
  · refine g_iconst C dX2_pays_15 ?_
    refine g_goto 20 C dX2_pays_16 (by decide) ?_
    exact ret _ _ _ _ _ _ (by decide) (by decide) dX2_pays_20 (Or.inr rfl) (⟨(if_pos (by omega)).symm, rfl⟩)
abbrev rmX2_leastSum : Room := { frames := 1, cells := 0, slots := 0, locals := 21 }
set_option maxHeartbeats 4000000 in
set_option maxRecDepth 100000 in
theorem met_X2_leastSum (l : Launch) (D : va_G) (cI cG cJ : ClassId) (bd : Nat → Nat) (cnt : Nat) (hc : cnt ≤ 8) (rm : Int) (hr : 0 ≤ rm ∧ rm ≤ 12) (ft tv tu fc : Nat → Int) (M : Nat → Nat → Int) (hM : ∀ r j, r ≤ cnt → j < 360 → 0 ≤ M r j ∧ M r j ≤ 1000) (p : Nat) (hp : p ≤ 360) : gMet l yX2_leastSum cX2_leastSum 3 (some .int) rmX2_leastSum D cI cG cJ [.ref (bd 0), .int (zI (p : Int))] (wT bd cI cG (cnt : Int) rm ft tv tu fc M) (gI (fun z w9 => z = fsm (M 0) rm (360 - p) p ∧ w9 = wT bd cI cG (cnt : Int) rm ft tv tu fc M)) := by
  refine gMet_I (by decide) rfl (Nat.le_of_ble_eq_true rfl) (fun E C ret => ?_)
  refine g_iload_n C dX2_leastSum_0 1 rfl ?_
  refine g_istore_n (L' := [(2, .int (zI (p : Int))), (0, .ref (bd 0)), (1, .int (zI (p : Int)))]) C dX2_leastSum_1 (by decide) rfl ?_
  have loop_2 : ∀ (fu : Nat) (s : Nat), (hi : s ≤ 360) → (he : fsm (M 0) rm (360 - p) p = fsm (M 0) rm (360 - s) s) → 360 - s < fu → gW E 0 0 (wT bd cI cG (cnt : Int) rm ft tv tu fc M) 2 [(2, .int (zI (s : Int))), (0, .ref (bd 0)), (1, .int (zI (p : Int)))] [] := by
    intro fu
    induction fu with
    | zero => intro s hi he h9; exact absurd h9 (Nat.not_lt_zero _)
    | succ fu ih_2 =>
      intro s hi he hmu_2
      refine g_iload_n C dX2_leastSum_2 0 rfl ?_
      refine g_sipush C dX2_leastSum_3 (by decide) ?_
      refine g_icmp_gt 25 C dX2_leastSum_6 (by decide) (zr_i (by omega) (by omega)) (zr_i (by omega) (by omega)) (fun c_6 => ?_) (fun c_6 => ?_)
      · refine g_iconst C dX2_leastSum_25 ?_
        exact ret _ _ _ _ _ _ (by decide) (by decide) dX2_leastSum_26 (⟨by rw [he, show s = 360 by omega]; rfl, rfl⟩)
      · refine g_aload_n C dX2_leastSum_9 1 rfl ?_
        refine g_iload_n C dX2_leastSum_10 0 rfl ?_
        refine g_callV (wr := ([] : va_W)) (st := []) [0, 1, 2, 3, 4, 5, 6, 7, 8, 9, 10, 11, 12, 13, 14] [] C cX2_63 (met_X2_pays l D cI cG cJ bd cnt hc rm hr ft tv tu fc M hM s (by omega)) ⟨rfl, rfl, by decide, by decide, by decide⟩ (q0 := 0) rfl rfl (by decide) (by decide) rfl rfl (Nat.le_of_ble_eq_true rfl) dX2_leastSum_11 ?_
        rintro v9 w9 ⟨z9, rfl, rfl, rfl⟩
        refine g_ws (w' := wT bd cI cG (cnt : Int) rm ft tv tu fc M) (st' := [.int (zI (if M 0 s ≤ rm then (1 : Int) else 0))]) rfl rfl ?_
        refine g_if_eq 19 C dX2_leastSum_14 (by decide) (by split <;> exact zr_i (by omega) (by omega)) (fun c_14 => ?_) (fun c_14 => ?_)
        · have c9 : ¬ M 0 s ≤ rm := fun q => by rw [if_pos q] at c_14; exact absurd c_14 (by decide)
          refine g_iinc (L' := [(2, .int (zI ((s : Int) + 1))), (0, .ref (bd 0)), (1, .int (zI (p : Int)))]) C dX2_leastSum_19 0 rfl (by decide) rfl ?_
          refine g_goto 2 C dX2_leastSum_22 (by decide) ?_
          refine g_loc (L' := [(2, .int (zI ((s : Int) + 1))), (0, .ref (bd 0)), (1, .int (zI (p : Int)))]) [0, 1, 2] rfl ?_
          exact ih_2 (s + 1) (by omega) (by rw [he, show 360 - s = (360 - (s + 1)) + 1 by omega, fsm_f c9]) (by omega)
        · have c9 : M 0 s ≤ rm := Decidable.byContradiction fun q => c_14 (if_neg q)
          refine g_iload_n C dX2_leastSum_17 0 rfl ?_
          exact ret _ _ _ _ _ _ (by decide) (by decide) dX2_leastSum_18 (⟨by rw [he, show 360 - s = (360 - (s + 1)) + 1 by omega, fsm_t c9], rfl⟩)
  refine g_loc (L' := [(2, .int (zI (p : Int))), (0, .ref (bd 0)), (1, .int (zI (p : Int)))]) [0, 1, 2] rfl ?_
  exact loop_2 _ p hp rfl (Nat.lt_succ_self _)
abbrev rmX2_moreThan : Room := { frames := 2, cells := 0, slots := 0, locals := 43 }
set_option maxHeartbeats 4000000 in
set_option maxRecDepth 100000 in
theorem met_X2_moreThan (l : Launch) (D : va_G) (cI cG cJ : ClassId) (bd : Nat → Nat) (cnt : Nat) (hc : cnt ≤ 8) (rm : Int) (hr : 0 ≤ rm ∧ rm ≤ 12) (ft tv tu fc : Nat → Int) (M : Nat → Nat → Int) (hM : ∀ r j, r ≤ cnt → j < 360 → 0 ≤ M r j ∧ M r j ≤ 1000) (p : Nat) (hp : p ≤ 360) : gMet l yX2_moreThan cX2_moreThan 3 (some .int) rmX2_moreThan D cI cG cJ [.ref (bd 0), .int (zI (p : Int))] (wT bd cI cG (cnt : Int) rm ft tv tu fc M) (gI (fun z w9 => z = (if fsm (M 0) rm (360 - p) p = -1 then (-1 : Int) else fsm (M 0) rm (360 - p) p - (p : Int)) ∧ w9 = wT bd cI cG (cnt : Int) rm ft tv tu fc M)) := by
  refine gMet_I (by decide) rfl (Nat.le_of_ble_eq_true rfl) (fun E C ret => ?_)
  refine g_aload_n C dX2_moreThan_0 0 rfl ?_
  refine g_iload_n C dX2_moreThan_1 1 rfl ?_
  refine g_callV (wr := ([] : va_W)) (st := []) [0, 1, 2, 3, 4, 5, 6, 7, 8, 9, 10, 11, 12, 13, 14] [] C cX2_67 (met_X2_leastSum l D cI cG cJ bd cnt hc rm hr ft tv tu fc M hM p (hp)) ⟨rfl, rfl, by decide, by decide, by decide⟩ (q0 := 0) rfl rfl (by decide) (by decide) rfl rfl (Nat.le_of_ble_eq_true rfl) dX2_moreThan_2 ?_
  rintro v9 w9 ⟨z9, rfl, rfl, rfl⟩
  refine g_ws (w' := wT bd cI cG (cnt : Int) rm ft tv tu fc M) (st' := [.int (zI (fsm (M 0) rm (360 - p) p))]) rfl rfl ?_
  refine g_istore_n (L' := [(2, .int (zI (fsm (M 0) rm (360 - p) p))), (0, .ref (bd 0)), (1, .int (zI (p : Int)))]) C dX2_moreThan_5 (by decide) rfl ?_
  refine g_iload_n C dX2_moreThan_6 0 rfl ?_
  refine g_iconst C dX2_moreThan_7 ?_
  refine g_icmp_ne 15 C dX2_moreThan_8 (by decide) (by rcases fsm_bd (f := M 0) (rm := rm) (360 - p) p with hq | ⟨j9, h1, h2, hq, h4⟩ <;> (rw [hq]; exact zr_i (by omega) (by omega))) (zr_i (by omega) (by omega)) (fun c_8 => ?_) (fun c_8 => ?_)
  · refine g_iload_n C dX2_moreThan_15 0 rfl ?_
    refine g_iload_n C dX2_moreThan_16 2 rfl ?_
    refine g_isub C dX2_moreThan_17 ?_
    exact ret _ _ _ _ _ _ (by decide) (by decide) dX2_moreThan_18 (⟨(if_neg c_8).symm, rfl⟩)
  · refine g_iconst C dX2_moreThan_11 ?_
    refine g_goto 18 C dX2_moreThan_12 (by decide) ?_
    exact ret _ _ _ _ _ _ (by decide) (by decide) dX2_moreThan_18 (⟨(if_pos c_8).symm, rfl⟩)
abbrev rmX2_stampsOnLetter : Room := { frames := 2, cells := 0, slots := 0, locals := 43 }
set_option maxHeartbeats 4000000 in
set_option maxRecDepth 100000 in
theorem met_X2_stampsOnLetter (l : Launch) (D : va_G) (cI cG cJ : ClassId) (bd : Nat → Nat) (cnt : Nat) (hc : cnt ≤ 8) (rm : Int) (hr : 0 ≤ rm ∧ rm ≤ 12) (ft tv tu fc : Nat → Int) (M : Nat → Nat → Int) (hM : ∀ r j, r ≤ cnt → j < 360 → 0 ≤ M r j ∧ M r j ≤ 1000) (p : Nat) (hp : p ≤ 360) : gMet l yX2_stampsOnLetter cX2_stampsOnLetter 3 (some .int) rmX2_stampsOnLetter D cI cG cJ [.ref (bd 0), .int (zI (p : Int))] (wT bd cI cG (cnt : Int) rm ft tv tu fc M) (gI (fun z w9 => z = (if fsm (M 0) rm (360 - p) p = -1 then (0 : Int) else M 0 (fsm (M 0) rm (360 - p) p).toNat) ∧ w9 = wT bd cI cG (cnt : Int) rm ft tv tu fc M)) := by
  refine gMet_I (by decide) rfl (Nat.le_of_ble_eq_true rfl) (fun E C ret => ?_)
  refine g_aload_n C dX2_stampsOnLetter_0 0 rfl ?_
  refine g_iload_n C dX2_stampsOnLetter_1 1 rfl ?_
  refine g_callV (wr := ([] : va_W)) (st := []) [0, 1, 2, 3, 4, 5, 6, 7, 8, 9, 10, 11, 12, 13, 14] [] C cX2_67 (met_X2_leastSum l D cI cG cJ bd cnt hc rm hr ft tv tu fc M hM p (hp)) ⟨rfl, rfl, by decide, by decide, by decide⟩ (q0 := 0) rfl rfl (by decide) (by decide) rfl rfl (Nat.le_of_ble_eq_true rfl) dX2_stampsOnLetter_2 ?_
  rintro v9 w9 ⟨z9, rfl, rfl, rfl⟩
  refine g_ws (w' := wT bd cI cG (cnt : Int) rm ft tv tu fc M) (st' := [.int (zI (fsm (M 0) rm (360 - p) p))]) rfl rfl ?_
  refine g_istore_n (L' := [(2, .int (zI (fsm (M 0) rm (360 - p) p))), (0, .ref (bd 0)), (1, .int (zI (p : Int)))]) C dX2_stampsOnLetter_5 (by decide) rfl ?_
  refine g_iload_n C dX2_stampsOnLetter_6 0 rfl ?_
  refine g_iconst C dX2_stampsOnLetter_7 ?_
  refine g_icmp_ne 15 C dX2_stampsOnLetter_8 (by decide) (by rcases fsm_bd (f := M 0) (rm := rm) (360 - p) p with hq | ⟨j9, h1, h2, hq, h4⟩ <;> (rw [hq]; exact zr_i (by omega) (by omega))) (zr_i (by omega) (by omega)) (fun c_8 => ?_) (fun c_8 => ?_)
  · have hq2 : 0 ≤ fsm (M 0) rm (360 - p) p ∧ fsm (M 0) rm (360 - p) p < 360 := by
      rcases fsm_bd (f := M 0) (rm := rm) (360 - p) p with hq | ⟨j9, h1, h2, hq, h4⟩
      · exact absurd hq c_8
      · rw [hq]; omega
    refine g_aload_n C dX2_stampsOnLetter_15 1 rfl ?_
    refine g_getf C fX2_11 0 rfl rfl dX2_stampsOnLetter_16 ?_
    refine g_iconst C dX2_stampsOnLetter_19 ?_
    refine g_aald (y := bd (6 + 0)) C 1 rfl (by decide) (by omega) (by omega) (wR_at (by omega)) dX2_stampsOnLetter_20 ?_
    refine g_iload_n C dX2_stampsOnLetter_21 0 rfl ?_
    refine g_iald C (6 + 0) (wT_row1 (by omega)) (by decide) (by omega) (by omega) (v := (M 0 (((fsm (M 0) rm (360 - p) p)).toNat))) rfl dX2_stampsOnLetter_22 ?_
    exact ret _ _ _ _ _ _ (by decide) (by decide) dX2_stampsOnLetter_23 (⟨(if_neg c_8).symm, rfl⟩)
  · refine g_iconst C dX2_stampsOnLetter_11 ?_
    refine g_goto 23 C dX2_stampsOnLetter_12 (by decide) ?_
    exact ret _ _ _ _ _ _ (by decide) (by decide) dX2_stampsOnLetter_23 (⟨(if_pos c_8).symm, rfl⟩)
abbrev rmX2_reachOfStock : Room := { frames := 1, cells := 0, slots := 0, locals := 21 }
set_option maxHeartbeats 4000000 in
set_option maxRecDepth 100000 in
theorem met_X2_reachOfStock (l : Launch) (D : va_G) (cI cG cJ : ClassId) (bd : Nat → Nat) (cnt : Nat) (hc : cnt ≤ 8) (rm : Int) (hr : 0 ≤ rm ∧ rm ≤ 12) (ft tv tu fc : Nat → Int) (M : Nat → Nat → Int) (hM : ∀ r j, r ≤ cnt → j < 360 → 0 ≤ M r j ∧ M r j ≤ 1000)  : gMet l yX2_reachOfStock cX2_reachOfStock 2 (some .int) rmX2_reachOfStock D cI cG cJ [.ref (bd 0)] (wT bd cI cG (cnt : Int) rm ft tv tu fc M) (gI (fun z w9 => z = ((rch (M 0) rm 300 0 : Nat) : Int) ∧ w9 = wT bd cI cG (cnt : Int) rm ft tv tu fc M)) := by
  refine gMet_I (by decide) rfl (Nat.le_of_ble_eq_true rfl) (fun E C ret => ?_)
  refine g_iconst C dX2_reachOfStock_0 ?_
  refine g_istore_n (L' := [(1, .int (zI 0)), (0, .ref (bd 0))]) C dX2_reachOfStock_1 (by decide) rfl ?_
  have loop_2 : ∀ (fu : Nat) (p : Nat), (hi : p ≤ 300) → (he : rch (M 0) rm 300 0 = rch (M 0) rm (300 - p) p) → 300 - p < fu → gW E 0 0 (wT bd cI cG (cnt : Int) rm ft tv tu fc M) 2 [(1, .int (zI (p : Int))), (0, .ref (bd 0))] [] := by
    intro fu
    induction fu with
    | zero => intro p hi he h9; exact absurd h9 (Nat.not_lt_zero _)
    | succ fu ih_2 =>
      intro p hi he hmu_2
      refine g_iload_n C dX2_reachOfStock_2 0 rfl ?_
      refine g_sipush C dX2_reachOfStock_3 (by decide) ?_
      refine g_icmp_ge 25 C dX2_reachOfStock_6 (by decide) (zr_i (by omega) (by omega)) (zr_i (by omega) (by omega)) (fun c_6 => ?_) (fun c_6 => ?_)
      · refine g_iload_n C dX2_reachOfStock_25 0 rfl ?_
        exact ret _ _ _ _ _ _ (by decide) (by decide) dX2_reachOfStock_26 (⟨by rw [he, show p = 300 by omega]; rfl, rfl⟩)
      · refine g_aload_n C dX2_reachOfStock_9 1 rfl ?_
        refine g_iload_n C dX2_reachOfStock_10 0 rfl ?_
        refine g_iconst C dX2_reachOfStock_11 ?_
        refine g_iadd C dX2_reachOfStock_12 ?_
        refine g_callV (wr := ([] : va_W)) (st := []) [0, 1, 2, 3, 4, 5, 6, 7, 8, 9, 10, 11, 12, 13, 14] [] C cX2_63 (met_X2_pays l D cI cG cJ bd cnt hc rm hr ft tv tu fc M hM (p + 1) (by omega)) ⟨rfl, rfl, by decide, by decide, by decide⟩ (q0 := 0) rfl rfl (by decide) (by decide) rfl rfl (Nat.le_of_ble_eq_true rfl) dX2_reachOfStock_13 ?_
        rintro v9 w9 ⟨z9, rfl, rfl, rfl⟩
        refine g_ws (w' := wT bd cI cG (cnt : Int) rm ft tv tu fc M) (st' := [.int (zI (if M 0 (p + 1) ≤ rm then (1 : Int) else 0))]) rfl rfl ?_
        refine g_if_eq 25 C dX2_reachOfStock_16 (by decide) (by split <;> exact zr_i (by omega) (by omega)) (fun c_16 => ?_) (fun c_16 => ?_)
        · have c9 : ¬ M 0 (p + 1) ≤ rm := fun q => by rw [if_pos q] at c_16; exact absurd c_16 (by decide)
          refine g_iload_n C dX2_reachOfStock_25 0 rfl ?_
          exact ret _ _ _ _ _ _ (by decide) (by decide) dX2_reachOfStock_26 (⟨by rw [he, rch_f c9], rfl⟩)
        · have c9 : M 0 (p + 1) ≤ rm := Decidable.byContradiction fun q => c_16 (if_neg q)
          refine g_iinc (L' := [(1, .int (zI ((p : Int) + 1))), (0, .ref (bd 0))]) C dX2_reachOfStock_19 0 rfl (by decide) rfl ?_
          refine g_goto 2 C dX2_reachOfStock_22 (by decide) ?_
          refine g_loc (L' := [(1, .int (zI ((p : Int) + 1))), (0, .ref (bd 0))]) [0, 1] rfl ?_
          exact ih_2 (p + 1) (by omega) (by rw [he, show 300 - p = (300 - (p + 1)) + 1 by omega, rch_t c9]) (by omega)
  refine g_loc (L' := [(1, .int (zI 0)), (0, .ref (bd 0))]) [0, 1] rfl ?_
  exact loop_2 _ 0 (Nat.zero_le _) rfl (Nat.lt_succ_self _)
abbrev rmX2_mostOf : Room := { frames := 0, cells := 0, slots := 0, locals := 0 }
set_option maxHeartbeats 4000000 in
set_option maxRecDepth 100000 in
theorem met_X2_mostOf (l : Launch) (D : va_G) (cI cG cJ : ClassId) (bd : Nat → Nat) (cnt : Nat) (hc : cnt ≤ 8) (rm : Int) (hr : 0 ≤ rm ∧ rm ≤ 12) (ft tv tu fc : Nat → Int) (M : Nat → Nat → Int) (hM : ∀ r j, r ≤ cnt → j < 360 → 0 ≤ M r j ∧ M r j ≤ 1000) (hv : ∀ r, r < cnt → 1 ≤ tv r ∧ tv r ≤ 60) (hu : ∀ r, r < cnt → 0 ≤ tu r ∧ tu r ≤ 12) (r : Nat) (hr9 : r < cnt) (s : Nat) (hs : s < 360) : gMet l yX2_mostOf cX2_mostOf 8 (some .int) rmX2_mostOf D cI cG cJ [.ref (bd 0), .int (zI (r : Int)), .int (zI (s : Int))] (wT bd cI cG (cnt : Int) rm ft tv tu fc M) (gI (fun z w9 => z = ((mo (M (r + 1)) (tv r) (M r s) s (tu r).toNat : Nat) : Int) ∧ w9 = wT bd cI cG (cnt : Int) rm ft tv tu fc M)) := by
  have hv9 := hv r hr9
  have hu9 := hu r hr9
  have hM9 := hM r s (by omega) hs
  refine gMet_I (by decide) rfl (Nat.le_of_ble_eq_true rfl) (fun E C ret => ?_)
  refine g_aload_n C dX2_mostOf_0 0 rfl ?_
  refine g_getf C fX2_20 0 rfl rfl dX2_mostOf_1 ?_
  refine g_iload_n C dX2_mostOf_4 1 rfl ?_
  refine g_iald C 3 rfl (by decide) (by omega) (by omega) (v := (tv r)) rfl dX2_mostOf_5 ?_
  refine g_istore_n (L' := [(3, .int (zI (tv r))), (0, .ref (bd 0)), (1, .int (zI (r : Int))), (2, .int (zI (s : Int)))]) C dX2_mostOf_6 (by decide) rfl ?_
  refine g_aload_n C dX2_mostOf_7 1 rfl ?_
  refine g_getf C fX2_11 0 rfl rfl dX2_mostOf_8 ?_
  refine g_iload_n C dX2_mostOf_11 2 rfl ?_
  refine g_aald (y := bd (6 + r)) C 1 rfl (by decide) (by omega) (by omega) (wR_at (by omega)) dX2_mostOf_12 ?_
  refine g_iload_n C dX2_mostOf_13 3 rfl ?_
  refine g_iald C (6 + r) (wT_row1 (by omega)) (by decide) (by omega) (by omega) (v := (M r s)) rfl dX2_mostOf_14 ?_
  refine g_istore (L' := [(4, .int (zI (M r s))), (3, .int (zI (tv r))), (0, .ref (bd 0)), (1, .int (zI (r : Int))), (2, .int (zI (s : Int)))]) C dX2_mostOf_15 (by decide) rfl ?_
  refine g_aload_n C dX2_mostOf_17 2 rfl ?_
  refine g_getf C fX2_11 0 rfl rfl dX2_mostOf_18 ?_
  refine g_iload_n C dX2_mostOf_21 3 rfl ?_
  refine g_iconst C dX2_mostOf_22 ?_
  refine g_iadd C dX2_mostOf_23 ?_
  refine g_aald (y := bd (6 + (r + 1))) C 1 rfl (by decide) (by omega) (by omega) (wR_at (by omega)) dX2_mostOf_24 ?_
  refine g_astore (L' := [(5, .ref (bd (6 + (r + 1)))), (4, .int (zI (M r s))), (3, .int (zI (tv r))), (0, .ref (bd 0)), (1, .int (zI (r : Int))), (2, .int (zI (s : Int)))]) C dX2_mostOf_25 (by decide) rfl ?_
  refine g_aload_n C dX2_mostOf_27 3 rfl ?_
  refine g_getf C fX2_23 0 rfl rfl dX2_mostOf_28 ?_
  refine g_iload_n C dX2_mostOf_31 4 rfl ?_
  refine g_iald C 4 rfl (by decide) (by omega) (by omega) (v := (tu r)) rfl dX2_mostOf_32 ?_
  refine g_top (((tu r).toNat : Nat) : Int) (by omega) ?_
  refine g_istore (L' := [(6, .int (zI (((tu r).toNat : Nat) : Int))), (5, .ref (bd (6 + (r + 1)))), (4, .int (zI (M r s))), (3, .int (zI (tv r))), (0, .ref (bd 0)), (1, .int (zI (r : Int))), (2, .int (zI (s : Int)))]) C dX2_mostOf_33 (by decide) rfl ?_
  have loop_35 : ∀ (fu : Nat) (m : Nat), (hi : m ≤ 12) → (he : mo (M (r + 1)) (tv r) (M r s) s (tu r).toNat = mo (M (r + 1)) (tv r) (M r s) s m) → m < fu → gW E 0 0 (wT bd cI cG (cnt : Int) rm ft tv tu fc M) 35 [(6, .int (zI (m : Int))), (5, .ref (bd (6 + (r + 1)))), (4, .int (zI (M r s))), (3, .int (zI (tv r))), (0, .ref (bd 0)), (1, .int (zI (r : Int))), (2, .int (zI (s : Int)))] [] := by
    intro fu
    induction fu with
    | zero => intro m hi he h9; exact absurd h9 (Nat.not_lt_zero _)
    | succ fu ih_35 =>
      intro m hi he hmu_35
      have hp := mul_bd0 hv9.1 hv9.2 (by omega : m ≤ 13)
      refine g_iload C dX2_mostOf_35 0 rfl ?_
      refine g_if_le 75 C dX2_mostOf_37 (by decide) (zr_i (by omega) (by omega)) (fun c_37 => ?_) (fun c_37 => ?_)
      · refine g_iconst C dX2_mostOf_75 ?_
        exact ret _ _ _ _ _ _ (by decide) (by decide) dX2_mostOf_76 (⟨by rw [he, show m = 0 by omega]; rfl, rfl⟩)
      · refine g_iload_n C dX2_mostOf_40 6 rfl ?_
        refine g_iload C dX2_mostOf_41 0 rfl ?_
        refine g_iload_n C dX2_mostOf_43 3 rfl ?_
        refine g_imul C dX2_mostOf_44 ?_
        refine g_isub C dX2_mostOf_45 ?_
        refine g_istore (L' := [(7, .int (zI ((s : Int) - ((m : Int) * (tv r))))), (6, .int (zI (m : Int))), (5, .ref (bd (6 + (r + 1)))), (4, .int (zI (M r s))), (3, .int (zI (tv r))), (0, .ref (bd 0)), (1, .int (zI (r : Int))), (2, .int (zI (s : Int)))]) C dX2_mostOf_46 (by decide) rfl ?_
        refine g_iload C dX2_mostOf_48 0 rfl ?_
        refine g_if_lt 69 C dX2_mostOf_50 (by decide) (zr_i (by omega) (by omega)) (fun c_50 => ?_) (fun c_50 => ?_)
        · refine g_iinc (L' := [(6, .int (zI ((m : Int) + (-1)))), (7, .int (zI ((s : Int) - ((m : Int) * (tv r))))), (5, .ref (bd (6 + (r + 1)))), (4, .int (zI (M r s))), (3, .int (zI (tv r))), (0, .ref (bd 0)), (1, .int (zI (r : Int))), (2, .int (zI (s : Int)))]) C dX2_mostOf_69 1 rfl (by decide) rfl ?_
          refine g_goto 35 C dX2_mostOf_72 (by decide) ?_
          refine g_loc (L' := [(6, .int (zI ((m : Int) + (-1)))), (5, .ref (bd (6 + (r + 1)))), (4, .int (zI (M r s))), (3, .int (zI (tv r))), (0, .ref (bd 0)), (1, .int (zI (r : Int))), (2, .int (zI (s : Int)))]) [0, 2, 3, 4, 5, 6, 7] rfl ?_
          refine g_lw (w' := wT bd cI cG (cnt : Int) rm ft tv tu fc M) (L' := [(6, .int (zI ((m - 1 : Nat) : Int))), (5, .ref (bd (6 + (r + 1)))), (4, .int (zI (M r s))), (3, .int (zI (tv r))), (0, .ref (bd 0)), (1, .int (zI (r : Int))), (2, .int (zI (s : Int)))]) rfl (by rw [show ((m : Int) + (-1)) = ((m - 1 : Nat) : Int) by omega]) ?_
          exact ih_35 (m - 1) (by omega) (he.trans (mo_n c_37 (fun q => by omega))) (by omega)
        · refine g_aload C dX2_mostOf_53 2 rfl ?_
          refine g_iload C dX2_mostOf_55 0 rfl ?_
          refine g_iald C (6 + (r + 1)) (wT_row1 (by omega)) (by decide) (by omega) (by omega) (v := (M (r + 1) ((((s : Int) - ((m : Int) * (tv r)))).toNat))) rfl dX2_mostOf_57 ?_
          refine g_iload C dX2_mostOf_58 1 rfl ?_
          have hM8 := hM (r + 1) ((s : Int) - (m : Int) * tv r).toNat (by omega) (by omega)
          refine g_iadd C dX2_mostOf_60 ?_
          refine g_iload C dX2_mostOf_61 3 rfl ?_
          refine g_icmp_ne 69 C dX2_mostOf_63 (by decide) (zr_i (by omega) (by omega)) (zr_i (by omega) (by omega)) (fun c_63 => ?_) (fun c_63 => ?_)
          · refine g_iinc (L' := [(6, .int (zI ((m : Int) + (-1)))), (7, .int (zI ((s : Int) - ((m : Int) * (tv r))))), (5, .ref (bd (6 + (r + 1)))), (4, .int (zI (M r s))), (3, .int (zI (tv r))), (0, .ref (bd 0)), (1, .int (zI (r : Int))), (2, .int (zI (s : Int)))]) C dX2_mostOf_69 1 rfl (by decide) rfl ?_
            refine g_goto 35 C dX2_mostOf_72 (by decide) ?_
            refine g_loc (L' := [(6, .int (zI ((m : Int) + (-1)))), (5, .ref (bd (6 + (r + 1)))), (4, .int (zI (M r s))), (3, .int (zI (tv r))), (0, .ref (bd 0)), (1, .int (zI (r : Int))), (2, .int (zI (s : Int)))]) [0, 2, 3, 4, 5, 6, 7] rfl ?_
            refine g_lw (w' := wT bd cI cG (cnt : Int) rm ft tv tu fc M) (L' := [(6, .int (zI ((m - 1 : Nat) : Int))), (5, .ref (bd (6 + (r + 1)))), (4, .int (zI (M r s))), (3, .int (zI (tv r))), (0, .ref (bd 0)), (1, .int (zI (r : Int))), (2, .int (zI (s : Int)))]) rfl (by rw [show ((m : Int) + (-1)) = ((m - 1 : Nat) : Int) by omega]) ?_
            exact ih_35 (m - 1) (by omega) (he.trans (mo_n c_37 (fun q => c_63 q.2))) (by omega)
          · refine g_iload C dX2_mostOf_66 1 rfl ?_
            exact ret _ _ _ _ _ _ (by decide) (by decide) dX2_mostOf_68 (⟨by rw [he, mo_p c_37 (by omega) c_63], rfl⟩)
  refine g_loc (L' := [(6, .int (zI (((tu r).toNat : Nat) : Int))), (5, .ref (bd (6 + (r + 1)))), (4, .int (zI (M r s))), (3, .int (zI (tv r))), (0, .ref (bd 0)), (1, .int (zI (r : Int))), (2, .int (zI (s : Int)))]) [0, 1, 2, 3, 4, 5, 6] rfl ?_
  exact loop_35 _ ((tu r).toNat) (by omega) rfl (Nat.lt_succ_self _)
abbrev rmX2_choose : Room := { frames := 1, cells := 0, slots := 0, locals := 27 }
set_option maxHeartbeats 4000000 in
set_option maxRecDepth 100000 in
theorem met_X2_choose (l : Launch) (D : va_G) (cI cG cJ : ClassId) (bd : Nat → Nat) (cnt : Nat) (hc : cnt ≤ 8) (rm : Int) (hr : 0 ≤ rm ∧ rm ≤ 12) (ft tv tu fc : Nat → Int) (M : Nat → Nat → Int) (hM : ∀ r j, r ≤ cnt → j < 360 → 0 ≤ M r j ∧ M r j ≤ 1000) (hv : ∀ r, r < cnt → 1 ≤ tv r ∧ tv r ≤ 60) (hu : ∀ r, r < cnt → 0 ≤ tu r ∧ tu r ≤ 12) (hf : ∀ r, r < cnt → 0 ≤ ft r ∧ ft r < 8) (s : Nat) (hs : s < 360) : gMet l yX2_choose cX2_choose 5 none rmX2_choose D cI cG cJ [.ref (bd 0), .int (zI (s : Int))] (wT bd cI cG (cnt : Int) rm ft tv tu fc M) (gN (fun w9 => w9 = wT bd cI cG (cnt : Int) rm ft tv tu (chU M ft tv tu fc s cnt) M)) := by
  refine gMet_N (by decide) rfl (Nat.le_of_ble_eq_true rfl) (fun E C ret => ?_)
  refine g_iload_n C dX2_choose_0 1 rfl ?_
  refine g_istore_n (L' := [(2, .int (zI (s : Int))), (0, .ref (bd 0)), (1, .int (zI (s : Int)))]) C dX2_choose_1 (by decide) rfl ?_
  refine g_iconst C dX2_choose_2 ?_
  refine g_istore_n (L' := [(3, .int (zI 0)), (2, .int (zI (s : Int))), (0, .ref (bd 0)), (1, .int (zI (s : Int)))]) C dX2_choose_3 (by decide) rfl ?_
  have loop_4 : ∀ (fu : Nat) (r : Nat), (hi : r ≤ cnt) → cnt - r < fu → gW E 0 0 (wT bd cI cG (cnt : Int) rm ft tv tu (chU M ft tv tu fc s r) M) 4 [(3, .int (zI (r : Int))), (2, .int (zI ((rst M tv tu s r : Nat) : Int))), (0, .ref (bd 0)), (1, .int (zI (s : Int)))] [] := by
    intro fu
    induction fu with
    | zero => intro r hi h9; exact absurd h9 (Nat.not_lt_zero _)
    | succ fu ih_4 =>
      intro r hi hmu_4
      have hle := rst_le (M := M) (tv := tv) (tu := tu) (s := s) r (fun j hj => by have := hv j (by omega); omega)
      refine g_iload_n C dX2_choose_4 0 rfl ?_
      refine g_aload_n C dX2_choose_5 2 rfl ?_
      refine g_getf C fX2_26 0 rfl rfl dX2_choose_6 ?_
      refine g_icmp_ge 51 C dX2_choose_9 (by decide) (zr_i (by omega) (by omega)) (zr_i (by omega) (by omega)) (fun c_9 => ?_) (fun c_9 => ?_)
      · have e9 : r = cnt := by omega
        subst e9
        exact ret _ _ _ _ _ (by decide) (by decide) dX2_choose_51 (rfl)
      · refine g_aload_n C dX2_choose_12 2 rfl ?_
        refine g_iload_n C dX2_choose_13 0 rfl ?_
        refine g_iload_n C dX2_choose_14 1 rfl ?_
        refine g_callV (wr := ([] : va_W)) (st := []) [0, 1, 2, 3, 4, 5, 6, 7, 8, 9, 10, 11, 12, 13, 14] [] C cX2_70 (met_X2_mostOf l D cI cG cJ bd cnt hc rm hr ft tv tu (chU M ft tv tu fc s r) M hM hv hu r (by omega) (rst M tv tu s r) (by omega)) ⟨rfl, rfl, by decide, by decide, by decide⟩ (q0 := 0) rfl rfl (by decide) (by decide) rfl rfl (Nat.le_of_ble_eq_true rfl) dX2_choose_15 ?_
        rintro v9 w9 ⟨z9, rfl, rfl, rfl⟩
        refine g_ws (w' := wT bd cI cG (cnt : Int) rm ft tv tu (chU M ft tv tu fc s r) M) (st' := [.int (zI ((chm M tv tu s r : Nat) : Int))]) rfl rfl ?_
        refine g_istore (L' := [(4, .int (zI ((chm M tv tu s r : Nat) : Int))), (3, .int (zI (r : Int))), (2, .int (zI ((rst M tv tu s r : Nat) : Int))), (0, .ref (bd 0)), (1, .int (zI (s : Int)))]) C dX2_choose_18 (by decide) rfl ?_
        refine g_aload_n C dX2_choose_20 3 rfl ?_
        refine g_getf C fX2_33 0 rfl rfl dX2_choose_21 ?_
        refine g_aload_n C dX2_choose_24 3 rfl ?_
        refine g_getf C fX2_16 0 rfl rfl dX2_choose_25 ?_
        refine g_iload_n C dX2_choose_28 1 rfl ?_
        have hf9 := hf r (by omega)
        refine g_iald C 2 rfl (by decide) (by omega) (by omega) (v := (ft r)) rfl dX2_choose_29 ?_
        refine g_iload C dX2_choose_30 0 rfl ?_
        refine g_iast (w' := wT bd cI cG (cnt : Int) rm ft tv tu (zU (chU M ft tv tu fc s r) (((ft r)).toNat) ((chm M tv tu s r : Nat) : Int)) M) C 5 rfl (by decide) (by omega) (by omega) rfl dX2_choose_32 ?_
        refine g_iload_n C dX2_choose_33 2 rfl ?_
        refine g_iload C dX2_choose_34 0 rfl ?_
        refine g_aload_n C dX2_choose_36 3 rfl ?_
        refine g_getf C fX2_20 0 rfl rfl dX2_choose_37 ?_
        refine g_iload_n C dX2_choose_40 1 rfl ?_
        refine g_iald C 3 rfl (by decide) (by omega) (by omega) (v := (tv r)) rfl dX2_choose_41 ?_
        refine g_imul C dX2_choose_42 ?_
        refine g_isub C dX2_choose_43 ?_
        refine g_istore_n (L' := [(2, .int (zI (((rst M tv tu s r : Nat) : Int) - (((chm M tv tu s r : Nat) : Int) * (tv r))))), (4, .int (zI ((chm M tv tu s r : Nat) : Int))), (3, .int (zI (r : Int))), (0, .ref (bd 0)), (1, .int (zI (s : Int)))]) C dX2_choose_44 (by decide) rfl ?_
        refine g_iinc (L' := [(3, .int (zI ((r : Int) + 1))), (2, .int (zI (((rst M tv tu s r : Nat) : Int) - (((chm M tv tu s r : Nat) : Int) * (tv r))))), (4, .int (zI ((chm M tv tu s r : Nat) : Int))), (0, .ref (bd 0)), (1, .int (zI (s : Int)))]) C dX2_choose_45 2 rfl (by decide) rfl ?_
        refine g_goto 4 C dX2_choose_48 (by decide) ?_
        refine g_loc (L' := [(3, .int (zI ((r : Int) + 1))), (2, .int (zI (((rst M tv tu s r : Nat) : Int) - (((chm M tv tu s r : Nat) : Int) * (tv r))))), (0, .ref (bd 0)), (1, .int (zI (s : Int)))]) [0, 1, 3, 4] rfl ?_
        refine g_lw (w' := wT bd cI cG (cnt : Int) rm ft tv tu (zU (chU M ft tv tu fc s r) (((ft r)).toNat) ((chm M tv tu s r : Nat) : Int)) M) (L' := [(3, .int (zI ((r + 1 : Nat) : Int))), (2, .int (zI ((rst M tv tu s (r + 1) : Nat) : Int))), (0, .ref (bd 0)), (1, .int (zI (s : Int)))]) rfl (by rw [rst_s]; rfl) ?_
        exact ih_4 (r + 1) (by omega) (by omega)
  refine g_loc (L' := [(3, .int (zI 0)), (2, .int (zI (s : Int))), (0, .ref (bd 0)), (1, .int (zI (s : Int)))]) [0, 1, 2, 3] rfl ?_
  exact loop_4 _ 0 (Nat.zero_le _) (Nat.lt_succ_self _)
abbrev rmX2_greatestSum : Room := { frames := 1, cells := 0, slots := 0, locals := 21 }
set_option maxHeartbeats 4000000 in
set_option maxRecDepth 100000 in
theorem met_X2_greatestSum (l : Launch) (D : va_G) (cI cG cJ : ClassId) (bd : Nat → Nat) (cnt : Nat) (hc : cnt ≤ 8) (rm : Int) (hr : 0 ≤ rm ∧ rm ≤ 12) (ft tv tu fc : Nat → Int) (M : Nat → Nat → Int) (hv : ∀ r, r < cnt → 1 ≤ tv r ∧ tv r ≤ 60) (hu : ∀ r, r < cnt → 0 ≤ tu r ∧ tu r ≤ 99)  : gMet l yX2_greatestSum cX2_greatestSum 5 (some .int) rmX2_greatestSum D cI cG cJ [.ref (bd 0)] (wT bd cI cG (cnt : Int) rm ft tv tu fc M) (gI (fun z w9 => z = (gsm tv tu rm cnt).2 ∧ w9 = wT bd cI cG (cnt : Int) rm ft tv tu fc M)) := by
  refine gMet_I (by decide) rfl (Nat.le_of_ble_eq_true rfl) (fun E C ret => ?_)
  refine g_aload_n C dX2_greatestSum_0 0 rfl ?_
  refine g_getf C fX2_30 0 rfl rfl dX2_greatestSum_1 ?_
  refine g_istore_n (L' := [(1, .int (zI rm)), (0, .ref (bd 0))]) C dX2_greatestSum_4 (by decide) rfl ?_
  refine g_iconst C dX2_greatestSum_5 ?_
  refine g_istore_n (L' := [(2, .int (zI 0)), (1, .int (zI rm)), (0, .ref (bd 0))]) C dX2_greatestSum_6 (by decide) rfl ?_
  refine g_iconst C dX2_greatestSum_7 ?_
  refine g_istore_n (L' := [(3, .int (zI 0)), (2, .int (zI 0)), (1, .int (zI rm)), (0, .ref (bd 0))]) C dX2_greatestSum_8 (by decide) rfl ?_
  have loop_9 : ∀ (fu : Nat) (r : Nat), (hi : r ≤ cnt) → cnt - r < fu → gW E 0 0 (wT bd cI cG (cnt : Int) rm ft tv tu fc M) 9 [(3, .int (zI (r : Int))), (2, .int (zI ((gsm tv tu rm r).2))), (1, .int (zI ((gsm tv tu rm r).1))), (0, .ref (bd 0))] [] := by
    intro fu
    induction fu with
    | zero => intro r hi h9; exact absurd h9 (Nat.not_lt_zero _)
    | succ fu ih_9 =>
      intro r hi hmu_9
      have hb := gsm_bd (tv := tv) (tu := tu) hr.1 r (fun j hj => (hu j (by omega)).1)
      refine g_iload_n C dX2_greatestSum_9 0 rfl ?_
      refine g_aload_n C dX2_greatestSum_10 3 rfl ?_
      refine g_getf C fX2_26 0 rfl rfl dX2_greatestSum_11 ?_
      refine g_icmp_ge 52 C dX2_greatestSum_14 (by decide) (zr_i (by omega) (by omega)) (zr_i (by omega) (by omega)) (fun c_14 => ?_) (fun c_14 => ?_)
      · have e9 : r = cnt := by omega
        subst e9
        refine g_iload_n C dX2_greatestSum_52 1 rfl ?_
        exact ret _ _ _ _ _ _ (by decide) (by decide) dX2_greatestSum_53 (⟨rfl, rfl⟩)
      · refine g_aload_n C dX2_greatestSum_17 3 rfl ?_
        refine g_getf C fX2_23 0 rfl rfl dX2_greatestSum_18 ?_
        refine g_iload_n C dX2_greatestSum_21 0 rfl ?_
        refine g_iald C 4 rfl (by decide) (by omega) (by omega) (v := (tu r)) rfl dX2_greatestSum_22 ?_
        have hu9 := hu r (by omega)
        refine g_iload_n C dX2_greatestSum_23 2 rfl ?_
        refine g_min C mX2_49 (zr_i (by omega) (by omega)) (zr_i (by omega) (by omega)) (by decide) (Nat.le_of_ble_eq_true rfl) dX2_greatestSum_24 ?_
        refine g_istore (L' := [(4, .int (zI (min (tu r) ((gsm tv tu rm r).1)))), (3, .int (zI (r : Int))), (2, .int (zI ((gsm tv tu rm r).2))), (1, .int (zI ((gsm tv tu rm r).1))), (0, .ref (bd 0))]) C dX2_greatestSum_27 (by decide) rfl ?_
        refine g_iload_n C dX2_greatestSum_29 2 rfl ?_
        refine g_iload C dX2_greatestSum_30 0 rfl ?_
        refine g_aload_n C dX2_greatestSum_32 4 rfl ?_
        refine g_getf C fX2_20 0 rfl rfl dX2_greatestSum_33 ?_
        refine g_iload_n C dX2_greatestSum_36 1 rfl ?_
        refine g_iald C 3 rfl (by decide) (by omega) (by omega) (v := (tv r)) rfl dX2_greatestSum_37 ?_
        refine g_imul C dX2_greatestSum_38 ?_
        refine g_iadd C dX2_greatestSum_39 ?_
        refine g_istore_n (L' := [(2, .int (zI ((gsm tv tu rm r).2 + ((min (tu r) ((gsm tv tu rm r).1)) * (tv r))))), (4, .int (zI (min (tu r) ((gsm tv tu rm r).1)))), (3, .int (zI (r : Int))), (1, .int (zI ((gsm tv tu rm r).1))), (0, .ref (bd 0))]) C dX2_greatestSum_40 (by decide) rfl ?_
        refine g_iload_n C dX2_greatestSum_41 3 rfl ?_
        refine g_iload C dX2_greatestSum_42 1 rfl ?_
        refine g_isub C dX2_greatestSum_44 ?_
        refine g_istore_n (L' := [(1, .int (zI ((gsm tv tu rm r).1 - (min (tu r) ((gsm tv tu rm r).1))))), (2, .int (zI ((gsm tv tu rm r).2 + ((min (tu r) ((gsm tv tu rm r).1)) * (tv r))))), (4, .int (zI (min (tu r) ((gsm tv tu rm r).1)))), (3, .int (zI (r : Int))), (0, .ref (bd 0))]) C dX2_greatestSum_45 (by decide) rfl ?_
        refine g_iinc (L' := [(3, .int (zI ((r : Int) + 1))), (1, .int (zI ((gsm tv tu rm r).1 - (min (tu r) ((gsm tv tu rm r).1))))), (2, .int (zI ((gsm tv tu rm r).2 + ((min (tu r) ((gsm tv tu rm r).1)) * (tv r))))), (4, .int (zI (min (tu r) ((gsm tv tu rm r).1)))), (0, .ref (bd 0))]) C dX2_greatestSum_46 3 rfl (by decide) rfl ?_
        refine g_goto 9 C dX2_greatestSum_49 (by decide) ?_
        refine g_loc (L' := [(3, .int (zI ((r : Int) + 1))), (2, .int (zI ((gsm tv tu rm r).2 + ((min (tu r) ((gsm tv tu rm r).1)) * (tv r))))), (1, .int (zI ((gsm tv tu rm r).1 - (min (tu r) ((gsm tv tu rm r).1))))), (0, .ref (bd 0))]) [0, 2, 1, 4] rfl ?_
        exact ih_9 (r + 1) (by omega) (by omega)
  refine g_loc (L' := [(3, .int (zI 0)), (2, .int (zI 0)), (1, .int (zI rm)), (0, .ref (bd 0))]) [0, 1, 2, 3] rfl ?_
  exact loop_9 _ 0 (Nat.zero_le _) (Nat.lt_succ_self _)
end
section
theorem fill_Rok {cnt : Nat} {fv fs ft tv tu : Nat → Int} {rm : Int} (hs : Sok cnt fv fs) : Rok fv fs cnt rm (rkU (fun s => cab fv (fv s) cnt) (fun s => (s : Int)) ft cnt) (rkU (fun s => cab fv (fv s) cnt) fv tv cnt) (rkU (fun s => cab fv (fv s) cnt) (fun s => min (fs s) rm) tu cnt) := fun r hr => ⟨rkU_ord hs.2.2 hr, rkU_ord hs.2.2 hr, rkU_ord hs.2.2 hr⟩
abbrev rmX2_fill : Room := { frames := 2, cells := 0, slots := 0, locals := 64 }
set_option maxHeartbeats 4000000 in
set_option maxRecDepth 100000 in
theorem met_X2_fill (l : Launch) (D : va_G) (cI cG cJ : ClassId) (ad : Nat → Nat) (cnt : Nat) (hc : cnt ≤ 8) (fv fs fd : Nat → Int) (bd : Nat → Nat) (tc tr : Int) (ft tv tu fc : Nat → Int) (M : Nat → Nat → Int) (hs : Sok cnt fv fs) (rm : Int) (hr : 0 ≤ rm ∧ rm ≤ 12) : gMet l yX2_fill cX2_fill 5 none rmX2_fill D cI cG cJ [.ref (bd 0), .ref (ad 0), .int (zI rm)] ((wT bd cI cG tc tr ft tv tu fc M) ++ (wS ad cI (cnt : Int) fv fs fd)) (gN (fun w9 => ∃ (ft1 tv1 tu1 : Nat → Int) (M1 : Nat → Nat → Int), (Rok fv fs cnt rm ft1 tv1 tu1 ∧ Mok fv fs cnt rm M1 0) ∧ w9 = (wT bd cI cG (cnt : Int) rm ft1 tv1 tu1 fc M1) ++ (wS ad cI (cnt : Int) fv fs fd))) := by
  refine gMet_N (by decide) rfl (Nat.le_of_ble_eq_true rfl) (fun E C ret => ?_)
  refine g_aload_n C dX2_fill_0 0 rfl ?_
  refine g_aload_n C dX2_fill_1 1 rfl ?_
  refine g_iload_n C dX2_fill_2 2 rfl ?_
  refine g_callV (wr := ([] : va_W)) (st := []) [0, 1, 2, 3, 4, 5, 6, 7, 8, 9, 10, 11, 12, 13, 14, 15, 16, 17, 18] [] C cX2_55 (met_X2_rank l D cI cG cJ ad cnt hc fv fs fd bd tc tr ft tv tu fc M (fun j hj => by have := hs.1 j hj; exact zr_i (by omega) (by omega)) (fun j hj => by have := hs.2.1 j hj; exact zr_i (by omega) (by omega)) rm (zr_i (by omega) (by omega))) ⟨rfl, rfl, by decide, by decide, by decide⟩ (q0 := 0) rfl rfl (by decide) (by decide) rfl rfl (Nat.le_of_ble_eq_true rfl) dX2_fill_3 ?_
  rintro v9 w9 ⟨rfl, rfl⟩
  refine g_ws (w' := (wT bd cI cG (cnt : Int) rm (rkU (fun s => cab fv (fv s) cnt) (fun s => (s : Int)) ft cnt) (rkU (fun s => cab fv (fv s) cnt) fv tv cnt) (rkU (fun s => cab fv (fv s) cnt) (fun s => min (fs s) rm) tu cnt) fc M) ++ (wS ad cI (cnt : Int) fv fs fd)) (st' := []) rfl rfl ?_
  have hR := fill_Rok (ft := ft) (tv := tv) (tu := tu) (rm := rm) hs
  generalize (rkU (fun s => cab fv (fv s) cnt) (fun s => (s : Int)) ft cnt) = ft1 at hR ⊢
  generalize (rkU (fun s => cab fv (fv s) cnt) fv tv cnt) = tv1 at hR ⊢
  generalize (rkU (fun s => cab fv (fv s) cnt) (fun s => min (fs s) rm) tu cnt) = tu1 at hR ⊢
  refine g_ws (w' := (wT bd cI cG (cnt : Int) rm ft1 tv1 tu1 fc M) ++ (wS ad cI (cnt : Int) fv fs fd)) (rfl) rfl ?_
  refine g_aload_n C dX2_fill_6 0 rfl ?_
  refine g_getf C fX2_11 0 rfl rfl dX2_fill_7 ?_
  refine g_aload_n C dX2_fill_10 0 rfl ?_
  refine g_getf C fX2_26 0 rfl rfl dX2_fill_11 ?_
  refine g_aald (y := bd (6 + cnt)) C 1 rfl (by decide) (by omega) (by omega) (wR_at (by omega)) dX2_fill_14 ?_
  refine g_astore_n (L' := [(3, .ref (bd (6 + cnt))), (0, .ref (bd 0)), (1, .ref (ad 0)), (2, .int (zI rm))]) C dX2_fill_15 (by decide) rfl ?_
  refine g_iconst C dX2_fill_16 ?_
  refine g_istore (L' := [(4, .int (zI 1)), (3, .ref (bd (6 + cnt))), (0, .ref (bd 0)), (1, .ref (ad 0)), (2, .int (zI rm))]) C dX2_fill_17 (by decide) rfl ?_
  have loop_19 : ∀ (fu : Nat) (i : Nat) (M2 : Nat → Nat → Int), (hi1 : 1 ≤ i) → (hi : i ≤ 360) → (h2 : ∀ s, 1 ≤ s → s < i → M2 cnt s = 1000) → 360 - i < fu → gW E 0 0 ((wT bd cI cG (cnt : Int) rm ft1 tv1 tu1 fc M2) ++ (wS ad cI (cnt : Int) fv fs fd)) 19 [(4, .int (zI (i : Int))), (3, .ref (bd (6 + cnt))), (0, .ref (bd 0))] [] := by
    intro fu
    induction fu with
    | zero => intro i M2 hi1 hi h2 h9; exact absurd h9 (Nat.not_lt_zero _)
    | succ fu ih_19 =>
      intro i M2 hi1 hi h2 hmu_19
      refine g_iload C dX2_fill_19 0 rfl ?_
      refine g_sipush C dX2_fill_21 (by decide) ?_
      refine g_icmp_gt 40 C dX2_fill_24 (by decide) (zr_i (by omega) (by omega)) (zr_i (by omega) (by omega)) (fun c_24 => ?_) (fun c_24 => ?_)
      · refine g_aload_n C dX2_fill_40 1 rfl ?_
        refine g_iconst C dX2_fill_41 ?_
        refine g_iconst C dX2_fill_42 ?_
        refine g_iast (w' := (wT bd cI cG (cnt : Int) rm ft1 tv1 tu1 fc (gU M2 cnt 0 0)) ++ (wS ad cI (cnt : Int) fv fs fd)) C (6 + cnt) (wT_row (by omega)) (by decide) (by omega) (by omega) (wT_set (by omega) 0 0) dX2_fill_43 ?_
        refine g_aload_n C dX2_fill_44 2 rfl ?_
        refine g_getf C fX2_26 0 rfl rfl dX2_fill_45 ?_
        refine g_iconst C dX2_fill_48 ?_
        refine g_isub C dX2_fill_49 ?_
        refine g_istore (L' := [(4, .int (zI ((cnt : Int) - 1))), (3, .ref (bd (6 + cnt))), (0, .ref (bd 0))]) C dX2_fill_50 (by decide) rfl ?_
        have loop_52 : ∀ (fu : Nat) (k : Nat) (M3 : Nat → Nat → Int), (hk : k ≤ cnt) → (hM3 : Mok fv fs cnt rm M3 k) → k < fu → gW E 0 0 ((wT bd cI cG (cnt : Int) rm ft1 tv1 tu1 fc M3) ++ (wS ad cI (cnt : Int) fv fs fd)) 52 [(4, .int (zI (((k : Nat) : Int) - 1))), (0, .ref (bd 0))] [] := by
          intro fu
          induction fu with
          | zero => intro k M3 hk hM3 h9; exact absurd h9 (Nat.not_lt_zero _)
          | succ fu ih_52 =>
            intro k M3 hk hM3 hmu_52
            refine g_iload C dX2_fill_52 0 rfl ?_
            refine g_if_lt 69 C dX2_fill_54 (by decide) (zr_i (by omega) (by omega)) (fun c_54 => ?_) (fun c_54 => ?_)
            · have e9 : k = 0 := by omega
              subst e9
              exact ret _ _ _ _ _ (by decide) (by decide) dX2_fill_69 (⟨ft1, tv1, tu1, M3, ⟨hR, hM3⟩, rfl⟩)
            · obtain ⟨r, rfl⟩ : ∃ r, k = r + 1 := ⟨k - 1, by omega⟩
              refine g_aload_n C dX2_fill_57 1 rfl ?_
              refine g_iload C dX2_fill_58 0 rfl ?_
              refine g_top (r : Int) (by omega) ?_
              refine g_callV (wr := wS ad cI (cnt : Int) fv fs fd) (st := []) [0, 1, 2, 3, 4, 5, 6, 7, 8, 9, 10, 11, 12, 13, 14] [15, 16, 17, 18] C cX2_59 (met_X2_fillRow l D cI cG cJ bd cnt rm ft1 tv1 tu1 fc M3 r (by omega) (hR.tv hs r (by omega)) (hR.tu hs hr r (by omega)) (fun j hj => hM3.bd hs (Nat.le_refl _) (by omega) hj)) ⟨rfl, rfl, by decide, by decide, by decide⟩ (q0 := 0) rfl rfl (by decide) (by decide) rfl rfl (Nat.le_of_ble_eq_true rfl) dX2_fill_60 ?_
              rintro v9 w9 ⟨rfl, rfl⟩
              refine g_ws (w' := (wS ad cI (cnt : Int) fv fs fd) ++ (wT bd cI cG (cnt : Int) rm ft1 tv1 tu1 fc (gR M3 r (tRow (M3 (r + 1)) (tv1 r) (tu1 r)) 360))) (st' := []) rfl rfl ?_
              refine g_perm (w' := (wT bd cI cG (cnt : Int) rm ft1 tv1 tu1 fc (gR M3 r (tRow (M3 (r + 1)) (tv1 r) (tu1 r)) 360)) ++ (wS ad cI (cnt : Int) fv fs fd)) [4, 5, 6, 7, 8, 9, 10, 11, 12, 13, 14, 15, 16, 17, 18, 0, 1, 2, 3] (by decide) rfl ?_
              refine g_iinc (L' := [(4, .int (zI (((((r + 1) : Nat) : Int) - 1) + (-1)))), (0, .ref (bd 0))]) C dX2_fill_63 0 rfl (by decide) rfl ?_
              refine g_goto 52 C dX2_fill_66 (by decide) ?_
              refine g_loc (L' := [(4, .int (zI (((((r + 1) : Nat) : Int) - 1) + (-1)))), (0, .ref (bd 0))]) [0, 1] rfl ?_
              refine g_lw (w' := (wT bd cI cG (cnt : Int) rm ft1 tv1 tu1 fc (gR M3 r (tRow (M3 (r + 1)) (tv1 r) (tu1 r)) 360)) ++ (wS ad cI (cnt : Int) fv fs fd)) (L' := [(4, .int (zI (((r : Nat) : Int) - 1))), (0, .ref (bd 0))]) rfl (by rw [show ((((r + 1) : Nat) : Int) - 1) + (-1) = ((r : Nat) : Int) - 1 by omega]) ?_
              exact ih_52 r (gR M3 r (tRow (M3 (r + 1)) (tv1 r) (tu1 r)) 360) (by omega) (hM3.step hR hs (by omega)) (by omega)
        refine g_loc (L' := [(4, .int (zI ((cnt : Int) - 1))), (0, .ref (bd 0))]) [0, 2] rfl ?_
        exact loop_52 _ cnt (gU M2 cnt 0 0) (Nat.le_refl _) (fun r h8 h9 s h10 => by
      have e : r = cnt := by omega
      subst e
      rw [Nat.sub_self]
      by_cases e2 : s = 0
      · subst e2; exact gU_eq
      · rw [gU_ne (fun _ => e2), h2 s (by omega) (by omega)]; exact (if_neg e2).symm) (Nat.lt_succ_self _)
      · refine g_aload_n C dX2_fill_27 1 rfl ?_
        refine g_iload C dX2_fill_28 0 rfl ?_
        refine g_sipush C dX2_fill_30 (by decide) ?_
        refine g_iast (w' := (wT bd cI cG (cnt : Int) rm ft1 tv1 tu1 fc (gU M2 cnt i 1000)) ++ (wS ad cI (cnt : Int) fv fs fd)) C (6 + cnt) (wT_row (by omega)) (by decide) (by omega) (by omega) (wT_set (by omega) i 1000) dX2_fill_33 ?_
        refine g_iinc (L' := [(4, .int (zI ((i : Int) + 1))), (3, .ref (bd (6 + cnt))), (0, .ref (bd 0))]) C dX2_fill_34 0 rfl (by decide) rfl ?_
        refine g_goto 19 C dX2_fill_37 (by decide) ?_
        refine g_loc (L' := [(4, .int (zI ((i : Int) + 1))), (3, .ref (bd (6 + cnt))), (0, .ref (bd 0))]) [0, 1, 2] rfl ?_
        exact ih_19 (i + 1) (gU M2 cnt i 1000) (by omega) (by omega) (fun s h8 h9 => by
      by_cases e : s = i
      · subst e; exact gU_eq
      · rw [gU_ne (fun _ => e)]; exact h2 s h8 (by omega)) (by omega)
  refine g_loc (L' := [(4, .int (zI 1)), (3, .ref (bd (6 + cnt))), (0, .ref (bd 0))]) [0, 1, 2] rfl ?_
  exact loop_19 _ 1 M (Nat.le_refl _) (by omega) (fun s h8 h9 => absurd h9 (by omega)) (Nat.lt_succ_self _)
end
section
/-! pure functions of the print's tables -/
def pMin (f fv : Nat → Int) (p : Nat) (x : Int) : Nat → Int
  | 0 => x
  | n + 1 => if fv n ≤ (p : Int) then min (pMin f fv p x n) (f ((p : Int) - fv n).toNat + 1) else pMin f fv p x n
def stM (f : Nat → Int) (more : Int) (p : Nat) : Int := if 1 ≤ more ∧ more ≤ (p : Int) then f ((p : Int) - more).toNat + 1 else 1000
theorem stM_0 {f : Nat → Int} {p : Nat} : stM f 0 p = 1000 := if_neg (by omega)
theorem pMin_t {f fv : Nat → Int} {p n : Nat} {x : Int} (h : ¬ (p : Int) - fv n < 0) : min (pMin f fv p x n) (f ((p : Int) - fv n).toNat + 1) = pMin f fv p x (n + 1) := (if_pos (by omega)).symm
theorem pMin_f {f fv : Nat → Int} {p n : Nat} {x : Int} (h : (p : Int) - fv n < 0) : pMin f fv p x (n + 1) = pMin f fv p x n := if_neg (by omega)
theorem pMin_congr {f g fv gv : Nat → Int} {p : Nat} {x : Int} : ∀ n, (∀ j, j < n → 1 ≤ fv j) → (∀ j, j < n → fv j = gv j) → (∀ q, q < p → f q = g q) → pMin f fv p x n = pMin g gv p x n
  | 0, _, _, _ => rfl
  | n + 1, h1, h2, h3 => by
    have h4 := h1 n (Nat.lt_succ_self n)
    simp only [pMin]
    rw [pMin_congr n (fun j hj => h1 j (Nat.lt_succ_of_lt hj)) (fun j hj => h2 j (Nat.lt_succ_of_lt hj)) h3, ← h2 n (Nat.lt_succ_self n)]
    by_cases h5 : fv n ≤ (p : Int)
    · rw [if_pos h5, if_pos h5, h3 _ (by omega)]
    · rw [if_neg h5, if_neg h5]
theorem pMin_bd {f fv : Nat → Int} {p : Nat} {x : Int} (hx : 0 ≤ x) : ∀ n, (∀ j, j < n → 1 ≤ fv j) → (∀ q, q < p → 0 ≤ f q) → 0 ≤ pMin f fv p x n ∧ pMin f fv p x n ≤ x
  | 0, _, _ => ⟨hx, Int.le_refl _⟩
  | n + 1, h1, h2 => by
    have h4 := h1 n (Nat.lt_succ_self n)
    have ih := pMin_bd hx n (fun j hj => h1 j (Nat.lt_succ_of_lt hj)) h2
    simp only [pMin]
    split
    · have := h2 ((p : Int) - fv n).toNat (by omega)
      omega
    · exact ih
/-- the print's table up to n, with one more value, if it isn't 0 -/
def Pk (fv : Nat → Int) (cnt : Nat) (more : Int) (f : Nat → Int) (n : Nat) : Prop := f 0 = 0 ∧ ∀ q, 1 ≤ q → q < n → f q = pMin f fv q (stM f more q) cnt
theorem stM_congr {f g : Nat → Int} {more : Int} {p : Nat} (h : ∀ q, q < p → f q = g q) : stM f more p = stM g more p := by
  simp only [stM]
  by_cases h1 : 1 ≤ more ∧ more ≤ (p : Int)
  · rw [if_pos h1, if_pos h1, h _ (by omega)]
  · rw [if_neg h1, if_neg h1]
theorem stM_bd {f : Nat → Int} {more : Int} {p : Nat} (h : ∀ q, q < p → 0 ≤ f q ∧ f q ≤ 1000 + (q : Int)) : 0 ≤ stM f more p ∧ stM f more p ≤ 1000 + (p : Int) := by
  simp only [stM]
  split
  · have := h ((p : Int) - more).toNat (by omega)
    omega
  · omega
theorem Pk.bd {fv f : Nat → Int} {cnt n : Nat} {more : Int} (h : Pk fv cnt more f n) (hv : ∀ j, j < cnt → 1 ≤ fv j) : ∀ q, q < n → 0 ≤ f q ∧ f q ≤ 1000 + (q : Int) := by
  intro q
  induction q using Nat.strongRecOn with
  | _ q ih =>
    intro hq
    by_cases e : q = 0
    · subst e; rw [h.1]; omega
    · rw [h.2 q (by omega) hq]
      have h0 := stM_bd (f := f) (more := more) (p := q) (fun r hr => ih r hr (by omega))
      have h1 := pMin_bd (f := f) (fv := fv) (p := q) h0.1 cnt hv (fun r hr => (ih r hr (by omega)).1)
      omega
theorem Pk.uniq {fv gv f g : Nat → Int} {cnt n : Nat} {more : Int} (h : Pk fv cnt more f n) (h' : Pk gv cnt more g n) (hv : ∀ j, j < cnt → 1 ≤ fv j) (he : ∀ j, j < cnt → fv j = gv j) : ∀ q, q < n → f q = g q := by
  intro q
  induction q using Nat.strongRecOn with
  | _ q ih =>
    intro hq
    by_cases e : q = 0
    · subst e; rw [h.1, h'.1]
    · have hc : ∀ r, r < q → f r = g r := fun r hr => ih r hr (by omega)
      rw [h.2 q (by omega) hq, h'.2 q (by omega) hq, stM_congr hc, pMin_congr cnt hv he hc]
theorem Pk.step {fv f : Nat → Int} {cnt n : Nat} {more x : Int} (h : Pk fv cnt more f n) (hn : 1 ≤ n) (hv : ∀ j, j < cnt → 1 ≤ fv j) (hx : x = pMin f fv n (stM f more n) cnt) : Pk fv cnt more (zU f n x) (n + 1) := by
  have hc : ∀ q, q < n → zU f n x q = f q := fun q hq => if_neg (by omega)
  refine ⟨(hc 0 (by omega)).trans h.1, fun q h1 h2 => ?_⟩
  by_cases e : q = n
  · subst e
    rw [stM_congr hc, pMin_congr cnt hv (fun _ _ => rfl) hc, ← hx]
    exact if_pos rfl
  · rw [stM_congr (fun r hr => hc r (by omega)), pMin_congr cnt hv (fun _ _ => rfl) (fun r hr => hc r (by omega)), hc q (by omega)]
    exact h.2 q h1 (by omega)
/-- the first postage from s on, n looked at, that isn't paid; how many to n aren't -/
def fgp (f : Nat → Int) (rm : Int) : Nat → Nat → Int
  | 0, _ => -1
  | n + 1, s => if rm < f s then (s : Int) else fgp f rm n (s + 1)
theorem fgp_t {f : Nat → Int} {rm : Int} {n s : Nat} (h : rm < f s) : fgp f rm (n + 1) s = (s : Int) := if_pos h
theorem fgp_f {f : Nat → Int} {rm : Int} {n s : Nat} (h : ¬ rm < f s) : fgp f rm (n + 1) s = fgp f rm n (s + 1) := if_neg h
theorem fgp_bd {f : Nat → Int} {rm : Int} : ∀ (n s : Nat), fgp f rm n s = -1 ∨ ∃ j : Nat, s ≤ j ∧ j < s + n ∧ fgp f rm n s = (j : Int)
  | 0, _ => Or.inl rfl
  | n + 1, s => by
    by_cases h : rm < f s
    · exact Or.inr ⟨s, Nat.le_refl _, by omega, fgp_t h⟩
    · rw [fgp_f h]
      rcases fgp_bd n (s + 1) with h1 | ⟨j, h1, h2, h3⟩
      · exact Or.inl h1
      · exact Or.inr ⟨j, by omega, by omega, h3⟩
def cgp (f : Nat → Int) (rm : Int) : Nat → Nat
  | 0 => 0
  | n + 1 => cgp f rm n + (if rm < f (n + 1) then 1 else 0)
theorem cgp_t {f : Nat → Int} {rm : Int} {n : Nat} (h : rm < f (n + 1)) : ((cgp f rm (n + 1) : Nat) : Int) = (cgp f rm n : Int) + 1 := by simp [cgp, h]
theorem cgp_f {f : Nat → Int} {rm : Int} {n : Nat} (h : ¬ rm < f (n + 1)) : cgp f rm (n + 1) = cgp f rm n := by simp [cgp, h]
/-- with one value more, over a table -/
def gSt (fa : Nat → Int) (v : Int) (f : Nat → Int) (p : Nat) : Int := if v ≤ (p : Int) then min (fa p) (f ((p : Int) - v).toNat + 1) else fa p
def Gk (fa : Nat → Int) (v : Int) (f : Nat → Int) (n : Nat) : Prop := f 0 = 0 ∧ ∀ q, 1 ≤ q → q < n → f q = gSt fa v f q
theorem gSt_congr {fa f g : Nat → Int} {v : Int} {p : Nat} (hv : 1 ≤ v) (hp : 1 ≤ p) (h : ∀ q, q < p → f q = g q) : gSt fa v f p = gSt fa v g p := by
  simp only [gSt]
  by_cases h1 : v ≤ (p : Int)
  · rw [if_pos h1, if_pos h1, h _ (by omega)]
  · rw [if_neg h1, if_neg h1]
theorem Gk.step {fa f : Nat → Int} {v x : Int} {n : Nat} (h : Gk fa v f n) (hn : 1 ≤ n) (hv : 1 ≤ v) (hx : x = gSt fa v f n) : Gk fa v (zU f n x) (n + 1) := by
  have hc : ∀ q, q < n → zU f n x q = f q := fun q hq => if_neg (by omega)
  refine ⟨(hc 0 (by omega)).trans h.1, fun q h1 h2 => ?_⟩
  rw [gSt_congr hv h1 (fun r hr => hc r (by omega))]
  by_cases e : q = n
  · subst e
    rw [← hx]
    exact if_pos rfl
  · rw [hc q (by omega)]
    exact h.2 q h1 (by omega)
theorem Gk.bd {fa f : Nat → Int} {v : Int} {n : Nat} (h : Gk fa v f n) (hv : 1 ≤ v) (ha : ∀ q, q < n → 0 ≤ fa q ∧ fa q ≤ 2000) : ∀ q, q < n → 0 ≤ f q ∧ f q ≤ 2000 := by
  intro q
  induction q using Nat.strongRecOn with
  | _ q ih =>
    intro hq
    by_cases e : q = 0
    · subst e; rw [h.1]; omega
    · rw [h.2 q (by omega) hq]
      have h1 := ha q hq
      simp only [gSt]
      split
      · have := ih ((q : Int) - v).toNat (by omega) (by omega)
        omega
      · exact h1
/-- ways: a row of choices of k stamps, with one value more -/
def nw (M : Nat → Nat → Int) (v : Nat) : Nat → Nat → Int
  | 0 => M 0
  | k + 1 => fun p => if v ≤ p then M (k + 1) p + nw M v k (p - v) else M (k + 1) p
def w0 : Nat → Nat → Int := fun k p => if k = 0 ∧ p = 0 then 1 else 0
def wy (fv : Nat → Int) : Nat → Nat → Nat → Int
  | 0 => w0
  | n + 1 => nw (wy fv n) (fv n).toNat
def wsum (M : Nat → Nat → Int) (p : Nat) : Nat → Int
  | 0 => 0
  | k + 1 => wsum M p k + M k p
theorem nw_congr {M N : Nat → Nat → Int} {v pg : Nat} : ∀ k, (∀ a q, a ≤ k → q ≤ pg → M a q = N a q) → ∀ q, q ≤ pg → nw M v k q = nw N v k q
  | 0, h, q, hq => h 0 q (Nat.le_refl _) hq
  | k + 1, h, q, hq => by
    simp only [nw]
    rw [h (k + 1) q (Nat.le_refl _) hq]
    by_cases h1 : v ≤ q
    · rw [if_pos h1, if_pos h1, nw_congr k (fun a q ha hq => h a q (Nat.le_succ_of_le ha) hq) (q - v) (by omega)]
    · rw [if_neg h1, if_neg h1]
/-- half-way through a row -/
def W1 (M M1 : Nat → Nat → Int) (v pg k p : Nat) : Prop := ∀ a q, q ≤ pg → M1 a q = if a < k ∨ (a = k ∧ q < p) then nw M v a q else M a q
theorem W1.first {M : Nat → Nat → Int} {v pg : Nat} : W1 M M v pg 1 0 := by
  intro a q hq
  by_cases h : a < 1 ∨ (a = 1 ∧ q < 0)
  · rw [if_pos h]
    have : a = 0 := by omega
    subst this
    rfl
  · rw [if_neg h]
theorem W1.begin {M M1 : Nat → Nat → Int} {v pg k : Nat} (hk : 1 ≤ k) (h : W1 M M1 v pg k 0) : W1 M M1 v pg k v := by
  intro a q hq
  rw [h a q hq]
  by_cases h1 : a < k
  · rw [if_pos (Or.inl h1), if_pos (Or.inl h1)]
  · rw [if_neg (by omega)]
    by_cases h2 : a = k ∧ q < v
    · rw [if_pos (Or.inr h2)]
      obtain ⟨k', rfl⟩ : ∃ k', a = k' + 1 := ⟨a - 1, by omega⟩
      exact (if_neg (by omega)).symm
    · rw [if_neg (by omega)]
theorem W1.step {M M1 : Nat → Nat → Int} {v pg k p : Nat} (hp : v ≤ p) (hv : 1 ≤ v) (hq : p ≤ pg) (h : W1 M M1 v pg (k + 1) p) : W1 M (gU M1 (k + 1) p (M1 (k + 1) p + M1 k (p - v))) v pg (k + 1) (p + 1) := by
  intro a q hq2
  by_cases h1 : a = k + 1 ∧ q = p
  · obtain ⟨rfl, rfl⟩ := h1
    rw [gU_eq, if_pos (Or.inr ⟨rfl, Nat.lt_succ_self _⟩), h (k + 1) q hq2, h k (q - v) (by omega), if_neg (by omega), if_pos (Or.inl (Nat.lt_succ_self k))]
    exact (if_pos hp).symm
  · rw [gU_ne (fun e => by omega), h a q hq2]
    by_cases h2 : a < k + 1 ∨ (a = k + 1 ∧ q < p)
    · rw [if_pos h2, if_pos (by omega)]
    · rw [if_neg h2, if_neg (by omega)]
theorem W1.next {M M1 : Nat → Nat → Int} {v pg k p : Nat} (hp : pg < p) (h : W1 M M1 v pg k p) : W1 M M1 v pg (k + 1) 0 := by
  intro a q hq
  rw [h a q hq]
  by_cases h2 : a < k ∨ (a = k ∧ q < p)
  · rw [if_pos h2, if_pos (by omega)]
  · rw [if_neg h2, if_neg (by omega)]
theorem gSt_bd {fa f : Nat → Int} {v : Int} {p : Nat} (ha : 0 ≤ fa p ∧ fa p ≤ 2000) (hf : v ≤ (p : Int) → 0 ≤ f ((p : Int) - v).toNat) : 0 ≤ gSt fa v f p ∧ gSt fa v f p ≤ 2000 := by
  simp only [gSt]
  split
  · rename_i h
    have := hf h
    omega
  · exact ha
end
section
abbrev rmX0_fill : Room := { frames := 1, cells := 0, slots := 0, locals := 21 }
set_option maxHeartbeats 4000000 in
set_option maxRecDepth 100000 in
theorem met_X0_fill (l : Launch) (D : va_G) (cI cG cJ : ClassId) (ad : Nat → Nat) (cnt : Nat) (hc : cnt ≤ 8) (fv fs fd : Nat → Int) (hv : ∀ j, j < cnt → 1 ≤ fv j ∧ fv j ≤ 60) (bd : Nat → Nat) (fa fb : Nat → Int) (M : Nat → Nat → Int)  : gMet l yX0_fill cX0_fill 6 none rmX0_fill D cI cG cJ [.ref (bd 0), .ref (ad 0)] ((wP bd cI cG fa fb M) ++ (wS ad cI (cnt : Int) fv fs fd)) (gN (fun w9 => ∃ fa1 : Nat → Int, Pk fv cnt 0 fa1 301 ∧ w9 = (wP bd cI cG fa1 fb M) ++ (wS ad cI (cnt : Int) fv fs fd))) := by
  refine gMet_N (by decide) rfl (Nat.le_of_ble_eq_true rfl) (fun E C ret => ?_)
  refine g_aload_n C dX0_fill_0 0 rfl ?_
  refine g_getf C fX0_9 0 rfl rfl dX0_fill_1 ?_
  refine g_iconst C dX0_fill_4 ?_
  refine g_iconst C dX0_fill_5 ?_
  refine g_iast (w' := (wP bd cI cG (zU fa 0 0) fb M) ++ (wS ad cI (cnt : Int) fv fs fd)) C 1 rfl (by decide) (by omega) (by omega) rfl dX0_fill_6 ?_
  refine g_iconst C dX0_fill_7 ?_
  refine g_istore_n (L' := [(2, .int (zI 1)), (0, .ref (bd 0)), (1, .ref (ad 0))]) C dX0_fill_8 (by decide) rfl ?_
  have loop_9 : ∀ (fu : Nat) (p : Nat) (fa1 : Nat → Int), (hp1 : 1 ≤ p) → (hp : p ≤ 301) → (hP : Pk fv cnt 0 fa1 p) → 301 - p < fu → gW E 0 0 ((wP bd cI cG fa1 fb M) ++ (wS ad cI (cnt : Int) fv fs fd)) 9 [(2, .int (zI (p : Int))), (0, .ref (bd 0)), (1, .ref (ad 0))] [] := by
    intro fu
    induction fu with
    | zero => intro p fa1 hp1 hp hP h9; exact absurd h9 (Nat.not_lt_zero _)
    | succ fu ih_9 =>
      intro p fa1 hp1 hp hP hmu_9
      have hbd := hP.bd (fun j hj => (hv j hj).1)
      refine g_iload_n C dX0_fill_9 0 rfl ?_
      refine g_sipush C dX0_fill_10 (by decide) ?_
      refine g_icmp_gt 81 C dX0_fill_13 (by decide) (zr_i (by omega) (by omega)) (zr_i (by omega) (by omega)) (fun c_13 => ?_) (fun c_13 => ?_)
      · have e9 : p = 301 := by omega
        subst e9
        exact ret _ _ _ _ _ (by decide) (by decide) dX0_fill_81 (⟨fa1, hP, rfl⟩)
      · refine g_sipush C dX0_fill_16 (by decide) ?_
        refine g_istore_n (L' := [(3, .int (zI 1000)), (2, .int (zI (p : Int))), (0, .ref (bd 0)), (1, .ref (ad 0))]) C dX0_fill_19 (by decide) rfl ?_
        refine g_iconst C dX0_fill_20 ?_
        refine g_istore (L' := [(4, .int (zI 0)), (3, .int (zI 1000)), (2, .int (zI (p : Int))), (0, .ref (bd 0)), (1, .ref (ad 0))]) C dX0_fill_21 (by decide) rfl ?_
        have loop_23 : ∀ (fu : Nat) (i : Nat), (hi : i ≤ cnt) → cnt - i < fu → gW E 0 0 ((wP bd cI cG fa1 fb M) ++ (wS ad cI (cnt : Int) fv fs fd)) 23 [(4, .int (zI (i : Int))), (3, .int (zI (pMin fa1 fv p 1000 i))), (2, .int (zI (p : Int))), (0, .ref (bd 0)), (1, .ref (ad 0))] [] := by
          intro fu
          induction fu with
          | zero => intro i hi h9; exact absurd h9 (Nat.not_lt_zero _)
          | succ fu ih_23 =>
            intro i hi hmu_23
            have hb2 := pMin_bd (f := fa1) (fv := fv) (p := p) (x := 1000) (by omega) i (fun j hj => (hv j (by omega)).1) (fun q hq => (hbd q hq).1)
            refine g_iload C dX0_fill_23 0 rfl ?_
            refine g_aload_n C dX0_fill_25 4 rfl ?_
            refine g_getf C fX0_23 17 rfl rfl dX0_fill_26 ?_
            refine g_icmp_ge 68 C dX0_fill_29 (by decide) (zr_i (by omega) (by omega)) (zr_i (by omega) (by omega)) (fun c_29 => ?_) (fun c_29 => ?_)
            · have e9 : cnt = i := by omega
              subst e9
              refine g_aload_n C dX0_fill_68 3 rfl ?_
              refine g_getf C fX0_9 0 rfl rfl dX0_fill_69 ?_
              refine g_iload_n C dX0_fill_72 2 rfl ?_
              refine g_iload_n C dX0_fill_73 1 rfl ?_
              refine g_iast (w' := (wP bd cI cG (zU fa1 p (pMin fa1 fv p 1000 cnt)) fb M) ++ (wS ad cI (cnt : Int) fv fs fd)) C 1 rfl (by decide) (by omega) (by omega) rfl dX0_fill_74 ?_
              refine g_iinc (L' := [(2, .int (zI ((p : Int) + 1))), (4, .int (zI (cnt : Int))), (3, .int (zI (pMin fa1 fv p 1000 cnt))), (0, .ref (bd 0)), (1, .ref (ad 0))]) C dX0_fill_75 2 rfl (by decide) rfl ?_
              refine g_goto 9 C dX0_fill_78 (by decide) ?_
              refine g_loc (L' := [(2, .int (zI ((p : Int) + 1))), (0, .ref (bd 0)), (1, .ref (ad 0))]) [0, 3, 4] rfl ?_
              exact ih_9 (p + 1) (zU fa1 p (pMin fa1 fv p 1000 cnt)) (by omega) (by omega) (hP.step hp1 (fun j hj => (hv j hj).1) (by rw [stM_0])) (by omega)
            · refine g_iload_n C dX0_fill_32 2 rfl ?_
              refine g_aload_n C dX0_fill_33 4 rfl ?_
              refine g_getf C fX0_29 17 rfl rfl dX0_fill_34 ?_
              refine g_iload C dX0_fill_37 0 rfl ?_
              refine g_iald C 18 rfl (by decide) (by omega) (by omega) (v := (fv i)) rfl dX0_fill_39 ?_
              have hv9 := hv i (by omega)
              refine g_isub C dX0_fill_40 ?_
              refine g_istore (L' := [(5, .int (zI ((p : Int) - (fv i)))), (4, .int (zI (i : Int))), (3, .int (zI (pMin fa1 fv p 1000 i))), (2, .int (zI (p : Int))), (0, .ref (bd 0)), (1, .ref (ad 0))]) C dX0_fill_41 (by decide) rfl ?_
              refine g_iload C dX0_fill_43 0 rfl ?_
              refine g_if_lt 62 C dX0_fill_45 (by decide) (zr_i (by omega) (by omega)) (fun c_45 => ?_) (fun c_45 => ?_)
              · refine g_iinc (L' := [(4, .int (zI ((i : Int) + 1))), (5, .int (zI ((p : Int) - (fv i)))), (3, .int (zI (pMin fa1 fv p 1000 i))), (2, .int (zI (p : Int))), (0, .ref (bd 0)), (1, .ref (ad 0))]) C dX0_fill_62 1 rfl (by decide) rfl ?_
                refine g_goto 23 C dX0_fill_65 (by decide) ?_
                refine g_loc (L' := [(4, .int (zI ((i : Int) + 1))), (3, .int (zI (pMin fa1 fv p 1000 i))), (2, .int (zI (p : Int))), (0, .ref (bd 0)), (1, .ref (ad 0))]) [0, 2, 3, 4, 5] rfl ?_
                refine g_lw (w' := (wP bd cI cG fa1 fb M) ++ (wS ad cI (cnt : Int) fv fs fd)) (L' := [(4, .int (zI ((i + 1 : Nat) : Int))), (3, .int (zI (pMin fa1 fv p 1000 (i + 1)))), (2, .int (zI (p : Int))), (0, .ref (bd 0)), (1, .ref (ad 0))]) rfl (by rw [pMin_f c_45]; rfl) ?_
                exact ih_23 (i + 1) (by omega) (by omega)
              · refine g_iload_n C dX0_fill_48 2 rfl ?_
                refine g_aload_n C dX0_fill_49 4 rfl ?_
                refine g_getf C fX0_9 0 rfl rfl dX0_fill_50 ?_
                refine g_iload C dX0_fill_53 0 rfl ?_
                refine g_iald C 1 rfl (by decide) (by omega) (by omega) (v := (fa1 ((((p : Int) - (fv i))).toNat))) rfl dX0_fill_55 ?_
                have hb3 := hbd ((p : Int) - fv i).toNat (by omega)
                refine g_iconst C dX0_fill_56 ?_
                refine g_iadd C dX0_fill_57 ?_
                refine g_min C mX0_32 (zr_i (by omega) (by omega)) (zr_i (by omega) (by omega)) (by decide) (Nat.le_of_ble_eq_true rfl) dX0_fill_58 ?_
                refine g_istore_n (L' := [(3, .int (zI (min (pMin fa1 fv p 1000 i) ((fa1 ((((p : Int) - (fv i))).toNat)) + 1)))), (5, .int (zI ((p : Int) - (fv i)))), (4, .int (zI (i : Int))), (2, .int (zI (p : Int))), (0, .ref (bd 0)), (1, .ref (ad 0))]) C dX0_fill_61 (by decide) rfl ?_
                refine g_iinc (L' := [(4, .int (zI ((i : Int) + 1))), (3, .int (zI (min (pMin fa1 fv p 1000 i) ((fa1 ((((p : Int) - (fv i))).toNat)) + 1)))), (5, .int (zI ((p : Int) - (fv i)))), (2, .int (zI (p : Int))), (0, .ref (bd 0)), (1, .ref (ad 0))]) C dX0_fill_62 2 rfl (by decide) rfl ?_
                refine g_goto 23 C dX0_fill_65 (by decide) ?_
                refine g_loc (L' := [(4, .int (zI ((i : Int) + 1))), (3, .int (zI (min (pMin fa1 fv p 1000 i) ((fa1 ((((p : Int) - (fv i))).toNat)) + 1)))), (2, .int (zI (p : Int))), (0, .ref (bd 0)), (1, .ref (ad 0))]) [0, 1, 3, 4, 5] rfl ?_
                refine g_lw (w' := (wP bd cI cG fa1 fb M) ++ (wS ad cI (cnt : Int) fv fs fd)) (L' := [(4, .int (zI ((i + 1 : Nat) : Int))), (3, .int (zI (pMin fa1 fv p 1000 (i + 1)))), (2, .int (zI (p : Int))), (0, .ref (bd 0)), (1, .ref (ad 0))]) rfl (by rw [← pMin_t c_45]; rfl) ?_
                exact ih_23 (i + 1) (by omega) (by omega)
        refine g_loc (L' := [(4, .int (zI 0)), (3, .int (zI 1000)), (2, .int (zI (p : Int))), (0, .ref (bd 0)), (1, .ref (ad 0))]) [0, 1, 2, 3, 4] rfl ?_
        exact loop_23 _ 0 (Nat.zero_le _) (Nat.lt_succ_self _)
  refine g_loc (L' := [(2, .int (zI 1)), (0, .ref (bd 0)), (1, .ref (ad 0))]) [0, 1, 2] rfl ?_
  exact loop_9 _ 1 (zU fa 0 0) (Nat.le_refl _) (by omega) (⟨rfl, fun q h8 h9 => absurd h9 (by omega)⟩) (Nat.lt_succ_self _)
abbrev rmX0_fewestWithin : Room := { frames := 0, cells := 0, slots := 0, locals := 0 }
set_option maxHeartbeats 4000000 in
set_option maxRecDepth 100000 in
theorem met_X0_fewestWithin (l : Launch) (D : va_G) (cI cG cJ : ClassId) (bd : Nat → Nat) (fa fb : Nat → Int) (M : Nat → Nat → Int) (ha : ∀ q, q < 301 → 0 ≤ fa q ∧ fa q ≤ 2000) (rm : Int) (hr : 0 ≤ rm ∧ rm ≤ 12) (p : Nat) (hp : p < 301) : gMet l yX0_fewestWithin cX0_fewestWithin 3 (some .int) rmX0_fewestWithin D cI cG cJ [.ref (bd 0), .int (zI (p : Int)), .int (zI rm)] (wP bd cI cG fa fb M) (gI (fun z w9 => z = (if fa p ≤ rm then fa p else (-1)) ∧ w9 = wP bd cI cG fa fb M)) := by
  have ha9 := ha p hp
  refine gMet_I (by decide) rfl (Nat.le_of_ble_eq_true rfl) (fun E C ret => ?_)
  refine g_aload_n C dX0_fewestWithin_0 0 rfl ?_
  refine g_getf C fX0_9 0 rfl rfl dX0_fewestWithin_1 ?_
  refine g_iload_n C dX0_fewestWithin_4 1 rfl ?_
  refine g_iald C 1 rfl (by decide) (by omega) (by omega) (v := (fa p)) rfl dX0_fewestWithin_5 ?_
  refine g_iload_n C dX0_fewestWithin_6 2 rfl ?_
  refine g_icmp_gt 19 C dX0_fewestWithin_7 (by decide) (zr_i (by omega) (by omega)) (zr_i (by omega) (by omega)) (fun c_7 => ?_) (fun c_7 => ?_)
  · refine g_iconst C dX0_fewestWithin_19 ?_
    exact ret _ _ _ _ _ _ (by decide) (by decide) dX0_fewestWithin_20 (⟨(if_neg (by omega)).symm, rfl⟩)
  · refine g_aload_n C dX0_fewestWithin_10 0 rfl ?_
    refine g_getf C fX0_9 0 rfl rfl dX0_fewestWithin_11 ?_
    refine g_iload_n C dX0_fewestWithin_14 1 rfl ?_
    refine g_iald C 1 rfl (by decide) (by omega) (by omega) (v := (fa p)) rfl dX0_fewestWithin_15 ?_
    refine g_goto 20 C dX0_fewestWithin_16 (by decide) ?_
    exact ret _ _ _ _ _ _ (by decide) (by decide) dX0_fewestWithin_20 (⟨(if_pos (by omega)).symm, rfl⟩)
abbrev rmX0_firstGap : Room := { frames := 0, cells := 0, slots := 0, locals := 0 }
set_option maxHeartbeats 4000000 in
set_option maxRecDepth 100000 in
theorem met_X0_firstGap (l : Launch) (D : va_G) (cI cG cJ : ClassId) (bd : Nat → Nat) (fa fb : Nat → Int) (M : Nat → Nat → Int) (ha : ∀ q, q < 301 → 0 ≤ fa q ∧ fa q ≤ 2000) (rm : Int) (hr : 0 ≤ rm ∧ rm ≤ 12) (p : Nat) (hp : p ≤ 301) : gMet l yX0_firstGap cX0_firstGap 4 (some .int) rmX0_firstGap D cI cG cJ [.ref (bd 0), .int (zI (p : Int)), .int (zI rm)] (wP bd cI cG fa fb M) (gI (fun z w9 => z = fgp fa rm (301 - p) p ∧ w9 = wP bd cI cG fa fb M)) := by
  refine gMet_I (by decide) rfl (Nat.le_of_ble_eq_true rfl) (fun E C ret => ?_)
  refine g_iload_n C dX0_firstGap_0 1 rfl ?_
  refine g_istore_n (L' := [(3, .int (zI (p : Int))), (0, .ref (bd 0)), (1, .int (zI (p : Int))), (2, .int (zI rm))]) C dX0_firstGap_1 (by decide) rfl ?_
  have loop_2 : ∀ (fu : Nat) (s : Nat), (hs : s ≤ 301) → (he : fgp fa rm (301 - p) p = fgp fa rm (301 - s) s) → 301 - s < fu → gW E 0 0 (wP bd cI cG fa fb M) 2 [(3, .int (zI (s : Int))), (0, .ref (bd 0)), (1, .int (zI (p : Int))), (2, .int (zI rm))] [] := by
    intro fu
    induction fu with
    | zero => intro s hs he h9; exact absurd h9 (Nat.not_lt_zero _)
    | succ fu ih_2 =>
      intro s hs he hmu_2
      refine g_iload_n C dX0_firstGap_2 0 rfl ?_
      refine g_sipush C dX0_firstGap_3 (by decide) ?_
      refine g_icmp_gt 27 C dX0_firstGap_6 (by decide) (zr_i (by omega) (by omega)) (zr_i (by omega) (by omega)) (fun c_6 => ?_) (fun c_6 => ?_)
      · refine g_iconst C dX0_firstGap_27 ?_
        exact ret _ _ _ _ _ _ (by decide) (by decide) dX0_firstGap_28 (⟨by rw [he, show s = 301 by omega]; rfl, rfl⟩)
      · refine g_aload_n C dX0_firstGap_9 1 rfl ?_
        refine g_getf C fX0_9 0 rfl rfl dX0_firstGap_10 ?_
        refine g_iload_n C dX0_firstGap_13 0 rfl ?_
        refine g_iald C 1 rfl (by decide) (by omega) (by omega) (v := (fa s)) rfl dX0_firstGap_14 ?_
        have ha9 := ha s (by omega)
        refine g_iload_n C dX0_firstGap_15 3 rfl ?_
        refine g_icmp_le 21 C dX0_firstGap_16 (by decide) (zr_i (by omega) (by omega)) (zr_i (by omega) (by omega)) (fun c_16 => ?_) (fun c_16 => ?_)
        · refine g_iinc (L' := [(3, .int (zI ((s : Int) + 1))), (0, .ref (bd 0)), (1, .int (zI (p : Int))), (2, .int (zI rm))]) C dX0_firstGap_21 0 rfl (by decide) rfl ?_
          refine g_goto 2 C dX0_firstGap_24 (by decide) ?_
          refine g_loc (L' := [(3, .int (zI ((s : Int) + 1))), (0, .ref (bd 0)), (1, .int (zI (p : Int))), (2, .int (zI rm))]) [0, 1, 2, 3] rfl ?_
          exact ih_2 (s + 1) (by omega) (by rw [he, show 301 - s = (301 - (s + 1)) + 1 by omega, fgp_f (by omega)]) (by omega)
        · refine g_iload_n C dX0_firstGap_19 0 rfl ?_
          exact ret _ _ _ _ _ _ (by decide) (by decide) dX0_firstGap_20 (⟨by rw [he, show 301 - s = (301 - (s + 1)) + 1 by omega, fgp_t (by omega)], rfl⟩)
  refine g_loc (L' := [(3, .int (zI (p : Int))), (0, .ref (bd 0)), (1, .int (zI (p : Int))), (2, .int (zI rm))]) [0, 1, 2, 3] rfl ?_
  exact loop_2 _ p hp rfl (Nat.lt_succ_self _)
abbrev rmX0_reachWithin : Room := { frames := 1, cells := 0, slots := 0, locals := 23 }
set_option maxHeartbeats 4000000 in
set_option maxRecDepth 100000 in
theorem met_X0_reachWithin (l : Launch) (D : va_G) (cI cG cJ : ClassId) (bd : Nat → Nat) (fa fb : Nat → Int) (M : Nat → Nat → Int) (ha : ∀ q, q < 301 → 0 ≤ fa q ∧ fa q ≤ 2000) (rm : Int) (hr : 0 ≤ rm ∧ rm ≤ 12)  : gMet l yX0_reachWithin cX0_reachWithin 3 (some .int) rmX0_reachWithin D cI cG cJ [.ref (bd 0), .int (zI rm)] (wP bd cI cG fa fb M) (gI (fun z w9 => z = (if fgp fa rm 300 1 = -1 then (300 : Int) else fgp fa rm 300 1 - 1) ∧ w9 = wP bd cI cG fa fb M)) := by
  refine gMet_I (by decide) rfl (Nat.le_of_ble_eq_true rfl) (fun E C ret => ?_)
  refine g_aload_n C dX0_reachWithin_0 0 rfl ?_
  refine g_iconst C dX0_reachWithin_1 ?_
  refine g_iload_n C dX0_reachWithin_2 1 rfl ?_
  refine g_callV (wr := ([] : va_W)) (st := []) [0, 1, 2, 3, 4, 5, 6, 7, 8, 9, 10, 11, 12, 13, 14, 15, 16] [] C cX0_38 (met_X0_firstGap l D cI cG cJ bd fa fb M ha rm hr 1 (by omega)) ⟨rfl, rfl, by decide, by decide, by decide⟩ (q0 := 0) rfl rfl (by decide) (by decide) rfl rfl (Nat.le_of_ble_eq_true rfl) dX0_reachWithin_3 ?_
  rintro v9 w9 ⟨z9, rfl, rfl, rfl⟩
  refine g_ws (w' := wP bd cI cG fa fb M) (st' := [.int (zI (fgp fa rm 300 1))]) rfl rfl ?_
  refine g_istore_n (L' := [(2, .int (zI (fgp fa rm 300 1))), (0, .ref (bd 0)), (1, .int (zI rm))]) C dX0_reachWithin_6 (by decide) rfl ?_
  refine g_iload_n C dX0_reachWithin_7 0 rfl ?_
  refine g_iconst C dX0_reachWithin_8 ?_
  refine g_icmp_ne 18 C dX0_reachWithin_9 (by decide) (by rcases fgp_bd (f := fa) (rm := rm) 300 1 with hq | ⟨j9, h1, h2, hq⟩ <;> (rw [hq]; exact zr_i (by omega) (by omega))) (zr_i (by omega) (by omega)) (fun c_9 => ?_) (fun c_9 => ?_)
  · refine g_iload_n C dX0_reachWithin_18 0 rfl ?_
    refine g_iconst C dX0_reachWithin_19 ?_
    refine g_isub C dX0_reachWithin_20 ?_
    exact ret _ _ _ _ _ _ (by decide) (by decide) dX0_reachWithin_21 (⟨(if_neg c_9).symm, rfl⟩)
  · refine g_sipush C dX0_reachWithin_12 (by decide) ?_
    refine g_goto 21 C dX0_reachWithin_15 (by decide) ?_
    exact ret _ _ _ _ _ _ (by decide) (by decide) dX0_reachWithin_21 (⟨(if_pos c_9).symm, rfl⟩)
abbrev rmX0_countGaps : Room := { frames := 0, cells := 0, slots := 0, locals := 0 }
set_option maxHeartbeats 4000000 in
set_option maxRecDepth 100000 in
theorem met_X0_countGaps (l : Launch) (D : va_G) (cI cG cJ : ClassId) (bd : Nat → Nat) (fa fb : Nat → Int) (M : Nat → Nat → Int) (ha : ∀ q, q < 301 → 0 ≤ fa q ∧ fa q ≤ 2000) (rm : Int) (hr : 0 ≤ rm ∧ rm ≤ 12) (p : Nat) (hp : p < 301) : gMet l yX0_countGaps cX0_countGaps 5 (some .int) rmX0_countGaps D cI cG cJ [.ref (bd 0), .int (zI (p : Int)), .int (zI rm)] (wP bd cI cG fa fb M) (gI (fun z w9 => z = ((cgp fa rm p : Nat) : Int) ∧ w9 = wP bd cI cG fa fb M)) := by
  refine gMet_I (by decide) rfl (Nat.le_of_ble_eq_true rfl) (fun E C ret => ?_)
  refine g_iconst C dX0_countGaps_0 ?_
  refine g_istore_n (L' := [(3, .int (zI 0)), (0, .ref (bd 0)), (1, .int (zI (p : Int))), (2, .int (zI rm))]) C dX0_countGaps_1 (by decide) rfl ?_
  refine g_iconst C dX0_countGaps_2 ?_
  refine g_istore (L' := [(4, .int (zI 1)), (3, .int (zI 0)), (0, .ref (bd 0)), (1, .int (zI (p : Int))), (2, .int (zI rm))]) C dX0_countGaps_3 (by decide) rfl ?_
  have loop_5 : ∀ (fu : Nat) (s : Nat), (hs : s ≤ p) → p - s < fu → gW E 0 0 (wP bd cI cG fa fb M) 5 [(4, .int (zI ((s + 1 : Nat) : Int))), (3, .int (zI ((cgp fa rm s : Nat) : Int))), (0, .ref (bd 0)), (1, .int (zI (p : Int))), (2, .int (zI rm))] [] := by
    intro fu
    induction fu with
    | zero => intro s hs h9; exact absurd h9 (Nat.not_lt_zero _)
    | succ fu ih_5 =>
      intro s hs hmu_5
      refine g_iload C dX0_countGaps_5 0 rfl ?_
      refine g_iload_n C dX0_countGaps_7 3 rfl ?_
      refine g_icmp_gt 31 C dX0_countGaps_8 (by decide) (zr_i (by omega) (by omega)) (zr_i (by omega) (by omega)) (fun c_8 => ?_) (fun c_8 => ?_)
      · refine g_iload_n C dX0_countGaps_31 1 rfl ?_
        exact ret _ _ _ _ _ _ (by decide) (by decide) dX0_countGaps_32 (⟨by rw [show s = p by omega], rfl⟩)
      · refine g_aload_n C dX0_countGaps_11 2 rfl ?_
        refine g_getf C fX0_9 0 rfl rfl dX0_countGaps_12 ?_
        refine g_iload C dX0_countGaps_15 0 rfl ?_
        refine g_iald C 1 rfl (by decide) (by omega) (by omega) (v := (fa (s + 1))) rfl dX0_countGaps_17 ?_
        have ha9 := ha (s + 1) (by omega)
        refine g_iload_n C dX0_countGaps_18 4 rfl ?_
        refine g_icmp_le 25 C dX0_countGaps_19 (by decide) (zr_i (by omega) (by omega)) (zr_i (by omega) (by omega)) (fun c_19 => ?_) (fun c_19 => ?_)
        · refine g_iinc (L' := [(4, .int (zI (((s + 1 : Nat) : Int) + 1))), (3, .int (zI ((cgp fa rm s : Nat) : Int))), (0, .ref (bd 0)), (1, .int (zI (p : Int))), (2, .int (zI rm))]) C dX0_countGaps_25 0 rfl (by decide) rfl ?_
          refine g_goto 5 C dX0_countGaps_28 (by decide) ?_
          refine g_loc (L' := [(4, .int (zI (((s + 1 : Nat) : Int) + 1))), (3, .int (zI ((cgp fa rm s : Nat) : Int))), (0, .ref (bd 0)), (1, .int (zI (p : Int))), (2, .int (zI rm))]) [0, 1, 2, 3, 4] rfl ?_
          refine g_lw (w' := wP bd cI cG fa fb M) (L' := [(4, .int (zI ((s + 1 + 1 : Nat) : Int))), (3, .int (zI ((cgp fa rm (s + 1) : Nat) : Int))), (0, .ref (bd 0)), (1, .int (zI (p : Int))), (2, .int (zI rm))]) rfl (by rw [cgp_f (by omega)]; rfl) ?_
          exact ih_5 (s + 1) (by omega) (by omega)
        · refine g_iinc (L' := [(3, .int (zI (((cgp fa rm s : Nat) : Int) + 1))), (4, .int (zI ((s + 1 : Nat) : Int))), (0, .ref (bd 0)), (1, .int (zI (p : Int))), (2, .int (zI rm))]) C dX0_countGaps_22 1 rfl (by decide) rfl ?_
          refine g_iinc (L' := [(4, .int (zI (((s + 1 : Nat) : Int) + 1))), (3, .int (zI (((cgp fa rm s : Nat) : Int) + 1))), (0, .ref (bd 0)), (1, .int (zI (p : Int))), (2, .int (zI rm))]) C dX0_countGaps_25 1 rfl (by decide) rfl ?_
          refine g_goto 5 C dX0_countGaps_28 (by decide) ?_
          refine g_loc (L' := [(4, .int (zI (((s + 1 : Nat) : Int) + 1))), (3, .int (zI (((cgp fa rm s : Nat) : Int) + 1))), (0, .ref (bd 0)), (1, .int (zI (p : Int))), (2, .int (zI rm))]) [0, 1, 2, 3, 4] rfl ?_
          refine g_lw (w' := wP bd cI cG fa fb M) (L' := [(4, .int (zI ((s + 1 + 1 : Nat) : Int))), (3, .int (zI ((cgp fa rm (s + 1) : Nat) : Int))), (0, .ref (bd 0)), (1, .int (zI (p : Int))), (2, .int (zI rm))]) rfl (by rw [cgp_t (by omega)]; rfl) ?_
          exact ih_5 (s + 1) (by omega) (by omega)
  refine g_loc (L' := [(4, .int (zI 1)), (3, .int (zI 0)), (0, .ref (bd 0)), (1, .int (zI (p : Int))), (2, .int (zI rm))]) [0, 1, 2, 3, 4] rfl ?_
  exact loop_5 _ 0 (Nat.zero_le _) (Nat.lt_succ_self _)
abbrev rmX0_reachWithValue : Room := { frames := 1, cells := 0, slots := 0, locals := 21 }
set_option maxHeartbeats 4000000 in
set_option maxRecDepth 100000 in
theorem met_X0_reachWithValue (l : Launch) (D : va_G) (cI cG cJ : ClassId) (bd : Nat → Nat) (fa fb : Nat → Int) (M : Nat → Nat → Int) (ha : ∀ q, q < 301 → 0 ≤ fa q ∧ fa q ≤ 2000) (rm : Int) (hr : 0 ≤ rm ∧ rm ≤ 12) (v : Int) (hv : 1 ≤ v ∧ v ≤ 60)  : gMet l yX0_reachWithValue cX0_reachWithValue 5 (some .int) rmX0_reachWithValue D cI cG cJ [.ref (bd 0), .int (zI v), .int (zI rm)] (wP bd cI cG fa fb M) (gI (fun z w9 => ∃ (r : Nat) (fb1 : Nat → Int), (z = (r : Int) ∧ r ≤ 300 ∧ Gk fa v fb1 (r + 1) ∧ (∀ q, 1 ≤ q → q < r + 1 → fb1 q ≤ rm) ∧ (r < 300 → rm < gSt fa v fb1 (r + 1))) ∧ w9 = wP bd cI cG fa fb1 M)) := by
  refine gMet_I (by decide) rfl (Nat.le_of_ble_eq_true rfl) (fun E C ret => ?_)
  refine g_aload_n C dX0_reachWithValue_0 0 rfl ?_
  refine g_getf C fX0_15 0 rfl rfl dX0_reachWithValue_1 ?_
  refine g_iconst C dX0_reachWithValue_4 ?_
  refine g_iconst C dX0_reachWithValue_5 ?_
  refine g_iast (w' := wP bd cI cG fa (zU fb 0 0) M) C 2 rfl (by decide) (by omega) (by omega) rfl dX0_reachWithValue_6 ?_
  refine g_iconst C dX0_reachWithValue_7 ?_
  refine g_istore_n (L' := [(3, .int (zI 1)), (0, .ref (bd 0)), (1, .int (zI v)), (2, .int (zI rm))]) C dX0_reachWithValue_8 (by decide) rfl ?_
  have loop_9 : ∀ (fu : Nat) (p : Nat) (fb1 : Nat → Int), (hp1 : 1 ≤ p) → (hp : p ≤ 301) → (hG : Gk fa v fb1 p) → (hle : ∀ q, 1 ≤ q → q < p → fb1 q ≤ rm) → 301 - p < fu → gW E 0 0 (wP bd cI cG fa fb1 M) 9 [(3, .int (zI (p : Int))), (0, .ref (bd 0)), (1, .int (zI v)), (2, .int (zI rm))] [] := by
    intro fu
    induction fu with
    | zero => intro p fb1 hp1 hp hG hle h9; exact absurd h9 (Nat.not_lt_zero _)
    | succ fu ih_9 =>
      intro p fb1 hp1 hp hG hle hmu_9
      have hbd := hG.bd hv.1 (fun q hq => ha q (by omega))
      refine g_iload_n C dX0_reachWithValue_9 0 rfl ?_
      refine g_sipush C dX0_reachWithValue_10 (by decide) ?_
      refine g_icmp_gt 70 C dX0_reachWithValue_13 (by decide) (zr_i (by omega) (by omega)) (zr_i (by omega) (by omega)) (fun c_13 => ?_) (fun c_13 => ?_)
      · refine g_sipush C dX0_reachWithValue_70 (by decide) ?_
        exact ret _ _ _ _ _ _ (by decide) (by decide) dX0_reachWithValue_73 (⟨300, fb1, ⟨rfl, Nat.le_refl _, by rw [show 300 + 1 = p by omega]; exact hG, by rw [show 300 + 1 = p by omega]; exact hle, fun q => absurd q (Nat.lt_irrefl _)⟩, rfl⟩)
      · refine g_aload_n C dX0_reachWithValue_16 1 rfl ?_
        refine g_getf C fX0_9 0 rfl rfl dX0_reachWithValue_17 ?_
        refine g_iload_n C dX0_reachWithValue_20 0 rfl ?_
        refine g_iald C 1 rfl (by decide) (by omega) (by omega) (v := (fa p)) rfl dX0_reachWithValue_21 ?_
        have ha9 := ha p (by omega)
        have hg9 := gSt_bd (fa := fa) (v := v) (f := fb1) (p := p) ha9 (fun h => (hbd _ (by omega)).1)
        refine g_istore (L' := [(4, .int (zI (fa p))), (3, .int (zI (p : Int))), (0, .ref (bd 0)), (1, .int (zI v)), (2, .int (zI rm))]) C dX0_reachWithValue_22 (by decide) rfl ?_
        refine g_iload_n C dX0_reachWithValue_24 1 rfl ?_
        refine g_iload_n C dX0_reachWithValue_25 3 rfl ?_
        refine g_icmp_lt 46 C dX0_reachWithValue_26 (by decide) (zr_i (by omega) (by omega)) (zr_i (by omega) (by omega)) (fun c_26 => ?_) (fun c_26 => ?_)
        · have eg : fa p = gSt fa v fb1 p := (if_neg (by omega)).symm
          refine g_iload C dX0_reachWithValue_46 0 rfl ?_
          refine g_top (gSt fa v fb1 p) (eg) ?_
          refine g_iload_n C dX0_reachWithValue_48 4 rfl ?_
          refine g_icmp_le 56 C dX0_reachWithValue_49 (by decide) (zr_i (by omega) (by omega)) (zr_i (by omega) (by omega)) (fun c_49 => ?_) (fun c_49 => ?_)
          · refine g_aload_n C dX0_reachWithValue_56 2 rfl ?_
            refine g_getf C fX0_15 0 rfl rfl dX0_reachWithValue_57 ?_
            refine g_iload_n C dX0_reachWithValue_60 1 rfl ?_
            refine g_iload C dX0_reachWithValue_61 0 rfl ?_
            refine g_top (gSt fa v fb1 p) (eg) ?_
            refine g_iast (w' := wP bd cI cG fa (zU fb1 p (gSt fa v fb1 p)) M) C 2 rfl (by decide) (by omega) (by omega) rfl dX0_reachWithValue_63 ?_
            refine g_iinc (L' := [(3, .int (zI ((p : Int) + 1))), (4, .int (zI (fa p))), (0, .ref (bd 0)), (1, .int (zI v)), (2, .int (zI rm))]) C dX0_reachWithValue_64 1 rfl (by decide) rfl ?_
            refine g_goto 9 C dX0_reachWithValue_67 (by decide) ?_
            refine g_loc (L' := [(3, .int (zI ((p : Int) + 1))), (0, .ref (bd 0)), (1, .int (zI v)), (2, .int (zI rm))]) [0, 2, 3, 4] rfl ?_
            exact ih_9 (p + 1) (zU fb1 p (gSt fa v fb1 p)) (by omega) (by omega) (hG.step hp1 hv.1 rfl) (fun q h8 h9 => by
      by_cases e : q = p
      · subst e; rw [show zU fb1 q (gSt fa v fb1 q) q = gSt fa v fb1 q from if_pos rfl]; omega
      · rw [show zU fb1 p (gSt fa v fb1 p) q = fb1 q from if_neg e]; exact hle q h8 (by omega)) (by omega)
          · refine g_iload_n C dX0_reachWithValue_52 1 rfl ?_
            refine g_iconst C dX0_reachWithValue_53 ?_
            refine g_isub C dX0_reachWithValue_54 ?_
            exact ret _ _ _ _ _ _ (by decide) (by decide) dX0_reachWithValue_55 (⟨p - 1, fb1, ⟨by omega, by omega, by rw [show p - 1 + 1 = p by omega]; exact hG, by rw [show p - 1 + 1 = p by omega]; exact hle, fun _ => by rw [show p - 1 + 1 = p by omega]; omega⟩, rfl⟩)
        · have eg : gSt fa v fb1 p = gSt fa v fb1 p := rfl
          refine g_iload C dX0_reachWithValue_29 0 rfl ?_
          refine g_aload_n C dX0_reachWithValue_31 2 rfl ?_
          refine g_getf C fX0_15 0 rfl rfl dX0_reachWithValue_32 ?_
          refine g_iload_n C dX0_reachWithValue_35 1 rfl ?_
          refine g_iload_n C dX0_reachWithValue_36 3 rfl ?_
          refine g_isub C dX0_reachWithValue_37 ?_
          refine g_iald C 2 rfl (by decide) (by omega) (by omega) (v := (fb1 ((((p : Int) - v)).toNat))) rfl dX0_reachWithValue_38 ?_
          have hb9 := hbd ((p : Int) - v).toNat (by omega)
          refine g_iconst C dX0_reachWithValue_39 ?_
          refine g_iadd C dX0_reachWithValue_40 ?_
          refine g_min C mX0_32 (zr_i (by omega) (by omega)) (zr_i (by omega) (by omega)) (by decide) (Nat.le_of_ble_eq_true rfl) dX0_reachWithValue_41 ?_
          refine g_top (gSt fa v fb1 p) ((if_pos (by omega)).symm) ?_
          refine g_istore (L' := [(4, .int (zI (gSt fa v fb1 p))), (3, .int (zI (p : Int))), (0, .ref (bd 0)), (1, .int (zI v)), (2, .int (zI rm))]) C dX0_reachWithValue_44 (by decide) rfl ?_
          refine g_iload C dX0_reachWithValue_46 0 rfl ?_
          refine g_top (gSt fa v fb1 p) (eg) ?_
          refine g_iload_n C dX0_reachWithValue_48 4 rfl ?_
          refine g_icmp_le 56 C dX0_reachWithValue_49 (by decide) (zr_i (by omega) (by omega)) (zr_i (by omega) (by omega)) (fun c_49 => ?_) (fun c_49 => ?_)
          · refine g_aload_n C dX0_reachWithValue_56 2 rfl ?_
            refine g_getf C fX0_15 0 rfl rfl dX0_reachWithValue_57 ?_
            refine g_iload_n C dX0_reachWithValue_60 1 rfl ?_
            refine g_iload C dX0_reachWithValue_61 0 rfl ?_
            refine g_top (gSt fa v fb1 p) (eg) ?_
            refine g_iast (w' := wP bd cI cG fa (zU fb1 p (gSt fa v fb1 p)) M) C 2 rfl (by decide) (by omega) (by omega) rfl dX0_reachWithValue_63 ?_
            refine g_iinc (L' := [(3, .int (zI ((p : Int) + 1))), (4, .int (zI (gSt fa v fb1 p))), (0, .ref (bd 0)), (1, .int (zI v)), (2, .int (zI rm))]) C dX0_reachWithValue_64 1 rfl (by decide) rfl ?_
            refine g_goto 9 C dX0_reachWithValue_67 (by decide) ?_
            refine g_loc (L' := [(3, .int (zI ((p : Int) + 1))), (0, .ref (bd 0)), (1, .int (zI v)), (2, .int (zI rm))]) [0, 2, 3, 4] rfl ?_
            exact ih_9 (p + 1) (zU fb1 p (gSt fa v fb1 p)) (by omega) (by omega) (hG.step hp1 hv.1 rfl) (fun q h8 h9 => by
      by_cases e : q = p
      · subst e; rw [show zU fb1 q (gSt fa v fb1 q) q = gSt fa v fb1 q from if_pos rfl]; omega
      · rw [show zU fb1 p (gSt fa v fb1 p) q = fb1 q from if_neg e]; exact hle q h8 (by omega)) (by omega)
          · refine g_iload_n C dX0_reachWithValue_52 1 rfl ?_
            refine g_iconst C dX0_reachWithValue_53 ?_
            refine g_isub C dX0_reachWithValue_54 ?_
            exact ret _ _ _ _ _ _ (by decide) (by decide) dX0_reachWithValue_55 (⟨p - 1, fb1, ⟨by omega, by omega, by rw [show p - 1 + 1 = p by omega]; exact hG, by rw [show p - 1 + 1 = p by omega]; exact hle, fun _ => by rw [show p - 1 + 1 = p by omega]; omega⟩, rfl⟩)
  refine g_loc (L' := [(3, .int (zI 1)), (0, .ref (bd 0)), (1, .int (zI v)), (2, .int (zI rm))]) [0, 1, 2, 3] rfl ?_
  exact loop_9 _ 1 (zU fb 0 0) (Nat.le_refl _) (by omega) (⟨rfl, fun q h8 h9 => absurd h9 (by omega)⟩) (fun q h8 h9 => absurd h9 (by omega)) (Nat.lt_succ_self _)
abbrev rmX0_clearChoices : Room := { frames := 0, cells := 0, slots := 0, locals := 0 }
set_option maxHeartbeats 4000000 in
set_option maxRecDepth 100000 in
theorem met_X0_clearChoices (l : Launch) (D : va_G) (cI cG cJ : ClassId) (bd : Nat → Nat) (fa fb : Nat → Int) (M : Nat → Nat → Int) (rn : Nat) (hr : rn ≤ 12) (pg : Nat) (hp : pg ≤ 300)  : gMet l yX0_clearChoices cX0_clearChoices 5 none rmX0_clearChoices D cI cG cJ [.ref (bd 0), .int (zI (rn : Int)), .int (zI (pg : Int))] (wP bd cI cG fa fb M) (gN (fun w9 => ∃ M1 : Nat → Nat → Int, (∀ a q, a ≤ rn → q ≤ pg → M1 a q = w0 a q) ∧ w9 = wP bd cI cG fa fb M1)) := by
  refine gMet_N (by decide) rfl (Nat.le_of_ble_eq_true rfl) (fun E C ret => ?_)
  refine g_iconst C dX0_clearChoices_0 ?_
  refine g_istore_n (L' := [(3, .int (zI 0)), (0, .ref (bd 0)), (1, .int (zI (rn : Int))), (2, .int (zI (pg : Int)))]) C dX0_clearChoices_1 (by decide) rfl ?_
  have loop_2 : ∀ (fu : Nat) (k : Nat) (M1 : Nat → Nat → Int), (hk : k ≤ rn + 1) → (h0 : ∀ a q, (a < k ∨ (a = k ∧ q < 0)) → q ≤ pg → M1 a q = 0) → rn + 1 - k < fu → gW E 0 0 (wP bd cI cG fa fb M1) 2 [(3, .int (zI (k : Int))), (0, .ref (bd 0)), (1, .int (zI (rn : Int))), (2, .int (zI (pg : Int)))] [] := by
    intro fu
    induction fu with
    | zero => intro k M1 hk h0 h9; exact absurd h9 (Nat.not_lt_zero _)
    | succ fu ih_2 =>
      intro k M1 hk h0 hmu_2
      refine g_iload_n C dX0_clearChoices_2 0 rfl ?_
      refine g_iload_n C dX0_clearChoices_3 2 rfl ?_
      refine g_icmp_gt 38 C dX0_clearChoices_4 (by decide) (zr_i (by omega) (by omega)) (zr_i (by omega) (by omega)) (fun c_4 => ?_) (fun c_4 => ?_)
      · refine g_aload_n C dX0_clearChoices_38 1 rfl ?_
        refine g_getf C fX0_20 0 rfl rfl dX0_clearChoices_39 ?_
        refine g_iconst C dX0_clearChoices_42 ?_
        refine g_aald (y := bd (4 + 0)) C 3 rfl (by decide) (by omega) (by omega) (wR_at (by omega)) dX0_clearChoices_43 ?_
        refine g_iconst C dX0_clearChoices_44 ?_
        refine g_iconst C dX0_clearChoices_45 ?_
        refine g_iast (w' := wP bd cI cG fa fb (gU M1 0 0 1)) C (4 + 0) (wP_row1 (by omega)) (by decide) (by omega) (by omega) (wP_set1 (by omega) 0 1) dX0_clearChoices_46 ?_
        exact ret _ _ _ _ _ (by decide) (by decide) dX0_clearChoices_47 (⟨gU M1 0 0 1, fun a q h8 h9 => by
          by_cases e : a = 0 ∧ q = 0
          · rw [e.1, e.2, gU_eq]; rfl
          · rw [gU_ne (fun e2 e3 => e ⟨e2, e3⟩), h0 a q (by omega) h9]; exact (if_neg e).symm, rfl⟩)
      · refine g_iconst C dX0_clearChoices_7 ?_
        refine g_istore (L' := [(4, .int (zI 0)), (3, .int (zI (k : Int))), (0, .ref (bd 0)), (1, .int (zI (rn : Int))), (2, .int (zI (pg : Int)))]) C dX0_clearChoices_8 (by decide) rfl ?_
        have loop_10 : ∀ (fu : Nat) (p : Nat) (M1 : Nat → Nat → Int), (hq : p ≤ pg + 1) → (h1 : ∀ a q, (a < k ∨ (a = k ∧ q < p)) → q ≤ pg → M1 a q = 0) → pg + 1 - p < fu → gW E 0 0 (wP bd cI cG fa fb M1) 10 [(4, .int (zI (p : Int))), (3, .int (zI (k : Int))), (0, .ref (bd 0)), (1, .int (zI (rn : Int))), (2, .int (zI (pg : Int)))] [] := by
          intro fu
          induction fu with
          | zero => intro p M1 hq h1 h9; exact absurd h9 (Nat.not_lt_zero _)
          | succ fu ih_10 =>
            intro p M1 hq h1 hmu_10
            refine g_iload C dX0_clearChoices_10 0 rfl ?_
            refine g_iload_n C dX0_clearChoices_12 4 rfl ?_
            refine g_icmp_gt 32 C dX0_clearChoices_13 (by decide) (zr_i (by omega) (by omega)) (zr_i (by omega) (by omega)) (fun c_13 => ?_) (fun c_13 => ?_)
            · refine g_iinc (L' := [(3, .int (zI ((k : Int) + 1))), (4, .int (zI (p : Int))), (0, .ref (bd 0)), (1, .int (zI (rn : Int))), (2, .int (zI (pg : Int)))]) C dX0_clearChoices_32 1 rfl (by decide) rfl ?_
              refine g_goto 2 C dX0_clearChoices_35 (by decide) ?_
              refine g_loc (L' := [(3, .int (zI ((k : Int) + 1))), (0, .ref (bd 0)), (1, .int (zI (rn : Int))), (2, .int (zI (pg : Int)))]) [0, 2, 3, 4] rfl ?_
              exact ih_2 (k + 1) M1 (by omega) (fun a q h8 h9 => h1 a q (by omega) h9) (by omega)
            · refine g_aload_n C dX0_clearChoices_16 2 rfl ?_
              refine g_getf C fX0_20 0 rfl rfl dX0_clearChoices_17 ?_
              refine g_iload_n C dX0_clearChoices_20 1 rfl ?_
              refine g_aald (y := bd (4 + k)) C 3 rfl (by decide) (by omega) (by omega) (wR_at (by omega)) dX0_clearChoices_21 ?_
              refine g_iload C dX0_clearChoices_22 0 rfl ?_
              refine g_iconst C dX0_clearChoices_24 ?_
              refine g_iast (w' := wP bd cI cG fa fb (gU M1 k p 0)) C (4 + k) (wP_row1 (by omega)) (by decide) (by omega) (by omega) (wP_set1 (by omega) p 0) dX0_clearChoices_25 ?_
              refine g_iinc (L' := [(4, .int (zI ((p : Int) + 1))), (3, .int (zI (k : Int))), (0, .ref (bd 0)), (1, .int (zI (rn : Int))), (2, .int (zI (pg : Int)))]) C dX0_clearChoices_26 0 rfl (by decide) rfl ?_
              refine g_goto 10 C dX0_clearChoices_29 (by decide) ?_
              refine g_loc (L' := [(4, .int (zI ((p : Int) + 1))), (3, .int (zI (k : Int))), (0, .ref (bd 0)), (1, .int (zI (rn : Int))), (2, .int (zI (pg : Int)))]) [0, 1, 2, 3, 4] rfl ?_
              exact ih_10 (p + 1) (gU M1 k p 0) (by omega) (fun a q h8 h9 => by
      by_cases e : a = k ∧ q = p
      · rw [e.1, e.2]; exact gU_eq
      · rw [gU_ne (fun e2 e3 => e ⟨e2, e3⟩)]; exact h1 a q (by omega) h9) (by omega)
        refine g_loc (L' := [(4, .int (zI 0)), (3, .int (zI (k : Int))), (0, .ref (bd 0)), (1, .int (zI (rn : Int))), (2, .int (zI (pg : Int)))]) [0, 1, 2, 3, 4] rfl ?_
        exact loop_10 _ 0 M1 (Nat.zero_le _) h0 (Nat.lt_succ_self _)
  refine g_loc (L' := [(3, .int (zI 0)), (0, .ref (bd 0)), (1, .int (zI (rn : Int))), (2, .int (zI (pg : Int)))]) [0, 1, 2, 3] rfl ?_
  exact loop_2 _ 0 M (Nat.zero_le _) (fun a q h8 h9 => absurd h8 (by omega)) (Nat.lt_succ_self _)
abbrev rmX0_addChoicesWith : Room := { frames := 0, cells := 0, slots := 0, locals := 0 }
set_option maxHeartbeats 4000000 in
set_option maxRecDepth 100000 in
theorem met_X0_addChoicesWith (l : Launch) (D : va_G) (cI cG cJ : ClassId) (bd : Nat → Nat) (fa fb : Nat → Int) (M : Nat → Nat → Int) (rn : Nat) (hr : rn ≤ 12) (v : Nat) (hv : 1 ≤ v) (hv2 : v ≤ 60) (pg : Nat) (hp : pg ≤ 300)  : gMet l yX0_addChoicesWith cX0_addChoicesWith 6 none rmX0_addChoicesWith D cI cG cJ [.ref (bd 0), .int (zI (v : Int)), .int (zI (rn : Int)), .int (zI (pg : Int))] (wP bd cI cG fa fb M) (gN (fun w9 => ∃ M1 : Nat → Nat → Int, (∀ a q, a ≤ rn → q ≤ pg → M1 a q = nw M v a q) ∧ w9 = wP bd cI cG fa fb M1)) := by
  refine gMet_N (by decide) rfl (Nat.le_of_ble_eq_true rfl) (fun E C ret => ?_)
  refine g_iconst C dX0_addChoicesWith_0 ?_
  refine g_istore (L' := [(4, .int (zI 1)), (0, .ref (bd 0)), (1, .int (zI (v : Int))), (2, .int (zI (rn : Int))), (3, .int (zI (pg : Int)))]) C dX0_addChoicesWith_1 (by decide) rfl ?_
  have loop_3 : ∀ (fu : Nat) (k : Nat) (M1 : Nat → Nat → Int), (hk : k ≤ rn) → (h0 : W1 M M1 v pg (k + 1) 0) → rn + 1 - k < fu → gW E 0 0 (wP bd cI cG fa fb M1) 3 [(4, .int (zI ((k + 1 : Nat) : Int))), (0, .ref (bd 0)), (1, .int (zI (v : Int))), (2, .int (zI (rn : Int))), (3, .int (zI (pg : Int)))] [] := by
    intro fu
    induction fu with
    | zero => intro k M1 hk h0 h9; exact absurd h9 (Nat.not_lt_zero _)
    | succ fu ih_3 =>
      intro k M1 hk h0 hmu_3
      refine g_iload C dX0_addChoicesWith_3 0 rfl ?_
      refine g_iload_n C dX0_addChoicesWith_5 3 rfl ?_
      refine g_icmp_gt 57 C dX0_addChoicesWith_6 (by decide) (zr_i (by omega) (by omega)) (zr_i (by omega) (by omega)) (fun c_6 => ?_) (fun c_6 => ?_)
      · exact ret _ _ _ _ _ (by decide) (by decide) dX0_addChoicesWith_57 (⟨M1, fun a q h8 h9 => by rw [h0 a q h9, if_pos (by omega)], rfl⟩)
      · refine g_iload_n C dX0_addChoicesWith_9 2 rfl ?_
        refine g_istore (L' := [(5, .int (zI (v : Int))), (4, .int (zI ((k + 1 : Nat) : Int))), (0, .ref (bd 0)), (1, .int (zI (v : Int))), (2, .int (zI (rn : Int))), (3, .int (zI (pg : Int)))]) C dX0_addChoicesWith_10 (by decide) rfl ?_
        have loop_12 : ∀ (fu : Nat) (p : Nat) (M1 : Nat → Nat → Int), (hq : v ≤ p) → (hq2 : p ≤ 361) → (h1 : W1 M M1 v pg (k + 1) p) → 301 - p < fu → gW E 0 0 (wP bd cI cG fa fb M1) 12 [(5, .int (zI (p : Int))), (4, .int (zI ((k + 1 : Nat) : Int))), (0, .ref (bd 0)), (1, .int (zI (v : Int))), (2, .int (zI (rn : Int))), (3, .int (zI (pg : Int)))] [] := by
          intro fu
          induction fu with
          | zero => intro p M1 hq hq2 h1 h9; exact absurd h9 (Nat.not_lt_zero _)
          | succ fu ih_12 =>
            intro p M1 hq hq2 h1 hmu_12
            refine g_iload C dX0_addChoicesWith_12 0 rfl ?_
            refine g_iload_n C dX0_addChoicesWith_14 5 rfl ?_
            refine g_icmp_gt 51 C dX0_addChoicesWith_15 (by decide) (zr_i (by omega) (by omega)) (zr_i (by omega) (by omega)) (fun c_15 => ?_) (fun c_15 => ?_)
            · refine g_iinc (L' := [(4, .int (zI (((k + 1 : Nat) : Int) + 1))), (5, .int (zI (p : Int))), (0, .ref (bd 0)), (1, .int (zI (v : Int))), (2, .int (zI (rn : Int))), (3, .int (zI (pg : Int)))]) C dX0_addChoicesWith_51 1 rfl (by decide) rfl ?_
              refine g_goto 3 C dX0_addChoicesWith_54 (by decide) ?_
              refine g_loc (L' := [(4, .int (zI (((k + 1 : Nat) : Int) + 1))), (0, .ref (bd 0)), (1, .int (zI (v : Int))), (2, .int (zI (rn : Int))), (3, .int (zI (pg : Int)))]) [0, 2, 3, 4, 5] rfl ?_
              exact ih_3 (k + 1) M1 (by omega) (h1.next (by omega)) (by omega)
            · refine g_aload_n C dX0_addChoicesWith_18 2 rfl ?_
              refine g_getf C fX0_20 0 rfl rfl dX0_addChoicesWith_19 ?_
              refine g_iload C dX0_addChoicesWith_22 1 rfl ?_
              refine g_aald (y := bd (4 + (k + 1))) C 3 rfl (by decide) (by omega) (by omega) (wR_at (by omega)) dX0_addChoicesWith_24 ?_
              refine g_iload C dX0_addChoicesWith_25 0 rfl ?_
              refine g_dup2 C dX0_addChoicesWith_27 rfl rfl ?_
              refine g_iald C (4 + (k + 1)) (wP_row1 (by omega)) (by decide) (by omega) (by omega) (v := (M1 (k + 1) p)) rfl dX0_addChoicesWith_28 ?_
              refine g_aload_n C dX0_addChoicesWith_29 2 rfl ?_
              refine g_getf C fX0_20 0 rfl rfl dX0_addChoicesWith_30 ?_
              refine g_iload C dX0_addChoicesWith_33 1 rfl ?_
              refine g_iconst C dX0_addChoicesWith_35 ?_
              refine g_isub C dX0_addChoicesWith_36 ?_
              refine g_top (k : Int) (by omega) ?_
              refine g_aald (y := bd (4 + k)) C 3 rfl (by decide) (by omega) (by omega) (wR_at (by omega)) dX0_addChoicesWith_37 ?_
              refine g_iload C dX0_addChoicesWith_38 0 rfl ?_
              refine g_iload_n C dX0_addChoicesWith_40 3 rfl ?_
              refine g_isub C dX0_addChoicesWith_41 ?_
              refine g_top ((p - v : Nat) : Int) (by omega) ?_
              refine g_iald C (4 + k) (wP_row1 (by omega)) (by decide) (by omega) (by omega) (v := (M1 k (p - v))) rfl dX0_addChoicesWith_42 ?_
              refine g_iadd C dX0_addChoicesWith_43 ?_
              refine g_iast (w' := wP bd cI cG fa fb (gU M1 (k + 1) p ((M1 (k + 1) p) + (M1 k (p - v))))) C (4 + (k + 1)) (wP_row1 (by omega)) (by decide) (by omega) (by omega) (wP_set1 (by omega) p ((M1 (k + 1) p) + (M1 k (p - v)))) dX0_addChoicesWith_44 ?_
              refine g_iinc (L' := [(5, .int (zI ((p : Int) + 1))), (4, .int (zI ((k + 1 : Nat) : Int))), (0, .ref (bd 0)), (1, .int (zI (v : Int))), (2, .int (zI (rn : Int))), (3, .int (zI (pg : Int)))]) C dX0_addChoicesWith_45 0 rfl (by decide) rfl ?_
              refine g_goto 12 C dX0_addChoicesWith_48 (by decide) ?_
              refine g_loc (L' := [(5, .int (zI ((p : Int) + 1))), (4, .int (zI ((k + 1 : Nat) : Int))), (0, .ref (bd 0)), (1, .int (zI (v : Int))), (2, .int (zI (rn : Int))), (3, .int (zI (pg : Int)))]) [0, 1, 2, 3, 4, 5] rfl ?_
              exact ih_12 (p + 1) (gU M1 (k + 1) p (M1 (k + 1) p + M1 k (p - v))) (by omega) (by omega) (h1.step hq hv (by omega)) (by omega)
        refine g_loc (L' := [(5, .int (zI (v : Int))), (4, .int (zI ((k + 1 : Nat) : Int))), (0, .ref (bd 0)), (1, .int (zI (v : Int))), (2, .int (zI (rn : Int))), (3, .int (zI (pg : Int)))]) [0, 1, 2, 3, 4, 5] rfl ?_
        exact loop_12 _ v M1 (Nat.le_refl _) (by omega) (h0.begin (by omega)) (Nat.lt_succ_self _)
  refine g_loc (L' := [(4, .int (zI 1)), (0, .ref (bd 0)), (1, .int (zI (v : Int))), (2, .int (zI (rn : Int))), (3, .int (zI (pg : Int)))]) [0, 1, 2, 3, 4] rfl ?_
  exact loop_3 _ 0 M (Nat.zero_le _) W1.first (Nat.lt_succ_self _)
abbrev rmX0_countChoices : Room := { frames := 1, cells := 0, slots := 0, locals := 25 }
set_option maxHeartbeats 4000000 in
set_option maxRecDepth 100000 in
theorem met_X0_countChoices (l : Launch) (D : va_G) (cI cG cJ : ClassId) (ad : Nat → Nat) (cnt : Nat) (hc : cnt ≤ 8) (fv fs fd : Nat → Int) (hv : ∀ j, j < cnt → 1 ≤ fv j ∧ fv j ≤ 60) (bd : Nat → Nat) (fa fb : Nat → Int) (M : Nat → Nat → Int) (rn : Nat) (hr : rn ≤ 12) (pg : Nat) (hp : pg ≤ 300)  : gMet l yX0_countChoices cX0_countChoices 6 (some .int) rmX0_countChoices D cI cG cJ [.ref (bd 0), .ref (ad 0), .int (zI (rn : Int)), .int (zI (pg : Int))] ((wP bd cI cG fa fb M) ++ (wS ad cI (cnt : Int) fv fs fd)) (gI (fun z w9 => ∃ M1 : Nat → Nat → Int, z = wsum (wy fv cnt) pg (rn + 1) ∧ w9 = (wP bd cI cG fa fb M1) ++ (wS ad cI (cnt : Int) fv fs fd))) := by
  refine gMet_I (by decide) rfl (Nat.le_of_ble_eq_true rfl) (fun E C ret => ?_)
  refine g_aload_n C dX0_countChoices_0 0 rfl ?_
  refine g_iload_n C dX0_countChoices_1 2 rfl ?_
  refine g_iload_n C dX0_countChoices_2 3 rfl ?_
  refine g_callV (wr := wS ad cI (cnt : Int) fv fs fd) (st := []) [0, 1, 2, 3, 4, 5, 6, 7, 8, 9, 10, 11, 12, 13, 14, 15, 16] [17, 18, 19, 20] C cX0_41 (met_X0_clearChoices l D cI cG cJ bd fa fb M rn hr pg hp) ⟨rfl, rfl, by decide, by decide, by decide⟩ (q0 := 0) rfl rfl (by decide) (by decide) rfl rfl (Nat.le_of_ble_eq_true rfl) dX0_countChoices_3 ?_
  rintro v9 w9 ⟨rfl, M1, h1, rfl⟩
  refine g_ws (w' := (wS ad cI (cnt : Int) fv fs fd) ++ (wP bd cI cG fa fb M1)) (st' := []) rfl rfl ?_
  refine g_perm (w' := (wP bd cI cG fa fb M1) ++ (wS ad cI (cnt : Int) fv fs fd)) [4, 5, 6, 7, 8, 9, 10, 11, 12, 13, 14, 15, 16, 17, 18, 19, 20, 0, 1, 2, 3] (by decide) rfl ?_
  refine g_iconst C dX0_countChoices_6 ?_
  refine g_istore (L' := [(4, .int (zI 0)), (0, .ref (bd 0)), (1, .ref (ad 0)), (2, .int (zI (rn : Int))), (3, .int (zI (pg : Int)))]) C dX0_countChoices_7 (by decide) rfl ?_
  have loop_9 : ∀ (fu : Nat) (i : Nat) (M2 : Nat → Nat → Int), (hi : i ≤ cnt) → (h2 : ∀ a q, a ≤ rn → q ≤ pg → M2 a q = wy fv i a q) → cnt - i < fu → gW E 0 0 ((wP bd cI cG fa fb M2) ++ (wS ad cI (cnt : Int) fv fs fd)) 9 [(4, .int (zI (i : Int))), (0, .ref (bd 0)), (1, .ref (ad 0)), (2, .int (zI (rn : Int))), (3, .int (zI (pg : Int)))] [] := by
    intro fu
    induction fu with
    | zero => intro i M2 hi h2 h9; exact absurd h9 (Nat.not_lt_zero _)
    | succ fu ih_9 =>
      intro i M2 hi h2 hmu_9
      refine g_iload C dX0_countChoices_9 0 rfl ?_
      refine g_aload_n C dX0_countChoices_11 2 rfl ?_
      refine g_getf C fX0_23 17 rfl rfl dX0_countChoices_12 ?_
      refine g_icmp_ge 37 C dX0_countChoices_15 (by decide) (zr_i (by omega) (by omega)) (zr_i (by omega) (by omega)) (fun c_15 => ?_) (fun c_15 => ?_)
      · refine g_iconst C dX0_countChoices_37 ?_
        refine g_istore (L' := [(4, .int (zI 0)), (0, .ref (bd 0)), (1, .ref (ad 0)), (2, .int (zI (rn : Int))), (3, .int (zI (pg : Int)))]) C dX0_countChoices_38 (by decide) rfl ?_
        refine g_iconst C dX0_countChoices_40 ?_
        refine g_istore (L' := [(5, .int (zI 0)), (4, .int (zI 0)), (0, .ref (bd 0)), (1, .ref (ad 0)), (2, .int (zI (rn : Int))), (3, .int (zI (pg : Int)))]) C dX0_countChoices_41 (by decide) rfl ?_
        have loop_43 : ∀ (fu : Nat) (k : Nat), (hk : k ≤ rn + 1) → rn + 1 - k < fu → gW E 0 0 ((wP bd cI cG fa fb M2) ++ (wS ad cI (cnt : Int) fv fs fd)) 43 [(5, .int (zI (k : Int))), (4, .int (zI (wsum (wy fv i) pg k))), (0, .ref (bd 0)), (1, .ref (ad 0)), (2, .int (zI (rn : Int))), (3, .int (zI (pg : Int)))] [] := by
          intro fu
          induction fu with
          | zero => intro k hk h9; exact absurd h9 (Nat.not_lt_zero _)
          | succ fu ih_43 =>
            intro k hk hmu_43
            refine g_iload C dX0_countChoices_43 0 rfl ?_
            refine g_iload_n C dX0_countChoices_45 4 rfl ?_
            refine g_icmp_gt 69 C dX0_countChoices_46 (by decide) (zr_i (by omega) (by omega)) (zr_i (by omega) (by omega)) (fun c_46 => ?_) (fun c_46 => ?_)
            · have e9 : k = rn + 1 := by omega
              subst e9
              refine g_iload C dX0_countChoices_69 1 rfl ?_
              exact ret _ _ _ _ _ _ (by decide) (by decide) dX0_countChoices_71 (⟨M2, by rw [show cnt = i by omega], rfl⟩)
            · refine g_iload C dX0_countChoices_49 1 rfl ?_
              refine g_aload_n C dX0_countChoices_51 2 rfl ?_
              refine g_getf C fX0_20 0 rfl rfl dX0_countChoices_52 ?_
              refine g_iload C dX0_countChoices_55 0 rfl ?_
              refine g_aald (y := bd (4 + k)) C 3 rfl (by decide) (by omega) (by omega) (wR_at (by omega)) dX0_countChoices_57 ?_
              refine g_iload_n C dX0_countChoices_58 5 rfl ?_
              refine g_iald C (4 + k) (wP_row (by omega)) (by decide) (by omega) (by omega) (v := (M2 k pg)) rfl dX0_countChoices_59 ?_
              refine g_top (wy fv i k pg) (h2 k pg (by omega) (Nat.le_refl _)) ?_
              refine g_iadd C dX0_countChoices_60 ?_
              refine g_istore (L' := [(4, .int (zI ((wsum (wy fv i) pg k) + (wy fv i k pg)))), (5, .int (zI (k : Int))), (0, .ref (bd 0)), (1, .ref (ad 0)), (2, .int (zI (rn : Int))), (3, .int (zI (pg : Int)))]) C dX0_countChoices_61 (by decide) rfl ?_
              refine g_iinc (L' := [(5, .int (zI ((k : Int) + 1))), (4, .int (zI ((wsum (wy fv i) pg k) + (wy fv i k pg)))), (0, .ref (bd 0)), (1, .ref (ad 0)), (2, .int (zI (rn : Int))), (3, .int (zI (pg : Int)))]) C dX0_countChoices_63 1 rfl (by decide) rfl ?_
              refine g_goto 43 C dX0_countChoices_66 (by decide) ?_
              refine g_loc (L' := [(5, .int (zI ((k : Int) + 1))), (4, .int (zI ((wsum (wy fv i) pg k) + (wy fv i k pg)))), (0, .ref (bd 0)), (1, .ref (ad 0)), (2, .int (zI (rn : Int))), (3, .int (zI (pg : Int)))]) [0, 1, 2, 3, 4, 5] rfl ?_
              exact ih_43 (k + 1) (by omega) (by omega)
        refine g_loc (L' := [(5, .int (zI 0)), (4, .int (zI 0)), (0, .ref (bd 0)), (1, .ref (ad 0)), (2, .int (zI (rn : Int))), (3, .int (zI (pg : Int)))]) [0, 1, 2, 3, 4, 5] rfl ?_
        exact loop_43 _ 0 (Nat.zero_le _) (Nat.lt_succ_self _)
      · refine g_aload_n C dX0_countChoices_18 1 rfl ?_
        refine g_aload_n C dX0_countChoices_19 2 rfl ?_
        refine g_getf C fX0_29 17 rfl rfl dX0_countChoices_20 ?_
        refine g_iload C dX0_countChoices_23 0 rfl ?_
        have hv9 := hv i (by omega)
        refine g_iald C 18 rfl (by decide) (by omega) (by omega) (v := (fv i)) rfl dX0_countChoices_25 ?_
        refine g_top (((fv i).toNat : Nat) : Int) (by omega) ?_
        refine g_iload_n C dX0_countChoices_26 3 rfl ?_
        refine g_iload_n C dX0_countChoices_27 4 rfl ?_
        refine g_callV (wr := wS ad cI (cnt : Int) fv fs fd) (st := []) [0, 1, 2, 3, 4, 5, 6, 7, 8, 9, 10, 11, 12, 13, 14, 15, 16] [17, 18, 19, 20] C cX0_45 (met_X0_addChoicesWith l D cI cG cJ bd fa fb M2 rn hr (fv i).toNat (by omega) (by omega) pg hp) ⟨rfl, rfl, by decide, by decide, by decide⟩ (q0 := 0) rfl rfl (by decide) (by decide) rfl rfl (Nat.le_of_ble_eq_true rfl) dX0_countChoices_28 ?_
        rintro v9 w9 ⟨rfl, M3, h3, rfl⟩
        refine g_ws (w' := (wS ad cI (cnt : Int) fv fs fd) ++ (wP bd cI cG fa fb M3)) (st' := []) rfl rfl ?_
        refine g_perm (w' := (wP bd cI cG fa fb M3) ++ (wS ad cI (cnt : Int) fv fs fd)) [4, 5, 6, 7, 8, 9, 10, 11, 12, 13, 14, 15, 16, 17, 18, 19, 20, 0, 1, 2, 3] (by decide) rfl ?_
        refine g_iinc (L' := [(4, .int (zI ((i : Int) + 1))), (0, .ref (bd 0)), (1, .ref (ad 0)), (2, .int (zI (rn : Int))), (3, .int (zI (pg : Int)))]) C dX0_countChoices_31 0 rfl (by decide) rfl ?_
        refine g_goto 9 C dX0_countChoices_34 (by decide) ?_
        refine g_loc (L' := [(4, .int (zI ((i : Int) + 1))), (0, .ref (bd 0)), (1, .ref (ad 0)), (2, .int (zI (rn : Int))), (3, .int (zI (pg : Int)))]) [0, 1, 2, 3, 4] rfl ?_
        exact ih_9 (i + 1) M3 (by omega) (fun a q h8 h9 => by rw [h3 a q h8 h9]; exact nw_congr a (fun b r hb hr2 => h2 b r (by omega) hr2) q h9) (by omega)
  refine g_loc (L' := [(4, .int (zI 0)), (0, .ref (bd 0)), (1, .ref (ad 0)), (2, .int (zI (rn : Int))), (3, .int (zI (pg : Int)))]) [0, 1, 2, 3, 4] rfl ?_
  exact loop_9 _ 0 M1 (Nat.zero_le _) h1 (Nat.lt_succ_self _)
end
section
/-! the answers as functions of values, stocks and room -/
theorem ordF_lt (fv : Nat → Int) : ∀ n j, j < n → ordF fv n j < n
  | 0, _, h => absurd h (Nat.not_lt_zero _)
  | n + 1, j, hj => by
    have hp := ptI_le (fv := fv) (o := ordF fv n) (x := fv n) n
    simp only [ordF, insA]
    split
    · exact Nat.lt_succ_of_lt (ordF_lt fv n j (by omega))
    · split
      · exact Nat.lt_succ_self n
      · exact Nat.lt_succ_of_lt (ordF_lt fv n (j - 1) (by omega))
theorem ordF_sur (fv : Nat → Int) : ∀ n x, x < n → ∃ j, j < n ∧ ordF fv n j = x
  | 0, _, h => absurd h (Nat.not_lt_zero _)
  | n + 1, x, hx => by
    have hp := ptI_le (fv := fv) (o := ordF fv n) (x := fv n) n
    by_cases e : x = n
    · refine ⟨ptI fv (ordF fv n) (fv n) n, by omega, ?_⟩
      simp only [ordF, insA]
      rw [if_neg (by omega)]
      simp [e]
    · obtain ⟨j, h1, h2⟩ := ordF_sur fv n x (by omega)
      by_cases h3 : j < ptI fv (ordF fv n) (fv n) n
      · refine ⟨j, by omega, ?_⟩
        simp only [ordF, insA]
        rw [if_pos h3, h2]
      · refine ⟨j + 1, by omega, ?_⟩
        simp only [ordF, insA]
        rw [if_neg (by omega), if_neg (by omega)]
        exact h2
theorem ptI_congr {fv gv : Nat → Int} {o : Nat → Nat} {x : Int} : ∀ n, (∀ j, j < n → fv (o j) = gv (o j)) → ptI fv o x n = ptI gv o x n
  | 0, _ => rfl
  | n + 1, h => by
    simp only [ptI]
    rw [ptI_congr n (fun j hj => h j (Nat.lt_succ_of_lt hj)), h n (Nat.lt_succ_self n)]
theorem ordF_congr {fv gv : Nat → Int} : ∀ n, (∀ j, j < n → fv j = gv j) → ordF fv n = ordF gv n
  | 0, _ => rfl
  | n + 1, h => by
    simp only [ordF]
    rw [ordF_congr n (fun j hj => h j (Nat.lt_succ_of_lt hj)), h n (Nat.lt_succ_self n), ptI_congr n (fun j hj => h _ (Nat.lt_succ_of_lt (ordF_lt gv n j hj)))]
def TB (cnt : Nat) (fv fs : Nat → Int) (rm : Int) : Nat → Int := tb (vsF fv cnt) (usF fv fs cnt rm) cnt
def RM (cnt : Nat) (fv fs : Nat → Int) (rm : Int) : Nat → Nat → Int := fun r => tb (vsF fv cnt) (usF fv fs cnt rm) (cnt - r)
def RV (cnt : Nat) (fv : Nat → Int) : Nat → Int := fun r => vsF fv cnt (cnt - 1 - r)
def RU (cnt : Nat) (fv fs : Nat → Int) (rm : Int) : Nat → Int := fun r => usF fv fs cnt rm (cnt - 1 - r)
def LSm (cnt : Nat) (fv fs : Nat → Int) (rm : Int) (p : Nat) : Int := fsm (TB cnt fv fs rm) rm (360 - p) p
def CH (cnt : Nat) (fv fs : Nat → Int) (rm : Int) (s : Nat) : Nat → Int := fun x => ((chm (RM cnt fv fs rm) (RV cnt fv) (RU cnt fv fs rm) s (cab fv (fv x) cnt) : Nat) : Int)
def RC (cnt : Nat) (fv fs : Nat → Int) (rm : Int) : Nat := rch (TB cnt fv fs rm) rm 300 0

theorem vs_congr {cnt : Nat} {fv gv : Nat → Int} (h1 : ∀ j, j < cnt → fv j = gv j) {j : Nat} (hj : j < cnt) : vsF fv cnt j = vsF gv cnt j := by
  simp only [vsF]
  rw [ordF_congr cnt h1]
  exact h1 _ (ordF_lt gv cnt j hj)
theorem us_congr {cnt : Nat} {fv fs gv gs : Nat → Int} {rm : Int} (h1 : ∀ j, j < cnt → fv j = gv j) (h2 : ∀ j, j < cnt → min (fs j) rm = min (gs j) rm) {j : Nat} (hj : j < cnt) : usF fv fs cnt rm j = usF gv gs cnt rm j := by
  simp only [usF]
  rw [ordF_congr cnt h1]
  exact h2 _ (ordF_lt gv cnt j hj)
theorem tbk_congr {cnt : Nat} {fv fs gv gs : Nat → Int} {rm : Int} (h1 : ∀ j, j < cnt → fv j = gv j) (h2 : ∀ j, j < cnt → min (fs j) rm = min (gs j) rm) (k : Nat) (hk : k ≤ cnt) : tb (vsF fv cnt) (usF fv fs cnt rm) k = tb (vsF gv cnt) (usF gv gs cnt rm) k := tb_congr k (fun _ hj => ⟨vs_congr h1 (by omega), us_congr h1 h2 (by omega)⟩)
theorem TBc {cnt : Nat} {fv fs gv gs : Nat → Int} {rm : Int} (h1 : ∀ j, j < cnt → fv j = gv j) (h2 : ∀ j, j < cnt → min (fs j) rm = min (gs j) rm) : TB cnt fv fs rm = TB cnt gv gs rm := tbk_congr h1 h2 cnt (Nat.le_refl _)
theorem LSmc {cnt : Nat} {fv fs gv gs : Nat → Int} {rm : Int} {p : Nat} (h1 : ∀ j, j < cnt → fv j = gv j) (h2 : ∀ j, j < cnt → min (fs j) rm = min (gs j) rm) : LSm cnt fv fs rm p = LSm cnt gv gs rm p := by
  simp only [LSm]
  rw [TBc h1 h2]
theorem RCc {cnt : Nat} {fv fs gv gs : Nat → Int} {rm : Int} (h1 : ∀ j, j < cnt → fv j = gv j) (h2 : ∀ j, j < cnt → min (fs j) rm = min (gs j) rm) : RC cnt fv fs rm = RC cnt gv gs rm := by
  simp only [RC]
  rw [TBc h1 h2]
theorem mo_congr {g g' : Nat → Int} {v nd : Int} {s : Nat} (hv : 0 ≤ v) (h : ∀ j, j ≤ s → g j = g' j) : ∀ m, mo g v nd s m = mo g' v nd s m
  | 0 => rfl
  | m + 1 => by
    have h4 : (0 : Int) ≤ ((m + 1 : Nat) : Int) * v := Int.mul_nonneg (by omega) hv
    simp only [mo]
    rw [mo_congr hv h m]
    by_cases h5 : ((m + 1 : Nat) : Int) * v ≤ (s : Int)
    · rw [h ((s : Int) - ((m + 1 : Nat) : Int) * v).toNat (by omega)]
    · rw [if_neg (fun q => h5 q.1), if_neg (fun q => h5 q.1)]
/-- what is taken hangs on the table below 360 alone -/
theorem rst_congr {M N : Nat → Nat → Int} {tv tu tv' tu' : Nat → Int} {s n : Nat} (hs : s < 360) (hv : ∀ r, r < n → 0 ≤ tv r) (h1 : ∀ r, r < n → tv r = tv' r ∧ tu r = tu' r) (h2 : ∀ r j, r ≤ n → j < 360 → M r j = N r j) : ∀ r, r ≤ n → rst M tv tu s r = rst N tv' tu' s r
  | 0, _ => rfl
  | r + 1, hr => by
    have ih := rst_congr hs hv h1 h2 r (by omega)
    have hle := rst_le (M := M) (tv := tv) (tu := tu) (s := s) r (fun j hj => hv j (by omega))
    show ((rst M tv tu s r : Int) - ((mo (M (r + 1)) (tv r) (M r (rst M tv tu s r)) (rst M tv tu s r) (tu r).toNat : Nat) : Int) * tv r).toNat = ((rst N tv' tu' s r : Int) - ((mo (N (r + 1)) (tv' r) (N r (rst N tv' tu' s r)) (rst N tv' tu' s r) (tu' r).toNat : Nat) : Int) * tv' r).toNat
    rw [← ih, h2 r (rst M tv tu s r) (by omega) (by omega), ← (h1 r (by omega)).1, ← (h1 r (by omega)).2, mo_congr (hv r (by omega)) (fun j hj => h2 (r + 1) j hr (by omega))]
theorem chm_congr {M N : Nat → Nat → Int} {tv tu tv' tu' : Nat → Int} {s n : Nat} (hs : s < 360) (hv : ∀ r, r < n → 0 ≤ tv r) (h1 : ∀ r, r < n → tv r = tv' r ∧ tu r = tu' r) (h2 : ∀ r j, r ≤ n → j < 360 → M r j = N r j) (r : Nat) (hr : r < n) : chm M tv tu s r = chm N tv' tu' s r := by
  have ih := rst_congr hs hv h1 h2 r (by omega)
  have hle := rst_le (M := M) (tv := tv) (tu := tu) (s := s) r (fun j hj => hv j (by omega))
  simp only [chm]
  rw [← ih, h2 r (rst M tv tu s r) (by omega) (by omega), ← (h1 r hr).1, ← (h1 r hr).2, mo_congr (hv r hr) (fun j hj => h2 (r + 1) j hr (by omega))]
theorem chU_rkU {M : Nat → Nat → Int} {ft tv tu fc : Nat → Int} {s : Nat} : ∀ n, chU M ft tv tu fc s n = rkU (fun r => (ft r).toNat) (fun r => ((chm M tv tu s r : Nat) : Int)) fc n
  | 0 => rfl
  | n + 1 => by
    simp only [chU, rkU]
    rw [chU_rkU n]
/-- the class's choice is CH -/
theorem chU_CH {cnt : Nat} {fv fs ft tv tu fc : Nat → Int} {rm : Int} {M : Nat → Nat → Int} {s : Nat} (hs : s < 360) (hS : Sok cnt fv fs) (hR : Rok fv fs cnt rm ft tv tu) (hM : Mok fv fs cnt rm M 0) (x : Nat) (hx : x < cnt) : chU M ft tv tu fc s cnt x = CH cnt fv fs rm s x := by
  obtain ⟨j, hj, rfl⟩ := ordF_sur fv cnt x hx
  have hk : ∀ r, r < cnt → (ft r).toNat = ordF fv cnt (cnt - 1 - r) := fun r hr => by rw [(hR r hr).1]; rfl
  have hinj : ∀ a b, a < cnt → b < cnt → (ft a).toNat = (ft b).toNat → a = b := fun a b ha hb h => by
    rw [hk a ha, hk b hb] at h
    have h1 := rank_ord hS.2.2 (j := cnt - 1 - a) (by omega)
    have h2 := rank_ord hS.2.2 (j := cnt - 1 - b) (by omega)
    rw [h, h2] at h1
    omega
  have h1 := rkU_at (k := fun r => (ft r).toNat) (g := fun r => ((chm M tv tu s r : Nat) : Int)) (f := fc) cnt hinj (cnt - 1 - j) (by omega)
  rw [hk (cnt - 1 - j) (by omega), show cnt - 1 - (cnt - 1 - j) = j by omega] at h1
  rw [chU_rkU, h1]
  simp only [CH]
  rw [rank_ord hS.2.2 hj]
  have h2 := chm_congr (M := M) (N := RM cnt fv fs rm) (tv := tv) (tu := tu) (tv' := RV cnt fv) (tu' := RU cnt fv fs rm) (n := cnt) hs (fun r hr => by have := hR.tv hS r hr; omega) (fun r hr => ⟨(hR r hr).2.1, (hR r hr).2.2⟩) (fun r j hr hj => hM r (Nat.zero_le _) hr j hj) (cnt - 1 - j) (by omega)
  rw [h2]
theorem fsm_congr {f g : Nat → Int} {rm : Int} : ∀ (n s : Nat), (∀ j, s ≤ j → j < s + n → f j = g j) → fsm f rm n s = fsm g rm n s
  | 0, _, _ => rfl
  | n + 1, s, h => by
    simp only [fsm]
    rw [h s (Nat.le_refl _) (by omega), fsm_congr n (s + 1) (fun j h1 h2 => h j (by omega) (by omega))]
theorem rch_congr {f g : Nat → Int} {rm : Int} : ∀ (n p : Nat), (∀ j, p < j → j ≤ p + n → f j = g j) → rch f rm n p = rch g rm n p
  | 0, _, _ => rfl
  | n + 1, p, h => by
    simp only [rch]
    rw [h (p + 1) (by omega) (by omega), rch_congr n (p + 1) (fun j h1 h2 => h j (by omega) (by omega))]
theorem Mok.tb0 {cnt : Nat} {fv fs : Nat → Int} {rm : Int} {M : Nat → Nat → Int} (h : Mok fv fs cnt rm M 0) {s : Nat} (hs : s < 360) : M 0 s = TB cnt fv fs rm s := h 0 (Nat.le_refl _) (Nat.zero_le _) s hs
theorem Mok.ls {cnt : Nat} {fv fs : Nat → Int} {rm : Int} {M : Nat → Nat → Int} (h : Mok fv fs cnt rm M 0) {p : Nat} (hp : p ≤ 360) : fsm (M 0) rm (360 - p) p = LSm cnt fv fs rm p := fsm_congr _ _ (fun j h1 h2 => h.tb0 (by omega))
theorem Mok.rc {cnt : Nat} {fv fs : Nat → Int} {rm : Int} {M : Nat → Nat → Int} (h : Mok fv fs cnt rm M 0) : rch (M 0) rm 300 0 = RC cnt fv fs rm := rch_congr _ _ (fun j h1 h2 => h.tb0 (by omega))
/-- the greatest sum -/
def GS (cnt : Nat) (fv fs : Nat → Int) (rm : Int) : Int := (gsm (RV cnt fv) (RU cnt fv fs rm) rm cnt).2
theorem gsm_congr {tv tu tv' tu' : Nat → Int} {rm : Int} : ∀ n, (∀ r, r < n → tv r = tv' r ∧ tu r = tu' r) → gsm tv tu rm n = gsm tv' tu' rm n
  | 0, _ => rfl
  | n + 1, h => by
    simp only [gsm]
    rw [gsm_congr n (fun r hr => h r (Nat.lt_succ_of_lt hr)), (h n (Nat.lt_succ_self n)).1, (h n (Nat.lt_succ_self n)).2]
/-- the print's table as a function -/
def PFt (fv : Nat → Int) (cnt : Nat) (more : Int) : Nat → Nat → Int
  | 0 => fun _ => 0
  | n + 1 => zU (PFt fv cnt more n) (n + 1) (pMin (PFt fv cnt more n) fv (n + 1) (stM (PFt fv cnt more n) more (n + 1)) cnt)
def PF (fv : Nat → Int) (cnt : Nat) (more : Int) : Nat → Int := PFt fv cnt more 300
theorem PFt_ok {fv : Nat → Int} {cnt : Nat} {more : Int} (hv : ∀ j, j < cnt → 1 ≤ fv j) : ∀ n, Pk fv cnt more (PFt fv cnt more n) (n + 1)
  | 0 => ⟨rfl, fun q h1 h2 => absurd h2 (by omega)⟩
  | n + 1 => (PFt_ok hv n).step (by omega) hv rfl
theorem PF_ok {fv : Nat → Int} {cnt : Nat} {more : Int} (hv : ∀ j, j < cnt → 1 ≤ fv j) : Pk fv cnt more (PF fv cnt more) 301 := PFt_ok hv 300
def RP (fv : Nat → Int) (cnt : Nat) (more rm : Int) : Nat := rch (PF fv cnt more) rm 300 0
theorem Pk.eq {fv f : Nat → Int} {cnt : Nat} {more : Int} (h : Pk fv cnt more f 301) (hv : ∀ j, j < cnt → 1 ≤ fv j) {q : Nat} (hq : q < 301) : f q = PF fv cnt more q := h.uniq (PF_ok hv) hv (fun _ _ => rfl) q hq
theorem fgp_rch {f : Nat → Int} {rm : Int} : ∀ (n p : Nat), (if fgp f rm n (p + 1) = -1 then ((p + n : Nat) : Int) else fgp f rm n (p + 1) - 1) = (rch f rm n p : Int)
  | 0, p => rfl
  | n + 1, p => by
    by_cases h : rm < f (p + 1)
    · rw [fgp_t h, rch_f (by omega)]
      rw [if_neg (by omega)]
      omega
    · rw [fgp_f h, rch_t (by omega), ← fgp_rch n (p + 1), show p + 1 + n = p + (n + 1) by omega]
theorem fgp_congr {f g : Nat → Int} {rm : Int} : ∀ (n s : Nat), (∀ j, s ≤ j → j < s + n → f j = g j) → fgp f rm n s = fgp g rm n s
  | 0, _, _ => rfl
  | n + 1, s, h => by
    simp only [fgp]
    rw [h s (Nat.le_refl _) (by omega), fgp_congr n (s + 1) (fun j h1 h2 => h j (by omega) (by omega))]
theorem cgp_congr {f g : Nat → Int} {rm : Int} : ∀ n, (∀ j, 1 ≤ j → j ≤ n → f j = g j) → cgp f rm n = cgp g rm n
  | 0, _ => rfl
  | n + 1, h => by
    simp only [cgp]
    rw [h (n + 1) (by omega) (Nat.le_refl _), cgp_congr n (fun j h1 h2 => h j h1 (by omega))]
/-- a table with one value more, capped: the class's own against the print's -/
theorem Gk_cap {fv fa g f : Nat → Int} {cnt n : Nat} {v : Int} (hv : ∀ j, j < cnt → 1 ≤ fv j) (hv1 : 1 ≤ v) (hA : Pk fv cnt 0 fa n) (hG : Gk fa v g n) (hP : Pk fv cnt v f n) : ∀ q, q < n → g q = min (f q) 1000 := by
  sorry
def hasB (fv : Nat → Int) (x : Int) : Nat → Bool
  | 0 => false
  | n + 1 => hasB fv x n || decide (fv n = x)
theorem hasB_iff {fv : Nat → Int} {x : Int} : ∀ n, hasB fv x n = true ↔ ∃ j, j < n ∧ fv j = x
  | 0 => ⟨fun h => absurd h (by simp [hasB]), fun ⟨j, h, _⟩ => absurd h (Nat.not_lt_zero _)⟩
  | n + 1 => by
    simp only [hasB, Bool.or_eq_true, decide_eq_true_eq, hasB_iff n]
    constructor
    · rintro (⟨j, h1, h2⟩ | h)
      · exact ⟨j, Nat.lt_succ_of_lt h1, h2⟩
      · exact ⟨n, Nat.lt_succ_self n, h⟩
    · rintro ⟨j, h1, h2⟩
      by_cases e : j = n
      · exact Or.inr (e ▸ h2)
      · exact Or.inl ⟨j, by omega, h2⟩
/-- the best new value, the best stamp to print again, the scarcest: best and how far -/
def bvF (fv : Nat → Int) (cnt : Nat) (rm : Int) : Nat → Int × Int
  | 0 => (-1, -1)
  | n + 1 => if hasB fv ((n + 1 : Nat) : Int) cnt = true then bvF fv cnt rm n else if (bvF fv cnt rm n).2 < (RP fv cnt ((n + 1 : Nat) : Int) rm : Int) then (((n + 1 : Nat) : Int), (RP fv cnt ((n + 1 : Nat) : Int) rm : Int)) else bvF fv cnt rm n
def bpF (cnt : Nat) (fv fs : Nat → Int) (rm : Int) : Nat → Int × Int
  | 0 => (-1, -1)
  | n + 1 => if (bpF cnt fv fs rm n).2 < (RC cnt fv (zU fs n (fs n + 20)) rm : Int) then ((n : Int), (RC cnt fv (zU fs n (fs n + 20)) rm : Int)) else bpF cnt fv fs rm n
def scF (fs : Nat → Int) : Nat → Int × Int
  | 0 => (-1, 100)
  | n + 1 => if fs n < (scF fs n).2 then ((n : Int), fs n) else scF fs n
/-- letters one behind the other -/
def sbS (cnt : Nat) (fs c : Nat → Int) : Nat → Int := cpy fs (fun j => fs j - c j) cnt
def ltr (cnt : Nat) (fv : Nat → Int) (rm : Int) (p : Nat) : Nat → (Nat → Int) → Nat
  | 0, _ => 0
  | n + 1, fs => if LSm cnt fv fs rm p = -1 then 0 else ltr cnt fv rm p n (sbS cnt fs (CH cnt fv fs rm (LSm cnt fv fs rm p).toNat)) + 1
def vsum (fv : Nat → Int) : Nat → Int
  | 0 => 0
  | n + 1 => vsum fv n + fv n
end
section
/-! the words of the throws -/
theorem LW_x0 : ∀ w ∈ (vx_at0 RX3 48 "java/lang/IllegalArgumentException" ["java/lang/RuntimeException", "java/lang/Exception"]).filter goodWord, w ∈ LW := fun w h => List.mem_append_left _ (List.mem_append_left _ (List.mem_append_right _ h))
theorem LW_x1 : ∀ w ∈ (vx_at0 RX3 58 "java/lang/IllegalStateException" ["java/lang/RuntimeException", "java/lang/Exception"]).filter goodWord, w ∈ LW := fun w h => List.mem_append_left _ (List.mem_append_right _ h)
theorem LW_x2 : ∀ w ∈ (vx_at0 RX3 198 "java/lang/IndexOutOfBoundsException" ["java/lang/RuntimeException", "java/lang/Exception"]).filter goodWord, w ∈ LW := fun w h => List.mem_append_right _ h
theorem ng_x0 : ∀ w ∈ (vx_at0 RX3 48 "java/lang/IllegalArgumentException" ["java/lang/RuntimeException", "java/lang/Exception"]).filter (fun w => !goodWord w), w ∈ NG := by decide +kernel
theorem ng_x1 : ∀ w ∈ (vx_at0 RX3 58 "java/lang/IllegalStateException" ["java/lang/RuntimeException", "java/lang/Exception"]).filter (fun w => !goodWord w), w ∈ NG := by decide +kernel
theorem ng_x2 : ∀ w ∈ (vx_at0 RX3 198 "java/lang/IndexOutOfBoundsException" ["java/lang/RuntimeException", "java/lang/Exception"]).filter (fun w => !goodWord w), w ∈ NG := by decide +kernel
theorem thX3_48 : gTh RX3 46 48 "java/lang/IllegalArgumentException" ["java/lang/RuntimeException", "java/lang/Exception"] := ⟨by decide +kernel, by decide +kernel, (mr_4 _ (List.mem_of_getElem? (i := 8) rfl)), (mr_4 _ (List.mem_of_getElem? (i := 9) rfl)), fun w h => by
  by_cases g : goodWord w = true
  · exact Or.inl (LW_x0 w (List.mem_filter.mpr ⟨h, g⟩))
  · exact Or.inr (ng_x0 w (List.mem_filter.mpr ⟨h, by simp [g]⟩)), by decide +kernel⟩
theorem thX3_58 : gTh RX3 56 58 "java/lang/IllegalStateException" ["java/lang/RuntimeException", "java/lang/Exception"] := ⟨by decide +kernel, by decide +kernel, (mr_4 _ (List.mem_of_getElem? (i := 10) rfl)), (mr_4 _ (List.mem_of_getElem? (i := 11) rfl)), fun w h => by
  by_cases g : goodWord w = true
  · exact Or.inl (LW_x1 w (List.mem_filter.mpr ⟨h, g⟩))
  · exact Or.inr (ng_x1 w (List.mem_filter.mpr ⟨h, by simp [g]⟩)), by decide +kernel⟩
theorem thX3_198 : gTh RX3 196 198 "java/lang/IndexOutOfBoundsException" ["java/lang/RuntimeException", "java/lang/Exception"] := ⟨by decide +kernel, by decide +kernel, (mr_6 _ (List.mem_of_getElem? (i := 7) rfl)), (mr_6 _ (List.mem_of_getElem? (i := 8) rfl)), fun w h => by
  by_cases g : goodWord w = true
  · exact Or.inl (LW_x2 w (List.mem_filter.mpr ⟨h, g⟩))
  · exact Or.inr (ng_x2 w (List.mem_filter.mpr ⟨h, by simp [g]⟩)), by decide +kernel⟩
abbrev IAE : String := "java/lang/IllegalArgumentException"
abbrev ISE : String := "java/lang/IllegalStateException"
abbrev IOE : String := "java/lang/IndexOutOfBoundsException"
end
section
/-! the vendor's world and state -/
def XW (h : Nat) (ad a2 bd pd : Nat → Nat) (cI cG : ClassId) (cnt : Nat) (fv fs fd : Nat → Int) (rm lt tk ov : Int) (w : va_W) : Prop := ∃ (c2 : Int) (gv gs gd : Nat → Int) (tc tr : Int) (ft tv tu fc : Nat → Int) (M : Nat → Nat → Int) (fa fb : Nat → Int) (N : Nat → Nat → Int), w = ((((wV h (ad 0) (a2 0) (bd 0) (pd 0) rm lt tk ov) ++ (wS ad cI (cnt : Int) fv fs fd)) ++ (wS a2 cI c2 gv gs gd)) ++ (wT bd cI cG tc tr ft tv tu fc M)) ++ (wP pd cI cG fa fb N)
def XI (cnt : Nat) (fv fs : Nat → Int) (rm : Int) : Prop := cnt ≤ 8 ∧ Sok cnt fv fs ∧ (∀ j, j < cnt → fs j ≤ 99) ∧ 1 ≤ rm ∧ rm ≤ 12
section WX
variable {E : gEnv} {k n : Nat} {w : va_W} {pc : Nat} {L : List (Nat × Value)} {nm : String}
theorem gx_perm {w' : va_W} (ks : List Nat) (hn : va_nd ks = true) (h : ks.map (fun i => w[i]?) = w'.map some) (K : gWx E k n w' pc L nm) : gWx E k n w pc L nm := by
  obtain ⟨p, l, e, R, s, m, args, below, meth, c, A, D, nL, Q⟩ := E
  intro H locs ls q ce st hP hD hS hl hc hv hcl
  exact K H locs ls q ce st (gP_sub hP ks h) (hD.sub ks hn h) hS hl hc hv hcl
end WX
theorem LSm_bd {cnt : Nat} {fv fs : Nat → Int} {rm : Int} {p : Nat} (hp : p ≤ 360) : LSm cnt fv fs rm p = -1 ∨ ∃ j : Nat, p ≤ j ∧ j < 360 ∧ LSm cnt fv fs rm p = (j : Int) ∧ TB cnt fv fs rm j ≤ rm := by
  rcases fsm_bd (f := TB cnt fv fs rm) (rm := rm) (360 - p) p with h | ⟨j, h1, h2, h3, h4⟩
  · exact Or.inl h
  · exact Or.inr ⟨j, h1, by omega, h3, h4⟩
theorem LSm_rg {cnt : Nat} {fv fs : Nat → Int} {rm : Int} {p : Nat} (hp : p ≤ 360) : -1 ≤ LSm cnt fv fs rm p ∧ LSm cnt fv fs rm p < 360 := by
  rcases LSm_bd (cnt := cnt) (fv := fv) (fs := fs) (rm := rm) hp with h | ⟨j, h1, h2, h3, h4⟩ <;> omega
theorem cpy_c {f c c' : Nat → Int} {n : Nat} (h : ∀ j, j < n → c j = c' j) : cpy f c n = cpy f c' n := by
  funext j
  simp only [cpy]
  by_cases h1 : j < n
  · rw [if_pos h1, if_pos h1, h j h1]
  · rw [if_neg h1, if_neg h1]
end
section
abbrev rmX3_checkStamp : Room := { frames := 6, cells := 1, slots := 6, locals := 100 }
set_option maxHeartbeats 4000000 in
set_option maxRecDepth 100000 in
theorem met_X3_checkStamp (l : Launch) (hl9 : l.stackTraces = false) (D : va_G) (cI cG cJ : ClassId) (h : Nat) (ad a2 bd pd : Nat → Nat) (cnt : Nat) (hc : cnt ≤ 8) (fv fs fd : Nat → Int) (rm lt tk ov : Int) (s : Int) (hs : zr s) : gMex l yX3_checkStamp cX3_checkStamp 2 none rmX3_checkStamp D cI cG cJ [.ref h, .int (zI s)] ((wV h (ad 0) (a2 0) (bd 0) (pd 0) rm lt tk ov) ++ (wS ad cI (cnt : Int) fv fs fd)) (gN (fun w9 => (0 ≤ s ∧ s < (cnt : Int)) ∧ w9 = (wV h (ad 0) (a2 0) (bd 0) (pd 0) rm lt tk ov) ++ (wS ad cI (cnt : Int) fv fs fd))) (fun nm w9 => nm = IOE ∧ ¬ (0 ≤ s ∧ s < (cnt : Int)) ∧ w9 = (wV h (ad 0) (a2 0) (bd 0) (pd 0) rm lt tk ov) ++ (wS ad cI (cnt : Int) fv fs fd)) := by
  refine gMex_N hl9 (by decide) rfl (Nat.le_of_ble_eq_true rfl) (fun E C ret out thr => ?_)
  refine g_iload_n C dX3_checkStamp_0 1 rfl ?_
  refine g_if_lt 15 C dX3_checkStamp_1 (by decide) hs (fun c_1 => ?_) (fun c_1 => ?_)
  · exact thr _ _ _ _ _ _ _ _ _ _ thX3_198 (by decide) (by decide) (by decide) (Nat.le_of_ble_eq_true rfl) (⟨rfl, by omega, rfl⟩) dX3_checkStamp_15 dX3_checkStamp_18 dX3_checkStamp_19 dX3_checkStamp_22
  · refine g_iload_n C dX3_checkStamp_4 1 rfl ?_
    refine g_aload_n C dX3_checkStamp_5 0 rfl ?_
    refine g_getf C fX3_12 0 rfl rfl dX3_checkStamp_6 ?_
    refine g_getf C fX3_49 1 rfl rfl dX3_checkStamp_9 ?_
    refine g_icmp_lt 23 C dX3_checkStamp_12 (by decide) hs (zr_i (by omega) (by omega)) (fun c_12 => ?_) (fun c_12 => ?_)
    · exact ret _ _ _ _ _ (by decide) (by decide) dX3_checkStamp_23 (⟨⟨by omega, by omega⟩, rfl⟩)
    · exact thr _ _ _ _ _ _ _ _ _ _ thX3_198 (by decide) (by decide) (by decide) (Nat.le_of_ble_eq_true rfl) (⟨rfl, by omega, rfl⟩) dX3_checkStamp_15 dX3_checkStamp_18 dX3_checkStamp_19 dX3_checkStamp_22
abbrev rmX3_checkPostage : Room := { frames := 6, cells := 1, slots := 6, locals := 100 }
set_option maxHeartbeats 4000000 in
set_option maxRecDepth 100000 in
theorem met_X3_checkPostage (l : Launch) (hl9 : l.stackTraces = false) (D : va_G) (cI cG cJ : ClassId) (p : Int) (hp : zr p) : gMex l yX3_checkPostage cX3_checkPostage 1 none rmX3_checkPostage D cI cG cJ [.int (zI p)] (([] : va_W)) (gN (fun w9 => (1 ≤ p ∧ p ≤ 300) ∧ w9 = [])) (fun nm w9 => nm = IAE ∧ ¬ (1 ≤ p ∧ p ≤ 300) ∧ w9 = []) := by
  refine gMex_N hl9 (by decide) rfl (Nat.le_of_ble_eq_true rfl) (fun E C ret out thr => ?_)
  refine g_iload_n C dX3_checkPostage_0 0 rfl ?_
  refine g_iconst C dX3_checkPostage_1 ?_
  refine g_icmp_lt 12 C dX3_checkPostage_2 (by decide) hp (zr_i (by omega) (by omega)) (fun c_2 => ?_) (fun c_2 => ?_)
  · exact thr _ _ _ _ _ _ _ _ _ _ thX3_48 (by decide) (by decide) (by decide) (Nat.le_of_ble_eq_true rfl) (⟨rfl, by omega, rfl⟩) dX3_checkPostage_12 dX3_checkPostage_15 dX3_checkPostage_16 dX3_checkPostage_19
  · refine g_iload_n C dX3_checkPostage_5 0 rfl ?_
    refine g_sipush C dX3_checkPostage_6 (by decide) ?_
    refine g_icmp_le 20 C dX3_checkPostage_9 (by decide) hp (zr_i (by omega) (by omega)) (fun c_9 => ?_) (fun c_9 => ?_)
    · exact ret _ _ _ _ _ (by decide) (by decide) dX3_checkPostage_20 (⟨⟨by omega, by omega⟩, rfl⟩)
    · exact thr _ _ _ _ _ _ _ _ _ _ thX3_48 (by decide) (by decide) (by decide) (Nat.le_of_ble_eq_true rfl) (⟨rfl, by omega, rfl⟩) dX3_checkPostage_12 dX3_checkPostage_15 dX3_checkPostage_16 dX3_checkPostage_19
abbrev rmX3_checkRoom : Room := { frames := 6, cells := 1, slots := 6, locals := 100 }
set_option maxHeartbeats 4000000 in
set_option maxRecDepth 100000 in
theorem met_X3_checkRoom (l : Launch) (hl9 : l.stackTraces = false) (D : va_G) (cI cG cJ : ClassId) (p : Int) (hp : zr p) : gMex l yX3_checkRoom cX3_checkRoom 1 none rmX3_checkRoom D cI cG cJ [.int (zI p)] (([] : va_W)) (gN (fun w9 => (1 ≤ p ∧ p ≤ 12) ∧ w9 = [])) (fun nm w9 => nm = IAE ∧ ¬ (1 ≤ p ∧ p ≤ 12) ∧ w9 = []) := by
  refine gMex_N hl9 (by decide) rfl (Nat.le_of_ble_eq_true rfl) (fun E C ret out thr => ?_)
  refine g_iload_n C dX3_checkRoom_0 0 rfl ?_
  refine g_iconst C dX3_checkRoom_1 ?_
  refine g_icmp_lt 11 C dX3_checkRoom_2 (by decide) hp (zr_i (by omega) (by omega)) (fun c_2 => ?_) (fun c_2 => ?_)
  · exact thr _ _ _ _ _ _ _ _ _ _ thX3_48 (by decide) (by decide) (by decide) (Nat.le_of_ble_eq_true rfl) (⟨rfl, by omega, rfl⟩) dX3_checkRoom_11 dX3_checkRoom_14 dX3_checkRoom_15 dX3_checkRoom_18
  · refine g_iload_n C dX3_checkRoom_5 0 rfl ?_
    refine g_bipush C dX3_checkRoom_6 (by decide) ?_
    refine g_icmp_le 19 C dX3_checkRoom_8 (by decide) hp (zr_i (by omega) (by omega)) (fun c_8 => ?_) (fun c_8 => ?_)
    · exact ret _ _ _ _ _ (by decide) (by decide) dX3_checkRoom_19 (⟨⟨by omega, by omega⟩, rfl⟩)
    · exact thr _ _ _ _ _ _ _ _ _ _ thX3_48 (by decide) (by decide) (by decide) (Nat.le_of_ble_eq_true rfl) (⟨rfl, by omega, rfl⟩) dX3_checkRoom_11 dX3_checkRoom_14 dX3_checkRoom_15 dX3_checkRoom_18
abbrev rmX3_stamps : Room := { frames := 0, cells := 0, slots := 0, locals := 0 }
set_option maxHeartbeats 4000000 in
set_option maxRecDepth 100000 in
theorem met_X3_stamps (l : Launch) (D : va_G) (cI cG cJ : ClassId) (h : Nat) (ad a2 bd pd : Nat → Nat) (cnt : Nat) (fv fs fd : Nat → Int) (rm lt tk ov : Int) (hI : XI cnt fv fs rm) (c2 : Int) (gv gs gd : Nat → Int) (tc tr : Int) (ft tv tu fc : Nat → Int) (M : Nat → Nat → Int) (fa fb : Nat → Int) (N : Nat → Nat → Int)  : gMet l yX3_stamps cX3_stamps 1 (some .int) rmX3_stamps D cI cG cJ [.ref h] (((((wV h (ad 0) (a2 0) (bd 0) (pd 0) rm lt tk ov) ++ (wS ad cI (cnt : Int) fv fs fd)) ++ (wS a2 cI c2 gv gs gd)) ++ (wT bd cI cG tc tr ft tv tu fc M)) ++ (wP pd cI cG fa fb N)) (gI (fun z w9 => z = (cnt : Int) ∧ XW h ad a2 bd pd cI cG cnt fv fs fd rm lt tk ov w9)) := by
  refine gMet_I (by decide) rfl (Nat.le_of_ble_eq_true rfl) (fun E C ret => ?_)
  refine g_aload_n C dX3_stamps_0 0 rfl ?_
  refine g_getf C fX3_12 0 rfl rfl dX3_stamps_1 ?_
  refine g_getf C fX3_49 1 rfl rfl dX3_stamps_4 ?_
  exact ret _ _ _ _ _ _ (by decide) (by decide) dX3_stamps_7 (⟨rfl, ⟨_, _, _, _, _, _, _, _, _, _, _, _, _, _, rfl⟩⟩)
abbrev rmX3_room : Room := { frames := 0, cells := 0, slots := 0, locals := 0 }
set_option maxHeartbeats 4000000 in
set_option maxRecDepth 100000 in
theorem met_X3_room (l : Launch) (D : va_G) (cI cG cJ : ClassId) (h : Nat) (ad a2 bd pd : Nat → Nat) (cnt : Nat) (fv fs fd : Nat → Int) (rm lt tk ov : Int) (hI : XI cnt fv fs rm) (c2 : Int) (gv gs gd : Nat → Int) (tc tr : Int) (ft tv tu fc : Nat → Int) (M : Nat → Nat → Int) (fa fb : Nat → Int) (N : Nat → Nat → Int)  : gMet l yX3_room cX3_room 1 (some .int) rmX3_room D cI cG cJ [.ref h] (((((wV h (ad 0) (a2 0) (bd 0) (pd 0) rm lt tk ov) ++ (wS ad cI (cnt : Int) fv fs fd)) ++ (wS a2 cI c2 gv gs gd)) ++ (wT bd cI cG tc tr ft tv tu fc M)) ++ (wP pd cI cG fa fb N)) (gI (fun z w9 => z = rm ∧ XW h ad a2 bd pd cI cG cnt fv fs fd rm lt tk ov w9)) := by
  refine gMet_I (by decide) rfl (Nat.le_of_ble_eq_true rfl) (fun E C ret => ?_)
  refine g_aload_n C dX3_room_0 0 rfl ?_
  refine g_getf C fX3_33 0 rfl rfl dX3_room_1 ?_
  exact ret _ _ _ _ _ _ (by decide) (by decide) dX3_room_4 (⟨rfl, ⟨_, _, _, _, _, _, _, _, _, _, _, _, _, _, rfl⟩⟩)
abbrev rmX3_letters : Room := { frames := 0, cells := 0, slots := 0, locals := 0 }
set_option maxHeartbeats 4000000 in
set_option maxRecDepth 100000 in
theorem met_X3_letters (l : Launch) (D : va_G) (cI cG cJ : ClassId) (h : Nat) (ad a2 bd pd : Nat → Nat) (cnt : Nat) (fv fs fd : Nat → Int) (rm lt tk ov : Int) (hI : XI cnt fv fs rm) (c2 : Int) (gv gs gd : Nat → Int) (tc tr : Int) (ft tv tu fc : Nat → Int) (M : Nat → Nat → Int) (fa fb : Nat → Int) (N : Nat → Nat → Int)  : gMet l yX3_letters cX3_letters 1 (some .int) rmX3_letters D cI cG cJ [.ref h] (((((wV h (ad 0) (a2 0) (bd 0) (pd 0) rm lt tk ov) ++ (wS ad cI (cnt : Int) fv fs fd)) ++ (wS a2 cI c2 gv gs gd)) ++ (wT bd cI cG tc tr ft tv tu fc M)) ++ (wP pd cI cG fa fb N)) (gI (fun z w9 => z = lt ∧ XW h ad a2 bd pd cI cG cnt fv fs fd rm lt tk ov w9)) := by
  refine gMet_I (by decide) rfl (Nat.le_of_ble_eq_true rfl) (fun E C ret => ?_)
  refine g_aload_n C dX3_letters_0 0 rfl ?_
  refine g_getf C fX3_37 0 rfl rfl dX3_letters_1 ?_
  exact ret _ _ _ _ _ _ (by decide) (by decide) dX3_letters_4 (⟨rfl, ⟨_, _, _, _, _, _, _, _, _, _, _, _, _, _, rfl⟩⟩)
abbrev rmX3_taken : Room := { frames := 0, cells := 0, slots := 0, locals := 0 }
set_option maxHeartbeats 4000000 in
set_option maxRecDepth 100000 in
theorem met_X3_taken (l : Launch) (D : va_G) (cI cG cJ : ClassId) (h : Nat) (ad a2 bd pd : Nat → Nat) (cnt : Nat) (fv fs fd : Nat → Int) (rm lt tk ov : Int) (hI : XI cnt fv fs rm) (c2 : Int) (gv gs gd : Nat → Int) (tc tr : Int) (ft tv tu fc : Nat → Int) (M : Nat → Nat → Int) (fa fb : Nat → Int) (N : Nat → Nat → Int)  : gMet l yX3_taken cX3_taken 1 (some .int) rmX3_taken D cI cG cJ [.ref h] (((((wV h (ad 0) (a2 0) (bd 0) (pd 0) rm lt tk ov) ++ (wS ad cI (cnt : Int) fv fs fd)) ++ (wS a2 cI c2 gv gs gd)) ++ (wT bd cI cG tc tr ft tv tu fc M)) ++ (wP pd cI cG fa fb N)) (gI (fun z w9 => z = tk ∧ XW h ad a2 bd pd cI cG cnt fv fs fd rm lt tk ov w9)) := by
  refine gMet_I (by decide) rfl (Nat.le_of_ble_eq_true rfl) (fun E C ret => ?_)
  refine g_aload_n C dX3_taken_0 0 rfl ?_
  refine g_getf C fX3_40 0 rfl rfl dX3_taken_1 ?_
  exact ret _ _ _ _ _ _ (by decide) (by decide) dX3_taken_4 (⟨rfl, ⟨_, _, _, _, _, _, _, _, _, _, _, _, _, _, rfl⟩⟩)
abbrev rmX3_overpaid : Room := { frames := 0, cells := 0, slots := 0, locals := 0 }
set_option maxHeartbeats 4000000 in
set_option maxRecDepth 100000 in
theorem met_X3_overpaid (l : Launch) (D : va_G) (cI cG cJ : ClassId) (h : Nat) (ad a2 bd pd : Nat → Nat) (cnt : Nat) (fv fs fd : Nat → Int) (rm lt tk ov : Int) (hI : XI cnt fv fs rm) (c2 : Int) (gv gs gd : Nat → Int) (tc tr : Int) (ft tv tu fc : Nat → Int) (M : Nat → Nat → Int) (fa fb : Nat → Int) (N : Nat → Nat → Int)  : gMet l yX3_overpaid cX3_overpaid 1 (some .int) rmX3_overpaid D cI cG cJ [.ref h] (((((wV h (ad 0) (a2 0) (bd 0) (pd 0) rm lt tk ov) ++ (wS ad cI (cnt : Int) fv fs fd)) ++ (wS a2 cI c2 gv gs gd)) ++ (wT bd cI cG tc tr ft tv tu fc M)) ++ (wP pd cI cG fa fb N)) (gI (fun z w9 => z = ov ∧ XW h ad a2 bd pd cI cG cnt fv fs fd rm lt tk ov w9)) := by
  refine gMet_I (by decide) rfl (Nat.le_of_ble_eq_true rfl) (fun E C ret => ?_)
  refine g_aload_n C dX3_overpaid_0 0 rfl ?_
  refine g_getf C fX3_43 0 rfl rfl dX3_overpaid_1 ?_
  exact ret _ _ _ _ _ _ (by decide) (by decide) dX3_overpaid_4 (⟨rfl, ⟨_, _, _, _, _, _, _, _, _, _, _, _, _, _, rfl⟩⟩)
abbrev rmX3_valueOf : Room := { frames := 7, cells := 1, slots := 6, locals := 130 }
set_option maxHeartbeats 4000000 in
set_option maxRecDepth 100000 in
theorem met_X3_valueOf (l : Launch) (hl9 : l.stackTraces = false) (D : va_G) (cI cG cJ : ClassId) (h : Nat) (ad a2 bd pd : Nat → Nat) (cnt : Nat) (fv fs fd : Nat → Int) (rm lt tk ov : Int) (hI : XI cnt fv fs rm) (c2 : Int) (gv gs gd : Nat → Int) (tc tr : Int) (ft tv tu fc : Nat → Int) (M : Nat → Nat → Int) (fa fb : Nat → Int) (N : Nat → Nat → Int) (s : Int) (hs : zr s) : gMex l yX3_valueOf cX3_valueOf 2 (some .int) rmX3_valueOf D cI cG cJ [.ref h, .int (zI s)] (((((wV h (ad 0) (a2 0) (bd 0) (pd 0) rm lt tk ov) ++ (wS ad cI (cnt : Int) fv fs fd)) ++ (wS a2 cI c2 gv gs gd)) ++ (wT bd cI cG tc tr ft tv tu fc M)) ++ (wP pd cI cG fa fb N)) (gI (fun z w9 => ((0 ≤ s ∧ s < (cnt : Int)) ∧ z = fv s.toNat) ∧ XW h ad a2 bd pd cI cG cnt fv fs fd rm lt tk ov w9)) (fun nm w9 => nm = IOE ∧ ¬ (0 ≤ s ∧ s < (cnt : Int)) ∧ XW h ad a2 bd pd cI cG cnt fv fs fd rm lt tk ov w9) := by
  obtain ⟨hc, hS, h99, hr1, hr2⟩ := id hI
  have hr : 0 ≤ rm ∧ rm ≤ 12 := ⟨by omega, hr2⟩
  have hv1 : ∀ j, j < cnt → 1 ≤ fv j := fun j hj => (hS.1 j hj).1
  refine gMex_I hl9 (by decide) rfl (Nat.le_of_ble_eq_true rfl) (fun E C ret out thr => ?_)
  refine g_aload_n C dX3_valueOf_0 0 rfl ?_
  refine g_iload_n C dX3_valueOf_1 1 rfl ?_
  refine g_callVX (wr := ((wS a2 cI c2 gv gs gd) ++ (wT bd cI cG tc tr ft tv tu fc M)) ++ (wP pd cI cG fa fb N)) (st := []) [0, 1, 2, 3, 4] [5, 6, 7, 8, 9, 10, 11, 12, 13, 14, 15, 16, 17, 18, 19, 20, 21, 22, 23, 24, 25, 26, 27, 28, 29, 30, 31, 32, 33, 34, 35, 36, 37, 38, 39, 40] C cX3_63 (met_X3_checkStamp l hl9 D cI cG cJ h ad a2 bd pd cnt hc fv fs fd rm lt tk ov s hs) ⟨rfl, rfl, by decide, by decide, by decide⟩ (q0 := 0) rfl rfl (by decide) (by decide) rfl rfl (Nat.le_of_ble_eq_true rfl) dX3_valueOf_2 (fun nm9 w9 h9 => ?_) ?_
  · obtain ⟨rfl, h8, rfl⟩ := h9
    refine gx_perm (w' := ((((wV h (ad 0) (a2 0) (bd 0) (pd 0) rm lt tk ov) ++ (wS ad cI (cnt : Int) fv fs fd)) ++ (wS a2 cI c2 gv gs gd)) ++ (wT bd cI cG tc tr ft tv tu fc M)) ++ (wP pd cI cG fa fb N)) [36, 37, 38, 39, 40, 0, 1, 2, 3, 4, 5, 6, 7, 8, 9, 10, 11, 12, 13, 14, 15, 16, 17, 18, 19, 20, 21, 22, 23, 24, 25, 26, 27, 28, 29, 30, 31, 32, 33, 34, 35] (by decide) rfl ?_
    exact out _ _ _ _ _ _ (by decide) (by decide) (⟨rfl, h8, ⟨_, _, _, _, _, _, _, _, _, _, _, _, _, _, rfl⟩⟩)
  rintro v9 w9 ⟨rfl, hs9, rfl⟩
  obtain ⟨j, rfl⟩ : ∃ j : Nat, s = (j : Int) := ⟨s.toNat, by omega⟩
  refine g_ws (w' := ((((wS a2 cI c2 gv gs gd) ++ (wT bd cI cG tc tr ft tv tu fc M)) ++ (wP pd cI cG fa fb N)) ++ (wV h (ad 0) (a2 0) (bd 0) (pd 0) rm lt tk ov)) ++ (wS ad cI (cnt : Int) fv fs fd)) (st' := []) rfl rfl ?_
  refine g_perm (w' := ((((wV h (ad 0) (a2 0) (bd 0) (pd 0) rm lt tk ov) ++ (wS ad cI (cnt : Int) fv fs fd)) ++ (wS a2 cI c2 gv gs gd)) ++ (wT bd cI cG tc tr ft tv tu fc M)) ++ (wP pd cI cG fa fb N)) [36, 37, 38, 39, 40, 0, 1, 2, 3, 4, 5, 6, 7, 8, 9, 10, 11, 12, 13, 14, 15, 16, 17, 18, 19, 20, 21, 22, 23, 24, 25, 26, 27, 28, 29, 30, 31, 32, 33, 34, 35] (by decide) rfl ?_
  refine g_aload_n C dX3_valueOf_5 0 rfl ?_
  refine g_getf C fX3_12 0 rfl rfl dX3_valueOf_6 ?_
  refine g_getf C fX3_103 1 rfl rfl dX3_valueOf_9 ?_
  refine g_iload_n C dX3_valueOf_12 1 rfl ?_
  refine g_iald C 2 rfl (by decide) (by omega) (by omega) (v := (fv j)) rfl dX3_valueOf_13 ?_
  exact ret _ _ _ _ _ _ (by decide) (by decide) dX3_valueOf_14 (⟨⟨hs9, rfl⟩, ⟨_, _, _, _, _, _, _, _, _, _, _, _, _, _, rfl⟩⟩)
abbrev rmX3_stockOf : Room := { frames := 7, cells := 1, slots := 6, locals := 130 }
set_option maxHeartbeats 4000000 in
set_option maxRecDepth 100000 in
theorem met_X3_stockOf (l : Launch) (hl9 : l.stackTraces = false) (D : va_G) (cI cG cJ : ClassId) (h : Nat) (ad a2 bd pd : Nat → Nat) (cnt : Nat) (fv fs fd : Nat → Int) (rm lt tk ov : Int) (hI : XI cnt fv fs rm) (c2 : Int) (gv gs gd : Nat → Int) (tc tr : Int) (ft tv tu fc : Nat → Int) (M : Nat → Nat → Int) (fa fb : Nat → Int) (N : Nat → Nat → Int) (s : Int) (hs : zr s) : gMex l yX3_stockOf cX3_stockOf 2 (some .int) rmX3_stockOf D cI cG cJ [.ref h, .int (zI s)] (((((wV h (ad 0) (a2 0) (bd 0) (pd 0) rm lt tk ov) ++ (wS ad cI (cnt : Int) fv fs fd)) ++ (wS a2 cI c2 gv gs gd)) ++ (wT bd cI cG tc tr ft tv tu fc M)) ++ (wP pd cI cG fa fb N)) (gI (fun z w9 => ((0 ≤ s ∧ s < (cnt : Int)) ∧ z = fs s.toNat) ∧ XW h ad a2 bd pd cI cG cnt fv fs fd rm lt tk ov w9)) (fun nm w9 => nm = IOE ∧ ¬ (0 ≤ s ∧ s < (cnt : Int)) ∧ XW h ad a2 bd pd cI cG cnt fv fs fd rm lt tk ov w9) := by
  obtain ⟨hc, hS, h99, hr1, hr2⟩ := id hI
  have hr : 0 ≤ rm ∧ rm ≤ 12 := ⟨by omega, hr2⟩
  have hv1 : ∀ j, j < cnt → 1 ≤ fv j := fun j hj => (hS.1 j hj).1
  refine gMex_I hl9 (by decide) rfl (Nat.le_of_ble_eq_true rfl) (fun E C ret out thr => ?_)
  refine g_aload_n C dX3_stockOf_0 0 rfl ?_
  refine g_iload_n C dX3_stockOf_1 1 rfl ?_
  refine g_callVX (wr := ((wS a2 cI c2 gv gs gd) ++ (wT bd cI cG tc tr ft tv tu fc M)) ++ (wP pd cI cG fa fb N)) (st := []) [0, 1, 2, 3, 4] [5, 6, 7, 8, 9, 10, 11, 12, 13, 14, 15, 16, 17, 18, 19, 20, 21, 22, 23, 24, 25, 26, 27, 28, 29, 30, 31, 32, 33, 34, 35, 36, 37, 38, 39, 40] C cX3_63 (met_X3_checkStamp l hl9 D cI cG cJ h ad a2 bd pd cnt hc fv fs fd rm lt tk ov s hs) ⟨rfl, rfl, by decide, by decide, by decide⟩ (q0 := 0) rfl rfl (by decide) (by decide) rfl rfl (Nat.le_of_ble_eq_true rfl) dX3_stockOf_2 (fun nm9 w9 h9 => ?_) ?_
  · obtain ⟨rfl, h8, rfl⟩ := h9
    refine gx_perm (w' := ((((wV h (ad 0) (a2 0) (bd 0) (pd 0) rm lt tk ov) ++ (wS ad cI (cnt : Int) fv fs fd)) ++ (wS a2 cI c2 gv gs gd)) ++ (wT bd cI cG tc tr ft tv tu fc M)) ++ (wP pd cI cG fa fb N)) [36, 37, 38, 39, 40, 0, 1, 2, 3, 4, 5, 6, 7, 8, 9, 10, 11, 12, 13, 14, 15, 16, 17, 18, 19, 20, 21, 22, 23, 24, 25, 26, 27, 28, 29, 30, 31, 32, 33, 34, 35] (by decide) rfl ?_
    exact out _ _ _ _ _ _ (by decide) (by decide) (⟨rfl, h8, ⟨_, _, _, _, _, _, _, _, _, _, _, _, _, _, rfl⟩⟩)
  rintro v9 w9 ⟨rfl, hs9, rfl⟩
  obtain ⟨j, rfl⟩ : ∃ j : Nat, s = (j : Int) := ⟨s.toNat, by omega⟩
  refine g_ws (w' := ((((wS a2 cI c2 gv gs gd) ++ (wT bd cI cG tc tr ft tv tu fc M)) ++ (wP pd cI cG fa fb N)) ++ (wV h (ad 0) (a2 0) (bd 0) (pd 0) rm lt tk ov)) ++ (wS ad cI (cnt : Int) fv fs fd)) (st' := []) rfl rfl ?_
  refine g_perm (w' := ((((wV h (ad 0) (a2 0) (bd 0) (pd 0) rm lt tk ov) ++ (wS ad cI (cnt : Int) fv fs fd)) ++ (wS a2 cI c2 gv gs gd)) ++ (wT bd cI cG tc tr ft tv tu fc M)) ++ (wP pd cI cG fa fb N)) [36, 37, 38, 39, 40, 0, 1, 2, 3, 4, 5, 6, 7, 8, 9, 10, 11, 12, 13, 14, 15, 16, 17, 18, 19, 20, 21, 22, 23, 24, 25, 26, 27, 28, 29, 30, 31, 32, 33, 34, 35] (by decide) rfl ?_
  refine g_aload_n C dX3_stockOf_5 0 rfl ?_
  refine g_getf C fX3_12 0 rfl rfl dX3_stockOf_6 ?_
  refine g_getf C fX3_67 1 rfl rfl dX3_stockOf_9 ?_
  refine g_iload_n C dX3_stockOf_12 1 rfl ?_
  refine g_iald C 3 rfl (by decide) (by omega) (by omega) (v := (fs j)) rfl dX3_stockOf_13 ?_
  exact ret _ _ _ _ _ _ (by decide) (by decide) dX3_stockOf_14 (⟨⟨hs9, rfl⟩, ⟨_, _, _, _, _, _, _, _, _, _, _, _, _, _, rfl⟩⟩)
abbrev rmX3_vendedOf : Room := { frames := 7, cells := 1, slots := 6, locals := 130 }
set_option maxHeartbeats 4000000 in
set_option maxRecDepth 100000 in
theorem met_X3_vendedOf (l : Launch) (hl9 : l.stackTraces = false) (D : va_G) (cI cG cJ : ClassId) (h : Nat) (ad a2 bd pd : Nat → Nat) (cnt : Nat) (fv fs fd : Nat → Int) (rm lt tk ov : Int) (hI : XI cnt fv fs rm) (c2 : Int) (gv gs gd : Nat → Int) (tc tr : Int) (ft tv tu fc : Nat → Int) (M : Nat → Nat → Int) (fa fb : Nat → Int) (N : Nat → Nat → Int) (s : Int) (hs : zr s) : gMex l yX3_vendedOf cX3_vendedOf 2 (some .int) rmX3_vendedOf D cI cG cJ [.ref h, .int (zI s)] (((((wV h (ad 0) (a2 0) (bd 0) (pd 0) rm lt tk ov) ++ (wS ad cI (cnt : Int) fv fs fd)) ++ (wS a2 cI c2 gv gs gd)) ++ (wT bd cI cG tc tr ft tv tu fc M)) ++ (wP pd cI cG fa fb N)) (gI (fun z w9 => ((0 ≤ s ∧ s < (cnt : Int)) ∧ z = fd s.toNat) ∧ XW h ad a2 bd pd cI cG cnt fv fs fd rm lt tk ov w9)) (fun nm w9 => nm = IOE ∧ ¬ (0 ≤ s ∧ s < (cnt : Int)) ∧ XW h ad a2 bd pd cI cG cnt fv fs fd rm lt tk ov w9) := by
  obtain ⟨hc, hS, h99, hr1, hr2⟩ := id hI
  have hr : 0 ≤ rm ∧ rm ≤ 12 := ⟨by omega, hr2⟩
  have hv1 : ∀ j, j < cnt → 1 ≤ fv j := fun j hj => (hS.1 j hj).1
  refine gMex_I hl9 (by decide) rfl (Nat.le_of_ble_eq_true rfl) (fun E C ret out thr => ?_)
  refine g_aload_n C dX3_vendedOf_0 0 rfl ?_
  refine g_iload_n C dX3_vendedOf_1 1 rfl ?_
  refine g_callVX (wr := ((wS a2 cI c2 gv gs gd) ++ (wT bd cI cG tc tr ft tv tu fc M)) ++ (wP pd cI cG fa fb N)) (st := []) [0, 1, 2, 3, 4] [5, 6, 7, 8, 9, 10, 11, 12, 13, 14, 15, 16, 17, 18, 19, 20, 21, 22, 23, 24, 25, 26, 27, 28, 29, 30, 31, 32, 33, 34, 35, 36, 37, 38, 39, 40] C cX3_63 (met_X3_checkStamp l hl9 D cI cG cJ h ad a2 bd pd cnt hc fv fs fd rm lt tk ov s hs) ⟨rfl, rfl, by decide, by decide, by decide⟩ (q0 := 0) rfl rfl (by decide) (by decide) rfl rfl (Nat.le_of_ble_eq_true rfl) dX3_vendedOf_2 (fun nm9 w9 h9 => ?_) ?_
  · obtain ⟨rfl, h8, rfl⟩ := h9
    refine gx_perm (w' := ((((wV h (ad 0) (a2 0) (bd 0) (pd 0) rm lt tk ov) ++ (wS ad cI (cnt : Int) fv fs fd)) ++ (wS a2 cI c2 gv gs gd)) ++ (wT bd cI cG tc tr ft tv tu fc M)) ++ (wP pd cI cG fa fb N)) [36, 37, 38, 39, 40, 0, 1, 2, 3, 4, 5, 6, 7, 8, 9, 10, 11, 12, 13, 14, 15, 16, 17, 18, 19, 20, 21, 22, 23, 24, 25, 26, 27, 28, 29, 30, 31, 32, 33, 34, 35] (by decide) rfl ?_
    exact out _ _ _ _ _ _ (by decide) (by decide) (⟨rfl, h8, ⟨_, _, _, _, _, _, _, _, _, _, _, _, _, _, rfl⟩⟩)
  rintro v9 w9 ⟨rfl, hs9, rfl⟩
  obtain ⟨j, rfl⟩ : ∃ j : Nat, s = (j : Int) := ⟨s.toNat, by omega⟩
  refine g_ws (w' := ((((wS a2 cI c2 gv gs gd) ++ (wT bd cI cG tc tr ft tv tu fc M)) ++ (wP pd cI cG fa fb N)) ++ (wV h (ad 0) (a2 0) (bd 0) (pd 0) rm lt tk ov)) ++ (wS ad cI (cnt : Int) fv fs fd)) (st' := []) rfl rfl ?_
  refine g_perm (w' := ((((wV h (ad 0) (a2 0) (bd 0) (pd 0) rm lt tk ov) ++ (wS ad cI (cnt : Int) fv fs fd)) ++ (wS a2 cI c2 gv gs gd)) ++ (wT bd cI cG tc tr ft tv tu fc M)) ++ (wP pd cI cG fa fb N)) [36, 37, 38, 39, 40, 0, 1, 2, 3, 4, 5, 6, 7, 8, 9, 10, 11, 12, 13, 14, 15, 16, 17, 18, 19, 20, 21, 22, 23, 24, 25, 26, 27, 28, 29, 30, 31, 32, 33, 34, 35] (by decide) rfl ?_
  refine g_aload_n C dX3_vendedOf_5 0 rfl ?_
  refine g_getf C fX3_12 0 rfl rfl dX3_vendedOf_6 ?_
  refine g_getf C fX3_106 1 rfl rfl dX3_vendedOf_9 ?_
  refine g_iload_n C dX3_vendedOf_12 1 rfl ?_
  refine g_iald C 4 rfl (by decide) (by omega) (by omega) (v := (fd j)) rfl dX3_vendedOf_13 ?_
  exact ret _ _ _ _ _ _ (by decide) (by decide) dX3_vendedOf_14 (⟨⟨hs9, rfl⟩, ⟨_, _, _, _, _, _, _, _, _, _, _, _, _, _, rfl⟩⟩)
end
