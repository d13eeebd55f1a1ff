/-! the law's words stand among the tables' words -/
set_option maxRecDepth 20000 in
theorem lr_1 : ∀ w ∈ wsL_law0_r1, w ∈ lw_tbl := fun w h => (goodIn_p wsL_law0_r1 [216, 26, 29] (by decide +kernel) (by decide +kernel) w h).1
set_option maxRecDepth 20000 in
theorem lr_2 : ∀ w ∈ wsL_law0_r2, w ∈ lw_tbl := fun w h => (goodIn_p wsL_law0_r2 [34, 63] (by decide +kernel) (by decide +kernel) w h).1
set_option maxRecDepth 20000 in
theorem lr_3 : ∀ w ∈ wsL_law0_r3, w ∈ lw_tbl := fun w h => (goodIn_p wsL_law0_r3 [94, 589, 593] (by decide +kernel) (by decide +kernel) w h).1
set_option maxRecDepth 20000 in
theorem lr_4 : ∀ w ∈ wsL_law0_r4, w ∈ lw_tbl := fun w h => (goodIn_p wsL_law0_r4 [548, 544, 586, 438, 474, 556] (by decide +kernel) (by decide +kernel) w h).1
set_option maxRecDepth 20000 in
theorem lr_5 : ∀ w ∈ wsL_law0_r5, w ∈ lw_tbl := fun w h => (goodIn_p wsL_law0_r5 [561, 423, 565, 568] (by decide +kernel) (by decide +kernel) w h).1
set_option maxRecDepth 20000 in
theorem lr_6 : ∀ w ∈ wsL_law0_r6, w ∈ lw_tbl := fun w h => (goodIn_p wsL_law0_r6 [573, 271, 577, 581, 478] (by decide +kernel) (by decide +kernel) w h).1
set_option maxRecDepth 20000 in
theorem lr_7 : ∀ w ∈ wsL_law0_r7, w ∈ lw_tbl := fun w h => (goodIn_p wsL_law0_r7 [482, 486, 498, 135] (by decide +kernel) (by decide +kernel) w h).1
set_option maxRecDepth 20000 in
theorem lr_8 : ∀ w ∈ wsL_law0_r8, w ∈ lw_tbl := fun w h => (goodIn_p wsL_law0_r8 [138, 205, 209, 213, 220] (by decide +kernel) (by decide +kernel) w h).1
set_option maxRecDepth 20000 in
theorem lr_9 : ∀ w ∈ wsL_law0_r9, w ∈ lw_tbl := fun w h => (goodIn_p wsL_law0_r9 [224, 228, 247, 251, 255, 446] (by decide +kernel) (by decide +kernel) w h).1
set_option maxRecDepth 20000 in
theorem lr_10 : ∀ w ∈ wsL_law0_r10, w ∈ lw_tbl := fun w h => (goodIn_p wsL_law0_r10 [259, 263, 454, 298, 302] (by decide +kernel) (by decide +kernel) w h).1
set_option maxRecDepth 20000 in
theorem lr_11 : ∀ w ∈ wsL_law0_r11, w ∈ lw_tbl := fun w h => (goodIn_p wsL_law0_r11 [306, 336, 340, 344, 349, 382] (by decide +kernel) (by decide +kernel) w h).1
set_option maxRecDepth 20000 in
theorem lr_12 : ∀ w ∈ wsL_law0_r12, w ∈ lw_tbl := fun w h => (goodIn_p wsL_law0_r12 [357, 386, 390, 419, 427] (by decide +kernel) (by decide +kernel) w h).1
set_option maxRecDepth 20000 in
theorem lr_13 : ∀ w ∈ wsL_law0_r13, w ∈ lw_tbl := fun w h => (goodIn_p wsL_law0_r13 [431, 411, 466, 470, 319, 328] (by decide +kernel) (by decide +kernel) w h).1
set_option maxRecDepth 20000 in
theorem lr_14 : ∀ w ∈ wsL_law0_r14, w ∈ lw_tbl := fun w h => (goodIn_p wsL_law0_r14 [362, 267, 290, 294] (by decide +kernel) (by decide +kernel) w h).1
set_option maxRecDepth 20000 in
theorem lr_15 : ∀ w ∈ wsL_law0_r15, w ∈ lw_tbl := fun w h => (goodIn_p wsL_law0_r15 [442, 315, 332, 324, 310, 353] (by decide +kernel) (by decide +kernel) w h).1
set_option maxRecDepth 20000 in
theorem lr_16 : ∀ w ∈ wsL_law0_r16, w ∈ lw_tbl := fun w h => (goodIn_p wsL_law0_r16 [366, 370, 374, 378, 394, 399] (by decide +kernel) (by decide +kernel) w h).1
set_option maxRecDepth 20000 in
theorem lr_17 : ∀ w ∈ wsL_law0_r17, w ∈ lw_tbl := fun w h => (goodIn_p wsL_law0_r17 [403, 435, 502, 505, 628] (by decide +kernel) (by decide +kernel) w h).1
set_option maxRecDepth 20000 in
theorem lr_18 : ∀ w ∈ wsL_law0_r18, w ∈ lw_tbl := fun w h => (goodIn_p wsL_law0_r18 [632, 535, 539, 407] (by decide +kernel) (by decide +kernel) w h).1
set_option maxRecDepth 20000 in
theorem lr_19 : ∀ w ∈ wsL_law0_r19, w ∈ lw_tbl := fun w h => (goodIn_p wsL_law0_r19 [415, 509, 517, 521] (by decide +kernel) (by decide +kernel) w h).1
set_option maxRecDepth 20000 in
theorem lr_20 : ∀ w ∈ wsL_law0_r20, w ∈ lw_tbl := fun w h => (goodIn_p wsL_law0_r20 [] (by decide +kernel) (by decide +kernel) w h).1
theorem lr_X3 : ∀ w ∈ wsX30, w ∈ lw_tbl := by decide +kernel
theorem lr_X1 : ∀ w ∈ wsX10, w ∈ lw_tbl := by decide +kernel
theorem lr_X2 : ∀ w ∈ wsX20, w ∈ lw_tbl := by decide +kernel
theorem lr_X0 : ∀ w ∈ wsX00, w ∈ lw_tbl := by decide +kernel
theorem lr_X4 : ∀ w ∈ wsX40, w ∈ lw_tbl := by decide +kernel
theorem lr_x0 : ∀ w ∈ (vx_at0 RX3 48 "java/lang/IllegalArgumentException" ["java/lang/RuntimeException", "java/lang/Exception"]).filter goodWord, w ∈ lw_tbl := by decide +kernel
theorem lr_x1 : ∀ w ∈ (vx_at0 RX3 58 "java/lang/IllegalStateException" ["java/lang/RuntimeException", "java/lang/Exception"]).filter goodWord, w ∈ lw_tbl := by decide +kernel
theorem lr_x2 : ∀ w ∈ (vx_at0 RX3 198 "java/lang/IndexOutOfBoundsException" ["java/lang/RuntimeException", "java/lang/Exception"]).filter goodWord, w ∈ lw_tbl := by decide +kernel
theorem lr_or {a b : List Cond} (h1 : ∀ w ∈ a, w ∈ lw_tbl) (h2 : ∀ w ∈ b, w ∈ lw_tbl) : ∀ w ∈ a ++ b, w ∈ lw_tbl := fun w h => (List.mem_append.mp h).elim (h1 w) (h2 w)
theorem lr_cl : ∀ w ∈ ([Cond.methodLink RX4 37 ⟨"[[I", "clone", "()Ljava/lang/Object;"⟩, Cond.sameMethod "[[I" "java/lang/Object" "clone" "()Ljava/lang/Object;", Cond.selects "[[I" ⟨"[[I", "clone", "()Ljava/lang/Object;"⟩ ⟨"java/lang/Object", "clone", "()Ljava/lang/Object;"⟩] : List Cond), w ∈ lw_tbl := by decide +kernel
theorem lr_law0 : ∀ w ∈ wsL_law0, w ∈ lw_tbl := (lr_or (lr_or (lr_or (lr_or (lr_or (lr_or (lr_or lr_1 (lr_or lr_2 (lr_or lr_3 (lr_or lr_4 (lr_or lr_5 (lr_or lr_6 (lr_or lr_7 (lr_or lr_8 (lr_or lr_9 (lr_or lr_10 (lr_or lr_11 (lr_or lr_12 (lr_or lr_13 (lr_or lr_14 (lr_or lr_15 (lr_or lr_16 (lr_or lr_17 (lr_or lr_18 (lr_or lr_19 lr_20))))))))))))))))))) lr_X3) lr_X1) lr_X2) lr_X0) lr_X4) lr_cl)
theorem lr_law : ∀ w ∈ LW, w ∈ lw_tbl := (lr_or (lr_or (lr_or lr_law0 lr_x0) lr_x1) lr_x2)
theorem NG_in : ∀ w ∈ NG, w ∈ lw_tbl := by decide +kernel
theorem NC_in : ∀ q ∈ NC, Cond.not (.castable q.1 q.2) ∈ flatC (Jvm.Cond.and given_1 narrow_1) := by decide +kernel
theorem lr_q0 : Cond.isRef (.static Bundle.tN "UNASSIGNED_STACK" Bundle.steD) ∈ flatC (Jvm.Cond.and given_1 narrow_1) := by decide +kernel
theorem lr_q1 : Cond.isRef (.static Bundle.tN "SUPPRESSED_SENTINEL" Bundle.listD) ∈ flatC (Jvm.Cond.and given_1 narrow_1) := by decide +kernel
theorem lr_q2 : Cond.laysStatic Bundle.tN "UNASSIGNED_STACK" Bundle.steD ∈ lw_tbl := by decide +kernel
theorem lr_q3 : Cond.laysStatic Bundle.tN "SUPPRESSED_SENTINEL" Bundle.listD ∈ lw_tbl := by decide +kernel
theorem lr_q4 : Cond.initialized Bundle.tN ∈ lw_tbl := by decide +kernel
theorem lr_q5 : Cond.arrayOver (.array .int) ∈ lw_tbl := by decide +kernel
