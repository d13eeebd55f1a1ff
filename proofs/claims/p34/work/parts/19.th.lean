/-! the words of the throws -/
theorem LW_x0 : ∀ w ∈ (vx_at0 RX3 48 "java/lang/IllegalArgumentException" ["java/lang/RuntimeException", "java/lang/Exception"]).filter goodWord, w ∈ LW := fun w h => List.mem_append_left _ (List.mem_append_left _ (List.mem_append_right _ h))
theorem LW_x1 : ∀ w ∈ (vx_at0 RX3 58 "java/lang/IllegalStateException" ["java/lang/RuntimeException", "java/lang/Exception"]).filter goodWord, w ∈ LW := fun w h => List.mem_append_left _ (List.mem_append_right _ h)
theorem LW_x2 : ∀ w ∈ (vx_at0 RX3 198 "java/lang/IndexOutOfBoundsException" ["java/lang/RuntimeException", "java/lang/Exception"]).filter goodWord, w ∈ LW := fun w h => List.mem_append_right _ h
theorem ng_x0 : ∀ w ∈ (vx_at0 RX3 48 "java/lang/IllegalArgumentException" ["java/lang/RuntimeException", "java/lang/Exception"]).filter (fun w => !goodWord w), w ∈ NG := by decide +kernel
theorem ng_x1 : ∀ w ∈ (vx_at0 RX3 58 "java/lang/IllegalStateException" ["java/lang/RuntimeException", "java/lang/Exception"]).filter (fun w => !goodWord w), w ∈ NG := by decide +kernel
theorem ng_x2 : ∀ w ∈ (vx_at0 RX3 198 "java/lang/IndexOutOfBoundsException" ["java/lang/RuntimeException", "java/lang/Exception"]).filter (fun w => !goodWord w), w ∈ NG := by decide +kernel
theorem thX3_48 : gTh RX3 46 48 "java/lang/IllegalArgumentException" ["java/lang/RuntimeException", "java/lang/Exception"] := ⟨by decide +kernel, by decide +kernel, (mr_4 _ (List.mem_of_getElem? (i := 14) rfl)), (mr_4 _ (List.mem_of_getElem? (i := 15) rfl)), fun w h => by
  by_cases g : goodWord w = true
  · exact Or.inl (LW_x0 w (List.mem_filter.mpr ⟨h, g⟩))
  · exact Or.inr (ng_x0 w (List.mem_filter.mpr ⟨h, by simp [g]⟩)), by decide +kernel⟩
theorem thX3_58 : gTh RX3 56 58 "java/lang/IllegalStateException" ["java/lang/RuntimeException", "java/lang/Exception"] := ⟨by decide +kernel, by decide +kernel, (mr_5 _ (List.mem_of_getElem? (i := 3) rfl)), (mr_5 _ (List.mem_of_getElem? (i := 4) rfl)), fun w h => by
  by_cases g : goodWord w = true
  · exact Or.inl (LW_x1 w (List.mem_filter.mpr ⟨h, g⟩))
  · exact Or.inr (ng_x1 w (List.mem_filter.mpr ⟨h, by simp [g]⟩)), by decide +kernel⟩
theorem thX3_198 : gTh RX3 196 198 "java/lang/IndexOutOfBoundsException" ["java/lang/RuntimeException", "java/lang/Exception"] := ⟨by decide +kernel, by decide +kernel, (mr_6 _ (List.mem_of_getElem? (i := 8) rfl)), (mr_6 _ (List.mem_of_getElem? (i := 9) rfl)), fun w h => by
  by_cases g : goodWord w = true
  · exact Or.inl (LW_x2 w (List.mem_filter.mpr ⟨h, g⟩))
  · exact Or.inr (ng_x2 w (List.mem_filter.mpr ⟨h, by simp [g]⟩)), by decide +kernel⟩
abbrev IAE : String := "java/lang/IllegalArgumentException"
abbrev ISE : String := "java/lang/IllegalStateException"
abbrev IOE : String := "java/lang/IndexOutOfBoundsException"
