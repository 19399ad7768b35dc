theorem mem_fm {α : Type} {big ws : List α} (ps : List Nat) (hp : ws = ps.filterMap (fun i => big[i]?)) : ∀ w ∈ ws, w ∈ big := by
  intro w hw
  rw [hp] at hw
  obtain ⟨i, -, hi⟩ := List.mem_filterMap.mp hw
  exact List.mem_of_getElem? hi
theorem tw_wsL_law_r1 : ∀ w ∈ wsL_law_r1, w ∈ lw_tbl := by decide +kernel
theorem tw_wsL_law_r2 : ∀ w ∈ wsL_law_r2, w ∈ lw_tbl := by decide +kernel
theorem tw_wsL_law_r3 : ∀ w ∈ wsL_law_r3, w ∈ lw_tbl := by decide +kernel
theorem tw_wsL_law_r4 : ∀ w ∈ wsL_law_r4, w ∈ lw_tbl := by decide +kernel
theorem tw_wsL_law_r5 : ∀ w ∈ wsL_law_r5, w ∈ lw_tbl := by decide +kernel
theorem tw_wsL_law_r6 : ∀ w ∈ wsL_law_r6, w ∈ lw_tbl := by decide +kernel
theorem tw_wsL_law_r7 : ∀ w ∈ wsL_law_r7, w ∈ lw_tbl := by decide +kernel
theorem tw_wsL_law_r8 : ∀ w ∈ wsL_law_r8, w ∈ lw_tbl := by decide +kernel
theorem tw_wsL_law_r9 : ∀ w ∈ wsL_law_r9, w ∈ lw_tbl := by decide +kernel
theorem tw_wsL_law_r10 : ∀ w ∈ wsL_law_r10, w ∈ lw_tbl := by decide +kernel
theorem tw_wsL_law_r11 : ∀ w ∈ wsL_law_r11, w ∈ lw_tbl := by decide +kernel
theorem tw_wsL_law_r12 : ∀ w ∈ wsL_law_r12, w ∈ lw_tbl := by decide +kernel
theorem tw_wsL_law_r13 : ∀ w ∈ wsL_law_r13, w ∈ lw_tbl := by decide +kernel
theorem tw_wsL_law_r14 : ∀ w ∈ wsL_law_r14, w ∈ lw_tbl := by decide +kernel
theorem tw_wsL_law_r15 : ∀ w ∈ wsL_law_r15, w ∈ lw_tbl := by decide +kernel
theorem tw_wsL_law_r16 : ∀ w ∈ wsL_law_r16, w ∈ lw_tbl := by decide +kernel
theorem tw_wsL_law_r17 : ∀ w ∈ wsL_law_r17, w ∈ lw_tbl := by decide +kernel
theorem tw_wsL_law_r18 : ∀ w ∈ wsL_law_r18, w ∈ lw_tbl := by decide +kernel
theorem tw_wsL_law_r19 : ∀ w ∈ wsL_law_r19, w ∈ lw_tbl := by decide +kernel
theorem tw_wsL_law_r20 : ∀ w ∈ wsL_law_r20, w ∈ lw_tbl := by decide +kernel
theorem tw_wsL_law_r21 : ∀ w ∈ wsL_law_r21, w ∈ lw_tbl := by decide +kernel
theorem tw_wsL_law_r22 : ∀ w ∈ wsL_law_r22, w ∈ lw_tbl := by decide +kernel
theorem tw_wsL_law_r23 : ∀ w ∈ wsL_law_r23, w ∈ lw_tbl := by decide +kernel
theorem tw_wsL_law_r24 : ∀ w ∈ wsL_law_r24, w ∈ lw_tbl := by decide +kernel
theorem tw_wsL_law_r25 : ∀ w ∈ wsL_law_r25, w ∈ lw_tbl := by decide +kernel
theorem tw_wsL_law_r26 : ∀ w ∈ wsL_law_r26, w ∈ lw_tbl := by decide +kernel
theorem tw_wsL_law_r27 : ∀ w ∈ wsL_law_r27, w ∈ lw_tbl := by decide +kernel
theorem tw_wsL_law_r28 : ∀ w ∈ wsL_law_r28, w ∈ lw_tbl := by decide +kernel
theorem tw_wsL_law_r29 : ∀ w ∈ wsL_law_r29, w ∈ lw_tbl := by decide +kernel
theorem tw_wsL_law_r30 : ∀ w ∈ wsL_law_r30, w ∈ lw_tbl := by decide +kernel
theorem tw_wsL_law_r31 : ∀ w ∈ wsL_law_r31, w ∈ lw_tbl := by decide +kernel
theorem tw_wsL_law_r32 : ∀ w ∈ wsL_law_r32, w ∈ lw_tbl := by decide +kernel
theorem tw_wsL_law_r33 : ∀ w ∈ wsL_law_r33, w ∈ lw_tbl := by decide +kernel
theorem tw_wsL_law_r34 : ∀ w ∈ wsL_law_r34, w ∈ lw_tbl := by decide +kernel
theorem tw_wsL_law_r35 : ∀ w ∈ wsL_law_r35, w ∈ lw_tbl := by decide +kernel
theorem tw_wsL_law_r36 : ∀ w ∈ wsL_law_r36, w ∈ lw_tbl := by decide +kernel
theorem tw_wsL_law_r37 : ∀ w ∈ wsL_law_r37, w ∈ lw_tbl := by decide +kernel
theorem tw_wsX10 : ∀ w ∈ wsX10, w ∈ lw_tbl := by decide +kernel
theorem tw_wsX20 : ∀ w ∈ wsX20, w ∈ lw_tbl := by decide +kernel
theorem tw_wsX30 : ∀ w ∈ wsX30, w ∈ lw_tbl := by decide +kernel
theorem tw_wsX40 : ∀ w ∈ wsX40, w ∈ lw_tbl := by decide +kernel
theorem tw_wsX50 : ∀ w ∈ wsX50, w ∈ lw_tbl := by decide +kernel
theorem tw_wsX70 : ∀ w ∈ wsX70, w ∈ lw_tbl := by decide +kernel
theorem tw_wsX80 : ∀ w ∈ wsX80, w ∈ lw_tbl := by decide +kernel
theorem tw_wsX90 : ∀ w ∈ wsX90, w ∈ lw_tbl := by decide +kernel
theorem tw_wsX100 : ∀ w ∈ wsX100, w ∈ lw_tbl := by decide +kernel
theorem nil_in : ∀ w ∈ ([] : List Cond), w ∈ lw_tbl := fun _ h => absurd h List.not_mem_nil
theorem in_app {α : Type} {a b big : List α} (ha : ∀ w ∈ a, w ∈ big) (hb : ∀ w ∈ b, w ∈ big) : ∀ w ∈ a ++ b, w ∈ big := fun w h => (List.mem_append.mp h).elim (ha w) (hb w)
theorem wsL_law_in : ∀ w ∈ wsL_law, w ∈ lw_tbl := (in_app (in_app (in_app (in_app (in_app (in_app (in_app (in_app (in_app (in_app (in_app tw_wsL_law_r1 (in_app tw_wsL_law_r2 (in_app tw_wsL_law_r3 (in_app tw_wsL_law_r4 (in_app tw_wsL_law_r5 (in_app tw_wsL_law_r6 (in_app tw_wsL_law_r7 (in_app tw_wsL_law_r8 (in_app tw_wsL_law_r9 (in_app tw_wsL_law_r10 (in_app tw_wsL_law_r11 (in_app tw_wsL_law_r12 (in_app tw_wsL_law_r13 (in_app tw_wsL_law_r14 (in_app tw_wsL_law_r15 (in_app tw_wsL_law_r16 (in_app tw_wsL_law_r17 (in_app tw_wsL_law_r18 (in_app tw_wsL_law_r19 (in_app tw_wsL_law_r20 (in_app tw_wsL_law_r21 (in_app tw_wsL_law_r22 (in_app tw_wsL_law_r23 (in_app tw_wsL_law_r24 (in_app tw_wsL_law_r25 (in_app tw_wsL_law_r26 (in_app tw_wsL_law_r27 (in_app tw_wsL_law_r28 (in_app tw_wsL_law_r29 (in_app tw_wsL_law_r30 (in_app tw_wsL_law_r31 (in_app tw_wsL_law_r32 (in_app tw_wsL_law_r33 (in_app tw_wsL_law_r34 (in_app tw_wsL_law_r35 (in_app tw_wsL_law_r36 tw_wsL_law_r37)))))))))))))))))))))))))))))))))))) tw_wsX90) tw_wsX100) tw_wsX80) tw_wsX50) tw_wsX10) tw_wsX70) tw_wsX30) tw_wsX40) tw_wsX20) nil_in)
