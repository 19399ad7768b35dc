def wpX9_windows (oX : Ob) (oS : Ob) (v1 : Int32) (post : Int32 → Ob → Prop) : Prop := wpX9_isOutside v1 (2 : Int32) (10 : Int32) (fun (r4 : Int32) => ((r4 = 0) → wpX8_beginAnew oS v1 (fun (oS_26 : Ob) => post (oS 0 0) oS_26)) ∧ (¬ (r4 = 0) → post (-2 : Int32) oS))
theorem pdX9_windows : yX9_windows.cls = RX9 ∧ yX9_windows.cls ≠ "java/lang/invoke/MethodHandle" ∧ yX9_windows.cls ≠ "java/lang/invoke/VarHandle" ∧ (parseMethodDescriptor yX9_windows.desc).map (fun d => d.parameters.length) = some 1 := by decide +kernel
theorem lkX9_windows_12 : Cond.fieldLink RX9 12 (TX9 0).1 (TX9 0).2.1 (TX9 0).2.2.1 ∈ wsX9_windows := by decide +kernel
theorem inX9_windows_X9 : ∀ w ∈ u_ws RX9 TX9 11, w ∈ wsX9_windows := by decide +kernel
theorem lkX9_windows_75 : Cond.fieldLink RX9 75 (TX8 0).1 (TX8 0).2.1 (TX8 0).2.2.1 ∈ wsX9_windows := by decide +kernel
theorem inX9_windows_X8 : ∀ w ∈ u_ws RX8 TX8 13, w ∈ wsX9_windows := by decide +kernel
set_option maxHeartbeats 4000000 in
set_option maxRecDepth 100000 in
theorem ctX9_windows (l : Launch) (D : va_G) (cI cZ : ClassId) (qX : Nat → Nat) (qS : Nat → Nat) (qI : Nat → Nat) (qJ : Nat → Nat) (qP : Nat → Nat) (qV : Nat → Nat) (qT : Nat → Nat) (qK : Nat → Nat) (qG : Nat → Nat) (qL : Nat → Nat) (qM : Nat → Nat) (oX : Ob) (oS : Ob) (v1 : Int32) (post : Int32 → Ob → Prop) (h : wpX9_windows oX oS v1 post) : CTi l yX9_windows wsX9_windows { frames := 2, cells := 0, slots := 0, locals := 44 } D [(cI, .int), (cZ, .boolean)] [.ref (qX 0), .int v1] (w9 cI cZ qX qS qI qJ qP qV qK qG qL qM oX ++ w8 cI cZ qS oS) (fun u : Ob => w9 cI cZ qX qS qI qJ qP qV qK qG qL qM oX ++ w8 cI cZ qS u) (fun (r : Int32) (u : Ob) => post r u) := by
  refine CTi.of (cc := cX9_windows) (own := RX9) (maxL := 3) (ret := (some .int)) (lv0 := [(0, .ref (qX 0)), (1, .int v1)]) (by decide) rfl rfl (Nat.le_of_ble_eq_true rfl) rfl ?_
  intro p e s m args below meth c A C
  unfold wpX9_windows at h
  refine SW.iload_n C dX9_windows_0 rfl 1 rfl ?_
  refine SW.iconst (v := (2 : Int32)) C dX9_windows_1 (by decide) ?_
  refine SW.bipush (v := (10 : Int32)) C dX9_windows_2 (by decide) ?_
  refine SW.callSi_pure C (ctX9_isOutside l D cI cZ v1 (2 : Int32) (10 : Int32) _ h) gX9_windows_X9_isOutside rfl rfl rfl pdX9_isOutside ⟨by decide, by decide⟩ rfl rfl (Nat.le_of_ble_eq_true rfl) dX9_windows_4 (by decide) (fun r4 u h => ?_)
  try dsimp only at h
  refine SW.if_eq (tgt := 13) C dX9_windows_7 (by decide) (fun hc => ?_) (fun hc => ?_)
  · replace h := h.1 hc
    refine SW.aload_n C dX9_windows_13 rfl 0 rfl ?_
    refine SW.get (v := .ref (qS 0)) (T := TX9) (N := 11) C inX9_windows_X9 0 rfl rfl 0 (by decide) lkX9_windows_12 rfl dX9_windows_14 ?_
    refine SW.get (v := .int (oS 0 0)) (T := TX8) (N := 13) C inX9_windows_X8 1 rfl rfl 0 (by decide) lkX9_windows_75 rfl dX9_windows_17 ?_
    refine SW.istore_n (lv' := [(2, .int (oS 0 0)), (0, .ref (qX 0)), (1, .int v1)]) C dX9_windows_20 rfl (by decide) rfl ?_
    refine SW.aload_n C dX9_windows_21 rfl 1 rfl ?_
    refine SW.get (v := .ref (qS 0)) (T := TX9) (N := 11) C inX9_windows_X9 0 rfl rfl 0 (by decide) lkX9_windows_12 rfl dX9_windows_22 ?_
    refine SW.iload_n C dX9_windows_25 rfl 2 rfl ?_
    refine SW.callVv_sub (wr := w9 cI cZ qX qS qI qJ qP qV qK qG qL qM oX) (wn := fun u : Ob => w9 cI cZ qX qS qI qJ qP qV qK qG qL qM oX ++ w8 cI cZ qS u) C (ctX8_beginAnew l D cI cZ qS oS v1 _ h) gX9_windows_X8_beginAnew rfl rfl rfl pdX8_beginAnew ⟨by decide, by decide⟩ [1, 2, 3, 4, 5, 6, 7] [0] [0, 1, 2, 3, 4, 5, 6, 7] rfl rfl (by decide) (by decide) (by decide) (by decide) (fun _ => rfl) 0 rfl rfl rfl rfl rfl (Nat.le_of_ble_eq_true rfl) dX9_windows_26 (by decide) (fun u h => ?_)
    obtain ⟨oS_26, rfl⟩ : ∃ z, z = u := ⟨_, rfl⟩
    try dsimp only at h
    refine SW.iload_n C dX9_windows_29 rfl 0 rfl ?_
    exact SW.iret C oS_26 rfl h dX9_windows_30
  · replace h := h.2 hc
    refine SW.bipush (v := (-2 : Int32)) C dX9_windows_10 (by decide) ?_
    exact SW.iret C oS rfl h dX9_windows_12
def wpX9_gap (oX : Ob) (oS : Ob) (v1 : Int32) (v2 : Int32) (post : Int32 → Ob → Prop) : Prop := wpX8_has oS v1 (fun (r5 : Int32) => ((r5 = 0) → post (-1 : Int32) oS) ∧ (¬ (r5 = 0) → wpX9_isOutside v2 (1 : Int32) (9 : Int32) (fun (r17 : Int32) => ((r17 = 0) → (vp_in v1 10) ∧ ((vp_in v1 10) ∧ (wpX8_measure (pa oS 1 (nC v1) v2) (fun (oS_50 : Ob) => post (jld (oS 1) v1) oS_50)))) ∧ (¬ (r17 = 0) → post (-2 : Int32) oS))))
theorem pdX9_gap : yX9_gap.cls = RX9 ∧ yX9_gap.cls ≠ "java/lang/invoke/MethodHandle" ∧ yX9_gap.cls ≠ "java/lang/invoke/VarHandle" ∧ (parseMethodDescriptor yX9_gap.desc).map (fun d => d.parameters.length) = some 2 := by decide +kernel
theorem lkX9_gap_12 : Cond.fieldLink RX9 12 (TX9 0).1 (TX9 0).2.1 (TX9 0).2.2.1 ∈ wsX9_gap := by decide +kernel
theorem inX9_gap_X9 : ∀ w ∈ u_ws RX9 TX9 11, w ∈ wsX9_gap := by decide +kernel
theorem lkX9_gap_87 : Cond.fieldLink RX9 87 (TX8 7).1 (TX8 7).2.1 (TX8 7).2.2.1 ∈ wsX9_gap := by decide +kernel
theorem inX9_gap_X8 : ∀ w ∈ u_ws RX8 TX8 13, w ∈ wsX9_gap := by decide +kernel
set_option maxHeartbeats 4000000 in
set_option maxRecDepth 100000 in
theorem ctX9_gap (l : Launch) (D : va_G) (cI cZ : ClassId) (qX : Nat → Nat) (qS : Nat → Nat) (qI : Nat → Nat) (qJ : Nat → Nat) (qP : Nat → Nat) (qV : Nat → Nat) (qT : Nat → Nat) (qK : Nat → Nat) (qG : Nat → Nat) (qL : Nat → Nat) (qM : Nat → Nat) (oX : Ob) (oS : Ob) (v1 : Int32) (v2 : Int32) (post : Int32 → Ob → Prop) (h : wpX9_gap oX oS v1 v2 post) : CTi l yX9_gap wsX9_gap { frames := 1, cells := 0, slots := 0, locals := 22 } D [(cI, .int), (cZ, .boolean)] [.ref (qX 0), .int v1, .int v2] (w9 cI cZ qX qS qI qJ qP qV qK qG qL qM oX ++ w8 cI cZ qS oS) (fun u : Ob => w9 cI cZ qX qS qI qJ qP qV qK qG qL qM oX ++ w8 cI cZ qS u) (fun (r : Int32) (u : Ob) => post r u) := by
  refine CTi.of (cc := cX9_gap) (own := RX9) (maxL := 4) (ret := (some .int)) (lv0 := [(0, .ref (qX 0)), (1, .int v1), (2, .int v2)]) (by decide) rfl rfl (Nat.le_of_ble_eq_true rfl) rfl ?_
  intro p e s m args below meth c A C
  unfold wpX9_gap at h
  refine SW.aload_n C dX9_gap_0 rfl 0 rfl ?_
  refine SW.get (v := .ref (qS 0)) (T := TX9) (N := 11) C inX9_gap_X9 0 rfl rfl 0 (by decide) lkX9_gap_12 rfl dX9_gap_1 ?_
  refine SW.iload_n C dX9_gap_4 rfl 1 rfl ?_
  refine SW.callVi_sub (wr := w9 cI cZ qX qS qI qJ qP qV qK qG qL qM oX) (wn := fun u : Unit => w9 cI cZ qX qS qI qJ qP qV qK qG qL qM oX ++ w8 cI cZ qS oS) C (ctX8_has l D cI cZ qS oS v1 _ h) gX9_gap_X8_has rfl rfl rfl pdX8_has ⟨by decide, by decide⟩ [1, 2, 3, 4, 5, 6, 7] [0] [0, 1, 2, 3, 4, 5, 6, 7] rfl rfl (by decide) (by decide) (by decide) (by decide) (fun _ => rfl) 0 rfl rfl rfl rfl rfl (Nat.le_of_ble_eq_true rfl) dX9_gap_5 (by decide) (fun r5 u h => ?_)
  try dsimp only at h
  refine SW.if_ne (tgt := 13) C dX9_gap_8 (by decide) (fun hc => ?_) (fun hc => ?_)
  · replace h := h.2 hc
    refine SW.iload_n C dX9_gap_13 rfl 2 rfl ?_
    refine SW.iconst (v := (1 : Int32)) C dX9_gap_14 (by decide) ?_
    refine SW.bipush (v := (9 : Int32)) C dX9_gap_15 (by decide) ?_
    refine SW.callSi_pure C (ctX9_isOutside l D cI cZ v2 (1 : Int32) (9 : Int32) _ h) gX9_gap_X9_isOutside rfl rfl rfl pdX9_isOutside ⟨by decide, by decide⟩ rfl rfl (Nat.le_of_ble_eq_true rfl) dX9_gap_17 (by decide) (fun r17 u h => ?_)
    try dsimp only at h
    refine SW.if_eq (tgt := 26) C dX9_gap_20 (by decide) (fun hc => ?_) (fun hc => ?_)
    · replace h := h.1 hc
      refine SW.aload_n C dX9_gap_26 rfl 0 rfl ?_
      refine SW.get (v := .ref (qS 0)) (T := TX9) (N := 11) C inX9_gap_X9 0 rfl rfl 0 (by decide) lkX9_gap_12 rfl dX9_gap_27 ?_
      refine SW.get (v := .ref (qS 1)) (T := TX8) (N := 13) C inX9_gap_X8 1 rfl rfl 7 (by decide) lkX9_gap_87 rfl dX9_gap_30 ?_
      refine SW.iload_n C dX9_gap_33 rfl 1 rfl ?_
      refine SW.iald C 2 0 rfl rfl h.1 dX9_gap_34 ?_
      replace h := h.2
      refine SW.istore_n (lv' := [(3, .int (jld (oS 1) v1)), (0, .ref (qX 0)), (1, .int v1), (2, .int v2)]) C dX9_gap_35 rfl (by decide) rfl ?_
      refine SW.aload_n C dX9_gap_36 rfl 1 rfl ?_
      refine SW.get (v := .ref (qS 0)) (T := TX9) (N := 11) C inX9_gap_X9 0 rfl rfl 0 (by decide) lkX9_gap_12 rfl dX9_gap_37 ?_
      refine SW.get (v := .ref (qS 1)) (T := TX8) (N := 13) C inX9_gap_X8 1 rfl rfl 7 (by decide) lkX9_gap_87 rfl dX9_gap_40 ?_
      refine SW.iload_n C dX9_gap_43 rfl 2 rfl ?_
      refine SW.iload_n C dX9_gap_44 rfl 3 rfl ?_
      refine SW.iast (ws' := w9 cI cZ qX qS qI qJ qP qV qK qG qL qM oX ++ w8 cI cZ qS (pa oS 1 (nC v1) v2)) C 2 0 rfl rfl h.1 rfl dX9_gap_45 ?_
      replace h := h.2
      refine SW.aload_n C dX9_gap_46 rfl 1 rfl ?_
      refine SW.get (v := .ref (qS 0)) (T := TX9) (N := 11) C inX9_gap_X9 0 rfl rfl 0 (by decide) lkX9_gap_12 rfl dX9_gap_47 ?_
      refine SW.callVv_sub (wr := w9 cI cZ qX qS qI qJ qP qV qK qG qL qM oX) (wn := fun u : Ob => w9 cI cZ qX qS qI qJ qP qV qK qG qL qM oX ++ w8 cI cZ qS u) C (ctX8_measure l D cI cZ qS (pa oS 1 (nC v1) v2) _ h) gX9_gap_X8_measure rfl rfl rfl pdX8_measure ⟨by decide, by decide⟩ [1, 2, 3, 4, 5, 6, 7] [0] [0, 1, 2, 3, 4, 5, 6, 7] rfl rfl (by decide) (by decide) (by decide) (by decide) (fun _ => rfl) 0 rfl rfl rfl rfl rfl (Nat.le_of_ble_eq_true rfl) dX9_gap_50 (by decide) (fun u h => ?_)
      obtain ⟨oS_50, rfl⟩ : ∃ z, z = u := ⟨_, rfl⟩
      try dsimp only at h
      refine SW.iload_n C dX9_gap_53 rfl 0 rfl ?_
      exact SW.iret C oS_50 rfl h dX9_gap_54
    · replace h := h.2 hc
      refine SW.bipush (v := (-2 : Int32)) C dX9_gap_23 (by decide) ?_
      exact SW.iret C oS rfl h dX9_gap_25
  · replace h := h.1 hc
    refine SW.iconst (v := (-1 : Int32)) C dX9_gap_11 (by decide) ?_
    exact SW.iret C oS rfl h dX9_gap_12
def wpX9_putEnd (oX : Ob) (oS : Ob) (v1 : Int32) (post : Int32 → Ob → Prop) : Prop := wpX9_isOutside v1 (1 : Int32) (9 : Int32) (fun (r4 : Int32) => ((r4 = 0) → post (oS 0 1) (pf oS 1 v1)) ∧ (¬ (r4 = 0) → post (-2 : Int32) oS))
theorem pdX9_putEnd : yX9_putEnd.cls = RX9 ∧ yX9_putEnd.cls ≠ "java/lang/invoke/MethodHandle" ∧ yX9_putEnd.cls ≠ "java/lang/invoke/VarHandle" ∧ (parseMethodDescriptor yX9_putEnd.desc).map (fun d => d.parameters.length) = some 1 := by decide +kernel
theorem lkX9_putEnd_12 : Cond.fieldLink RX9 12 (TX9 0).1 (TX9 0).2.1 (TX9 0).2.2.1 ∈ wsX9_putEnd := by decide +kernel
theorem inX9_putEnd_X9 : ∀ w ∈ u_ws RX9 TX9 11, w ∈ wsX9_putEnd := by decide +kernel
theorem lkX9_putEnd_272 : Cond.fieldLink RX9 272 (TX8 1).1 (TX8 1).2.1 (TX8 1).2.2.1 ∈ wsX9_putEnd := by decide +kernel
theorem inX9_putEnd_X8 : ∀ w ∈ u_ws RX8 TX8 13, w ∈ wsX9_putEnd := by decide +kernel
set_option maxHeartbeats 4000000 in
set_option maxRecDepth 100000 in
theorem ctX9_putEnd (l : Launch) (D : va_G) (cI cZ : ClassId) (qX : Nat → Nat) (qS : Nat → Nat) (qI : Nat → Nat) (qJ : Nat → Nat) (qP : Nat → Nat) (qV : Nat → Nat) (qT : Nat → Nat) (qK : Nat → Nat) (qG : Nat → Nat) (qL : Nat → Nat) (qM : Nat → Nat) (oX : Ob) (oS : Ob) (v1 : Int32) (post : Int32 → Ob → Prop) (h : wpX9_putEnd oX oS v1 post) : CTi l yX9_putEnd wsX9_putEnd { frames := 1, cells := 0, slots := 0, locals := 22 } D [(cI, .int), (cZ, .boolean)] [.ref (qX 0), .int v1] (w9 cI cZ qX qS qI qJ qP qV qK qG qL qM oX ++ w8 cI cZ qS oS) (fun u : Ob => w9 cI cZ qX qS qI qJ qP qV qK qG qL qM oX ++ w8 cI cZ qS u) (fun (r : Int32) (u : Ob) => post r u) := by
  refine CTi.of (cc := cX9_putEnd) (own := RX9) (maxL := 3) (ret := (some .int)) (lv0 := [(0, .ref (qX 0)), (1, .int v1)]) (by decide) rfl rfl (Nat.le_of_ble_eq_true rfl) rfl ?_
  intro p e s m args below meth c A C
  unfold wpX9_putEnd at h
  refine SW.iload_n C dX9_putEnd_0 rfl 1 rfl ?_
  refine SW.iconst (v := (1 : Int32)) C dX9_putEnd_1 (by decide) ?_
  refine SW.bipush (v := (9 : Int32)) C dX9_putEnd_2 (by decide) ?_
  refine SW.callSi_pure C (ctX9_isOutside l D cI cZ v1 (1 : Int32) (9 : Int32) _ h) gX9_putEnd_X9_isOutside rfl rfl rfl pdX9_isOutside ⟨by decide, by decide⟩ rfl rfl (Nat.le_of_ble_eq_true rfl) dX9_putEnd_4 (by decide) (fun r4 u h => ?_)
  try dsimp only at h
  refine SW.if_eq (tgt := 13) C dX9_putEnd_7 (by decide) (fun hc => ?_) (fun hc => ?_)
  · replace h := h.1 hc
    refine SW.aload_n C dX9_putEnd_13 rfl 0 rfl ?_
    refine SW.get (v := .ref (qS 0)) (T := TX9) (N := 11) C inX9_putEnd_X9 0 rfl rfl 0 (by decide) lkX9_putEnd_12 rfl dX9_putEnd_14 ?_
    refine SW.get (v := .int (oS 0 1)) (T := TX8) (N := 13) C inX9_putEnd_X8 1 rfl rfl 1 (by decide) lkX9_putEnd_272 rfl dX9_putEnd_17 ?_
    refine SW.istore_n (lv' := [(2, .int (oS 0 1)), (0, .ref (qX 0)), (1, .int v1)]) C dX9_putEnd_20 rfl (by decide) rfl ?_
    refine SW.aload_n C dX9_putEnd_21 rfl 1 rfl ?_
    refine SW.get (v := .ref (qS 0)) (T := TX9) (N := 11) C inX9_putEnd_X9 0 rfl rfl 0 (by decide) lkX9_putEnd_12 rfl dX9_putEnd_22 ?_
    refine SW.iload_n C dX9_putEnd_25 rfl 2 rfl ?_
    refine SW.put (ws' := w9 cI cZ qX qS qI qJ qP qV qK qG qL qM oX ++ w8 cI cZ qS (pf oS 1 v1)) (T := TX8) (N := 13) C inX9_putEnd_X8 tyX8 tyX8_ok nmX8 1 rfl rfl 1 (by decide) lkX9_putEnd_272 rfl rfl rfl (Nat.le_of_ble_eq_true rfl) rfl dX9_putEnd_26 ?_
    refine SW.iload_n C dX9_putEnd_29 rfl 0 rfl ?_
    exact SW.iret C (pf oS 1 v1) rfl h dX9_putEnd_30
  · replace h := h.2 hc
    refine SW.bipush (v := (-2 : Int32)) C dX9_putEnd_10 (by decide) ?_
    exact SW.iret C oS rfl h dX9_putEnd_12
def wpX9_putLimit (oX : Ob) (oS : Ob) (v1 : Int32) (post : Int32 → Ob → Prop) : Prop := wpX9_isOutside v1 (1 : Int32) (99 : Int32) (fun (r4 : Int32) => ((r4 = 0) → post (oS 0 2) (pf oS 2 v1)) ∧ (¬ (r4 = 0) → post (-2 : Int32) oS))
theorem pdX9_putLimit : yX9_putLimit.cls = RX9 ∧ yX9_putLimit.cls ≠ "java/lang/invoke/MethodHandle" ∧ yX9_putLimit.cls ≠ "java/lang/invoke/VarHandle" ∧ (parseMethodDescriptor yX9_putLimit.desc).map (fun d => d.parameters.length) = some 1 := by decide +kernel
theorem lkX9_putLimit_12 : Cond.fieldLink RX9 12 (TX9 0).1 (TX9 0).2.1 (TX9 0).2.2.1 ∈ wsX9_putLimit := by decide +kernel
theorem inX9_putLimit_X9 : ∀ w ∈ u_ws RX9 TX9 11, w ∈ wsX9_putLimit := by decide +kernel
theorem lkX9_putLimit_275 : Cond.fieldLink RX9 275 (TX8 2).1 (TX8 2).2.1 (TX8 2).2.2.1 ∈ wsX9_putLimit := by decide +kernel
theorem inX9_putLimit_X8 : ∀ w ∈ u_ws RX8 TX8 13, w ∈ wsX9_putLimit := by decide +kernel
set_option maxHeartbeats 4000000 in
set_option maxRecDepth 100000 in
theorem ctX9_putLimit (l : Launch) (D : va_G) (cI cZ : ClassId) (qX : Nat → Nat) (qS : Nat → Nat) (qI : Nat → Nat) (qJ : Nat → Nat) (qP : Nat → Nat) (qV : Nat → Nat) (qT : Nat → Nat) (qK : Nat → Nat) (qG : Nat → Nat) (qL : Nat → Nat) (qM : Nat → Nat) (oX : Ob) (oS : Ob) (v1 : Int32) (post : Int32 → Ob → Prop) (h : wpX9_putLimit oX oS v1 post) : CTi l yX9_putLimit wsX9_putLimit { frames := 1, cells := 0, slots := 0, locals := 22 } D [(cI, .int), (cZ, .boolean)] [.ref (qX 0), .int v1] (w9 cI cZ qX qS qI qJ qP qV qK qG qL qM oX ++ w8 cI cZ qS oS) (fun u : Ob => w9 cI cZ qX qS qI qJ qP qV qK qG qL qM oX ++ w8 cI cZ qS u) (fun (r : Int32) (u : Ob) => post r u) := by
  refine CTi.of (cc := cX9_putLimit) (own := RX9) (maxL := 3) (ret := (some .int)) (lv0 := [(0, .ref (qX 0)), (1, .int v1)]) (by decide) rfl rfl (Nat.le_of_ble_eq_true rfl) rfl ?_
  intro p e s m args below meth c A C
  unfold wpX9_putLimit at h
  refine SW.iload_n C dX9_putLimit_0 rfl 1 rfl ?_
  refine SW.iconst (v := (1 : Int32)) C dX9_putLimit_1 (by decide) ?_
  refine SW.bipush (v := (99 : Int32)) C dX9_putLimit_2 (by decide) ?_
  refine SW.callSi_pure C (ctX9_isOutside l D cI cZ v1 (1 : Int32) (99 : Int32) _ h) gX9_putLimit_X9_isOutside rfl rfl rfl pdX9_isOutside ⟨by decide, by decide⟩ rfl rfl (Nat.le_of_ble_eq_true rfl) dX9_putLimit_4 (by decide) (fun r4 u h => ?_)
  try dsimp only at h
  refine SW.if_eq (tgt := 13) C dX9_putLimit_7 (by decide) (fun hc => ?_) (fun hc => ?_)
  · replace h := h.1 hc
    refine SW.aload_n C dX9_putLimit_13 rfl 0 rfl ?_
    refine SW.get (v := .ref (qS 0)) (T := TX9) (N := 11) C inX9_putLimit_X9 0 rfl rfl 0 (by decide) lkX9_putLimit_12 rfl dX9_putLimit_14 ?_
    refine SW.get (v := .int (oS 0 2)) (T := TX8) (N := 13) C inX9_putLimit_X8 1 rfl rfl 2 (by decide) lkX9_putLimit_275 rfl dX9_putLimit_17 ?_
    refine SW.istore_n (lv' := [(2, .int (oS 0 2)), (0, .ref (qX 0)), (1, .int v1)]) C dX9_putLimit_20 rfl (by decide) rfl ?_
    refine SW.aload_n C dX9_putLimit_21 rfl 1 rfl ?_
    refine SW.get (v := .ref (qS 0)) (T := TX9) (N := 11) C inX9_putLimit_X9 0 rfl rfl 0 (by decide) lkX9_putLimit_12 rfl dX9_putLimit_22 ?_
    refine SW.iload_n C dX9_putLimit_25 rfl 2 rfl ?_
    refine SW.put (ws' := w9 cI cZ qX qS qI qJ qP qV qK qG qL qM oX ++ w8 cI cZ qS (pf oS 2 v1)) (T := TX8) (N := 13) C inX9_putLimit_X8 tyX8 tyX8_ok nmX8 1 rfl rfl 2 (by decide) lkX9_putLimit_275 rfl rfl rfl (Nat.le_of_ble_eq_true rfl) rfl dX9_putLimit_26 ?_
    refine SW.iload_n C dX9_putLimit_29 rfl 0 rfl ?_
    exact SW.iret C (pf oS 2 v1) rfl h dX9_putLimit_30
  · replace h := h.2 hc
    refine SW.bipush (v := (-2 : Int32)) C dX9_putLimit_10 (by decide) ?_
    exact SW.iret C oS rfl h dX9_putLimit_12
def wpX9_putRent (oX : Ob) (oS : Ob) (v1 : Int32) (post : Int32 → Ob → Prop) : Prop := wpX9_isOutside v1 (0 : Int32) (9 : Int32) (fun (r4 : Int32) => ((r4 = 0) → post (oS 0 3) (pf oS 3 v1)) ∧ (¬ (r4 = 0) → post (-2 : Int32) oS))
theorem pdX9_putRent : yX9_putRent.cls = RX9 ∧ yX9_putRent.cls ≠ "java/lang/invoke/MethodHandle" ∧ yX9_putRent.cls ≠ "java/lang/invoke/VarHandle" ∧ (parseMethodDescriptor yX9_putRent.desc).map (fun d => d.parameters.length) = some 1 := by decide +kernel
theorem lkX9_putRent_12 : Cond.fieldLink RX9 12 (TX9 0).1 (TX9 0).2.1 (TX9 0).2.2.1 ∈ wsX9_putRent := by decide +kernel
theorem inX9_putRent_X9 : ∀ w ∈ u_ws RX9 TX9 11, w ∈ wsX9_putRent := by decide +kernel
theorem lkX9_putRent_278 : Cond.fieldLink RX9 278 (TX8 3).1 (TX8 3).2.1 (TX8 3).2.2.1 ∈ wsX9_putRent := by decide +kernel
theorem inX9_putRent_X8 : ∀ w ∈ u_ws RX8 TX8 13, w ∈ wsX9_putRent := by decide +kernel
set_option maxHeartbeats 4000000 in
set_option maxRecDepth 100000 in
theorem ctX9_putRent (l : Launch) (D : va_G) (cI cZ : ClassId) (qX : Nat → Nat) (qS : Nat → Nat) (qI : Nat → Nat) (qJ : Nat → Nat) (qP : Nat → Nat) (qV : Nat → Nat) (qT : Nat → Nat) (qK : Nat → Nat) (qG : Nat → Nat) (qL : Nat → Nat) (qM : Nat → Nat) (oX : Ob) (oS : Ob) (v1 : Int32) (post : Int32 → Ob → Prop) (h : wpX9_putRent oX oS v1 post) : CTi l yX9_putRent wsX9_putRent { frames := 1, cells := 0, slots := 0, locals := 22 } D [(cI, .int), (cZ, .boolean)] [.ref (qX 0), .int v1] (w9 cI cZ qX qS qI qJ qP qV qK qG qL qM oX ++ w8 cI cZ qS oS) (fun u : Ob => w9 cI cZ qX qS qI qJ qP qV qK qG qL qM oX ++ w8 cI cZ qS u) (fun (r : Int32) (u : Ob) => post r u) := by
  refine CTi.of (cc := cX9_putRent) (own := RX9) (maxL := 3) (ret := (some .int)) (lv0 := [(0, .ref (qX 0)), (1, .int v1)]) (by decide) rfl rfl (Nat.le_of_ble_eq_true rfl) rfl ?_
  intro p e s m args below meth c A C
  unfold wpX9_putRent at h
  refine SW.iload_n C dX9_putRent_0 rfl 1 rfl ?_
  refine SW.iconst (v := (0 : Int32)) C dX9_putRent_1 (by decide) ?_
  refine SW.bipush (v := (9 : Int32)) C dX9_putRent_2 (by decide) ?_
  refine SW.callSi_pure C (ctX9_isOutside l D cI cZ v1 (0 : Int32) (9 : Int32) _ h) gX9_putRent_X9_isOutside rfl rfl rfl pdX9_isOutside ⟨by decide, by decide⟩ rfl rfl (Nat.le_of_ble_eq_true rfl) dX9_putRent_4 (by decide) (fun r4 u h => ?_)
  try dsimp only at h
  refine SW.if_eq (tgt := 13) C dX9_putRent_7 (by decide) (fun hc => ?_) (fun hc => ?_)
  · replace h := h.1 hc
    refine SW.aload_n C dX9_putRent_13 rfl 0 rfl ?_
    refine SW.get (v := .ref (qS 0)) (T := TX9) (N := 11) C inX9_putRent_X9 0 rfl rfl 0 (by decide) lkX9_putRent_12 rfl dX9_putRent_14 ?_
    refine SW.get (v := .int (oS 0 3)) (T := TX8) (N := 13) C inX9_putRent_X8 1 rfl rfl 3 (by decide) lkX9_putRent_278 rfl dX9_putRent_17 ?_
    refine SW.istore_n (lv' := [(2, .int (oS 0 3)), (0, .ref (qX 0)), (1, .int v1)]) C dX9_putRent_20 rfl (by decide) rfl ?_
    refine SW.aload_n C dX9_putRent_21 rfl 1 rfl ?_
    refine SW.get (v := .ref (qS 0)) (T := TX9) (N := 11) C inX9_putRent_X9 0 rfl rfl 0 (by decide) lkX9_putRent_12 rfl dX9_putRent_22 ?_
    refine SW.iload_n C dX9_putRent_25 rfl 2 rfl ?_
    refine SW.put (ws' := w9 cI cZ qX qS qI qJ qP qV qK qG qL qM oX ++ w8 cI cZ qS (pf oS 3 v1)) (T := TX8) (N := 13) C inX9_putRent_X8 tyX8 tyX8_ok nmX8 1 rfl rfl 3 (by decide) lkX9_putRent_278 rfl rfl rfl (Nat.le_of_ble_eq_true rfl) rfl dX9_putRent_26 ?_
    refine SW.iload_n C dX9_putRent_29 rfl 0 rfl ?_
    exact SW.iret C (pf oS 3 v1) rfl h dX9_putRent_30
  · replace h := h.2 hc
    refine SW.bipush (v := (-2 : Int32)) C dX9_putRent_10 (by decide) ?_
    exact SW.iret C oS rfl h dX9_putRent_12
def wpX9_set (oX : Ob) (oS : Ob) (v1 : Int32) (v2 : Int32) (post : Int32 → Ob → Prop) : Prop := ((v1 = (0 : Int32)) → wpX9_putEnd oX oS v2 (fun (r30 : Int32) (oS_30 : Ob) => post r30 oS_30)) ∧ ((v1 = (1 : Int32)) → wpX9_putLimit oX oS v2 (fun (r36 : Int32) (oS_36 : Ob) => post r36 oS_36)) ∧ ((v1 = (2 : Int32)) → wpX9_putRent oX oS v2 (fun (r42 : Int32) (oS_42 : Ob) => post r42 oS_42)) ∧ (¬ v1 = (0 : Int32) → ¬ v1 = (1 : Int32) → ¬ v1 = (2 : Int32) → (post (-2 : Int32) oS))
theorem pdX9_set : yX9_set.cls = RX9 ∧ yX9_set.cls ≠ "java/lang/invoke/MethodHandle" ∧ yX9_set.cls ≠ "java/lang/invoke/VarHandle" ∧ (parseMethodDescriptor yX9_set.desc).map (fun d => d.parameters.length) = some 2 := by decide +kernel
set_option maxHeartbeats 4000000 in
set_option maxRecDepth 100000 in
theorem ctX9_set (l : Launch) (D : va_G) (cI cZ : ClassId) (qX : Nat → Nat) (qS : Nat → Nat) (qI : Nat → Nat) (qJ : Nat → Nat) (qP : Nat → Nat) (qV : Nat → Nat) (qT : Nat → Nat) (qK : Nat → Nat) (qG : Nat → Nat) (qL : Nat → Nat) (qM : Nat → Nat) (oX : Ob) (oS : Ob) (v1 : Int32) (v2 : Int32) (post : Int32 → Ob → Prop) (h : wpX9_set oX oS v1 v2 post) : CTi l yX9_set wsX9_set { frames := 2, cells := 0, slots := 0, locals := 44 } D [(cI, .int), (cZ, .boolean)] [.ref (qX 0), .int v1, .int v2] (w9 cI cZ qX qS qI qJ qP qV qK qG qL qM oX ++ w8 cI cZ qS oS) (fun u : Ob => w9 cI cZ qX qS qI qJ qP qV qK qG qL qM oX ++ w8 cI cZ qS u) (fun (r : Int32) (u : Ob) => post r u) := by
  refine CTi.of (cc := cX9_set) (own := RX9) (maxL := 3) (ret := (some .int)) (lv0 := [(0, .ref (qX 0)), (1, .int v1), (2, .int v2)]) (by decide) rfl rfl (Nat.le_of_ble_eq_true rfl) rfl ?_
  intro p e s m args below meth c A C
  unfold wpX9_set at h
  refine SW.iload_n C dX9_set_0 rfl 1 rfl ?_
  by_cases hs0 : v1 = (0 : Int32)
  · replace h := h.1 hs0
    refine SW.tableIn (tgt := 28) (off := 27) C dX9_set_1 (by rw [hs0]; decide) (by rw [hs0]; decide) (by rw [hs0]; rfl) (by decide) ?_
    refine SW.aload_n C dX9_set_28 rfl 0 rfl ?_
    refine SW.iload_n C dX9_set_29 rfl 2 rfl ?_
    refine SW.callVi_same C (ctX9_putEnd l D cI cZ qX qS qI qJ qP qV qT qK qG qL qM oX oS v2 _ h) gX9_set_X9_putEnd rfl rfl rfl pdX9_putEnd ⟨by decide, by decide⟩ 0 rfl rfl rfl rfl rfl (Nat.le_of_ble_eq_true rfl) dX9_set_30 (by decide) (fun r30 u h => ?_)
    obtain ⟨oS_30, rfl⟩ : ∃ z, z = u := ⟨_, rfl⟩
    try dsimp only at h
    exact SW.iret C oS_30 rfl h dX9_set_33
  by_cases hs1 : v1 = (1 : Int32)
  · replace h := h.2.1 hs1
    refine SW.tableIn (tgt := 34) (off := 33) C dX9_set_1 (by rw [hs1]; decide) (by rw [hs1]; decide) (by rw [hs1]; rfl) (by decide) ?_
    refine SW.aload_n C dX9_set_34 rfl 0 rfl ?_
    refine SW.iload_n C dX9_set_35 rfl 2 rfl ?_
    refine SW.callVi_same C (ctX9_putLimit l D cI cZ qX qS qI qJ qP qV qT qK qG qL qM oX oS v2 _ h) gX9_set_X9_putLimit rfl rfl rfl pdX9_putLimit ⟨by decide, by decide⟩ 0 rfl rfl rfl rfl rfl (Nat.le_of_ble_eq_true rfl) dX9_set_36 (by decide) (fun r36 u h => ?_)
    obtain ⟨oS_36, rfl⟩ : ∃ z, z = u := ⟨_, rfl⟩
    try dsimp only at h
    exact SW.iret C oS_36 rfl h dX9_set_39
  by_cases hs2 : v1 = (2 : Int32)
  · replace h := h.2.2.1 hs2
    refine SW.tableIn (tgt := 40) (off := 39) C dX9_set_1 (by rw [hs2]; decide) (by rw [hs2]; decide) (by rw [hs2]; rfl) (by decide) ?_
    refine SW.aload_n C dX9_set_40 rfl 0 rfl ?_
    refine SW.iload_n C dX9_set_41 rfl 2 rfl ?_
    refine SW.callVi_same C (ctX9_putRent l D cI cZ qX qS qI qJ qP qV qT qK qG qL qM oX oS v2 _ h) gX9_set_X9_putRent rfl rfl rfl pdX9_putRent ⟨by decide, by decide⟩ 0 rfl rfl rfl rfl rfl (Nat.le_of_ble_eq_true rfl) dX9_set_42 (by decide) (fun r42 u h => ?_)
    obtain ⟨oS_42, rfl⟩ : ∃ z, z = u := ⟨_, rfl⟩
    try dsimp only at h
    exact SW.iret C oS_42 rfl h dX9_set_45
  replace h := h.2.2.2 hs0 hs1 hs2
  refine SW.tableOut (tgt := 46) C dX9_set_1 (by have e0 := sw_ne hs0; have e1 := sw_ne hs1; have e2 := sw_ne hs2; simp only [Int32.reduceToInt] at e0 e1 e2; omega) (by decide) ?_
  refine SW.bipush (v := (-2 : Int32)) C dX9_set_46 (by decide) ?_
  exact SW.iret C oS rfl h dX9_set_48
def wpX9_say (oX : Ob) (oP : Ob) (v1 : Int32) (post : Int32 → Ob → Prop) : Prop := wpX9_isOutside v1 (33 : Int32) (126 : Int32) (fun (r5 : Int32) => ((r5 = 0) → wpX5_write oP v1 (fun (r19 : Int32) (oP_19 : Ob) => ((r19 = 0) → post (-4 : Int32) oP_19) ∧ (¬ (r19 = 0) → post (oP_19 0 0) oP_19))) ∧ (¬ (r5 = 0) → post (-2 : Int32) oP))
theorem pdX9_say : yX9_say.cls = RX9 ∧ yX9_say.cls ≠ "java/lang/invoke/MethodHandle" ∧ yX9_say.cls ≠ "java/lang/invoke/VarHandle" ∧ (parseMethodDescriptor yX9_say.desc).map (fun d => d.parameters.length) = some 1 := by decide +kernel
theorem lkX9_say_32 : Cond.fieldLink RX9 32 (TX9 5).1 (TX9 5).2.1 (TX9 5).2.2.1 ∈ wsX9_say := by decide +kernel
theorem inX9_say_X9 : ∀ w ∈ u_ws RX9 TX9 11, w ∈ wsX9_say := by decide +kernel
theorem lkX9_say_107 : Cond.fieldLink RX9 107 (TX5 0).1 (TX5 0).2.1 (TX5 0).2.2.1 ∈ wsX9_say := by decide +kernel
theorem inX9_say_X5 : ∀ w ∈ u_ws RX5 TX5 2, w ∈ wsX9_say := by decide +kernel
set_option maxHeartbeats 4000000 in
set_option maxRecDepth 100000 in
theorem ctX9_say (l : Launch) (D : va_G) (cI cZ : ClassId) (qX : Nat → Nat) (qS : Nat → Nat) (qI : Nat → Nat) (qJ : Nat → Nat) (qP : Nat → Nat) (qV : Nat → Nat) (qT : Nat → Nat) (qK : Nat → Nat) (qG : Nat → Nat) (qL : Nat → Nat) (qM : Nat → Nat) (oX : Ob) (oP : Ob) (v1 : Int32) (post : Int32 → Ob → Prop) (h : wpX9_say oX oP v1 post) : CTi l yX9_say wsX9_say { frames := 1, cells := 0, slots := 0, locals := 22 } D [(cI, .int), (cZ, .boolean)] [.ref (qX 0), .int v1] (w9 cI cZ qX qS qI qJ qP qV qK qG qL qM oX ++ w5 cI cZ qP oP) (fun u : Ob => w9 cI cZ qX qS qI qJ qP qV qK qG qL qM oX ++ w5 cI cZ qP u) (fun (r : Int32) (u : Ob) => post r u) := by
  refine CTi.of (cc := cX9_say) (own := RX9) (maxL := 2) (ret := (some .int)) (lv0 := [(0, .ref (qX 0)), (1, .int v1)]) (by decide) rfl rfl (Nat.le_of_ble_eq_true rfl) rfl ?_
  intro p e s m args below meth c A C
  unfold wpX9_say at h
  refine SW.iload_n C dX9_say_0 rfl 1 rfl ?_
  refine SW.bipush (v := (33 : Int32)) C dX9_say_1 (by decide) ?_
  refine SW.bipush (v := (126 : Int32)) C dX9_say_3 (by decide) ?_
  refine SW.callSi_pure C (ctX9_isOutside l D cI cZ v1 (33 : Int32) (126 : Int32) _ h) gX9_say_X9_isOutside rfl rfl rfl pdX9_isOutside ⟨by decide, by decide⟩ rfl rfl (Nat.le_of_ble_eq_true rfl) dX9_say_5 (by decide) (fun r5 u h => ?_)
  try dsimp only at h
  refine SW.if_eq (tgt := 14) C dX9_say_8 (by decide) (fun hc => ?_) (fun hc => ?_)
  · replace h := h.1 hc
    refine SW.aload_n C dX9_say_14 rfl 0 rfl ?_
    refine SW.get (v := .ref (qP 0)) (T := TX9) (N := 11) C inX9_say_X9 0 rfl rfl 5 (by decide) lkX9_say_32 rfl dX9_say_15 ?_
    refine SW.iload_n C dX9_say_18 rfl 1 rfl ?_
    refine SW.callVi_sub (wr := w9 cI cZ qX qS qI qJ qP qV qK qG qL qM oX) (wn := fun u : Ob => w9 cI cZ qX qS qI qJ qP qV qK qG qL qM oX ++ w5 cI cZ qP u) C (ctX5_write l D cI cZ qP oP v1 _ h) gX9_say_X5_write rfl rfl rfl pdX5_write ⟨by decide, by decide⟩ [1, 2] [0] [0, 1, 2] rfl rfl (by decide) (by decide) (by decide) (by decide) (fun _ => rfl) 0 rfl rfl rfl rfl rfl (Nat.le_of_ble_eq_true rfl) dX9_say_19 (by decide) (fun r19 u h => ?_)
    obtain ⟨oP_19, rfl⟩ : ∃ z, z = u := ⟨_, rfl⟩
    try dsimp only at h
    refine SW.if_eq (tgt := 35) C dX9_say_22 (by decide) (fun hc => ?_) (fun hc => ?_)
    · replace h := h.1 hc
      refine SW.bipush (v := (-4 : Int32)) C dX9_say_35 (by decide) ?_
      exact SW.iret C oP_19 rfl h dX9_say_37
    · replace h := h.2 hc
      refine SW.aload_n C dX9_say_25 rfl 0 rfl ?_
      refine SW.get (v := .ref (qP 0)) (T := TX9) (N := 11) C inX9_say_X9 0 rfl rfl 5 (by decide) lkX9_say_32 rfl dX9_say_26 ?_
      refine SW.get (v := .int (oP_19 0 0)) (T := TX5) (N := 2) C inX9_say_X5 1 rfl rfl 0 (by decide) lkX9_say_107 rfl dX9_say_29 ?_
      refine SW.goto (tgt := 37) C dX9_say_32 (by decide) ?_
      exact SW.iret C oP_19 rfl h dX9_say_37
  · replace h := h.2 hc
    refine SW.bipush (v := (-2 : Int32)) C dX9_say_11 (by decide) ?_
    exact SW.iret C oP rfl h dX9_say_13
def wpX9_wipe (oX : Ob) (oP : Ob) (post : Int32 → Ob → Prop) : Prop := wpX5_clear oP (fun (r4 : Int32) (oP_4 : Ob) => post r4 oP_4)
theorem pdX9_wipe : yX9_wipe.cls = RX9 ∧ yX9_wipe.cls ≠ "java/lang/invoke/MethodHandle" ∧ yX9_wipe.cls ≠ "java/lang/invoke/VarHandle" ∧ (parseMethodDescriptor yX9_wipe.desc).map (fun d => d.parameters.length) = some 0 := by decide +kernel
theorem lkX9_wipe_32 : Cond.fieldLink RX9 32 (TX9 5).1 (TX9 5).2.1 (TX9 5).2.2.1 ∈ wsX9_wipe := by decide +kernel
theorem inX9_wipe_X9 : ∀ w ∈ u_ws RX9 TX9 11, w ∈ wsX9_wipe := by decide +kernel
set_option maxHeartbeats 4000000 in
set_option maxRecDepth 100000 in
theorem ctX9_wipe (l : Launch) (D : va_G) (cI cZ : ClassId) (qX : Nat → Nat) (qS : Nat → Nat) (qI : Nat → Nat) (qJ : Nat → Nat) (qP : Nat → Nat) (qV : Nat → Nat) (qT : Nat → Nat) (qK : Nat → Nat) (qG : Nat → Nat) (qL : Nat → Nat) (qM : Nat → Nat) (oX : Ob) (oP : Ob) (post : Int32 → Ob → Prop) (h : wpX9_wipe oX oP post) : CTi l yX9_wipe wsX9_wipe { frames := 1, cells := 0, slots := 0, locals := 21 } D [(cI, .int), (cZ, .boolean)] [.ref (qX 0)] (w9 cI cZ qX qS qI qJ qP qV qK qG qL qM oX ++ w5 cI cZ qP oP) (fun u : Ob => w9 cI cZ qX qS qI qJ qP qV qK qG qL qM oX ++ w5 cI cZ qP u) (fun (r : Int32) (u : Ob) => post r u) := by
  refine CTi.of (cc := cX9_wipe) (own := RX9) (maxL := 1) (ret := (some .int)) (lv0 := [(0, .ref (qX 0))]) (by decide) rfl rfl (Nat.le_of_ble_eq_true rfl) rfl ?_
  intro p e s m args below meth c A C
  unfold wpX9_wipe at h
  refine SW.aload_n C dX9_wipe_0 rfl 0 rfl ?_
  refine SW.get (v := .ref (qP 0)) (T := TX9) (N := 11) C inX9_wipe_X9 0 rfl rfl 5 (by decide) lkX9_wipe_32 rfl dX9_wipe_1 ?_
  refine SW.callVi_sub (wr := w9 cI cZ qX qS qI qJ qP qV qK qG qL qM oX) (wn := fun u : Ob => w9 cI cZ qX qS qI qJ qP qV qK qG qL qM oX ++ w5 cI cZ qP u) C (ctX5_clear l D cI cZ qP oP _ h) gX9_wipe_X5_clear rfl rfl rfl pdX5_clear ⟨by decide, by decide⟩ [1, 2] [0] [0, 1, 2] rfl rfl (by decide) (by decide) (by decide) (by decide) (fun _ => rfl) 0 rfl rfl rfl rfl rfl (Nat.le_of_ble_eq_true rfl) dX9_wipe_4 (by decide) (fun r4 u h => ?_)
  obtain ⟨oP_4, rfl⟩ : ∃ z, z = u := ⟨_, rfl⟩
  try dsimp only at h
  exact SW.iret C oP_4 rfl h dX9_wipe_7
def wpX9_fault (oX : Ob) (oS : Ob) (oP : Ob) (v1 : Int32) (post : Int32 → Prop) : Prop := wpX9_isOutside v1 (0 : Int32) (1 : Int32) (fun (r3 : Int32) => ((r3 = 0) → ((v1 = 0) → wpX5_eveningFault oP (oS 0 0) (fun (r27 : Int32) => post r27)) ∧ (¬ (v1 = 0) → wpX5_tuneFault oP (fun (r37 : Int32) => post r37))) ∧ (¬ (r3 = 0) → post (-2 : Int32)))
theorem pdX9_fault : yX9_fault.cls = RX9 ∧ yX9_fault.cls ≠ "java/lang/invoke/MethodHandle" ∧ yX9_fault.cls ≠ "java/lang/invoke/VarHandle" ∧ (parseMethodDescriptor yX9_fault.desc).map (fun d => d.parameters.length) = some 1 := by decide +kernel
theorem lkX9_fault_32 : Cond.fieldLink RX9 32 (TX9 5).1 (TX9 5).2.1 (TX9 5).2.2.1 ∈ wsX9_fault := by decide +kernel
theorem inX9_fault_X9 : ∀ w ∈ u_ws RX9 TX9 11, w ∈ wsX9_fault := by decide +kernel
theorem lkX9_fault_12 : Cond.fieldLink RX9 12 (TX9 0).1 (TX9 0).2.1 (TX9 0).2.2.1 ∈ wsX9_fault := by decide +kernel
theorem lkX9_fault_75 : Cond.fieldLink RX9 75 (TX8 0).1 (TX8 0).2.1 (TX8 0).2.2.1 ∈ wsX9_fault := by decide +kernel
theorem inX9_fault_X8 : ∀ w ∈ u_ws RX8 TX8 13, w ∈ wsX9_fault := by decide +kernel
set_option maxHeartbeats 4000000 in
set_option maxRecDepth 100000 in
theorem ctX9_fault (l : Launch) (D : va_G) (cI cZ : ClassId) (qX : Nat → Nat) (qS : Nat → Nat) (qI : Nat → Nat) (qJ : Nat → Nat) (qP : Nat → Nat) (qV : Nat → Nat) (qT : Nat → Nat) (qK : Nat → Nat) (qG : Nat → Nat) (qL : Nat → Nat) (qM : Nat → Nat) (oX : Ob) (oS : Ob) (oP : Ob) (v1 : Int32) (post : Int32 → Prop) (h : wpX9_fault oX oS oP v1 post) : CTi l yX9_fault wsX9_fault { frames := 4, cells := 0, slots := 0, locals := 86 } D [(cI, .int), (cZ, .boolean)] [.ref (qX 0), .int v1] (w9 cI cZ qX qS qI qJ qP qV qK qG qL qM oX ++ w8 cI cZ qS oS ++ w5 cI cZ qP oP) (fun _ : Unit => w9 cI cZ qX qS qI qJ qP qV qK qG qL qM oX ++ w8 cI cZ qS oS ++ w5 cI cZ qP oP) (fun (r : Int32) (_ : Unit) => post r) := by
  refine CTi.of (cc := cX9_fault) (own := RX9) (maxL := 2) (ret := (some .int)) (lv0 := [(0, .ref (qX 0)), (1, .int v1)]) (by decide) rfl rfl (Nat.le_of_ble_eq_true rfl) rfl ?_
  intro p e s m args below meth c A C
  unfold wpX9_fault at h
  refine SW.iload_n C dX9_fault_0 rfl 1 rfl ?_
  refine SW.iconst (v := (0 : Int32)) C dX9_fault_1 (by decide) ?_
  refine SW.iconst (v := (1 : Int32)) C dX9_fault_2 (by decide) ?_
  refine SW.callSi_pure C (ctX9_isOutside l D cI cZ v1 (0 : Int32) (1 : Int32) _ h) gX9_fault_X9_isOutside rfl rfl rfl pdX9_isOutside ⟨by decide, by decide⟩ rfl rfl (Nat.le_of_ble_eq_true rfl) dX9_fault_3 (by decide) (fun r3 u h => ?_)
  try dsimp only at h
  refine SW.if_eq (tgt := 12) C dX9_fault_6 (by decide) (fun hc => ?_) (fun hc => ?_)
  · replace h := h.1 hc
    refine SW.iload_n C dX9_fault_12 rfl 1 rfl ?_
    refine SW.if_ne (tgt := 33) C dX9_fault_13 (by decide) (fun hc => ?_) (fun hc => ?_)
    · replace h := h.2 hc
      refine SW.aload_n C dX9_fault_33 rfl 0 rfl ?_
      refine SW.get (v := .ref (qP 0)) (T := TX9) (N := 11) C inX9_fault_X9 0 rfl rfl 5 (by decide) lkX9_fault_32 rfl dX9_fault_34 ?_
      refine SW.callVi_sub (wr := w9 cI cZ qX qS qI qJ qP qV qK qG qL qM oX ++ w8 cI cZ qS oS) (wn := fun u : Unit => w9 cI cZ qX qS qI qJ qP qV qK qG qL qM oX ++ w8 cI cZ qS oS ++ w5 cI cZ qP oP) C (ctX5_tuneFault l D cI cZ qP oP _ h) gX9_fault_X5_tuneFault rfl rfl rfl pdX5_tuneFault ⟨by decide, by decide⟩ [8, 9] [0, 1, 2, 3, 4, 5, 6, 7] [0, 1, 2, 3, 4, 5, 6, 7, 8, 9] rfl rfl (by decide) (by decide) (by decide) (by decide) (fun _ => rfl) 0 rfl rfl rfl rfl rfl (Nat.le_of_ble_eq_true rfl) dX9_fault_37 (by decide) (fun r37 u h => ?_)
      try dsimp only at h
      exact SW.iret C () rfl h dX9_fault_40
    · replace h := h.1 hc
      refine SW.aload_n C dX9_fault_16 rfl 0 rfl ?_
      refine SW.get (v := .ref (qP 0)) (T := TX9) (N := 11) C inX9_fault_X9 0 rfl rfl 5 (by decide) lkX9_fault_32 rfl dX9_fault_17 ?_
      refine SW.aload_n C dX9_fault_20 rfl 0 rfl ?_
      refine SW.get (v := .ref (qS 0)) (T := TX9) (N := 11) C inX9_fault_X9 0 rfl rfl 0 (by decide) lkX9_fault_12 rfl dX9_fault_21 ?_
      refine SW.get (v := .int (oS 0 0)) (T := TX8) (N := 13) C inX9_fault_X8 1 rfl rfl 0 (by decide) lkX9_fault_75 rfl dX9_fault_24 ?_
      refine SW.callVi_sub (wr := w9 cI cZ qX qS qI qJ qP qV qK qG qL qM oX ++ w8 cI cZ qS oS) (wn := fun u : Unit => w9 cI cZ qX qS qI qJ qP qV qK qG qL qM oX ++ w8 cI cZ qS oS ++ w5 cI cZ qP oP) C (ctX5_eveningFault l D cI cZ qP oP (oS 0 0) _ h) gX9_fault_X5_eveningFault rfl rfl rfl pdX5_eveningFault ⟨by decide, by decide⟩ [8, 9] [0, 1, 2, 3, 4, 5, 6, 7] [0, 1, 2, 3, 4, 5, 6, 7, 8, 9] rfl rfl (by decide) (by decide) (by decide) (by decide) (fun _ => rfl) 0 rfl rfl rfl rfl rfl (Nat.le_of_ble_eq_true rfl) dX9_fault_27 (by decide) (fun r27 u h => ?_)
      try dsimp only at h
      refine SW.goto (tgt := 40) C dX9_fault_30 (by decide) ?_
      exact SW.iret C () rfl h dX9_fault_40
  · replace h := h.2 hc
    refine SW.bipush (v := (-2 : Int32)) C dX9_fault_9 (by decide) ?_
    exact SW.iret C () rfl h dX9_fault_11
def wpX9_judge (oX : Ob) (oS : Ob) (oP : Ob) (oV : Ob) (oT : Ob) (v1 : Int32) (post : Int32 → Ob → Ob → Prop) : Prop := wpX9_isOutside v1 (0 : Int32) (1 : Int32) (fun (r3 : Int32) => ((r3 = 0) → wpX5_eveningFault oP (oS 0 0) (fun (r23 : Int32) => ((r23 = (-6 : Int32)) → wpX1_play oS oP oV oT (0 : Int32) (fun (oV_47 : Ob) (oT_47 : Ob) => (((oV_47 0 2) = 0) → post (-6 : Int32) oV_47 oT_47) ∧ (¬ ((oV_47 0 2) = 0) → ((v1 = 0) → post (oV_47 0 1) oV_47 oT_47) ∧ (¬ (v1 = 0) → post (oV_47 0 2) oV_47 oT_47)))) ∧ (¬ (r23 = (-6 : Int32)) → post (-5 : Int32) oV oT))) ∧ (¬ (r3 = 0) → post (-2 : Int32) oV oT))
theorem pdX9_judge : yX9_judge.cls = RX9 ∧ yX9_judge.cls ≠ "java/lang/invoke/MethodHandle" ∧ yX9_judge.cls ≠ "java/lang/invoke/VarHandle" ∧ (parseMethodDescriptor yX9_judge.desc).map (fun d => d.parameters.length) = some 1 := by decide +kernel
theorem lkX9_judge_32 : Cond.fieldLink RX9 32 (TX9 5).1 (TX9 5).2.1 (TX9 5).2.2.1 ∈ wsX9_judge := by decide +kernel
theorem inX9_judge_X9 : ∀ w ∈ u_ws RX9 TX9 11, w ∈ wsX9_judge := by decide +kernel
theorem lkX9_judge_12 : Cond.fieldLink RX9 12 (TX9 0).1 (TX9 0).2.1 (TX9 0).2.2.1 ∈ wsX9_judge := by decide +kernel
theorem lkX9_judge_75 : Cond.fieldLink RX9 75 (TX8 0).1 (TX8 0).2.1 (TX8 0).2.2.1 ∈ wsX9_judge := by decide +kernel
theorem inX9_judge_X8 : ∀ w ∈ u_ws RX8 TX8 13, w ∈ wsX9_judge := by decide +kernel
theorem lkX9_judge_39 : Cond.fieldLink RX9 39 (TX9 6).1 (TX9 6).2.1 (TX9 6).2.2.1 ∈ wsX9_judge := by decide +kernel
theorem lkX9_judge_122 : Cond.fieldLink RX9 122 (TX1 2).1 (TX1 2).2.1 (TX1 2).2.2.1 ∈ wsX9_judge := by decide +kernel
theorem inX9_judge_X1 : ∀ w ∈ u_ws RX1 TX1 6, w ∈ wsX9_judge := by decide +kernel
theorem lkX9_judge_125 : Cond.fieldLink RX9 125 (TX1 1).1 (TX1 1).2.1 (TX1 1).2.2.1 ∈ wsX9_judge := by decide +kernel
set_option maxHeartbeats 4000000 in
set_option maxRecDepth 100000 in
theorem ctX9_judge (l : Launch) (D : va_G) (cI cZ : ClassId) (qX : Nat → Nat) (qS : Nat → Nat) (qI : Nat → Nat) (qJ : Nat → Nat) (qP : Nat → Nat) (qV : Nat → Nat) (qT : Nat → Nat) (qK : Nat → Nat) (qG : Nat → Nat) (qL : Nat → Nat) (qM : Nat → Nat) (oX : Ob) (oS : Ob) (oP : Ob) (oV : Ob) (oT : Ob) (v1 : Int32) (post : Int32 → Ob → Ob → Prop) (h : wpX9_judge oX oS oP oV oT v1 post) : CTi l yX9_judge wsX9_judge { frames := 5, cells := 0, slots := 0, locals := 127 } D [(cI, .int), (cZ, .boolean)] [.ref (qX 0), .int v1] (w9 cI cZ qX qS qI qJ qP qV qK qG qL qM oX ++ w8 cI cZ qS oS ++ w5 cI cZ qP oP ++ w1 cI cZ qV qT oV ++ w8 cI cZ qT oT) (fun u : Ob × Ob => w9 cI cZ qX qS qI qJ qP qV qK qG qL qM oX ++ w8 cI cZ qS oS ++ w5 cI cZ qP oP ++ w1 cI cZ qV qT u.1 ++ w8 cI cZ qT u.2) (fun (r : Int32) (u : Ob × Ob) => post r u.1 u.2) := by
  refine CTi.of (cc := cX9_judge) (own := RX9) (maxL := 2) (ret := (some .int)) (lv0 := [(0, .ref (qX 0)), (1, .int v1)]) (by decide) rfl rfl (Nat.le_of_ble_eq_true rfl) rfl ?_
  intro p e s m args below meth c A C
  unfold wpX9_judge at h
  refine SW.iload_n C dX9_judge_0 rfl 1 rfl ?_
  refine SW.iconst (v := (0 : Int32)) C dX9_judge_1 (by decide) ?_
  refine SW.iconst (v := (1 : Int32)) C dX9_judge_2 (by decide) ?_
  refine SW.callSi_pure C (ctX9_isOutside l D cI cZ v1 (0 : Int32) (1 : Int32) _ h) gX9_judge_X9_isOutside rfl rfl rfl pdX9_isOutside ⟨by decide, by decide⟩ rfl rfl (Nat.le_of_ble_eq_true rfl) dX9_judge_3 (by decide) (fun r3 u h => ?_)
  try dsimp only at h
  refine SW.if_eq (tgt := 12) C dX9_judge_6 (by decide) (fun hc => ?_) (fun hc => ?_)
  · replace h := h.1 hc
    refine SW.aload_n C dX9_judge_12 rfl 0 rfl ?_
    refine SW.get (v := .ref (qP 0)) (T := TX9) (N := 11) C inX9_judge_X9 0 rfl rfl 5 (by decide) lkX9_judge_32 rfl dX9_judge_13 ?_
    refine SW.aload_n C dX9_judge_16 rfl 0 rfl ?_
    refine SW.get (v := .ref (qS 0)) (T := TX9) (N := 11) C inX9_judge_X9 0 rfl rfl 0 (by decide) lkX9_judge_12 rfl dX9_judge_17 ?_
    refine SW.get (v := .int (oS 0 0)) (T := TX8) (N := 13) C inX9_judge_X8 1 rfl rfl 0 (by decide) lkX9_judge_75 rfl dX9_judge_20 ?_
    refine SW.callVi_sub (wr := w9 cI cZ qX qS qI qJ qP qV qK qG qL qM oX ++ w8 cI cZ qS oS ++ w1 cI cZ qV qT oV ++ w8 cI cZ qT oT) (wn := fun u : Unit => w9 cI cZ qX qS qI qJ qP qV qK qG qL qM oX ++ w8 cI cZ qS oS ++ w5 cI cZ qP oP ++ w1 cI cZ qV qT oV ++ w8 cI cZ qT oT) C (ctX5_eveningFault l D cI cZ qP oP (oS 0 0) _ h) gX9_judge_X5_eveningFault rfl rfl rfl pdX5_eveningFault ⟨by decide, by decide⟩ [8, 9] [0, 1, 2, 3, 4, 5, 6, 7, 10, 11, 12, 13, 14, 15, 16, 17] [0, 1, 2, 3, 4, 5, 6, 7, 16, 17, 8, 9, 10, 11, 12, 13, 14, 15] rfl rfl (by decide) (by decide) (by decide) (by decide) (fun _ => rfl) 0 rfl rfl rfl rfl rfl (Nat.le_of_ble_eq_true rfl) dX9_judge_23 (by decide) (fun r23 u h => ?_)
    try dsimp only at h
    refine SW.bipush (v := (-6 : Int32)) C dX9_judge_26 (by decide) ?_
    refine SW.icmp_eq (tgt := 34) C dX9_judge_28 (by decide) (fun hc => ?_) (fun hc => ?_)
    · replace h := h.1 hc
      refine SW.aload_n C dX9_judge_34 rfl 0 rfl ?_
      refine SW.get (v := .ref (qV 0)) (T := TX9) (N := 11) C inX9_judge_X9 0 rfl rfl 6 (by decide) lkX9_judge_39 rfl dX9_judge_35 ?_
      refine SW.aload_n C dX9_judge_38 rfl 0 rfl ?_
      refine SW.get (v := .ref (qP 0)) (T := TX9) (N := 11) C inX9_judge_X9 0 rfl rfl 5 (by decide) lkX9_judge_32 rfl dX9_judge_39 ?_
      refine SW.aload_n C dX9_judge_42 rfl 0 rfl ?_
      refine SW.get (v := .ref (qS 0)) (T := TX9) (N := 11) C inX9_judge_X9 0 rfl rfl 0 (by decide) lkX9_judge_12 rfl dX9_judge_43 ?_
      refine SW.iconst (v := (0 : Int32)) C dX9_judge_46 (by decide) ?_
      refine SW.callVv_sub (wr := w9 cI cZ qX qS qI qJ qP qV qK qG qL qM oX) (wn := fun u : Ob × Ob => w9 cI cZ qX qS qI qJ qP qV qK qG qL qM oX ++ w8 cI cZ qS oS ++ w5 cI cZ qP oP ++ w1 cI cZ qV qT u.1 ++ w8 cI cZ qT u.2) C (ctX1_play l D cI cZ qS qP qV qT oS oP oV oT (0 : Int32) _ h) gX9_judge_X1_play rfl rfl rfl pdX1_play ⟨by decide, by decide⟩ [1, 2, 3, 4, 5, 6, 7, 8, 9, 10, 11, 12, 13, 14, 15, 16, 17] [0] [0, 1, 2, 3, 4, 5, 6, 7, 8, 9, 10, 11, 12, 13, 14, 15, 16, 17] rfl rfl (by decide) (by decide) (by decide) (by decide) (fun _ => rfl) 9 rfl rfl rfl rfl rfl (Nat.le_of_ble_eq_true rfl) dX9_judge_47 (by decide) (fun u h => ?_)
      obtain ⟨oV_47, oT_47⟩ := u
      try dsimp only at h
      refine SW.aload_n C dX9_judge_50 rfl 0 rfl ?_
      refine SW.get (v := .ref (qV 0)) (T := TX9) (N := 11) C inX9_judge_X9 0 rfl rfl 6 (by decide) lkX9_judge_39 rfl dX9_judge_51 ?_
      refine SW.get (v := .int (oV_47 0 2)) (T := TX1) (N := 6) C inX9_judge_X1 10 rfl rfl 2 (by decide) lkX9_judge_122 rfl dX9_judge_54 ?_
      refine SW.if_ne (tgt := 63) C dX9_judge_57 (by decide) (fun hc => ?_) (fun hc => ?_)
      · replace h := h.2 hc
        refine SW.iload_n C dX9_judge_63 rfl 1 rfl ?_
        refine SW.if_ne (tgt := 77) C dX9_judge_64 (by decide) (fun hc => ?_) (fun hc => ?_)
        · replace h := h.2 hc
          refine SW.aload_n C dX9_judge_77 rfl 0 rfl ?_
          refine SW.get (v := .ref (qV 0)) (T := TX9) (N := 11) C inX9_judge_X9 0 rfl rfl 6 (by decide) lkX9_judge_39 rfl dX9_judge_78 ?_
          refine SW.get (v := .int (oV_47 0 2)) (T := TX1) (N := 6) C inX9_judge_X1 10 rfl rfl 2 (by decide) lkX9_judge_122 rfl dX9_judge_81 ?_
          exact SW.iret C (oV_47, oT_47) rfl h dX9_judge_84
        · replace h := h.1 hc
          refine SW.aload_n C dX9_judge_67 rfl 0 rfl ?_
          refine SW.get (v := .ref (qV 0)) (T := TX9) (N := 11) C inX9_judge_X9 0 rfl rfl 6 (by decide) lkX9_judge_39 rfl dX9_judge_68 ?_
          refine SW.get (v := .int (oV_47 0 1)) (T := TX1) (N := 6) C inX9_judge_X1 10 rfl rfl 1 (by decide) lkX9_judge_125 rfl dX9_judge_71 ?_
          refine SW.goto (tgt := 84) C dX9_judge_74 (by decide) ?_
          exact SW.iret C (oV_47, oT_47) rfl h dX9_judge_84
      · replace h := h.1 hc
        refine SW.bipush (v := (-6 : Int32)) C dX9_judge_60 (by decide) ?_
        exact SW.iret C (oV_47, oT_47) rfl h dX9_judge_62
    · replace h := h.2 hc
      refine SW.bipush (v := (-5 : Int32)) C dX9_judge_31 (by decide) ?_
      exact SW.iret C (oV, oT) rfl h dX9_judge_33
  · replace h := h.2 hc
    refine SW.bipush (v := (-2 : Int32)) C dX9_judge_9 (by decide) ?_
    exact SW.iret C (oV, oT) rfl h dX9_judge_11
def wpX9_canBePlayed (oX : Ob) (oS : Ob) (oP : Ob) (oV : Ob) (oT : Ob) (v1 : Int32) (post : Int32 → Ob → Ob → Prop) : Prop := wpX5_eveningFault oP (oS 0 0) (fun (r11 : Int32) => ((r11 = (-6 : Int32)) → wpX1_play oS oP oV oT v1 (fun (oV_34 : Ob) (oT_34 : Ob) => (((oV_34 0 2) = 0) → post (1 : Int32) oV_34 oT_34) ∧ (¬ ((oV_34 0 2) = 0) → post (0 : Int32) oV_34 oT_34))) ∧ (¬ (r11 = (-6 : Int32)) → post (0 : Int32) oV oT))
theorem pdX9_canBePlayed : yX9_canBePlayed.cls = RX9 ∧ yX9_canBePlayed.cls ≠ "java/lang/invoke/MethodHandle" ∧ yX9_canBePlayed.cls ≠ "java/lang/invoke/VarHandle" ∧ (parseMethodDescriptor yX9_canBePlayed.desc).map (fun d => d.parameters.length) = some 1 := by decide +kernel
theorem lkX9_canBePlayed_32 : Cond.fieldLink RX9 32 (TX9 5).1 (TX9 5).2.1 (TX9 5).2.2.1 ∈ wsX9_canBePlayed := by decide +kernel
theorem inX9_canBePlayed_X9 : ∀ w ∈ u_ws RX9 TX9 11, w ∈ wsX9_canBePlayed := by decide +kernel
theorem lkX9_canBePlayed_12 : Cond.fieldLink RX9 12 (TX9 0).1 (TX9 0).2.1 (TX9 0).2.2.1 ∈ wsX9_canBePlayed := by decide +kernel
theorem lkX9_canBePlayed_75 : Cond.fieldLink RX9 75 (TX8 0).1 (TX8 0).2.1 (TX8 0).2.2.1 ∈ wsX9_canBePlayed := by decide +kernel
theorem inX9_canBePlayed_X8 : ∀ w ∈ u_ws RX8 TX8 13, w ∈ wsX9_canBePlayed := by decide +kernel
theorem lkX9_canBePlayed_39 : Cond.fieldLink RX9 39 (TX9 6).1 (TX9 6).2.1 (TX9 6).2.2.1 ∈ wsX9_canBePlayed := by decide +kernel
theorem lkX9_canBePlayed_122 : Cond.fieldLink RX9 122 (TX1 2).1 (TX1 2).2.1 (TX1 2).2.2.1 ∈ wsX9_canBePlayed := by decide +kernel
theorem inX9_canBePlayed_X1 : ∀ w ∈ u_ws RX1 TX1 6, w ∈ wsX9_canBePlayed := by decide +kernel
set_option maxHeartbeats 4000000 in
set_option maxRecDepth 100000 in
theorem ctX9_canBePlayed (l : Launch) (D : va_G) (cI cZ : ClassId) (qX : Nat → Nat) (qS : Nat → Nat) (qI : Nat → Nat) (qJ : Nat → Nat) (qP : Nat → Nat) (qV : Nat → Nat) (qT : Nat → Nat) (qK : Nat → Nat) (qG : Nat → Nat) (qL : Nat → Nat) (qM : Nat → Nat) (oX : Ob) (oS : Ob) (oP : Ob) (oV : Ob) (oT : Ob) (v1 : Int32) (post : Int32 → Ob → Ob → Prop) (h : wpX9_canBePlayed oX oS oP oV oT v1 post) : CTi l yX9_canBePlayed wsX9_canBePlayed { frames := 5, cells := 0, slots := 0, locals := 127 } D [(cI, .int), (cZ, .boolean)] [.ref (qX 0), .int v1] (w9 cI cZ qX qS qI qJ qP qV qK qG qL qM oX ++ w8 cI cZ qS oS ++ w5 cI cZ qP oP ++ w1 cI cZ qV qT oV ++ w8 cI cZ qT oT) (fun u : Ob × Ob => w9 cI cZ qX qS qI qJ qP qV qK qG qL qM oX ++ w8 cI cZ qS oS ++ w5 cI cZ qP oP ++ w1 cI cZ qV qT u.1 ++ w8 cI cZ qT u.2) (fun (r : Int32) (u : Ob × Ob) => post r u.1 u.2) := by
  refine CTi.of (cc := cX9_canBePlayed) (own := RX9) (maxL := 2) (ret := (some .boolean)) (lv0 := [(0, .ref (qX 0)), (1, .int v1)]) (by decide) rfl rfl (Nat.le_of_ble_eq_true rfl) rfl ?_
  intro p e s m args below meth c A C
  unfold wpX9_canBePlayed at h
  refine SW.aload_n C dX9_canBePlayed_0 rfl 0 rfl ?_
  refine SW.get (v := .ref (qP 0)) (T := TX9) (N := 11) C inX9_canBePlayed_X9 0 rfl rfl 5 (by decide) lkX9_canBePlayed_32 rfl dX9_canBePlayed_1 ?_
  refine SW.aload_n C dX9_canBePlayed_4 rfl 0 rfl ?_
  refine SW.get (v := .ref (qS 0)) (T := TX9) (N := 11) C inX9_canBePlayed_X9 0 rfl rfl 0 (by decide) lkX9_canBePlayed_12 rfl dX9_canBePlayed_5 ?_
  refine SW.get (v := .int (oS 0 0)) (T := TX8) (N := 13) C inX9_canBePlayed_X8 1 rfl rfl 0 (by decide) lkX9_canBePlayed_75 rfl dX9_canBePlayed_8 ?_
  refine SW.callVi_sub (wr := w9 cI cZ qX qS qI qJ qP qV qK qG qL qM oX ++ w8 cI cZ qS oS ++ w1 cI cZ qV qT oV ++ w8 cI cZ qT oT) (wn := fun u : Unit => w9 cI cZ qX qS qI qJ qP qV qK qG qL qM oX ++ w8 cI cZ qS oS ++ w5 cI cZ qP oP ++ w1 cI cZ qV qT oV ++ w8 cI cZ qT oT) C (ctX5_eveningFault l D cI cZ qP oP (oS 0 0) _ h) gX9_canBePlayed_X5_eveningFault rfl rfl rfl pdX5_eveningFault ⟨by decide, by decide⟩ [8, 9] [0, 1, 2, 3, 4, 5, 6, 7, 10, 11, 12, 13, 14, 15, 16, 17] [0, 1, 2, 3, 4, 5, 6, 7, 16, 17, 8, 9, 10, 11, 12, 13, 14, 15] rfl rfl (by decide) (by decide) (by decide) (by decide) (fun _ => rfl) 0 rfl rfl rfl rfl rfl (Nat.le_of_ble_eq_true rfl) dX9_canBePlayed_11 (by decide) (fun r11 u h => ?_)
  try dsimp only at h
  refine SW.bipush (v := (-6 : Int32)) C dX9_canBePlayed_14 (by decide) ?_
  refine SW.icmp_eq (tgt := 21) C dX9_canBePlayed_16 (by decide) (fun hc => ?_) (fun hc => ?_)
  · replace h := h.1 hc
    refine SW.aload_n C dX9_canBePlayed_21 rfl 0 rfl ?_
    refine SW.get (v := .ref (qV 0)) (T := TX9) (N := 11) C inX9_canBePlayed_X9 0 rfl rfl 6 (by decide) lkX9_canBePlayed_39 rfl dX9_canBePlayed_22 ?_
    refine SW.aload_n C dX9_canBePlayed_25 rfl 0 rfl ?_
    refine SW.get (v := .ref (qP 0)) (T := TX9) (N := 11) C inX9_canBePlayed_X9 0 rfl rfl 5 (by decide) lkX9_canBePlayed_32 rfl dX9_canBePlayed_26 ?_
    refine SW.aload_n C dX9_canBePlayed_29 rfl 0 rfl ?_
    refine SW.get (v := .ref (qS 0)) (T := TX9) (N := 11) C inX9_canBePlayed_X9 0 rfl rfl 0 (by decide) lkX9_canBePlayed_12 rfl dX9_canBePlayed_30 ?_
    refine SW.iload_n C dX9_canBePlayed_33 rfl 1 rfl ?_
    refine SW.callVv_sub (wr := w9 cI cZ qX qS qI qJ qP qV qK qG qL qM oX) (wn := fun u : Ob × Ob => w9 cI cZ qX qS qI qJ qP qV qK qG qL qM oX ++ w8 cI cZ qS oS ++ w5 cI cZ qP oP ++ w1 cI cZ qV qT u.1 ++ w8 cI cZ qT u.2) C (ctX1_play l D cI cZ qS qP qV qT oS oP oV oT v1 _ h) gX9_canBePlayed_X1_play rfl rfl rfl pdX1_play ⟨by decide, by decide⟩ [1, 2, 3, 4, 5, 6, 7, 8, 9, 10, 11, 12, 13, 14, 15, 16, 17] [0] [0, 1, 2, 3, 4, 5, 6, 7, 8, 9, 10, 11, 12, 13, 14, 15, 16, 17] rfl rfl (by decide) (by decide) (by decide) (by decide) (fun _ => rfl) 9 rfl rfl rfl rfl rfl (Nat.le_of_ble_eq_true rfl) dX9_canBePlayed_34 (by decide) (fun u h => ?_)
    obtain ⟨oV_34, oT_34⟩ := u
    try dsimp only at h
    refine SW.aload_n C dX9_canBePlayed_37 rfl 0 rfl ?_
    refine SW.get (v := .ref (qV 0)) (T := TX9) (N := 11) C inX9_canBePlayed_X9 0 rfl rfl 6 (by decide) lkX9_canBePlayed_39 rfl dX9_canBePlayed_38 ?_
    refine SW.get (v := .int (oV_34 0 2)) (T := TX1) (N := 6) C inX9_canBePlayed_X1 10 rfl rfl 2 (by decide) lkX9_canBePlayed_122 rfl dX9_canBePlayed_41 ?_
    refine SW.if_ne (tgt := 51) C dX9_canBePlayed_44 (by decide) (fun hc => ?_) (fun hc => ?_)
    · replace h := h.2 hc
      refine SW.iconst (v := (0 : Int32)) C dX9_canBePlayed_51 (by decide) ?_
      exact SW.zret C (oV_34, oT_34) (by decide) rfl h dX9_canBePlayed_52
    · replace h := h.1 hc
      refine SW.iconst (v := (1 : Int32)) C dX9_canBePlayed_47 (by decide) ?_
      refine SW.goto (tgt := 52) C dX9_canBePlayed_48 (by decide) ?_
      exact SW.zret C (oV_34, oT_34) (by decide) rfl h dX9_canBePlayed_52
  · replace h := h.2 hc
    refine SW.iconst (v := (0 : Int32)) C dX9_canBePlayed_19 (by decide) ?_
    exact SW.zret C (oV, oT) (by decide) rfl h dX9_canBePlayed_20
def wpX9_done (oX : Ob) (oS : Ob) (oP : Ob) (oV : Ob) (oT : Ob) (post : Int32 → Ob → Ob → Ob → Ob → Prop) : Prop := wpX9_canBePlayed oX oS oP oV oT (0 : Int32) (fun (r2 : Int32) (oV_2 : Ob) (oT_2 : Ob) => ((r2 = 0) → post (-5 : Int32) oS oP oV_2 oT_2) ∧ (¬ (r2 = 0) → wpX5_clear oP (fun (r49 : Int32) (oP_49 : Ob) => post r49 (pf (pf oS 5 (oT_2 0 5)) 4 (oT_2 0 4)) oP_49 oV_2 oT_2)))
theorem pdX9_done : yX9_done.cls = RX9 ∧ yX9_done.cls ≠ "java/lang/invoke/MethodHandle" ∧ yX9_done.cls ≠ "java/lang/invoke/VarHandle" ∧ (parseMethodDescriptor yX9_done.desc).map (fun d => d.parameters.length) = some 0 := by decide +kernel
theorem lkX9_done_12 : Cond.fieldLink RX9 12 (TX9 0).1 (TX9 0).2.1 (TX9 0).2.2.1 ∈ wsX9_done := by decide +kernel
theorem inX9_done_X9 : ∀ w ∈ u_ws RX9 TX9 11, w ∈ wsX9_done := by decide +kernel
theorem lkX9_done_39 : Cond.fieldLink RX9 39 (TX9 6).1 (TX9 6).2.1 (TX9 6).2.2.1 ∈ wsX9_done := by decide +kernel
theorem lkX9_done_132 : Cond.fieldLink RX9 132 (TX1 0).1 (TX1 0).2.1 (TX1 0).2.2.1 ∈ wsX9_done := by decide +kernel
theorem inX9_done_X1 : ∀ w ∈ u_ws RX1 TX1 6, w ∈ wsX9_done := by decide +kernel
theorem lkX9_done_135 : Cond.fieldLink RX9 135 (TX8 5).1 (TX8 5).2.1 (TX8 5).2.2.1 ∈ wsX9_done := by decide +kernel
theorem inX9_done_X8 : ∀ w ∈ u_ws RX8 TX8 13, w ∈ wsX9_done := by decide +kernel
theorem lkX9_done_138 : Cond.fieldLink RX9 138 (TX8 4).1 (TX8 4).2.1 (TX8 4).2.2.1 ∈ wsX9_done := by decide +kernel
theorem lkX9_done_32 : Cond.fieldLink RX9 32 (TX9 5).1 (TX9 5).2.1 (TX9 5).2.2.1 ∈ wsX9_done := by decide +kernel
set_option maxHeartbeats 4000000 in
set_option maxRecDepth 100000 in
theorem ctX9_done (l : Launch) (D : va_G) (cI cZ : ClassId) (qX : Nat → Nat) (qS : Nat → Nat) (qI : Nat → Nat) (qJ : Nat → Nat) (qP : Nat → Nat) (qV : Nat → Nat) (qT : Nat → Nat) (qK : Nat → Nat) (qG : Nat → Nat) (qL : Nat → Nat) (qM : Nat → Nat) (oX : Ob) (oS : Ob) (oP : Ob) (oV : Ob) (oT : Ob) (post : Int32 → Ob → Ob → Ob → Ob → Prop) (h : wpX9_done oX oS oP oV oT post) : CTi l yX9_done wsX9_done { frames := 6, cells := 0, slots := 0, locals := 148 } D [(cI, .int), (cZ, .boolean)] [.ref (qX 0)] (w9 cI cZ qX qS qI qJ qP qV qK qG qL qM oX ++ w8 cI cZ qS oS ++ w5 cI cZ qP oP ++ w1 cI cZ qV qT oV ++ w8 cI cZ qT oT) (fun u : Ob × Ob × Ob × Ob => w9 cI cZ qX qS qI qJ qP qV qK qG qL qM oX ++ w8 cI cZ qS u.1 ++ w5 cI cZ qP u.2.1 ++ w1 cI cZ qV qT u.2.2.1 ++ w8 cI cZ qT u.2.2.2) (fun (r : Int32) (u : Ob × Ob × Ob × Ob) => post r u.1 u.2.1 u.2.2.1 u.2.2.2) := by
  refine CTi.of (cc := cX9_done) (own := RX9) (maxL := 1) (ret := (some .int)) (lv0 := [(0, .ref (qX 0))]) (by decide) rfl rfl (Nat.le_of_ble_eq_true rfl) rfl ?_
  intro p e s m args below meth c A C
  unfold wpX9_done at h
  refine SW.aload_n C dX9_done_0 rfl 0 rfl ?_
  refine SW.iconst (v := (0 : Int32)) C dX9_done_1 (by decide) ?_
  refine SW.callVi_same C (ctX9_canBePlayed l D cI cZ qX qS qI qJ qP qV qT qK qG qL qM oX oS oP oV oT (0 : Int32) _ h) gX9_done_X9_canBePlayed rfl rfl rfl pdX9_canBePlayed ⟨by decide, by decide⟩ 0 rfl rfl rfl rfl rfl (Nat.le_of_ble_eq_true rfl) dX9_done_2 (by decide) (fun r2 u h => ?_)
  obtain ⟨oV_2, oT_2⟩ := u
  try dsimp only at h
  refine SW.if_ne (tgt := 11) C dX9_done_5 (by decide) (fun hc => ?_) (fun hc => ?_)
  · replace h := h.2 hc
    refine SW.aload_n C dX9_done_11 rfl 0 rfl ?_
    refine SW.get (v := .ref (qS 0)) (T := TX9) (N := 11) C inX9_done_X9 0 rfl rfl 0 (by decide) lkX9_done_12 rfl dX9_done_12 ?_
    refine SW.aload_n C dX9_done_15 rfl 0 rfl ?_
    refine SW.get (v := .ref (qV 0)) (T := TX9) (N := 11) C inX9_done_X9 0 rfl rfl 6 (by decide) lkX9_done_39 rfl dX9_done_16 ?_
    refine SW.get (v := .ref (qT 0)) (T := TX1) (N := 6) C inX9_done_X1 10 rfl rfl 0 (by decide) lkX9_done_132 rfl dX9_done_19 ?_
    refine SW.get (v := .int (oT_2 0 5)) (T := TX8) (N := 13) C inX9_done_X8 11 rfl rfl 5 (by decide) lkX9_done_135 rfl dX9_done_22 ?_
    refine SW.put (ws' := w9 cI cZ qX qS qI qJ qP qV qK qG qL qM oX ++ w8 cI cZ qS (pf oS 5 (oT_2 0 5)) ++ w5 cI cZ qP oP ++ w1 cI cZ qV qT oV_2 ++ w8 cI cZ qT oT_2) (T := TX8) (N := 13) C inX9_done_X8 tyX8 tyX8_ok nmX8 1 rfl rfl 5 (by decide) lkX9_done_135 rfl rfl rfl (Nat.le_of_ble_eq_true rfl) rfl dX9_done_25 ?_
    refine SW.aload_n C dX9_done_28 rfl 0 rfl ?_
    refine SW.get (v := .ref (qS 0)) (T := TX9) (N := 11) C inX9_done_X9 0 rfl rfl 0 (by decide) lkX9_done_12 rfl dX9_done_29 ?_
    refine SW.aload_n C dX9_done_32 rfl 0 rfl ?_
    refine SW.get (v := .ref (qV 0)) (T := TX9) (N := 11) C inX9_done_X9 0 rfl rfl 6 (by decide) lkX9_done_39 rfl dX9_done_33 ?_
    refine SW.get (v := .ref (qT 0)) (T := TX1) (N := 6) C inX9_done_X1 10 rfl rfl 0 (by decide) lkX9_done_132 rfl dX9_done_36 ?_
    refine SW.get (v := .int (oT_2 0 4)) (T := TX8) (N := 13) C inX9_done_X8 11 rfl rfl 4 (by decide) lkX9_done_138 rfl dX9_done_39 ?_
    refine SW.put (ws' := w9 cI cZ qX qS qI qJ qP qV qK qG qL qM oX ++ w8 cI cZ qS (pf (pf oS 5 (oT_2 0 5)) 4 (oT_2 0 4)) ++ w5 cI cZ qP oP ++ w1 cI cZ qV qT oV_2 ++ w8 cI cZ qT oT_2) (T := TX8) (N := 13) C inX9_done_X8 tyX8 tyX8_ok nmX8 1 rfl rfl 4 (by decide) lkX9_done_138 rfl rfl rfl (Nat.le_of_ble_eq_true rfl) rfl dX9_done_42 ?_
    refine SW.aload_n C dX9_done_45 rfl 0 rfl ?_
    refine SW.get (v := .ref (qP 0)) (T := TX9) (N := 11) C inX9_done_X9 0 rfl rfl 5 (by decide) lkX9_done_32 rfl dX9_done_46 ?_
    refine SW.callVi_sub (wr := w9 cI cZ qX qS qI qJ qP qV qK qG qL qM oX ++ w8 cI cZ qS (pf (pf oS 5 (oT_2 0 5)) 4 (oT_2 0 4)) ++ w1 cI cZ qV qT oV_2 ++ w8 cI cZ qT oT_2) (wn := fun u : Ob => w9 cI cZ qX qS qI qJ qP qV qK qG qL qM oX ++ w8 cI cZ qS (pf (pf oS 5 (oT_2 0 5)) 4 (oT_2 0 4)) ++ w5 cI cZ qP u ++ w1 cI cZ qV qT oV_2 ++ w8 cI cZ qT oT_2) C (ctX5_clear l D cI cZ qP oP _ h) gX9_done_X5_clear rfl rfl rfl pdX5_clear ⟨by decide, by decide⟩ [8, 9] [0, 1, 2, 3, 4, 5, 6, 7, 10, 11, 12, 13, 14, 15, 16, 17] [0, 1, 2, 3, 4, 5, 6, 7, 16, 17, 8, 9, 10, 11, 12, 13, 14, 15] rfl rfl (by decide) (by decide) (by decide) (by decide) (fun _ => rfl) 0 rfl rfl rfl rfl rfl (Nat.le_of_ble_eq_true rfl) dX9_done_49 (by decide) (fun r49 u h => ?_)
    obtain ⟨oP_49, rfl⟩ : ∃ z, z = u := ⟨_, rfl⟩
    try dsimp only at h
    exact SW.iret C ((pf (pf oS 5 (oT_2 0 5)) 4 (oT_2 0 4)), oP_49, oV_2, oT_2) rfl h dX9_done_52
  · replace h := h.1 hc
    refine SW.bipush (v := (-5 : Int32)) C dX9_done_8 (by decide) ?_
    exact SW.iret C (oS, oP, oV_2, oT_2) rfl h dX9_done_10
def wpX9_hears (oX : Ob) (oS : Ob) (v1 : Int32) (post : Int32 → Prop) : Prop := wpX8_has oS v1 (fun (r5 : Int32) => ((r5 = 0) → post (-1 : Int32)) ∧ (¬ (r5 = 0) → wpX8_lengthAt oS v1 (oS 0 5) (fun (r25 : Int32) => post r25)))
theorem pdX9_hears : yX9_hears.cls = RX9 ∧ yX9_hears.cls ≠ "java/lang/invoke/MethodHandle" ∧ yX9_hears.cls ≠ "java/lang/invoke/VarHandle" ∧ (parseMethodDescriptor yX9_hears.desc).map (fun d => d.parameters.length) = some 1 := by decide +kernel
theorem lkX9_hears_12 : Cond.fieldLink RX9 12 (TX9 0).1 (TX9 0).2.1 (TX9 0).2.2.1 ∈ wsX9_hears := by decide +kernel
theorem inX9_hears_X9 : ∀ w ∈ u_ws RX9 TX9 11, w ∈ wsX9_hears := by decide +kernel
theorem lkX9_hears_135 : Cond.fieldLink RX9 135 (TX8 5).1 (TX8 5).2.1 (TX8 5).2.2.1 ∈ wsX9_hears := by decide +kernel
theorem inX9_hears_X8 : ∀ w ∈ u_ws RX8 TX8 13, w ∈ wsX9_hears := by decide +kernel
set_option maxHeartbeats 4000000 in
set_option maxRecDepth 100000 in
theorem ctX9_hears (l : Launch) (D : va_G) (cI cZ : ClassId) (qX : Nat → Nat) (qS : Nat → Nat) (qI : Nat → Nat) (qJ : Nat → Nat) (qP : Nat → Nat) (qV : Nat → Nat) (qT : Nat → Nat) (qK : Nat → Nat) (qG : Nat → Nat) (qL : Nat → Nat) (qM : Nat → Nat) (oX : Ob) (oS : Ob) (v1 : Int32) (post : Int32 → Prop) (h : wpX9_hears oX oS v1 post) : CTi l yX9_hears wsX9_hears { frames := 3, cells := 0, slots := 0, locals := 66 } D [(cI, .int), (cZ, .boolean)] [.ref (qX 0), .int v1] (w9 cI cZ qX qS qI qJ qP qV qK qG qL qM oX ++ w8 cI cZ qS oS) (fun _ : Unit => w9 cI cZ qX qS qI qJ qP qV qK qG qL qM oX ++ w8 cI cZ qS oS) (fun (r : Int32) (_ : Unit) => post r) := by
  refine CTi.of (cc := cX9_hears) (own := RX9) (maxL := 2) (ret := (some .int)) (lv0 := [(0, .ref (qX 0)), (1, .int v1)]) (by decide) rfl rfl (Nat.le_of_ble_eq_true rfl) rfl ?_
  intro p e s m args below meth c A C
  unfold wpX9_hears at h
  refine SW.aload_n C dX9_hears_0 rfl 0 rfl ?_
  refine SW.get (v := .ref (qS 0)) (T := TX9) (N := 11) C inX9_hears_X9 0 rfl rfl 0 (by decide) lkX9_hears_12 rfl dX9_hears_1 ?_
  refine SW.iload_n C dX9_hears_4 rfl 1 rfl ?_
  refine SW.callVi_sub (wr := w9 cI cZ qX qS qI qJ qP qV qK qG qL qM oX) (wn := fun u : Unit => w9 cI cZ qX qS qI qJ qP qV qK qG qL qM oX ++ w8 cI cZ qS oS) C (ctX8_has l D cI cZ qS oS v1 _ h) gX9_hears_X8_has rfl rfl rfl pdX8_has ⟨by decide, by decide⟩ [1, 2, 3, 4, 5, 6, 7] [0] [0, 1, 2, 3, 4, 5, 6, 7] rfl rfl (by decide) (by decide) (by decide) (by decide) (fun _ => rfl) 0 rfl rfl rfl rfl rfl (Nat.le_of_ble_eq_true rfl) dX9_hears_5 (by decide) (fun r5 u h => ?_)
  try dsimp only at h
  refine SW.if_ne (tgt := 13) C dX9_hears_8 (by decide) (fun hc => ?_) (fun hc => ?_)
  · replace h := h.2 hc
    refine SW.aload_n C dX9_hears_13 rfl 0 rfl ?_
    refine SW.get (v := .ref (qS 0)) (T := TX9) (N := 11) C inX9_hears_X9 0 rfl rfl 0 (by decide) lkX9_hears_12 rfl dX9_hears_14 ?_
    refine SW.iload_n C dX9_hears_17 rfl 1 rfl ?_
    refine SW.aload_n C dX9_hears_18 rfl 0 rfl ?_
    refine SW.get (v := .ref (qS 0)) (T := TX9) (N := 11) C inX9_hears_X9 0 rfl rfl 0 (by decide) lkX9_hears_12 rfl dX9_hears_19 ?_
    refine SW.get (v := .int (oS 0 5)) (T := TX8) (N := 13) C inX9_hears_X8 1 rfl rfl 5 (by decide) lkX9_hears_135 rfl dX9_hears_22 ?_
    refine SW.callVi_sub (wr := w9 cI cZ qX qS qI qJ qP qV qK qG qL qM oX) (wn := fun u : Unit => w9 cI cZ qX qS qI qJ qP qV qK qG qL qM oX ++ w8 cI cZ qS oS) C (ctX8_lengthAt l D cI cZ qS oS v1 (oS 0 5) _ h) gX9_hears_X8_lengthAt rfl rfl rfl pdX8_lengthAt ⟨by decide, by decide⟩ [1, 2, 3, 4, 5, 6, 7] [0] [0, 1, 2, 3, 4, 5, 6, 7] rfl rfl (by decide) (by decide) (by decide) (by decide) (fun _ => rfl) 0 rfl rfl rfl rfl rfl (Nat.le_of_ble_eq_true rfl) dX9_hears_25 (by decide) (fun r25 u h => ?_)
    try dsimp only at h
    exact SW.iret C () rfl h dX9_hears_28
  · replace h := h.1 hc
    refine SW.iconst (v := (-1 : Int32)) C dX9_hears_11 (by decide) ?_
    exact SW.iret C () rfl h dX9_hears_12
def wpX9_behind (oX : Ob) (oS : Ob) (oP : Ob) (oV : Ob) (oT : Ob) (v1 : Int32) (post : Int32 → Ob → Ob → Prop) : Prop := wpX8_has oS v1 (fun (r5 : Int32) => ((r5 = 0) → post (-1 : Int32) oV oT) ∧ (¬ (r5 = 0) → wpX9_canBePlayed oX oS oP oV oT (0 : Int32) (fun (r15 : Int32) (oV_15 : Ob) (oT_15 : Ob) => ((r15 = 0) → post (-5 : Int32) oV_15 oT_15) ∧ (¬ (r15 = 0) → wpX8_lengthAt oT_15 v1 (oT_15 0 5) (fun (r42 : Int32) => post r42 oV_15 oT_15)))))
theorem pdX9_behind : yX9_behind.cls = RX9 ∧ yX9_behind.cls ≠ "java/lang/invoke/MethodHandle" ∧ yX9_behind.cls ≠ "java/lang/invoke/VarHandle" ∧ (parseMethodDescriptor yX9_behind.desc).map (fun d => d.parameters.length) = some 1 := by decide +kernel
theorem lkX9_behind_12 : Cond.fieldLink RX9 12 (TX9 0).1 (TX9 0).2.1 (TX9 0).2.2.1 ∈ wsX9_behind := by decide +kernel
theorem inX9_behind_X9 : ∀ w ∈ u_ws RX9 TX9 11, w ∈ wsX9_behind := by decide +kernel
theorem lkX9_behind_39 : Cond.fieldLink RX9 39 (TX9 6).1 (TX9 6).2.1 (TX9 6).2.2.1 ∈ wsX9_behind := by decide +kernel
theorem lkX9_behind_132 : Cond.fieldLink RX9 132 (TX1 0).1 (TX1 0).2.1 (TX1 0).2.2.1 ∈ wsX9_behind := by decide +kernel
theorem inX9_behind_X1 : ∀ w ∈ u_ws RX1 TX1 6, w ∈ wsX9_behind := by decide +kernel
theorem lkX9_behind_135 : Cond.fieldLink RX9 135 (TX8 5).1 (TX8 5).2.1 (TX8 5).2.2.1 ∈ wsX9_behind := by decide +kernel
theorem inX9_behind_X8 : ∀ w ∈ u_ws RX8 TX8 13, w ∈ wsX9_behind := by decide +kernel
set_option maxHeartbeats 4000000 in
set_option maxRecDepth 100000 in
theorem ctX9_behind (l : Launch) (D : va_G) (cI cZ : ClassId) (qX : Nat → Nat) (qS : Nat → Nat) (qI : Nat → Nat) (qJ : Nat → Nat) (qP : Nat → Nat) (qV : Nat → Nat) (qT : Nat → Nat) (qK : Nat → Nat) (qG : Nat → Nat) (qL : Nat → Nat) (qM : Nat → Nat) (oX : Ob) (oS : Ob) (oP : Ob) (oV : Ob) (oT : Ob) (v1 : Int32) (post : Int32 → Ob → Ob → Prop) (h : wpX9_behind oX oS oP oV oT v1 post) : CTi l yX9_behind wsX9_behind { frames := 6, cells := 0, slots := 0, locals := 148 } D [(cI, .int), (cZ, .boolean)] [.ref (qX 0), .int v1] (w9 cI cZ qX qS qI qJ qP qV qK qG qL qM oX ++ w8 cI cZ qS oS ++ w5 cI cZ qP oP ++ w1 cI cZ qV qT oV ++ w8 cI cZ qT oT) (fun u : Ob × Ob => w9 cI cZ qX qS qI qJ qP qV qK qG qL qM oX ++ w8 cI cZ qS oS ++ w5 cI cZ qP oP ++ w1 cI cZ qV qT u.1 ++ w8 cI cZ qT u.2) (fun (r : Int32) (u : Ob × Ob) => post r u.1 u.2) := by
  refine CTi.of (cc := cX9_behind) (own := RX9) (maxL := 2) (ret := (some .int)) (lv0 := [(0, .ref (qX 0)), (1, .int v1)]) (by decide) rfl rfl (Nat.le_of_ble_eq_true rfl) rfl ?_
  intro p e s m args below meth c A C
  unfold wpX9_behind at h
  refine SW.aload_n C dX9_behind_0 rfl 0 rfl ?_
  refine SW.get (v := .ref (qS 0)) (T := TX9) (N := 11) C inX9_behind_X9 0 rfl rfl 0 (by decide) lkX9_behind_12 rfl dX9_behind_1 ?_
  refine SW.iload_n C dX9_behind_4 rfl 1 rfl ?_
  refine SW.callVi_sub (wr := w9 cI cZ qX qS qI qJ qP qV qK qG qL qM oX ++ w5 cI cZ qP oP ++ w1 cI cZ qV qT oV ++ w8 cI cZ qT oT) (wn := fun u : Unit => w9 cI cZ qX qS qI qJ qP qV qK qG qL qM oX ++ w8 cI cZ qS oS ++ w5 cI cZ qP oP ++ w1 cI cZ qV qT oV ++ w8 cI cZ qT oT) C (ctX8_has l D cI cZ qS oS v1 _ h) gX9_behind_X8_has rfl rfl rfl pdX8_has ⟨by decide, by decide⟩ [1, 2, 3, 4, 5, 6, 7] [0, 8, 9, 10, 11, 12, 13, 14, 15, 16, 17] [0, 11, 12, 13, 14, 15, 16, 17, 1, 2, 3, 4, 5, 6, 7, 8, 9, 10] rfl rfl (by decide) (by decide) (by decide) (by decide) (fun _ => rfl) 0 rfl rfl rfl rfl rfl (Nat.le_of_ble_eq_true rfl) dX9_behind_5 (by decide) (fun r5 u h => ?_)
  try dsimp only at h
  refine SW.if_ne (tgt := 13) C dX9_behind_8 (by decide) (fun hc => ?_) (fun hc => ?_)
  · replace h := h.2 hc
    refine SW.aload_n C dX9_behind_13 rfl 0 rfl ?_
    refine SW.iconst (v := (0 : Int32)) C dX9_behind_14 (by decide) ?_
    refine SW.callVi_same C (ctX9_canBePlayed l D cI cZ qX qS qI qJ qP qV qT qK qG qL qM oX oS oP oV oT (0 : Int32) _ h) gX9_behind_X9_canBePlayed rfl rfl rfl pdX9_canBePlayed ⟨by decide, by decide⟩ 0 rfl rfl rfl rfl rfl (Nat.le_of_ble_eq_true rfl) dX9_behind_15 (by decide) (fun r15 u h => ?_)
    obtain ⟨oV_15, oT_15⟩ := u
    try dsimp only at h
    refine SW.if_ne (tgt := 24) C dX9_behind_18 (by decide) (fun hc => ?_) (fun hc => ?_)
    · replace h := h.2 hc
      refine SW.aload_n C dX9_behind_24 rfl 0 rfl ?_
      refine SW.get (v := .ref (qV 0)) (T := TX9) (N := 11) C inX9_behind_X9 0 rfl rfl 6 (by decide) lkX9_behind_39 rfl dX9_behind_25 ?_
      refine SW.get (v := .ref (qT 0)) (T := TX1) (N := 6) C inX9_behind_X1 10 rfl rfl 0 (by decide) lkX9_behind_132 rfl dX9_behind_28 ?_
      refine SW.iload_n C dX9_behind_31 rfl 1 rfl ?_
      refine SW.aload_n C dX9_behind_32 rfl 0 rfl ?_
      refine SW.get (v := .ref (qV 0)) (T := TX9) (N := 11) C inX9_behind_X9 0 rfl rfl 6 (by decide) lkX9_behind_39 rfl dX9_behind_33 ?_
      refine SW.get (v := .ref (qT 0)) (T := TX1) (N := 6) C inX9_behind_X1 10 rfl rfl 0 (by decide) lkX9_behind_132 rfl dX9_behind_36 ?_
      refine SW.get (v := .int (oT_15 0 5)) (T := TX8) (N := 13) C inX9_behind_X8 11 rfl rfl 5 (by decide) lkX9_behind_135 rfl dX9_behind_39 ?_
      refine SW.callVi_sub (wr := w9 cI cZ qX qS qI qJ qP qV qK qG qL qM oX ++ w8 cI cZ qS oS ++ w5 cI cZ qP oP ++ w1 cI cZ qV qT oV_15) (wn := fun u : Unit => w9 cI cZ qX qS qI qJ qP qV qK qG qL qM oX ++ w8 cI cZ qS oS ++ w5 cI cZ qP oP ++ w1 cI cZ qV qT oV_15 ++ w8 cI cZ qT oT_15) C (ctX8_lengthAt l D cI cZ qT oT_15 v1 (oT_15 0 5) _ h) gX9_behind_X8_lengthAt rfl rfl rfl pdX8_lengthAt ⟨by decide, by decide⟩ [11, 12, 13, 14, 15, 16, 17] [0, 1, 2, 3, 4, 5, 6, 7, 8, 9, 10] [0, 1, 2, 3, 4, 5, 6, 7, 8, 9, 10, 11, 12, 13, 14, 15, 16, 17] rfl rfl (by decide) (by decide) (by decide) (by decide) (fun _ => rfl) 0 rfl rfl rfl rfl rfl (Nat.le_of_ble_eq_true rfl) dX9_behind_42 (by decide) (fun r42 u h => ?_)
      try dsimp only at h
      exact SW.iret C (oV_15, oT_15) rfl h dX9_behind_45
    · replace h := h.1 hc
      refine SW.bipush (v := (-5 : Int32)) C dX9_behind_21 (by decide) ?_
      exact SW.iret C (oV_15, oT_15) rfl h dX9_behind_23
  · replace h := h.1 hc
    refine SW.iconst (v := (-1 : Int32)) C dX9_behind_11 (by decide) ?_
    exact SW.iret C (oV, oT) rfl h dX9_behind_12
def wpX9_clashed (oX : Ob) (oS : Ob) (oP : Ob) (oV : Ob) (oT : Ob) (v1 : Int32) (post : Int32 → Ob → Ob → Prop) : Prop := wpX9_isOutside v1 (0 : Int32) (1 : Int32) (fun (r3 : Int32) => ((r3 = 0) → wpX9_canBePlayed oX oS oP oV oT (1 : Int32) (fun (r14 : Int32) (oV_14 : Ob) (oT_14 : Ob) => ((r14 = 0) → post (-5 : Int32) oV_14 oT_14) ∧ (¬ (r14 = 0) → ((v1 = 0) → post (oV_14 0 3) oV_14 oT_14) ∧ (¬ (v1 = 0) → post (oV_14 0 4) oV_14 oT_14)))) ∧ (¬ (r3 = 0) → post (-2 : Int32) oV oT))
theorem pdX9_clashed : yX9_clashed.cls = RX9 ∧ yX9_clashed.cls ≠ "java/lang/invoke/MethodHandle" ∧ yX9_clashed.cls ≠ "java/lang/invoke/VarHandle" ∧ (parseMethodDescriptor yX9_clashed.desc).map (fun d => d.parameters.length) = some 1 := by decide +kernel
theorem lkX9_clashed_39 : Cond.fieldLink RX9 39 (TX9 6).1 (TX9 6).2.1 (TX9 6).2.2.1 ∈ wsX9_clashed := by decide +kernel
theorem inX9_clashed_X9 : ∀ w ∈ u_ws RX9 TX9 11, w ∈ wsX9_clashed := by decide +kernel
theorem lkX9_clashed_148 : Cond.fieldLink RX9 148 (TX1 4).1 (TX1 4).2.1 (TX1 4).2.2.1 ∈ wsX9_clashed := by decide +kernel
theorem inX9_clashed_X1 : ∀ w ∈ u_ws RX1 TX1 6, w ∈ wsX9_clashed := by decide +kernel
theorem lkX9_clashed_145 : Cond.fieldLink RX9 145 (TX1 3).1 (TX1 3).2.1 (TX1 3).2.2.1 ∈ wsX9_clashed := by decide +kernel
set_option maxHeartbeats 4000000 in
set_option maxRecDepth 100000 in
theorem ctX9_clashed (l : Launch) (D : va_G) (cI cZ : ClassId) (qX : Nat → Nat) (qS : Nat → Nat) (qI : Nat → Nat) (qJ : Nat → Nat) (qP : Nat → Nat) (qV : Nat → Nat) (qT : Nat → Nat) (qK : Nat → Nat) (qG : Nat → Nat) (qL : Nat → Nat) (qM : Nat → Nat) (oX : Ob) (oS : Ob) (oP : Ob) (oV : Ob) (oT : Ob) (v1 : Int32) (post : Int32 → Ob → Ob → Prop) (h : wpX9_clashed oX oS oP oV oT v1 post) : CTi l yX9_clashed wsX9_clashed { frames := 6, cells := 0, slots := 0, locals := 148 } D [(cI, .int), (cZ, .boolean)] [.ref (qX 0), .int v1] (w9 cI cZ qX qS qI qJ qP qV qK qG qL qM oX ++ w8 cI cZ qS oS ++ w5 cI cZ qP oP ++ w1 cI cZ qV qT oV ++ w8 cI cZ qT oT) (fun u : Ob × Ob => w9 cI cZ qX qS qI qJ qP qV qK qG qL qM oX ++ w8 cI cZ qS oS ++ w5 cI cZ qP oP ++ w1 cI cZ qV qT u.1 ++ w8 cI cZ qT u.2) (fun (r : Int32) (u : Ob × Ob) => post r u.1 u.2) := by
  refine CTi.of (cc := cX9_clashed) (own := RX9) (maxL := 2) (ret := (some .int)) (lv0 := [(0, .ref (qX 0)), (1, .int v1)]) (by decide) rfl rfl (Nat.le_of_ble_eq_true rfl) rfl ?_
  intro p e s m args below meth c A C
  unfold wpX9_clashed at h
  refine SW.iload_n C dX9_clashed_0 rfl 1 rfl ?_
  refine SW.iconst (v := (0 : Int32)) C dX9_clashed_1 (by decide) ?_
  refine SW.iconst (v := (1 : Int32)) C dX9_clashed_2 (by decide) ?_
  refine SW.callSi_pure C (ctX9_isOutside l D cI cZ v1 (0 : Int32) (1 : Int32) _ h) gX9_clashed_X9_isOutside rfl rfl rfl pdX9_isOutside ⟨by decide, by decide⟩ rfl rfl (Nat.le_of_ble_eq_true rfl) dX9_clashed_3 (by decide) (fun r3 u h => ?_)
  try dsimp only at h
  refine SW.if_eq (tgt := 12) C dX9_clashed_6 (by decide) (fun hc => ?_) (fun hc => ?_)
  · replace h := h.1 hc
    refine SW.aload_n C dX9_clashed_12 rfl 0 rfl ?_
    refine SW.iconst (v := (1 : Int32)) C dX9_clashed_13 (by decide) ?_
    refine SW.callVi_same C (ctX9_canBePlayed l D cI cZ qX qS qI qJ qP qV qT qK qG qL qM oX oS oP oV oT (1 : Int32) _ h) gX9_clashed_X9_canBePlayed rfl rfl rfl pdX9_canBePlayed ⟨by decide, by decide⟩ 0 rfl rfl rfl rfl rfl (Nat.le_of_ble_eq_true rfl) dX9_clashed_14 (by decide) (fun r14 u h => ?_)
    obtain ⟨oV_14, oT_14⟩ := u
    try dsimp only at h
    refine SW.if_ne (tgt := 23) C dX9_clashed_17 (by decide) (fun hc => ?_) (fun hc => ?_)
    · replace h := h.2 hc
      refine SW.iload_n C dX9_clashed_23 rfl 1 rfl ?_
      refine SW.if_ne (tgt := 37) C dX9_clashed_24 (by decide) (fun hc => ?_) (fun hc => ?_)
      · replace h := h.2 hc
        refine SW.aload_n C dX9_clashed_37 rfl 0 rfl ?_
        refine SW.get (v := .ref (qV 0)) (T := TX9) (N := 11) C inX9_clashed_X9 0 rfl rfl 6 (by decide) lkX9_clashed_39 rfl dX9_clashed_38 ?_
        refine SW.get (v := .int (oV_14 0 4)) (T := TX1) (N := 6) C inX9_clashed_X1 10 rfl rfl 4 (by decide) lkX9_clashed_148 rfl dX9_clashed_41 ?_
        exact SW.iret C (oV_14, oT_14) rfl h dX9_clashed_44
      · replace h := h.1 hc
        refine SW.aload_n C dX9_clashed_27 rfl 0 rfl ?_
        refine SW.get (v := .ref (qV 0)) (T := TX9) (N := 11) C inX9_clashed_X9 0 rfl rfl 6 (by decide) lkX9_clashed_39 rfl dX9_clashed_28 ?_
        refine SW.get (v := .int (oV_14 0 3)) (T := TX1) (N := 6) C inX9_clashed_X1 10 rfl rfl 3 (by decide) lkX9_clashed_145 rfl dX9_clashed_31 ?_
        refine SW.goto (tgt := 44) C dX9_clashed_34 (by decide) ?_
        exact SW.iret C (oV_14, oT_14) rfl h dX9_clashed_44
    · replace h := h.1 hc
      refine SW.bipush (v := (-5 : Int32)) C dX9_clashed_20 (by decide) ?_
      exact SW.iret C (oV_14, oT_14) rfl h dX9_clashed_22
  · replace h := h.2 hc
    refine SW.bipush (v := (-2 : Int32)) C dX9_clashed_9 (by decide) ?_
    exact SW.iret C (oV, oT) rfl h dX9_clashed_11
def wpX9_areTwo (oX : Ob) (oS : Ob) (v1 : Int32) (v2 : Int32) (post : Int32 → Prop) : Prop := wpX8_has oS v1 (fun (r5 : Int32) => jn0 (post (0 : Int32)) (fun J31 => ((r5 = 0) → J31) ∧ (¬ (r5 = 0) → wpX8_has oS v2 (fun (r16 : Int32) => ((r16 = 0) → J31) ∧ (¬ (r16 = 0) → ((v1 = v2) → J31) ∧ (¬ (v1 = v2) → post (1 : Int32)))))))
theorem pdX9_areTwo : yX9_areTwo.cls = RX9 ∧ yX9_areTwo.cls ≠ "java/lang/invoke/MethodHandle" ∧ yX9_areTwo.cls ≠ "java/lang/invoke/VarHandle" ∧ (parseMethodDescriptor yX9_areTwo.desc).map (fun d => d.parameters.length) = some 2 := by decide +kernel
theorem lkX9_areTwo_12 : Cond.fieldLink RX9 12 (TX9 0).1 (TX9 0).2.1 (TX9 0).2.2.1 ∈ wsX9_areTwo := by decide +kernel
theorem inX9_areTwo_X9 : ∀ w ∈ u_ws RX9 TX9 11, w ∈ wsX9_areTwo := by decide +kernel
set_option maxHeartbeats 4000000 in
set_option maxRecDepth 100000 in
theorem ctX9_areTwo (l : Launch) (D : va_G) (cI cZ : ClassId) (qX : Nat → Nat) (qS : Nat → Nat) (qI : Nat → Nat) (qJ : Nat → Nat) (qP : Nat → Nat) (qV : Nat → Nat) (qT : Nat → Nat) (qK : Nat → Nat) (qG : Nat → Nat) (qL : Nat → Nat) (qM : Nat → Nat) (oX : Ob) (oS : Ob) (v1 : Int32) (v2 : Int32) (post : Int32 → Prop) (h : wpX9_areTwo oX oS v1 v2 post) : CTi l yX9_areTwo wsX9_areTwo { frames := 1, cells := 0, slots := 0, locals := 21 } D [(cI, .int), (cZ, .boolean)] [.ref (qX 0), .int v1, .int v2] (w9 cI cZ qX qS qI qJ qP qV qK qG qL qM oX ++ w8 cI cZ qS oS) (fun _ : Unit => w9 cI cZ qX qS qI qJ qP qV qK qG qL qM oX ++ w8 cI cZ qS oS) (fun (r : Int32) (_ : Unit) => post r) := by
  refine CTi.of (cc := cX9_areTwo) (own := RX9) (maxL := 3) (ret := (some .boolean)) (lv0 := [(0, .ref (qX 0)), (1, .int v1), (2, .int v2)]) (by decide) rfl rfl (Nat.le_of_ble_eq_true rfl) rfl ?_
  intro p e s m args below meth c A C
  unfold wpX9_areTwo at h
  refine SW.aload_n C dX9_areTwo_0 rfl 0 rfl ?_
  refine SW.get (v := .ref (qS 0)) (T := TX9) (N := 11) C inX9_areTwo_X9 0 rfl rfl 0 (by decide) lkX9_areTwo_12 rfl dX9_areTwo_1 ?_
  refine SW.iload_n C dX9_areTwo_4 rfl 1 rfl ?_
  refine SW.callVi_sub (wr := w9 cI cZ qX qS qI qJ qP qV qK qG qL qM oX) (wn := fun u : Unit => w9 cI cZ qX qS qI qJ qP qV qK qG qL qM oX ++ w8 cI cZ qS oS) C (ctX8_has l D cI cZ qS oS v1 _ h) gX9_areTwo_X8_has rfl rfl rfl pdX8_has ⟨by decide, by decide⟩ [1, 2, 3, 4, 5, 6, 7] [0] [0, 1, 2, 3, 4, 5, 6, 7] rfl rfl (by decide) (by decide) (by decide) (by decide) (fun _ => rfl) 0 rfl rfl rfl rfl rfl (Nat.le_of_ble_eq_true rfl) dX9_areTwo_5 (by decide) (fun r5 u h => ?_)
  try dsimp only at h
  refine jn0_elim (G := SW p l e { frames := 1, cells := 0, slots := 0, locals := 21 } s m args below meth c A D 3 0 0 (MQ below (va_Qi (fun (r : Int32) (_ : Unit) => post r) (ctB D A (fun _ : Unit => w9 cI cZ qX qS qI qJ qP qV qK qG qL qM oX ++ w8 cI cZ qS oS)) A) args s 0 0 A) (w9 cI cZ qX qS qI qJ qP qV qK qG qL qM oX ++ w8 cI cZ qS oS) 31 [] []) h (fun h => ?_) (fun J31 hJ31 h => ?_)
  · refine SW.iconst (v := (0 : Int32)) C dX9_areTwo_31 (by decide) ?_
    exact SW.zret C () (by decide) rfl h dX9_areTwo_32
  · refine SW.if_eq (tgt := 31) C dX9_areTwo_8 (by decide) (fun hc => ?_) (fun hc => ?_)
    · replace h := h.1 hc
      refine SW.sub [] rfl ?_
      exact hJ31 h
    · replace h := h.2 hc
      refine SW.aload_n C dX9_areTwo_11 rfl 0 rfl ?_
      refine SW.get (v := .ref (qS 0)) (T := TX9) (N := 11) C inX9_areTwo_X9 0 rfl rfl 0 (by decide) lkX9_areTwo_12 rfl dX9_areTwo_12 ?_
      refine SW.iload_n C dX9_areTwo_15 rfl 2 rfl ?_
      refine SW.callVi_sub (wr := w9 cI cZ qX qS qI qJ qP qV qK qG qL qM oX) (wn := fun u : Unit => w9 cI cZ qX qS qI qJ qP qV qK qG qL qM oX ++ w8 cI cZ qS oS) C (ctX8_has l D cI cZ qS oS v2 _ h) gX9_areTwo_X8_has rfl rfl rfl pdX8_has ⟨by decide, by decide⟩ [1, 2, 3, 4, 5, 6, 7] [0] [0, 1, 2, 3, 4, 5, 6, 7] rfl rfl (by decide) (by decide) (by decide) (by decide) (fun _ => rfl) 0 rfl rfl rfl rfl rfl (Nat.le_of_ble_eq_true rfl) dX9_areTwo_16 (by decide) (fun r16 u h => ?_)
      try dsimp only at h
      refine SW.if_eq (tgt := 31) C dX9_areTwo_19 (by decide) (fun hc => ?_) (fun hc => ?_)
      · replace h := h.1 hc
        refine SW.sub [] rfl ?_
        exact hJ31 h
      · replace h := h.2 hc
        refine SW.iload_n C dX9_areTwo_22 rfl 1 rfl ?_
        refine SW.iload_n C dX9_areTwo_23 rfl 2 rfl ?_
        refine SW.icmp_eq (tgt := 31) C dX9_areTwo_24 (by decide) (fun hc => ?_) (fun hc => ?_)
        · replace h := h.1 hc
          refine SW.sub [] rfl ?_
          exact hJ31 h
        · replace h := h.2 hc
          refine SW.iconst (v := (1 : Int32)) C dX9_areTwo_27 (by decide) ?_
          refine SW.goto (tgt := 32) C dX9_areTwo_28 (by decide) ?_
          exact SW.zret C () (by decide) rfl h dX9_areTwo_32
def wpX9_lowestTerms (v0 : Int64) (v2 : Int64) (v4 : Int32) (post : Int64 → Prop) : Prop := wpX9_commonDivisor v0 v2 (fun (r2 : Int64) => jn1 (fun (p0_17 : Int64) => ((0 ≤ (lg_cmp r2 (1 : Int64))) → (¬ r2 = 0) ∧ (post (p0_17 / r2))) ∧ (¬ (0 ≤ (lg_cmp r2 (1 : Int64))) → post p0_17)) (fun J17 => ((v4 = 0) → J17 v0) ∧ (¬ (v4 = 0) → J17 v2)))
theorem pdX9_lowestTerms : yX9_lowestTerms.cls ≠ "java/lang/invoke/MethodHandle" ∧ yX9_lowestTerms.cls ≠ "java/lang/invoke/VarHandle" ∧ (parseMethodDescriptor yX9_lowestTerms.desc).map (fun d => d.parameters.length) = some 3 := by decide +kernel
set_option maxHeartbeats 4000000 in
set_option maxRecDepth 100000 in
theorem ctX9_lowestTerms (l : Launch) (D : va_G) (cI cZ : ClassId) (v0 : Int64) (v2 : Int64) (v4 : Int32) (post : Int64 → Prop) (h : wpX9_lowestTerms v0 v2 v4 post) : CTl l yX9_lowestTerms wsX9_lowestTerms { frames := 1, cells := 0, slots := 0, locals := 30 } D [(cI, .int), (cZ, .boolean)] [.long v0, .long v2, .int v4] (([] : va_W)) (fun _ : Unit => ([] : va_W)) (fun (r : Int64) (_ : Unit) => post r) := by
  refine CTl.of (cc := cX9_lowestTerms) (own := RX9) (maxL := 9) (ret := (some .long)) (lv0 := [(0, .long v0), (2, .long v2), (4, .int v4)]) (by decide) rfl rfl (Nat.le_of_ble_eq_true rfl) rfl ?_
  intro p e s m args below meth c A C
  unfold wpX9_lowestTerms at h
  refine SW.lload_n C dX9_lowestTerms_0 rfl 0 rfl ?_
  refine SW.lload_n C dX9_lowestTerms_1 rfl 1 rfl ?_
  refine SW.callSl_pure C (ctX9_commonDivisor l D cI cZ v0 v2 _ h) gX9_lowestTerms_X9_commonDivisor rfl rfl rfl pdX9_commonDivisor ⟨by decide, by decide⟩ rfl rfl (Nat.le_of_ble_eq_true rfl) dX9_lowestTerms_2 (by decide) (fun r2 u h => ?_)
  try dsimp only at h
  refine SW.lstore (lv' := [(5, .long r2), (0, .long v0), (2, .long v2), (4, .int v4)]) C dX9_lowestTerms_5 (by decide) rfl ?_
  refine SW.iload C dX9_lowestTerms_7 3 rfl ?_
  refine jn1_elim (G := fun p0_17 => SW p l e { frames := 1, cells := 0, slots := 0, locals := 30 } s m args below meth c A D 9 0 0 (MQ below (va_Ql (fun (r : Int64) (_ : Unit) => post r) (ctB D A (fun _ : Unit => ([] : va_W))) A) args s 0 0 A) (([] : va_W)) 17 [(5, .long r2)] [.long p0_17]) h (fun p0_17 h => ?_) (fun J17 hJ17 h => ?_)
  · refine SW.lstore (lv' := [(7, .long p0_17), (5, .long r2)]) C dX9_lowestTerms_17 (by decide) rfl ?_
    refine SW.lload C dX9_lowestTerms_19 1 rfl ?_
    refine SW.lconst (v := (1 : Int64)) C dX9_lowestTerms_21 (by decide) ?_
    refine SW.lcmp C dX9_lowestTerms_22 ?_
    refine SW.if_ge (tgt := 31) C dX9_lowestTerms_23 (by decide) (fun hc => ?_) (fun hc => ?_)
    · replace h := h.1 hc
      refine SW.lload C dX9_lowestTerms_31 0 rfl ?_
      refine SW.lload C dX9_lowestTerms_33 1 rfl ?_
      refine SW.ldiv C dX9_lowestTerms_35 h.1 ?_
      replace h := h.2
      exact SW.lret C () rfl h dX9_lowestTerms_36
    · replace h := h.2 hc
      refine SW.lload C dX9_lowestTerms_26 0 rfl ?_
      refine SW.goto (tgt := 36) C dX9_lowestTerms_28 (by decide) ?_
      exact SW.lret C () rfl h dX9_lowestTerms_36
  · refine SW.if_ne (tgt := 16) C dX9_lowestTerms_9 (by decide) (fun hc => ?_) (fun hc => ?_)
    · replace h := h.2 hc
      refine SW.lload_n C dX9_lowestTerms_16 rfl 2 rfl ?_
      refine SW.sub [0] rfl ?_
      exact hJ17 _ h
    · replace h := h.1 hc
      refine SW.lload_n C dX9_lowestTerms_12 rfl 1 rfl ?_
      refine SW.goto (tgt := 17) C dX9_lowestTerms_13 (by decide) ?_
      refine SW.sub [0] rfl ?_
      exact hJ17 _ h
def wpX9_interval (oX : Ob) (oS : Ob) (v1 : Int32) (v2 : Int32) (v3 : Int32) (post : Int64 → Prop) : Prop := wpX9_areTwo oX oS v1 v2 (fun (r3 : Int32) => ((r3 = 0) → post (-1000000000000000001 : Int64)) ∧ (¬ (r3 = 0) → wpX9_isOutside v3 (0 : Int32) (1 : Int32) (fun (r16 : Int32) => ((r16 = 0) → wpX8_lengthAt oS v1 (oS 0 5) (fun (r38 : Int32) => wpX8_lengthAt oS v2 (oS 0 5) (fun (r55 : Int32) => wpX9_lowestTerms (Int32.toInt64 (jmax r38 r55)) (Int32.toInt64 (jmin r38 r55)) v3 (fun (r77 : Int64) => post r77)))) ∧ (¬ (r16 = 0) → post (-1000000000000000002 : Int64)))))
theorem pdX9_interval : yX9_interval.cls = RX9 ∧ yX9_interval.cls ≠ "java/lang/invoke/MethodHandle" ∧ yX9_interval.cls ≠ "java/lang/invoke/VarHandle" ∧ (parseMethodDescriptor yX9_interval.desc).map (fun d => d.parameters.length) = some 3 := by decide +kernel
theorem lkX9_interval_12 : Cond.fieldLink RX9 12 (TX9 0).1 (TX9 0).2.1 (TX9 0).2.2.1 ∈ wsX9_interval := by decide +kernel
theorem inX9_interval_X9 : ∀ w ∈ u_ws RX9 TX9 11, w ∈ wsX9_interval := by decide +kernel
theorem lkX9_interval_135 : Cond.fieldLink RX9 135 (TX8 5).1 (TX8 5).2.1 (TX8 5).2.2.1 ∈ wsX9_interval := by decide +kernel
theorem inX9_interval_X8 : ∀ w ∈ u_ws RX8 TX8 13, w ∈ wsX9_interval := by decide +kernel
set_option maxHeartbeats 4000000 in
set_option maxRecDepth 100000 in
theorem ctX9_interval (l : Launch) (D : va_G) (cI cZ : ClassId) (qX : Nat → Nat) (qS : Nat → Nat) (qI : Nat → Nat) (qJ : Nat → Nat) (qP : Nat → Nat) (qV : Nat → Nat) (qT : Nat → Nat) (qK : Nat → Nat) (qG : Nat → Nat) (qL : Nat → Nat) (qM : Nat → Nat) (oX : Ob) (oS : Ob) (v1 : Int32) (v2 : Int32) (v3 : Int32) (post : Int64 → Prop) (h : wpX9_interval oX oS v1 v2 v3 post) : CTl l yX9_interval wsX9_interval { frames := 3, cells := 0, slots := 0, locals := 66 } D [(cI, .int), (cZ, .boolean)] [.ref (qX 0), .int v1, .int v2, .int v3] (w9 cI cZ qX qS qI qJ qP qV qK qG qL qM oX ++ w8 cI cZ qS oS) (fun _ : Unit => w9 cI cZ qX qS qI qJ qP qV qK qG qL qM oX ++ w8 cI cZ qS oS) (fun (r : Int64) (_ : Unit) => post r) := by
  refine CTl.of (cc := cX9_interval) (own := RX9) (maxL := 6) (ret := (some .long)) (lv0 := [(0, .ref (qX 0)), (1, .int v1), (2, .int v2), (3, .int v3)]) (by decide) rfl rfl (Nat.le_of_ble_eq_true rfl) rfl ?_
  intro p e s m args below meth c A C
  unfold wpX9_interval at h
  refine SW.aload_n C dX9_interval_0 rfl 0 rfl ?_
  refine SW.iload_n C dX9_interval_1 rfl 1 rfl ?_
  refine SW.iload_n C dX9_interval_2 rfl 2 rfl ?_
  refine SW.callVi_same C (ctX9_areTwo l D cI cZ qX qS qI qJ qP qV qT qK qG qL qM oX oS v1 v2 _ h) gX9_interval_X9_areTwo rfl rfl rfl pdX9_areTwo ⟨by decide, by decide⟩ 0 rfl rfl rfl rfl rfl (Nat.le_of_ble_eq_true rfl) dX9_interval_3 (by decide) (fun r3 u h => ?_)
  try dsimp only at h
  refine SW.if_ne (tgt := 13) C dX9_interval_6 (by decide) (fun hc => ?_) (fun hc => ?_)
  · replace h := h.2 hc
    refine SW.iload_n C dX9_interval_13 rfl 3 rfl ?_
    refine SW.iconst (v := (0 : Int32)) C dX9_interval_14 (by decide) ?_
    refine SW.iconst (v := (1 : Int32)) C dX9_interval_15 (by decide) ?_
    refine SW.callSi_pure C (ctX9_isOutside l D cI cZ v3 (0 : Int32) (1 : Int32) _ h) gX9_interval_X9_isOutside rfl rfl rfl pdX9_isOutside ⟨by decide, by decide⟩ rfl rfl (Nat.le_of_ble_eq_true rfl) dX9_interval_16 (by decide) (fun r16 u h => ?_)
    try dsimp only at h
    refine SW.if_eq (tgt := 26) C dX9_interval_19 (by decide) (fun hc => ?_) (fun hc => ?_)
    · replace h := h.1 hc
      refine SW.aload_n C dX9_interval_26 rfl 0 rfl ?_
      refine SW.get (v := .ref (qS 0)) (T := TX9) (N := 11) C inX9_interval_X9 0 rfl rfl 0 (by decide) lkX9_interval_12 rfl dX9_interval_27 ?_
      refine SW.iload_n C dX9_interval_30 rfl 1 rfl ?_
      refine SW.aload_n C dX9_interval_31 rfl 0 rfl ?_
      refine SW.get (v := .ref (qS 0)) (T := TX9) (N := 11) C inX9_interval_X9 0 rfl rfl 0 (by decide) lkX9_interval_12 rfl dX9_interval_32 ?_
      refine SW.get (v := .int (oS 0 5)) (T := TX8) (N := 13) C inX9_interval_X8 1 rfl rfl 5 (by decide) lkX9_interval_135 rfl dX9_interval_35 ?_
      refine SW.callVi_sub (wr := w9 cI cZ qX qS qI qJ qP qV qK qG qL qM oX) (wn := fun u : Unit => w9 cI cZ qX qS qI qJ qP qV qK qG qL qM oX ++ w8 cI cZ qS oS) C (ctX8_lengthAt l D cI cZ qS oS v1 (oS 0 5) _ h) gX9_interval_X8_lengthAt rfl rfl rfl pdX8_lengthAt ⟨by decide, by decide⟩ [1, 2, 3, 4, 5, 6, 7] [0] [0, 1, 2, 3, 4, 5, 6, 7] rfl rfl (by decide) (by decide) (by decide) (by decide) (fun _ => rfl) 0 rfl rfl rfl rfl rfl (Nat.le_of_ble_eq_true rfl) dX9_interval_38 (by decide) (fun r38 u h => ?_)
      try dsimp only at h
      refine SW.istore (lv' := [(4, .int r38), (0, .ref (qX 0)), (1, .int v1), (2, .int v2), (3, .int v3)]) C dX9_interval_41 (by decide) rfl ?_
      refine SW.aload_n C dX9_interval_43 rfl 1 rfl ?_
      refine SW.get (v := .ref (qS 0)) (T := TX9) (N := 11) C inX9_interval_X9 0 rfl rfl 0 (by decide) lkX9_interval_12 rfl dX9_interval_44 ?_
      refine SW.iload_n C dX9_interval_47 rfl 3 rfl ?_
      refine SW.aload_n C dX9_interval_48 rfl 1 rfl ?_
      refine SW.get (v := .ref (qS 0)) (T := TX9) (N := 11) C inX9_interval_X9 0 rfl rfl 0 (by decide) lkX9_interval_12 rfl dX9_interval_49 ?_
      refine SW.get (v := .int (oS 0 5)) (T := TX8) (N := 13) C inX9_interval_X8 1 rfl rfl 5 (by decide) lkX9_interval_135 rfl dX9_interval_52 ?_
      refine SW.callVi_sub (wr := w9 cI cZ qX qS qI qJ qP qV qK qG qL qM oX) (wn := fun u : Unit => w9 cI cZ qX qS qI qJ qP qV qK qG qL qM oX ++ w8 cI cZ qS oS) C (ctX8_lengthAt l D cI cZ qS oS v2 (oS 0 5) _ h) gX9_interval_X8_lengthAt rfl rfl rfl pdX8_lengthAt ⟨by decide, by decide⟩ [1, 2, 3, 4, 5, 6, 7] [0] [0, 1, 2, 3, 4, 5, 6, 7] rfl rfl (by decide) (by decide) (by decide) (by decide) (fun _ => rfl) 0 rfl rfl rfl rfl rfl (Nat.le_of_ble_eq_true rfl) dX9_interval_55 (by decide) (fun r55 u h => ?_)
      try dsimp only at h
      refine SW.istore (lv' := [(5, .int r55), (4, .int r38), (0, .ref (qX 0)), (1, .int v1), (2, .int v2), (3, .int v3)]) C dX9_interval_58 (by decide) rfl ?_
      refine SW.iload C dX9_interval_60 1 rfl ?_
      refine SW.iload C dX9_interval_62 0 rfl ?_
      refine SW.mmax C (by decide +kernel) (by decide +kernel) (by decide +kernel) (by decide +kernel) (by decide) (Nat.le_of_ble_eq_true rfl) (by decide) (by decide) dX9_interval_64 ?_
      refine SW.i2l C dX9_interval_67 ?_
      refine SW.iload C dX9_interval_68 1 rfl ?_
      refine SW.iload C dX9_interval_70 0 rfl ?_
      refine SW.mmin C (by decide +kernel) (by decide +kernel) (by decide +kernel) (by decide +kernel) (by decide) (Nat.le_of_ble_eq_true rfl) (by decide) (by decide) dX9_interval_72 ?_
      refine SW.i2l C dX9_interval_75 ?_
      refine SW.iload_n C dX9_interval_76 rfl 5 rfl ?_
      refine SW.callSl_pure C (ctX9_lowestTerms l D cI cZ (Int32.toInt64 (jmax r38 r55)) (Int32.toInt64 (jmin r38 r55)) v3 _ h) gX9_interval_X9_lowestTerms rfl rfl rfl pdX9_lowestTerms ⟨by decide, by decide⟩ rfl rfl (Nat.le_of_ble_eq_true rfl) dX9_interval_77 (by decide) (fun r77 u h => ?_)
      try dsimp only at h
      exact SW.lret C () rfl h dX9_interval_80
    · replace h := h.2 hc
      refine SW.ldc2 (v := (-1000000000000000002 : Int64)) C (by decide +kernel) dX9_interval_22 ?_
      exact SW.lret C () rfl h dX9_interval_25
  · replace h := h.1 hc
    refine SW.ldc2 (v := (-1000000000000000001 : Int64)) C (by decide +kernel) dX9_interval_9 ?_
    exact SW.lret C () rfl h dX9_interval_12
def wpX9_isHeardAbove_L18 (c1_18 : Int32) (c2_18 : Int32) (oSc_18 : Ob) (post : Int32 → Prop) (K50 : Prop) : Nat → Int32 → Prop
  | 0, _ => False
  | fu18 + 1, v3_18 => ((c1_18 ≤ v3_18) → K50) ∧ (¬ (c1_18 ≤ v3_18) → wpX8_lengthAt oSc_18 v3_18 (oSc_18 0 5) (fun (r35 : Int32) => ((r35 = c2_18) → post (1 : Int32)) ∧ (¬ (r35 = c2_18) → wpX9_isHeardAbove_L18 c1_18 c2_18 oSc_18 post K50 fu18 (v3_18 + (1 : Int32)))))
def wpX9_isHeardAbove (oX : Ob) (oS : Ob) (v1 : Int32) (post : Int32 → Prop) : Prop := wpX8_lengthAt oS v1 (oS 0 5) (fun (r12 : Int32) => ∃ fu18 : Nat, wpX9_isHeardAbove_L18 v1 r12 oS post (post (0 : Int32)) fu18 (0 : Int32))
theorem pdX9_isHeardAbove : yX9_isHeardAbove.cls = RX9 ∧ yX9_isHeardAbove.cls ≠ "java/lang/invoke/MethodHandle" ∧ yX9_isHeardAbove.cls ≠ "java/lang/invoke/VarHandle" ∧ (parseMethodDescriptor yX9_isHeardAbove.desc).map (fun d => d.parameters.length) = some 1 := by decide +kernel
theorem lkX9_isHeardAbove_12 : Cond.fieldLink RX9 12 (TX9 0).1 (TX9 0).2.1 (TX9 0).2.2.1 ∈ wsX9_isHeardAbove := by decide +kernel
theorem inX9_isHeardAbove_X9 : ∀ w ∈ u_ws RX9 TX9 11, w ∈ wsX9_isHeardAbove := by decide +kernel
theorem lkX9_isHeardAbove_135 : Cond.fieldLink RX9 135 (TX8 5).1 (TX8 5).2.1 (TX8 5).2.2.1 ∈ wsX9_isHeardAbove := by decide +kernel
theorem inX9_isHeardAbove_X8 : ∀ w ∈ u_ws RX8 TX8 13, w ∈ wsX9_isHeardAbove := by decide +kernel
set_option maxHeartbeats 4000000 in
set_option maxRecDepth 100000 in
theorem ctX9_isHeardAbove (l : Launch) (D : va_G) (cI cZ : ClassId) (qX : Nat → Nat) (qS : Nat → Nat) (qI : Nat → Nat) (qJ : Nat → Nat) (qP : Nat → Nat) (qV : Nat → Nat) (qT : Nat → Nat) (qK : Nat → Nat) (qG : Nat → Nat) (qL : Nat → Nat) (qM : Nat → Nat) (oX : Ob) (oS : Ob) (v1 : Int32) (post : Int32 → Prop) (h : wpX9_isHeardAbove oX oS v1 post) : CTi l yX9_isHeardAbove wsX9_isHeardAbove { frames := 3, cells := 0, slots := 0, locals := 66 } D [(cI, .int), (cZ, .boolean)] [.ref (qX 0), .int v1] (w9 cI cZ qX qS qI qJ qP qV qK qG qL qM oX ++ w8 cI cZ qS oS) (fun _ : Unit => w9 cI cZ qX qS qI qJ qP qV qK qG qL qM oX ++ w8 cI cZ qS oS) (fun (r : Int32) (_ : Unit) => post r) := by
  refine CTi.of (cc := cX9_isHeardAbove) (own := RX9) (maxL := 4) (ret := (some .boolean)) (lv0 := [(0, .ref (qX 0)), (1, .int v1)]) (by decide) rfl rfl (Nat.le_of_ble_eq_true rfl) rfl ?_
  intro p e s m args below meth c A C
  unfold wpX9_isHeardAbove at h
  refine SW.aload_n C dX9_isHeardAbove_0 rfl 0 rfl ?_
  refine SW.get (v := .ref (qS 0)) (T := TX9) (N := 11) C inX9_isHeardAbove_X9 0 rfl rfl 0 (by decide) lkX9_isHeardAbove_12 rfl dX9_isHeardAbove_1 ?_
  refine SW.iload_n C dX9_isHeardAbove_4 rfl 1 rfl ?_
  refine SW.aload_n C dX9_isHeardAbove_5 rfl 0 rfl ?_
  refine SW.get (v := .ref (qS 0)) (T := TX9) (N := 11) C inX9_isHeardAbove_X9 0 rfl rfl 0 (by decide) lkX9_isHeardAbove_12 rfl dX9_isHeardAbove_6 ?_
  refine SW.get (v := .int (oS 0 5)) (T := TX8) (N := 13) C inX9_isHeardAbove_X8 1 rfl rfl 5 (by decide) lkX9_isHeardAbove_135 rfl dX9_isHeardAbove_9 ?_
  refine SW.callVi_sub (wr := w9 cI cZ qX qS qI qJ qP qV qK qG qL qM oX) (wn := fun u : Unit => w9 cI cZ qX qS qI qJ qP qV qK qG qL qM oX ++ w8 cI cZ qS oS) C (ctX8_lengthAt l D cI cZ qS oS v1 (oS 0 5) _ h) gX9_isHeardAbove_X8_lengthAt rfl rfl rfl pdX8_lengthAt ⟨by decide, by decide⟩ [1, 2, 3, 4, 5, 6, 7] [0] [0, 1, 2, 3, 4, 5, 6, 7] rfl rfl (by decide) (by decide) (by decide) (by decide) (fun _ => rfl) 0 rfl rfl rfl rfl rfl (Nat.le_of_ble_eq_true rfl) dX9_isHeardAbove_12 (by decide) (fun r12 u h => ?_)
  try dsimp only at h
  refine SW.istore_n (lv' := [(2, .int r12), (0, .ref (qX 0)), (1, .int v1)]) C dX9_isHeardAbove_15 rfl (by decide) rfl ?_
  refine SW.iconst (v := (0 : Int32)) C dX9_isHeardAbove_16 (by decide) ?_
  refine SW.istore_n (lv' := [(3, .int (0 : Int32)), (2, .int r12), (0, .ref (qX 0)), (1, .int v1)]) C dX9_isHeardAbove_17 rfl (by decide) rfl ?_
  have L18 : ∀ (K50 : Prop) (hK50 : K50 → SW p l e { frames := 3, cells := 0, slots := 0, locals := 66 } s m args below meth c A D 4 0 0 (MQ below (va_Qi (fun (r : Int32) (_ : Unit) => post r) (ctB D A (fun _ : Unit => w9 cI cZ qX qS qI qJ qP qV qK qG qL qM oX ++ w8 cI cZ qS oS)) A) args s 0 0 A) (w9 cI cZ qX qS qI qJ qP qV qK qG qL qM oX ++ w8 cI cZ qS oS) 50 [] []) (fu : Nat) (v3_18 : Int32), wpX9_isHeardAbove_L18 v1 r12 oS post K50 fu v3_18 → SW p l e { frames := 3, cells := 0, slots := 0, locals := 66 } s m args below meth c A D 4 0 0 (MQ below (va_Qi (fun (r : Int32) (_ : Unit) => post r) (ctB D A (fun _ : Unit => w9 cI cZ qX qS qI qJ qP qV qK qG qL qM oX ++ w8 cI cZ qS oS)) A) args s 0 0 A) (w9 cI cZ qX qS qI qJ qP qV qK qG qL qM oX ++ w8 cI cZ qS oS) 18 [(0, .ref (qX 0)), (1, .int v1), (2, .int r12), (3, .int v3_18)] [] := by
    intro K50 hK50 fu
    induction fu with
    | zero =>
      intro v3_18 h
      exact False.elim h
    | succ fu ih =>
      intro v3_18 h
      unfold wpX9_isHeardAbove_L18 at h
      refine SW.iload_n C dX9_isHeardAbove_18 rfl 3 rfl ?_
      refine SW.iload_n C dX9_isHeardAbove_19 rfl 1 rfl ?_
      refine SW.icmp_ge (tgt := 50) C dX9_isHeardAbove_20 (by decide) (fun hc => ?_) (fun hc => ?_)
      · replace h := h.1 hc
        refine SW.sub [] rfl ?_
        exact hK50 h
      · replace h := h.2 hc
        refine SW.aload_n C dX9_isHeardAbove_23 rfl 0 rfl ?_
        refine SW.get (v := .ref (qS 0)) (T := TX9) (N := 11) C inX9_isHeardAbove_X9 0 rfl rfl 0 (by decide) lkX9_isHeardAbove_12 rfl dX9_isHeardAbove_24 ?_
        refine SW.iload_n C dX9_isHeardAbove_27 rfl 3 rfl ?_
        refine SW.aload_n C dX9_isHeardAbove_28 rfl 0 rfl ?_
        refine SW.get (v := .ref (qS 0)) (T := TX9) (N := 11) C inX9_isHeardAbove_X9 0 rfl rfl 0 (by decide) lkX9_isHeardAbove_12 rfl dX9_isHeardAbove_29 ?_
        refine SW.get (v := .int (oS 0 5)) (T := TX8) (N := 13) C inX9_isHeardAbove_X8 1 rfl rfl 5 (by decide) lkX9_isHeardAbove_135 rfl dX9_isHeardAbove_32 ?_
        refine SW.callVi_sub (wr := w9 cI cZ qX qS qI qJ qP qV qK qG qL qM oX) (wn := fun u : Unit => w9 cI cZ qX qS qI qJ qP qV qK qG qL qM oX ++ w8 cI cZ qS oS) C (ctX8_lengthAt l D cI cZ qS oS v3_18 (oS 0 5) _ h) gX9_isHeardAbove_X8_lengthAt rfl rfl rfl pdX8_lengthAt ⟨by decide, by decide⟩ [1, 2, 3, 4, 5, 6, 7] [0] [0, 1, 2, 3, 4, 5, 6, 7] rfl rfl (by decide) (by decide) (by decide) (by decide) (fun _ => rfl) 0 rfl rfl rfl rfl rfl (Nat.le_of_ble_eq_true rfl) dX9_isHeardAbove_35 (by decide) (fun r35 u h => ?_)
        try dsimp only at h
        refine SW.iload_n C dX9_isHeardAbove_38 rfl 2 rfl ?_
        refine SW.icmp_ne (tgt := 44) C dX9_isHeardAbove_39 (by decide) (fun hc => ?_) (fun hc => ?_)
        · replace h := h.2 hc
          refine SW.iinc (q := 3) (v := (v3_18 + (1 : Int32))) (lv' := [(3, .int (v3_18 + (1 : Int32))), (0, .ref (qX 0)), (1, .int v1), (2, .int r12)]) C dX9_isHeardAbove_44 rfl rfl (by decide) rfl ?_
          refine SW.goto (tgt := 18) C dX9_isHeardAbove_47 (by decide) ?_
          refine SW.sub [1, 2, 3, 0] rfl ?_
          exact ih _ h
        · replace h := h.1 hc
          refine SW.iconst (v := (1 : Int32)) C dX9_isHeardAbove_42 (by decide) ?_
          exact SW.zret C () (by decide) rfl h dX9_isHeardAbove_43
  obtain ⟨fu, h⟩ := h
  refine SW.sub [2, 3, 1, 0] rfl ?_
  refine L18 _ (fun h => ?_) fu _ h
  · refine SW.iconst (v := (0 : Int32)) C dX9_isHeardAbove_50 (by decide) ?_
    exact SW.zret C () (by decide) rfl h dX9_isHeardAbove_51
def wpX9_differentLengths_L4 (oXc_4 : Ob) (oSc_4 : Ob) (K32 : Int32 → Prop) : Nat → Int32 → Int32 → Prop
  | 0, _, _ => False
  | fu4 + 1, v1_4, v2_4 => (((oSc_4 0 0) ≤ v2_4) → K32 v1_4) ∧ (¬ ((oSc_4 0 0) ≤ v2_4) → wpX9_isHeardAbove oXc_4 oSc_4 v2_4 (fun (r17 : Int32) => jn1 (fun (v1_26 : Int32) => wpX9_differentLengths_L4 oXc_4 oSc_4 K32 fu4 v1_26 (v2_4 + (1 : Int32))) (fun J26 => ((r17 = 0) → J26 (v1_4 + (1 : Int32))) ∧ (¬ (r17 = 0) → J26 v1_4))))
def wpX9_differentLengths (oX : Ob) (oS : Ob) (post : Int32 → Prop) : Prop := ∃ fu4 : Nat, wpX9_differentLengths_L4 oX oS (fun (v1_32 : Int32) => post v1_32) fu4 (0 : Int32) (0 : Int32)
theorem pdX9_differentLengths : yX9_differentLengths.cls = RX9 ∧ yX9_differentLengths.cls ≠ "java/lang/invoke/MethodHandle" ∧ yX9_differentLengths.cls ≠ "java/lang/invoke/VarHandle" ∧ (parseMethodDescriptor yX9_differentLengths.desc).map (fun d => d.parameters.length) = some 0 := by decide +kernel
theorem lkX9_differentLengths_12 : Cond.fieldLink RX9 12 (TX9 0).1 (TX9 0).2.1 (TX9 0).2.2.1 ∈ wsX9_differentLengths := by decide +kernel
theorem inX9_differentLengths_X9 : ∀ w ∈ u_ws RX9 TX9 11, w ∈ wsX9_differentLengths := by decide +kernel
theorem lkX9_differentLengths_75 : Cond.fieldLink RX9 75 (TX8 0).1 (TX8 0).2.1 (TX8 0).2.2.1 ∈ wsX9_differentLengths := by decide +kernel
theorem inX9_differentLengths_X8 : ∀ w ∈ u_ws RX8 TX8 13, w ∈ wsX9_differentLengths := by decide +kernel
set_option maxHeartbeats 4000000 in
set_option maxRecDepth 100000 in
theorem ctX9_differentLengths (l : Launch) (D : va_G) (cI cZ : ClassId) (qX : Nat → Nat) (qS : Nat → Nat) (qI : Nat → Nat) (qJ : Nat → Nat) (qP : Nat → Nat) (qV : Nat → Nat) (qT : Nat → Nat) (qK : Nat → Nat) (qG : Nat → Nat) (qL : Nat → Nat) (qM : Nat → Nat) (oX : Ob) (oS : Ob) (post : Int32 → Prop) (h : wpX9_differentLengths oX oS post) : CTi l yX9_differentLengths wsX9_differentLengths { frames := 4, cells := 0, slots := 0, locals := 89 } D [(cI, .int), (cZ, .boolean)] [.ref (qX 0)] (w9 cI cZ qX qS qI qJ qP qV qK qG qL qM oX ++ w8 cI cZ qS oS) (fun _ : Unit => w9 cI cZ qX qS qI qJ qP qV qK qG qL qM oX ++ w8 cI cZ qS oS) (fun (r : Int32) (_ : Unit) => post r) := by
  refine CTi.of (cc := cX9_differentLengths) (own := RX9) (maxL := 3) (ret := (some .int)) (lv0 := [(0, .ref (qX 0))]) (by decide) rfl rfl (Nat.le_of_ble_eq_true rfl) rfl ?_
  intro p e s m args below meth c A C
  unfold wpX9_differentLengths at h
  refine SW.iconst (v := (0 : Int32)) C dX9_differentLengths_0 (by decide) ?_
  refine SW.istore_n (lv' := [(1, .int (0 : Int32)), (0, .ref (qX 0))]) C dX9_differentLengths_1 rfl (by decide) rfl ?_
  refine SW.iconst (v := (0 : Int32)) C dX9_differentLengths_2 (by decide) ?_
  refine SW.istore_n (lv' := [(2, .int (0 : Int32)), (1, .int (0 : Int32)), (0, .ref (qX 0))]) C dX9_differentLengths_3 rfl (by decide) rfl ?_
  have L4 : ∀ (K32 : Int32 → Prop) (hK32 : ∀ (v1_32 : Int32), K32 v1_32 → SW p l e { frames := 4, cells := 0, slots := 0, locals := 89 } s m args below meth c A D 3 0 0 (MQ below (va_Qi (fun (r : Int32) (_ : Unit) => post r) (ctB D A (fun _ : Unit => w9 cI cZ qX qS qI qJ qP qV qK qG qL qM oX ++ w8 cI cZ qS oS)) A) args s 0 0 A) (w9 cI cZ qX qS qI qJ qP qV qK qG qL qM oX ++ w8 cI cZ qS oS) 32 [(1, .int v1_32)] []) (fu : Nat) (v1_4 : Int32) (v2_4 : Int32), wpX9_differentLengths_L4 oX oS K32 fu v1_4 v2_4 → SW p l e { frames := 4, cells := 0, slots := 0, locals := 89 } s m args below meth c A D 3 0 0 (MQ below (va_Qi (fun (r : Int32) (_ : Unit) => post r) (ctB D A (fun _ : Unit => w9 cI cZ qX qS qI qJ qP qV qK qG qL qM oX ++ w8 cI cZ qS oS)) A) args s 0 0 A) (w9 cI cZ qX qS qI qJ qP qV qK qG qL qM oX ++ w8 cI cZ qS oS) 4 [(0, .ref (qX 0)), (1, .int v1_4), (2, .int v2_4)] [] := by
    intro K32 hK32 fu
    induction fu with
    | zero =>
      intro v1_4 v2_4 h
      exact False.elim h
    | succ fu ih =>
      intro v1_4 v2_4 h
      unfold wpX9_differentLengths_L4 at h
      refine SW.iload_n C dX9_differentLengths_4 rfl 2 rfl ?_
      refine SW.aload_n C dX9_differentLengths_5 rfl 0 rfl ?_
      refine SW.get (v := .ref (qS 0)) (T := TX9) (N := 11) C inX9_differentLengths_X9 0 rfl rfl 0 (by decide) lkX9_differentLengths_12 rfl dX9_differentLengths_6 ?_
      refine SW.get (v := .int (oS 0 0)) (T := TX8) (N := 13) C inX9_differentLengths_X8 1 rfl rfl 0 (by decide) lkX9_differentLengths_75 rfl dX9_differentLengths_9 ?_
      refine SW.icmp_ge (tgt := 32) C dX9_differentLengths_12 (by decide) (fun hc => ?_) (fun hc => ?_)
      · replace h := h.1 hc
        refine SW.sub [1] rfl ?_
        exact hK32 _ h
      · replace h := h.2 hc
        refine SW.aload_n C dX9_differentLengths_15 rfl 0 rfl ?_
        refine SW.iload_n C dX9_differentLengths_16 rfl 2 rfl ?_
        refine SW.callVi_same C (ctX9_isHeardAbove l D cI cZ qX qS qI qJ qP qV qT qK qG qL qM oX oS v2_4 _ h) gX9_differentLengths_X9_isHeardAbove rfl rfl rfl pdX9_isHeardAbove ⟨by decide, by decide⟩ 0 rfl rfl rfl rfl rfl (Nat.le_of_ble_eq_true rfl) dX9_differentLengths_17 (by decide) (fun r17 u h => ?_)
        try dsimp only at h
        refine jn1_elim (G := fun v1_26 => SW p l e { frames := 4, cells := 0, slots := 0, locals := 89 } s m args below meth c A D 3 0 0 (MQ below (va_Qi (fun (r : Int32) (_ : Unit) => post r) (ctB D A (fun _ : Unit => w9 cI cZ qX qS qI qJ qP qV qK qG qL qM oX ++ w8 cI cZ qS oS)) A) args s 0 0 A) (w9 cI cZ qX qS qI qJ qP qV qK qG qL qM oX ++ w8 cI cZ qS oS) 26 [(0, .ref (qX 0)), (1, .int v1_26), (2, .int v2_4)] []) h (fun v1_26 h => ?_) (fun J26 hJ26 h => ?_)
        · refine SW.iinc (q := 2) (v := (v2_4 + (1 : Int32))) (lv' := [(2, .int (v2_4 + (1 : Int32))), (0, .ref (qX 0)), (1, .int v1_26)]) C dX9_differentLengths_26 rfl rfl (by decide) rfl ?_
          refine SW.goto (tgt := 4) C dX9_differentLengths_29 (by decide) ?_
          refine SW.sub [1, 2, 0] rfl ?_
          exact ih _ _ h
        · refine SW.if_ne (tgt := 26) C dX9_differentLengths_20 (by decide) (fun hc => ?_) (fun hc => ?_)
          · replace h := h.2 hc
            exact hJ26 _ h
          · replace h := h.1 hc
            refine SW.iinc (q := 1) (v := (v1_4 + (1 : Int32))) (lv' := [(1, .int (v1_4 + (1 : Int32))), (0, .ref (qX 0)), (2, .int v2_4)]) C dX9_differentLengths_23 rfl rfl (by decide) rfl ?_
            refine SW.sub [1, 0, 2] rfl ?_
            exact hJ26 _ h
  obtain ⟨fu, h⟩ := h
  refine SW.sub [2, 1, 0] rfl ?_
  refine L4 _ (fun v1_32 h => ?_) fu _ _ h
  · refine SW.iload_n C dX9_differentLengths_32 rfl 0 rfl ?_
    exact SW.iret C () rfl h dX9_differentLengths_33
def wpX9_hearersOfLongest_L6 (oSc_6 : Ob) (K60 : Int32 → Prop) : Nat → Int32 → Int32 → Int32 → Prop
  | 0, _, _, _ => False
  | fu6 + 1, v1_6, v2_6, v3_6 => (((oSc_6 0 0) ≤ v3_6) → K60 v2_6) ∧ (¬ ((oSc_6 0 0) ≤ v3_6) → wpX8_lengthAt oSc_6 v3_6 (oSc_6 0 5) (fun (r29 : Int32) => jn2 (fun (v1_45 : Int32) (v2_45 : Int32) => jn1 (fun (v2_54 : Int32) => wpX9_hearersOfLongest_L6 oSc_6 K60 fu6 v1_45 v2_54 (v3_6 + (1 : Int32))) (fun J54 => ((r29 = v1_45) → J54 (v2_45 + (1 : Int32))) ∧ (¬ (r29 = v1_45) → J54 v2_45))) (fun J45 => ((r29 ≤ v1_6) → J45 v1_6 v2_6) ∧ (¬ (r29 ≤ v1_6) → J45 r29 (0 : Int32)))))
def wpX9_hearersOfLongest (oX : Ob) (oS : Ob) (post : Int32 → Prop) : Prop := ∃ fu6 : Nat, wpX9_hearersOfLongest_L6 oS (fun (v2_60 : Int32) => post v2_60) fu6 (0 : Int32) (0 : Int32) (0 : Int32)
theorem pdX9_hearersOfLongest : yX9_hearersOfLongest.cls = RX9 ∧ yX9_hearersOfLongest.cls ≠ "java/lang/invoke/MethodHandle" ∧ yX9_hearersOfLongest.cls ≠ "java/lang/invoke/VarHandle" ∧ (parseMethodDescriptor yX9_hearersOfLongest.desc).map (fun d => d.parameters.length) = some 0 := by decide +kernel
theorem lkX9_hearersOfLongest_12 : Cond.fieldLink RX9 12 (TX9 0).1 (TX9 0).2.1 (TX9 0).2.2.1 ∈ wsX9_hearersOfLongest := by decide +kernel
theorem inX9_hearersOfLongest_X9 : ∀ w ∈ u_ws RX9 TX9 11, w ∈ wsX9_hearersOfLongest := by decide +kernel
theorem lkX9_hearersOfLongest_75 : Cond.fieldLink RX9 75 (TX8 0).1 (TX8 0).2.1 (TX8 0).2.2.1 ∈ wsX9_hearersOfLongest := by decide +kernel
theorem inX9_hearersOfLongest_X8 : ∀ w ∈ u_ws RX8 TX8 13, w ∈ wsX9_hearersOfLongest := by decide +kernel
theorem lkX9_hearersOfLongest_135 : Cond.fieldLink RX9 135 (TX8 5).1 (TX8 5).2.1 (TX8 5).2.2.1 ∈ wsX9_hearersOfLongest := by decide +kernel
set_option maxHeartbeats 4000000 in
set_option maxRecDepth 100000 in
theorem ctX9_hearersOfLongest (l : Launch) (D : va_G) (cI cZ : ClassId) (qX : Nat → Nat) (qS : Nat → Nat) (qI : Nat → Nat) (qJ : Nat → Nat) (qP : Nat → Nat) (qV : Nat → Nat) (qT : Nat → Nat) (qK : Nat → Nat) (qG : Nat → Nat) (qL : Nat → Nat) (qM : Nat → Nat) (oX : Ob) (oS : Ob) (post : Int32 → Prop) (h : wpX9_hearersOfLongest oX oS post) : CTi l yX9_hearersOfLongest wsX9_hearersOfLongest { frames := 3, cells := 0, slots := 0, locals := 66 } D [(cI, .int), (cZ, .boolean)] [.ref (qX 0)] (w9 cI cZ qX qS qI qJ qP qV qK qG qL qM oX ++ w8 cI cZ qS oS) (fun _ : Unit => w9 cI cZ qX qS qI qJ qP qV qK qG qL qM oX ++ w8 cI cZ qS oS) (fun (r : Int32) (_ : Unit) => post r) := by
  refine CTi.of (cc := cX9_hearersOfLongest) (own := RX9) (maxL := 5) (ret := (some .int)) (lv0 := [(0, .ref (qX 0))]) (by decide) rfl rfl (Nat.le_of_ble_eq_true rfl) rfl ?_
  intro p e s m args below meth c A C
  unfold wpX9_hearersOfLongest at h
  refine SW.iconst (v := (0 : Int32)) C dX9_hearersOfLongest_0 (by decide) ?_
  refine SW.istore_n (lv' := [(1, .int (0 : Int32)), (0, .ref (qX 0))]) C dX9_hearersOfLongest_1 rfl (by decide) rfl ?_
  refine SW.iconst (v := (0 : Int32)) C dX9_hearersOfLongest_2 (by decide) ?_
  refine SW.istore_n (lv' := [(2, .int (0 : Int32)), (1, .int (0 : Int32)), (0, .ref (qX 0))]) C dX9_hearersOfLongest_3 rfl (by decide) rfl ?_
  refine SW.iconst (v := (0 : Int32)) C dX9_hearersOfLongest_4 (by decide) ?_
  refine SW.istore_n (lv' := [(3, .int (0 : Int32)), (2, .int (0 : Int32)), (1, .int (0 : Int32)), (0, .ref (qX 0))]) C dX9_hearersOfLongest_5 rfl (by decide) rfl ?_
  have L6 : ∀ (K60 : Int32 → Prop) (hK60 : ∀ (v2_60 : Int32), K60 v2_60 → SW p l e { frames := 3, cells := 0, slots := 0, locals := 66 } s m args below meth c A D 5 0 0 (MQ below (va_Qi (fun (r : Int32) (_ : Unit) => post r) (ctB D A (fun _ : Unit => w9 cI cZ qX qS qI qJ qP qV qK qG qL qM oX ++ w8 cI cZ qS oS)) A) args s 0 0 A) (w9 cI cZ qX qS qI qJ qP qV qK qG qL qM oX ++ w8 cI cZ qS oS) 60 [(2, .int v2_60)] []) (fu : Nat) (v1_6 : Int32) (v2_6 : Int32) (v3_6 : Int32), wpX9_hearersOfLongest_L6 oS K60 fu v1_6 v2_6 v3_6 → SW p l e { frames := 3, cells := 0, slots := 0, locals := 66 } s m args below meth c A D 5 0 0 (MQ below (va_Qi (fun (r : Int32) (_ : Unit) => post r) (ctB D A (fun _ : Unit => w9 cI cZ qX qS qI qJ qP qV qK qG qL qM oX ++ w8 cI cZ qS oS)) A) args s 0 0 A) (w9 cI cZ qX qS qI qJ qP qV qK qG qL qM oX ++ w8 cI cZ qS oS) 6 [(0, .ref (qX 0)), (1, .int v1_6), (2, .int v2_6), (3, .int v3_6)] [] := by
    intro K60 hK60 fu
    induction fu with
    | zero =>
      intro v1_6 v2_6 v3_6 h
      exact False.elim h
    | succ fu ih =>
      intro v1_6 v2_6 v3_6 h
      unfold wpX9_hearersOfLongest_L6 at h
      refine SW.iload_n C dX9_hearersOfLongest_6 rfl 3 rfl ?_
      refine SW.aload_n C dX9_hearersOfLongest_7 rfl 0 rfl ?_
      refine SW.get (v := .ref (qS 0)) (T := TX9) (N := 11) C inX9_hearersOfLongest_X9 0 rfl rfl 0 (by decide) lkX9_hearersOfLongest_12 rfl dX9_hearersOfLongest_8 ?_
      refine SW.get (v := .int (oS 0 0)) (T := TX8) (N := 13) C inX9_hearersOfLongest_X8 1 rfl rfl 0 (by decide) lkX9_hearersOfLongest_75 rfl dX9_hearersOfLongest_11 ?_
      refine SW.icmp_ge (tgt := 60) C dX9_hearersOfLongest_14 (by decide) (fun hc => ?_) (fun hc => ?_)
      · replace h := h.1 hc
        refine SW.sub [2] rfl ?_
        exact hK60 _ h
      · replace h := h.2 hc
        refine SW.aload_n C dX9_hearersOfLongest_17 rfl 0 rfl ?_
        refine SW.get (v := .ref (qS 0)) (T := TX9) (N := 11) C inX9_hearersOfLongest_X9 0 rfl rfl 0 (by decide) lkX9_hearersOfLongest_12 rfl dX9_hearersOfLongest_18 ?_
        refine SW.iload_n C dX9_hearersOfLongest_21 rfl 3 rfl ?_
        refine SW.aload_n C dX9_hearersOfLongest_22 rfl 0 rfl ?_
        refine SW.get (v := .ref (qS 0)) (T := TX9) (N := 11) C inX9_hearersOfLongest_X9 0 rfl rfl 0 (by decide) lkX9_hearersOfLongest_12 rfl dX9_hearersOfLongest_23 ?_
        refine SW.get (v := .int (oS 0 5)) (T := TX8) (N := 13) C inX9_hearersOfLongest_X8 1 rfl rfl 5 (by decide) lkX9_hearersOfLongest_135 rfl dX9_hearersOfLongest_26 ?_
        refine SW.callVi_sub (wr := w9 cI cZ qX qS qI qJ qP qV qK qG qL qM oX) (wn := fun u : Unit => w9 cI cZ qX qS qI qJ qP qV qK qG qL qM oX ++ w8 cI cZ qS oS) C (ctX8_lengthAt l D cI cZ qS oS v3_6 (oS 0 5) _ h) gX9_hearersOfLongest_X8_lengthAt rfl rfl rfl pdX8_lengthAt ⟨by decide, by decide⟩ [1, 2, 3, 4, 5, 6, 7] [0] [0, 1, 2, 3, 4, 5, 6, 7] rfl rfl (by decide) (by decide) (by decide) (by decide) (fun _ => rfl) 0 rfl rfl rfl rfl rfl (Nat.le_of_ble_eq_true rfl) dX9_hearersOfLongest_29 (by decide) (fun r29 u h => ?_)
        try dsimp only at h
        refine SW.istore (lv' := [(4, .int r29), (0, .ref (qX 0)), (1, .int v1_6), (2, .int v2_6), (3, .int v3_6)]) C dX9_hearersOfLongest_32 (by decide) rfl ?_
        refine SW.iload C dX9_hearersOfLongest_34 0 rfl ?_
        refine SW.iload_n C dX9_hearersOfLongest_36 rfl 2 rfl ?_
        refine jn2_elim (G := fun v1_45 v2_45 => SW p l e { frames := 3, cells := 0, slots := 0, locals := 66 } s m args below meth c A D 5 0 0 (MQ below (va_Qi (fun (r : Int32) (_ : Unit) => post r) (ctB D A (fun _ : Unit => w9 cI cZ qX qS qI qJ qP qV qK qG qL qM oX ++ w8 cI cZ qS oS)) A) args s 0 0 A) (w9 cI cZ qX qS qI qJ qP qV qK qG qL qM oX ++ w8 cI cZ qS oS) 45 [(0, .ref (qX 0)), (1, .int v1_45), (2, .int v2_45), (3, .int v3_6), (4, .int r29)] []) h (fun v1_45 v2_45 h => ?_) (fun J45 hJ45 h => ?_)
        · refine SW.iload C dX9_hearersOfLongest_45 4 rfl ?_
          refine SW.iload_n C dX9_hearersOfLongest_47 rfl 1 rfl ?_
          refine jn1_elim (G := fun v2_54 => SW p l e { frames := 3, cells := 0, slots := 0, locals := 66 } s m args below meth c A D 5 0 0 (MQ below (va_Qi (fun (r : Int32) (_ : Unit) => post r) (ctB D A (fun _ : Unit => w9 cI cZ qX qS qI qJ qP qV qK qG qL qM oX ++ w8 cI cZ qS oS)) A) args s 0 0 A) (w9 cI cZ qX qS qI qJ qP qV qK qG qL qM oX ++ w8 cI cZ qS oS) 54 [(0, .ref (qX 0)), (1, .int v1_45), (2, .int v2_54), (3, .int v3_6)] []) h (fun v2_54 h => ?_) (fun J54 hJ54 h => ?_)
          · refine SW.iinc (q := 3) (v := (v3_6 + (1 : Int32))) (lv' := [(3, .int (v3_6 + (1 : Int32))), (0, .ref (qX 0)), (1, .int v1_45), (2, .int v2_54)]) C dX9_hearersOfLongest_54 rfl rfl (by decide) rfl ?_
            refine SW.goto (tgt := 6) C dX9_hearersOfLongest_57 (by decide) ?_
            refine SW.sub [1, 2, 3, 0] rfl ?_
            exact ih _ _ _ h
          · refine SW.icmp_ne (tgt := 54) C dX9_hearersOfLongest_48 (by decide) (fun hc => ?_) (fun hc => ?_)
            · replace h := h.2 hc
              refine SW.sub [0, 1, 2, 3] rfl ?_
              exact hJ54 _ h
            · replace h := h.1 hc
              refine SW.iinc (q := 2) (v := (v2_45 + (1 : Int32))) (lv' := [(2, .int (v2_45 + (1 : Int32))), (0, .ref (qX 0)), (1, .int v1_45), (3, .int v3_6), (4, .int r29)]) C dX9_hearersOfLongest_51 rfl rfl (by decide) rfl ?_
              refine SW.sub [1, 2, 0, 3] rfl ?_
              exact hJ54 _ h
        · refine SW.icmp_le (tgt := 45) C dX9_hearersOfLongest_37 (by decide) (fun hc => ?_) (fun hc => ?_)
          · replace h := h.1 hc
            refine SW.sub [1, 2, 3, 4, 0] rfl ?_
            exact hJ45 _ _ h
          · replace h := h.2 hc
            refine SW.iload C dX9_hearersOfLongest_40 0 rfl ?_
            refine SW.istore_n (lv' := [(1, .int r29), (4, .int r29), (0, .ref (qX 0)), (2, .int v2_6), (3, .int v3_6)]) C dX9_hearersOfLongest_42 rfl (by decide) rfl ?_
            refine SW.iconst (v := (0 : Int32)) C dX9_hearersOfLongest_43 (by decide) ?_
            refine SW.istore_n (lv' := [(2, .int (0 : Int32)), (1, .int r29), (4, .int r29), (0, .ref (qX 0)), (3, .int v3_6)]) C dX9_hearersOfLongest_44 rfl (by decide) rfl ?_
            refine SW.sub [3, 1, 0, 4, 2] rfl ?_
            exact hJ45 _ _ h
  obtain ⟨fu, h⟩ := h
  refine SW.sub [3, 2, 1, 0] rfl ?_
  refine L6 _ (fun v2_60 h => ?_) fu _ _ _ h
  · refine SW.iload_n C dX9_hearersOfLongest_60 rfl 0 rfl ?_
    exact SW.iret C () rfl h dX9_hearersOfLongest_61
def wpX9_heard (oX : Ob) (oS : Ob) (v1 : Int32) (post : Int32 → Prop) : Prop := wpX9_isOutside v1 (0 : Int32) (1 : Int32) (fun (r3 : Int32) => ((r3 = 0) → ((v1 = 0) → wpX9_differentLengths oX oS (fun (r17 : Int32) => post r17)) ∧ (¬ (v1 = 0) → wpX9_hearersOfLongest oX oS (fun (r24 : Int32) => post r24))) ∧ (¬ (r3 = 0) → post (-2 : Int32)))
theorem pdX9_heard : yX9_heard.cls = RX9 ∧ yX9_heard.cls ≠ "java/lang/invoke/MethodHandle" ∧ yX9_heard.cls ≠ "java/lang/invoke/VarHandle" ∧ (parseMethodDescriptor yX9_heard.desc).map (fun d => d.parameters.length) = some 1 := by decide +kernel
set_option maxHeartbeats 4000000 in
set_option maxRecDepth 100000 in
theorem ctX9_heard (l : Launch) (D : va_G) (cI cZ : ClassId) (qX : Nat → Nat) (qS : Nat → Nat) (qI : Nat → Nat) (qJ : Nat → Nat) (qP : Nat → Nat) (qV : Nat → Nat) (qT : Nat → Nat) (qK : Nat → Nat) (qG : Nat → Nat) (qL : Nat → Nat) (qM : Nat → Nat) (oX : Ob) (oS : Ob) (v1 : Int32) (post : Int32 → Prop) (h : wpX9_heard oX oS v1 post) : CTi l yX9_heard wsX9_heard { frames := 5, cells := 0, slots := 0, locals := 111 } D [(cI, .int), (cZ, .boolean)] [.ref (qX 0), .int v1] (w9 cI cZ qX qS qI qJ qP qV qK qG qL qM oX ++ w8 cI cZ qS oS) (fun _ : Unit => w9 cI cZ qX qS qI qJ qP qV qK qG qL qM oX ++ w8 cI cZ qS oS) (fun (r : Int32) (_ : Unit) => post r) := by
  refine CTi.of (cc := cX9_heard) (own := RX9) (maxL := 2) (ret := (some .int)) (lv0 := [(0, .ref (qX 0)), (1, .int v1)]) (by decide) rfl rfl (Nat.le_of_ble_eq_true rfl) rfl ?_
  intro p e s m args below meth c A C
  unfold wpX9_heard at h
  refine SW.iload_n C dX9_heard_0 rfl 1 rfl ?_
  refine SW.iconst (v := (0 : Int32)) C dX9_heard_1 (by decide) ?_
  refine SW.iconst (v := (1 : Int32)) C dX9_heard_2 (by decide) ?_
  refine SW.callSi_pure C (ctX9_isOutside l D cI cZ v1 (0 : Int32) (1 : Int32) _ h) gX9_heard_X9_isOutside rfl rfl rfl pdX9_isOutside ⟨by decide, by decide⟩ rfl rfl (Nat.le_of_ble_eq_true rfl) dX9_heard_3 (by decide) (fun r3 u h => ?_)
  try dsimp only at h
  refine SW.if_eq (tgt := 12) C dX9_heard_6 (by decide) (fun hc => ?_) (fun hc => ?_)
  · replace h := h.1 hc
    refine SW.iload_n C dX9_heard_12 rfl 1 rfl ?_
    refine SW.if_ne (tgt := 23) C dX9_heard_13 (by decide) (fun hc => ?_) (fun hc => ?_)
    · replace h := h.2 hc
      refine SW.aload_n C dX9_heard_23 rfl 0 rfl ?_
      refine SW.callVi_same C (ctX9_hearersOfLongest l D cI cZ qX qS qI qJ qP qV qT qK qG qL qM oX oS _ h) gX9_heard_X9_hearersOfLongest rfl rfl rfl pdX9_hearersOfLongest ⟨by decide, by decide⟩ 0 rfl rfl rfl rfl rfl (Nat.le_of_ble_eq_true rfl) dX9_heard_24 (by decide) (fun r24 u h => ?_)
      try dsimp only at h
      exact SW.iret C () rfl h dX9_heard_27
    · replace h := h.1 hc
      refine SW.aload_n C dX9_heard_16 rfl 0 rfl ?_
      refine SW.callVi_same C (ctX9_differentLengths l D cI cZ qX qS qI qJ qP qV qT qK qG qL qM oX oS _ h) gX9_heard_X9_differentLengths rfl rfl rfl pdX9_differentLengths ⟨by decide, by decide⟩ 0 rfl rfl rfl rfl rfl (Nat.le_of_ble_eq_true rfl) dX9_heard_17 (by decide) (fun r17 u h => ?_)
      try dsimp only at h
      refine SW.goto (tgt := 27) C dX9_heard_20 (by decide) ?_
      exact SW.iret C () rfl h dX9_heard_27
  · replace h := h.2 hc
    refine SW.bipush (v := (-2 : Int32)) C dX9_heard_9 (by decide) ?_
    exact SW.iret C () rfl h dX9_heard_11
def wpX9_sizeOrSet (v0 : Int32) (v1 : Int32) (post : Int32 → Prop) : Prop := ((v0 = (-6 : Int32)) → post (-6 : Int32)) ∧ (¬ (v0 = (-6 : Int32)) → ((v1 = 0) → wpJ6_bitCount_0f7a4 v0 (fun (r14 : Int32) => post r14)) ∧ (¬ (v1 = 0) → post v0))
theorem pdX9_sizeOrSet : yX9_sizeOrSet.cls ≠ "java/lang/invoke/MethodHandle" ∧ yX9_sizeOrSet.cls ≠ "java/lang/invoke/VarHandle" ∧ (parseMethodDescriptor yX9_sizeOrSet.desc).map (fun d => d.parameters.length) = some 2 := by decide +kernel
set_option maxHeartbeats 4000000 in
set_option maxRecDepth 100000 in
theorem ctX9_sizeOrSet (l : Launch) (D : va_G) (cI cZ : ClassId) (v0 : Int32) (v1 : Int32) (post : Int32 → Prop) (h : wpX9_sizeOrSet v0 v1 post) : CTi l yX9_sizeOrSet wsX9_sizeOrSet { frames := 1, cells := 0, slots := 0, locals := 20 } D [(cI, .int), (cZ, .boolean)] [.int v0, .int v1] (([] : va_W)) (fun _ : Unit => ([] : va_W)) (fun (r : Int32) (_ : Unit) => post r) := by
  refine CTi.of (cc := cX9_sizeOrSet) (own := RX9) (maxL := 2) (ret := (some .int)) (lv0 := [(0, .int v0), (1, .int v1)]) (by decide) rfl rfl (Nat.le_of_ble_eq_true rfl) rfl ?_
  intro p e s m args below meth c A C
  unfold wpX9_sizeOrSet at h
  refine SW.iload_n C dX9_sizeOrSet_0 rfl 0 rfl ?_
  refine SW.bipush (v := (-6 : Int32)) C dX9_sizeOrSet_1 (by decide) ?_
  refine SW.icmp_ne (tgt := 9) C dX9_sizeOrSet_3 (by decide) (fun hc => ?_) (fun hc => ?_)
  · replace h := h.2 hc
    refine SW.iload_n C dX9_sizeOrSet_9 rfl 1 rfl ?_
    refine SW.if_ne (tgt := 20) C dX9_sizeOrSet_10 (by decide) (fun hc => ?_) (fun hc => ?_)
    · replace h := h.2 hc
      refine SW.iload_n C dX9_sizeOrSet_20 rfl 0 rfl ?_
      exact SW.iret C () rfl h dX9_sizeOrSet_21
    · replace h := h.1 hc
      refine SW.iload_n C dX9_sizeOrSet_13 rfl 0 rfl ?_
      refine SW.callSi_pure C (ctJ6_bitCount_0f7a4 l D cI cZ v0 _ h) gX9_sizeOrSet_J6_bitCount_0f7a4 rfl rfl rfl pdJ6_bitCount_0f7a4 ⟨by decide, by decide⟩ rfl rfl (Nat.le_of_ble_eq_true rfl) dX9_sizeOrSet_14 (by decide) (fun r14 u h => ?_)
      try dsimp only at h
      refine SW.goto (tgt := 21) C dX9_sizeOrSet_17 (by decide) ?_
      exact SW.iret C () rfl h dX9_sizeOrSet_21
  · replace h := h.1 hc
    refine SW.bipush (v := (-6 : Int32)) C dX9_sizeOrSet_6 (by decide) ?_
    exact SW.iret C () rfl h dX9_sizeOrSet_8
def wpX9_stopped (oX : Ob) (oS : Ob) (v1 : Int32) (v2 : Int32) (v3 : Int32) (post : Int32 → Prop) : Prop := wpX8_has oS v1 (fun (r5 : Int32) => ((r5 = 0) → post (-1 : Int32)) ∧ (¬ (r5 = 0) → wpX9_isOutside v2 (1 : Int32) (200 : Int32) (fun (r18 : Int32) => ((r18 = 0) → wpX9_isOutside v3 (0 : Int32) (1 : Int32) (fun (r27 : Int32) => ((r27 = 0) → wpX7_fewestFingers oS v1 v2 v1 v2 (fun (r44 : Int32) => wpX9_sizeOrSet r44 v3 (fun (r48 : Int32) => post r48))) ∧ (¬ (r27 = 0) → post (-2 : Int32)))) ∧ (¬ (r18 = 0) → post (-2 : Int32)))))
theorem pdX9_stopped : yX9_stopped.cls = RX9 ∧ yX9_stopped.cls ≠ "java/lang/invoke/MethodHandle" ∧ yX9_stopped.cls ≠ "java/lang/invoke/VarHandle" ∧ (parseMethodDescriptor yX9_stopped.desc).map (fun d => d.parameters.length) = some 3 := by decide +kernel
theorem lkX9_stopped_12 : Cond.fieldLink RX9 12 (TX9 0).1 (TX9 0).2.1 (TX9 0).2.2.1 ∈ wsX9_stopped := by decide +kernel
theorem inX9_stopped_X9 : ∀ w ∈ u_ws RX9 TX9 11, w ∈ wsX9_stopped := by decide +kernel
set_option maxHeartbeats 4000000 in
set_option maxRecDepth 100000 in
theorem ctX9_stopped (l : Launch) (D : va_G) (cI cZ : ClassId) (qX : Nat → Nat) (qS : Nat → Nat) (qI : Nat → Nat) (qJ : Nat → Nat) (qP : Nat → Nat) (qV : Nat → Nat) (qT : Nat → Nat) (qK : Nat → Nat) (qG : Nat → Nat) (qL : Nat → Nat) (qM : Nat → Nat) (oX : Ob) (oS : Ob) (v1 : Int32) (v2 : Int32) (v3 : Int32) (post : Int32 → Prop) (h : wpX9_stopped oX oS v1 v2 v3 post) : CTi l yX9_stopped wsX9_stopped { frames := 4, cells := 0, slots := 0, locals := 95 } D [(cI, .int), (cZ, .boolean)] [.ref (qX 0), .int v1, .int v2, .int v3] (w9 cI cZ qX qS qI qJ qP qV qK qG qL qM oX ++ w8 cI cZ qS oS) (fun _ : Unit => w9 cI cZ qX qS qI qJ qP qV qK qG qL qM oX ++ w8 cI cZ qS oS) (fun (r : Int32) (_ : Unit) => post r) := by
  refine CTi.of (cc := cX9_stopped) (own := RX9) (maxL := 4) (ret := (some .int)) (lv0 := [(0, .ref (qX 0)), (1, .int v1), (2, .int v2), (3, .int v3)]) (by decide) rfl rfl (Nat.le_of_ble_eq_true rfl) rfl ?_
  intro p e s m args below meth c A C
  unfold wpX9_stopped at h
  refine SW.aload_n C dX9_stopped_0 rfl 0 rfl ?_
  refine SW.get (v := .ref (qS 0)) (T := TX9) (N := 11) C inX9_stopped_X9 0 rfl rfl 0 (by decide) lkX9_stopped_12 rfl dX9_stopped_1 ?_
  refine SW.iload_n C dX9_stopped_4 rfl 1 rfl ?_
  refine SW.callVi_sub (wr := w9 cI cZ qX qS qI qJ qP qV qK qG qL qM oX) (wn := fun u : Unit => w9 cI cZ qX qS qI qJ qP qV qK qG qL qM oX ++ w8 cI cZ qS oS) C (ctX8_has l D cI cZ qS oS v1 _ h) gX9_stopped_X8_has rfl rfl rfl pdX8_has ⟨by decide, by decide⟩ [1, 2, 3, 4, 5, 6, 7] [0] [0, 1, 2, 3, 4, 5, 6, 7] rfl rfl (by decide) (by decide) (by decide) (by decide) (fun _ => rfl) 0 rfl rfl rfl rfl rfl (Nat.le_of_ble_eq_true rfl) dX9_stopped_5 (by decide) (fun r5 u h => ?_)
  try dsimp only at h
  refine SW.if_ne (tgt := 13) C dX9_stopped_8 (by decide) (fun hc => ?_) (fun hc => ?_)
  · replace h := h.2 hc
    refine SW.iload_n C dX9_stopped_13 rfl 2 rfl ?_
    refine SW.iconst (v := (1 : Int32)) C dX9_stopped_14 (by decide) ?_
    refine SW.sipush (v := (200 : Int32)) C dX9_stopped_15 (by decide) ?_
    refine SW.callSi_pure C (ctX9_isOutside l D cI cZ v2 (1 : Int32) (200 : Int32) _ h) gX9_stopped_X9_isOutside rfl rfl rfl pdX9_isOutside ⟨by decide, by decide⟩ rfl rfl (Nat.le_of_ble_eq_true rfl) dX9_stopped_18 (by decide) (fun r18 u h => ?_)
    try dsimp only at h
    refine SW.if_ne (tgt := 33) C dX9_stopped_21 (by decide) (fun hc => ?_) (fun hc => ?_)
    · replace h := h.2 hc
      refine SW.bipush (v := (-2 : Int32)) C dX9_stopped_33 (by decide) ?_
      exact SW.iret C () rfl h dX9_stopped_35
    · replace h := h.1 hc
      refine SW.iload_n C dX9_stopped_24 rfl 3 rfl ?_
      refine SW.iconst (v := (0 : Int32)) C dX9_stopped_25 (by decide) ?_
      refine SW.iconst (v := (1 : Int32)) C dX9_stopped_26 (by decide) ?_
      refine SW.callSi_pure C (ctX9_isOutside l D cI cZ v3 (0 : Int32) (1 : Int32) _ h) gX9_stopped_X9_isOutside rfl rfl rfl pdX9_isOutside ⟨by decide, by decide⟩ rfl rfl (Nat.le_of_ble_eq_true rfl) dX9_stopped_27 (by decide) (fun r27 u h => ?_)
      try dsimp only at h
      refine SW.if_eq (tgt := 36) C dX9_stopped_30 (by decide) (fun hc => ?_) (fun hc => ?_)
      · replace h := h.1 hc
        refine SW.aload_n C dX9_stopped_36 rfl 0 rfl ?_
        refine SW.get (v := .ref (qS 0)) (T := TX9) (N := 11) C inX9_stopped_X9 0 rfl rfl 0 (by decide) lkX9_stopped_12 rfl dX9_stopped_37 ?_
        refine SW.iload_n C dX9_stopped_40 rfl 1 rfl ?_
        refine SW.iload_n C dX9_stopped_41 rfl 2 rfl ?_
        refine SW.iload_n C dX9_stopped_42 rfl 1 rfl ?_
        refine SW.iload_n C dX9_stopped_43 rfl 2 rfl ?_
        refine SW.callSi_sub (wr := w9 cI cZ qX qS qI qJ qP qV qK qG qL qM oX) (wn := fun u : Unit => w9 cI cZ qX qS qI qJ qP qV qK qG qL qM oX ++ w8 cI cZ qS oS) C (ctX7_fewestFingers l D cI cZ qS oS v1 v2 v1 v2 _ h) gX9_stopped_X7_fewestFingers rfl rfl rfl pdX7_fewestFingers ⟨by decide, by decide⟩ [1, 2, 3, 4, 5, 6, 7] [0] [0, 1, 2, 3, 4, 5, 6, 7] rfl rfl (by decide) (by decide) (by decide) (by decide) (fun _ => rfl) rfl rfl (Nat.le_of_ble_eq_true rfl) dX9_stopped_44 (by decide) (fun r44 u h => ?_)
        try dsimp only at h
        refine SW.iload_n C dX9_stopped_47 rfl 3 rfl ?_
        refine SW.callSi_pure C (ctX9_sizeOrSet l D cI cZ r44 v3 _ h) gX9_stopped_X9_sizeOrSet rfl rfl rfl pdX9_sizeOrSet ⟨by decide, by decide⟩ rfl rfl (Nat.le_of_ble_eq_true rfl) dX9_stopped_48 (by decide) (fun r48 u h => ?_)
        try dsimp only at h
        exact SW.iret C () rfl h dX9_stopped_51
      · replace h := h.2 hc
        refine SW.bipush (v := (-2 : Int32)) C dX9_stopped_33 (by decide) ?_
        exact SW.iret C () rfl h dX9_stopped_35
  · replace h := h.1 hc
    refine SW.iconst (v := (-1 : Int32)) C dX9_stopped_11 (by decide) ?_
    exact SW.iret C () rfl h dX9_stopped_12
def wpX9_friends (oX : Ob) (oS : Ob) (v1 : Int32) (v2 : Int32) (v3 : Int32) (v4 : Int32) (v5 : Int32) (post : Int32 → Prop) : Prop := wpX9_areTwo oX oS v1 v3 (fun (r3 : Int32) => ((r3 = 0) → post (-1 : Int32)) ∧ (¬ (r3 = 0) → wpX9_isOutside v2 (1 : Int32) (200 : Int32) (fun (r16 : Int32) => ((r16 = 0) → wpX9_isOutside v4 (1 : Int32) (200 : Int32) (fun (r28 : Int32) => ((r28 = 0) → wpX9_isOutside v5 (0 : Int32) (1 : Int32) (fun (r38 : Int32) => ((r38 = 0) → wpX7_fewestFingers oS v1 v2 v3 v4 (fun (r56 : Int32) => wpX9_sizeOrSet r56 v5 (fun (r61 : Int32) => post r61))) ∧ (¬ (r38 = 0) → post (-2 : Int32)))) ∧ (¬ (r28 = 0) → post (-2 : Int32)))) ∧ (¬ (r16 = 0) → post (-2 : Int32)))))
theorem pdX9_friends : yX9_friends.cls = RX9 ∧ yX9_friends.cls ≠ "java/lang/invoke/MethodHandle" ∧ yX9_friends.cls ≠ "java/lang/invoke/VarHandle" ∧ (parseMethodDescriptor yX9_friends.desc).map (fun d => d.parameters.length) = some 5 := by decide +kernel
theorem lkX9_friends_12 : Cond.fieldLink RX9 12 (TX9 0).1 (TX9 0).2.1 (TX9 0).2.2.1 ∈ wsX9_friends := by decide +kernel
theorem inX9_friends_X9 : ∀ w ∈ u_ws RX9 TX9 11, w ∈ wsX9_friends := by decide +kernel
set_option maxHeartbeats 4000000 in
set_option maxRecDepth 100000 in
theorem ctX9_friends (l : Launch) (D : va_G) (cI cZ : ClassId) (qX : Nat → Nat) (qS : Nat → Nat) (qI : Nat → Nat) (qJ : Nat → Nat) (qP : Nat → Nat) (qV : Nat → Nat) (qT : Nat → Nat) (qK : Nat → Nat) (qG : Nat → Nat) (qL : Nat → Nat) (qM : Nat → Nat) (oX : Ob) (oS : Ob) (v1 : Int32) (v2 : Int32) (v3 : Int32) (v4 : Int32) (v5 : Int32) (post : Int32 → Prop) (h : wpX9_friends oX oS v1 v2 v3 v4 v5 post) : CTi l yX9_friends wsX9_friends { frames := 4, cells := 0, slots := 0, locals := 95 } D [(cI, .int), (cZ, .boolean)] [.ref (qX 0), .int v1, .int v2, .int v3, .int v4, .int v5] (w9 cI cZ qX qS qI qJ qP qV qK qG qL qM oX ++ w8 cI cZ qS oS) (fun _ : Unit => w9 cI cZ qX qS qI qJ qP qV qK qG qL qM oX ++ w8 cI cZ qS oS) (fun (r : Int32) (_ : Unit) => post r) := by
  refine CTi.of (cc := cX9_friends) (own := RX9) (maxL := 6) (ret := (some .int)) (lv0 := [(0, .ref (qX 0)), (1, .int v1), (2, .int v2), (3, .int v3), (4, .int v4), (5, .int v5)]) (by decide) rfl rfl (Nat.le_of_ble_eq_true rfl) rfl ?_
  intro p e s m args below meth c A C
  unfold wpX9_friends at h
  refine SW.aload_n C dX9_friends_0 rfl 0 rfl ?_
  refine SW.iload_n C dX9_friends_1 rfl 1 rfl ?_
  refine SW.iload_n C dX9_friends_2 rfl 3 rfl ?_
  refine SW.callVi_same C (ctX9_areTwo l D cI cZ qX qS qI qJ qP qV qT qK qG qL qM oX oS v1 v3 _ h) gX9_friends_X9_areTwo rfl rfl rfl pdX9_areTwo ⟨by decide, by decide⟩ 0 rfl rfl rfl rfl rfl (Nat.le_of_ble_eq_true rfl) dX9_friends_3 (by decide) (fun r3 u h => ?_)
  try dsimp only at h
  refine SW.if_ne (tgt := 11) C dX9_friends_6 (by decide) (fun hc => ?_) (fun hc => ?_)
  · replace h := h.2 hc
    refine SW.iload_n C dX9_friends_11 rfl 2 rfl ?_
    refine SW.iconst (v := (1 : Int32)) C dX9_friends_12 (by decide) ?_
    refine SW.sipush (v := (200 : Int32)) C dX9_friends_13 (by decide) ?_
    refine SW.callSi_pure C (ctX9_isOutside l D cI cZ v2 (1 : Int32) (200 : Int32) _ h) gX9_friends_X9_isOutside rfl rfl rfl pdX9_isOutside ⟨by decide, by decide⟩ rfl rfl (Nat.le_of_ble_eq_true rfl) dX9_friends_16 (by decide) (fun r16 u h => ?_)
    try dsimp only at h
    refine SW.if_ne (tgt := 44) C dX9_friends_19 (by decide) (fun hc => ?_) (fun hc => ?_)
    · replace h := h.2 hc
      refine SW.bipush (v := (-2 : Int32)) C dX9_friends_44 (by decide) ?_
      exact SW.iret C () rfl h dX9_friends_46
    · replace h := h.1 hc
      refine SW.iload C dX9_friends_22 4 rfl ?_
      refine SW.iconst (v := (1 : Int32)) C dX9_friends_24 (by decide) ?_
      refine SW.sipush (v := (200 : Int32)) C dX9_friends_25 (by decide) ?_
      refine SW.callSi_pure C (ctX9_isOutside l D cI cZ v4 (1 : Int32) (200 : Int32) _ h) gX9_friends_X9_isOutside rfl rfl rfl pdX9_isOutside ⟨by decide, by decide⟩ rfl rfl (Nat.le_of_ble_eq_true rfl) dX9_friends_28 (by decide) (fun r28 u h => ?_)
      try dsimp only at h
      refine SW.if_ne (tgt := 44) C dX9_friends_31 (by decide) (fun hc => ?_) (fun hc => ?_)
      · replace h := h.2 hc
        refine SW.bipush (v := (-2 : Int32)) C dX9_friends_44 (by decide) ?_
        exact SW.iret C () rfl h dX9_friends_46
      · replace h := h.1 hc
        refine SW.iload C dX9_friends_34 5 rfl ?_
        refine SW.iconst (v := (0 : Int32)) C dX9_friends_36 (by decide) ?_
        refine SW.iconst (v := (1 : Int32)) C dX9_friends_37 (by decide) ?_
        refine SW.callSi_pure C (ctX9_isOutside l D cI cZ v5 (0 : Int32) (1 : Int32) _ h) gX9_friends_X9_isOutside rfl rfl rfl pdX9_isOutside ⟨by decide, by decide⟩ rfl rfl (Nat.le_of_ble_eq_true rfl) dX9_friends_38 (by decide) (fun r38 u h => ?_)
        try dsimp only at h
        refine SW.if_eq (tgt := 47) C dX9_friends_41 (by decide) (fun hc => ?_) (fun hc => ?_)
        · replace h := h.1 hc
          refine SW.aload_n C dX9_friends_47 rfl 0 rfl ?_
          refine SW.get (v := .ref (qS 0)) (T := TX9) (N := 11) C inX9_friends_X9 0 rfl rfl 0 (by decide) lkX9_friends_12 rfl dX9_friends_48 ?_
          refine SW.iload_n C dX9_friends_51 rfl 1 rfl ?_
          refine SW.iload_n C dX9_friends_52 rfl 2 rfl ?_
          refine SW.iload_n C dX9_friends_53 rfl 3 rfl ?_
          refine SW.iload C dX9_friends_54 4 rfl ?_
          refine SW.callSi_sub (wr := w9 cI cZ qX qS qI qJ qP qV qK qG qL qM oX) (wn := fun u : Unit => w9 cI cZ qX qS qI qJ qP qV qK qG qL qM oX ++ w8 cI cZ qS oS) C (ctX7_fewestFingers l D cI cZ qS oS v1 v2 v3 v4 _ h) gX9_friends_X7_fewestFingers rfl rfl rfl pdX7_fewestFingers ⟨by decide, by decide⟩ [1, 2, 3, 4, 5, 6, 7] [0] [0, 1, 2, 3, 4, 5, 6, 7] rfl rfl (by decide) (by decide) (by decide) (by decide) (fun _ => rfl) rfl rfl (Nat.le_of_ble_eq_true rfl) dX9_friends_56 (by decide) (fun r56 u h => ?_)
          try dsimp only at h
          refine SW.iload C dX9_friends_59 5 rfl ?_
          refine SW.callSi_pure C (ctX9_sizeOrSet l D cI cZ r56 v5 _ h) gX9_friends_X9_sizeOrSet rfl rfl rfl pdX9_sizeOrSet ⟨by decide, by decide⟩ rfl rfl (Nat.le_of_ble_eq_true rfl) dX9_friends_61 (by decide) (fun r61 u h => ?_)
          try dsimp only at h
          exact SW.iret C () rfl h dX9_friends_64
        · replace h := h.2 hc
          refine SW.bipush (v := (-2 : Int32)) C dX9_friends_44 (by decide) ?_
          exact SW.iret C () rfl h dX9_friends_46
  · replace h := h.1 hc
    refine SW.iconst (v := (-1 : Int32)) C dX9_friends_9 (by decide) ?_
    exact SW.iret C () rfl h dX9_friends_10
def wpX9_changes (oX : Ob) (oS : Ob) (oP : Ob) (oK : Ob) (v1 : Int32) (v2 : Int32) (post : Int32 → Ob → Prop) : Prop := wpX8_has oS v1 (fun (r5 : Int32) => ((r5 = 0) → post (-1 : Int32) oK) ∧ (¬ (r5 = 0) → wpX9_isOutside v2 (0 : Int32) (1 : Int32) (fun (r16 : Int32) => ((r16 = 0) → wpX5_tuneFault oP (fun (r29 : Int32) => ((r29 = (-6 : Int32)) → wpX7_playTune oS oP oK v1 (fun (oK_53 : Ob) => (((oK_53 0 3) = (-6 : Int32)) → post (-6 : Int32) oK_53) ∧ (¬ ((oK_53 0 3) = (-6 : Int32)) → ((v2 = 0) → post (oK_53 0 4) oK_53) ∧ (¬ (v2 = 0) → post (oK_53 0 3) oK_53)))) ∧ (¬ (r29 = (-6 : Int32)) → post (-5 : Int32) oK))) ∧ (¬ (r16 = 0) → post (-2 : Int32) oK))))
theorem pdX9_changes : yX9_changes.cls = RX9 ∧ yX9_changes.cls ≠ "java/lang/invoke/MethodHandle" ∧ yX9_changes.cls ≠ "java/lang/invoke/VarHandle" ∧ (parseMethodDescriptor yX9_changes.desc).map (fun d => d.parameters.length) = some 2 := by decide +kernel
theorem lkX9_changes_12 : Cond.fieldLink RX9 12 (TX9 0).1 (TX9 0).2.1 (TX9 0).2.2.1 ∈ wsX9_changes := by decide +kernel
theorem inX9_changes_X9 : ∀ w ∈ u_ws RX9 TX9 11, w ∈ wsX9_changes := by decide +kernel
theorem lkX9_changes_32 : Cond.fieldLink RX9 32 (TX9 5).1 (TX9 5).2.1 (TX9 5).2.2.1 ∈ wsX9_changes := by decide +kernel
theorem lkX9_changes_46 : Cond.fieldLink RX9 46 (TX9 7).1 (TX9 7).2.1 (TX9 7).2.2.1 ∈ wsX9_changes := by decide +kernel
theorem lkX9_changes_188 : Cond.fieldLink RX9 188 (TX7 3).1 (TX7 3).2.1 (TX7 3).2.2.1 ∈ wsX9_changes := by decide +kernel
theorem inX9_changes_X7 : ∀ w ∈ u_ws RX7 TX7 7, w ∈ wsX9_changes := by decide +kernel
theorem lkX9_changes_191 : Cond.fieldLink RX9 191 (TX7 4).1 (TX7 4).2.1 (TX7 4).2.2.1 ∈ wsX9_changes := by decide +kernel
set_option maxHeartbeats 4000000 in
set_option maxRecDepth 100000 in
theorem ctX9_changes (l : Launch) (D : va_G) (cI cZ : ClassId) (qX : Nat → Nat) (qS : Nat → Nat) (qI : Nat → Nat) (qJ : Nat → Nat) (qP : Nat → Nat) (qV : Nat → Nat) (qT : Nat → Nat) (qK : Nat → Nat) (qG : Nat → Nat) (qL : Nat → Nat) (qM : Nat → Nat) (oX : Ob) (oS : Ob) (oP : Ob) (oK : Ob) (v1 : Int32) (v2 : Int32) (post : Int32 → Ob → Prop) (h : wpX9_changes oX oS oP oK v1 v2 post) : CTi l yX9_changes wsX9_changes { frames := 4, cells := 0, slots := 0, locals := 91 } D [(cI, .int), (cZ, .boolean)] [.ref (qX 0), .int v1, .int v2] (w9 cI cZ qX qS qI qJ qP qV qK qG qL qM oX ++ w8 cI cZ qS oS ++ w5 cI cZ qP oP ++ w7 cI cZ qK oK) (fun u : Ob => w9 cI cZ qX qS qI qJ qP qV qK qG qL qM oX ++ w8 cI cZ qS oS ++ w5 cI cZ qP oP ++ w7 cI cZ qK u) (fun (r : Int32) (u : Ob) => post r u) := by
  refine CTi.of (cc := cX9_changes) (own := RX9) (maxL := 3) (ret := (some .int)) (lv0 := [(0, .ref (qX 0)), (1, .int v1), (2, .int v2)]) (by decide) rfl rfl (Nat.le_of_ble_eq_true rfl) rfl ?_
  intro p e s m args below meth c A C
  unfold wpX9_changes at h
  refine SW.aload_n C dX9_changes_0 rfl 0 rfl ?_
  refine SW.get (v := .ref (qS 0)) (T := TX9) (N := 11) C inX9_changes_X9 0 rfl rfl 0 (by decide) lkX9_changes_12 rfl dX9_changes_1 ?_
  refine SW.iload_n C dX9_changes_4 rfl 1 rfl ?_
  refine SW.callVi_sub (wr := w9 cI cZ qX qS qI qJ qP qV qK qG qL qM oX ++ w5 cI cZ qP oP ++ w7 cI cZ qK oK) (wn := fun u : Unit => w9 cI cZ qX qS qI qJ qP qV qK qG qL qM oX ++ w8 cI cZ qS oS ++ w5 cI cZ qP oP ++ w7 cI cZ qK oK) C (ctX8_has l D cI cZ qS oS v1 _ h) gX9_changes_X8_has rfl rfl rfl pdX8_has ⟨by decide, by decide⟩ [1, 2, 3, 4, 5, 6, 7] [0, 8, 9, 10, 11, 12, 13] [0, 7, 8, 9, 10, 11, 12, 13, 1, 2, 3, 4, 5, 6] rfl rfl (by decide) (by decide) (by decide) (by decide) (fun _ => rfl) 0 rfl rfl rfl rfl rfl (Nat.le_of_ble_eq_true rfl) dX9_changes_5 (by decide) (fun r5 u h => ?_)
  try dsimp only at h
  refine SW.if_ne (tgt := 13) C dX9_changes_8 (by decide) (fun hc => ?_) (fun hc => ?_)
  · replace h := h.2 hc
    refine SW.iload_n C dX9_changes_13 rfl 2 rfl ?_
    refine SW.iconst (v := (0 : Int32)) C dX9_changes_14 (by decide) ?_
    refine SW.iconst (v := (1 : Int32)) C dX9_changes_15 (by decide) ?_
    refine SW.callSi_pure C (ctX9_isOutside l D cI cZ v2 (0 : Int32) (1 : Int32) _ h) gX9_changes_X9_isOutside rfl rfl rfl pdX9_isOutside ⟨by decide, by decide⟩ rfl rfl (Nat.le_of_ble_eq_true rfl) dX9_changes_16 (by decide) (fun r16 u h => ?_)
    try dsimp only at h
    refine SW.if_eq (tgt := 25) C dX9_changes_19 (by decide) (fun hc => ?_) (fun hc => ?_)
    · replace h := h.1 hc
      refine SW.aload_n C dX9_changes_25 rfl 0 rfl ?_
      refine SW.get (v := .ref (qP 0)) (T := TX9) (N := 11) C inX9_changes_X9 0 rfl rfl 5 (by decide) lkX9_changes_32 rfl dX9_changes_26 ?_
      refine SW.callVi_sub (wr := w9 cI cZ qX qS qI qJ qP qV qK qG qL qM oX ++ w8 cI cZ qS oS ++ w7 cI cZ qK oK) (wn := fun u : Unit => w9 cI cZ qX qS qI qJ qP qV qK qG qL qM oX ++ w8 cI cZ qS oS ++ w5 cI cZ qP oP ++ w7 cI cZ qK oK) C (ctX5_tuneFault l D cI cZ qP oP _ h) gX9_changes_X5_tuneFault rfl rfl rfl pdX5_tuneFault ⟨by decide, by decide⟩ [8, 9] [0, 1, 2, 3, 4, 5, 6, 7, 10, 11, 12, 13] [0, 1, 2, 3, 4, 5, 6, 7, 12, 13, 8, 9, 10, 11] rfl rfl (by decide) (by decide) (by decide) (by decide) (fun _ => rfl) 0 rfl rfl rfl rfl rfl (Nat.le_of_ble_eq_true rfl) dX9_changes_29 (by decide) (fun r29 u h => ?_)
      try dsimp only at h
      refine SW.bipush (v := (-6 : Int32)) C dX9_changes_32 (by decide) ?_
      refine SW.icmp_eq (tgt := 40) C dX9_changes_34 (by decide) (fun hc => ?_) (fun hc => ?_)
      · replace h := h.1 hc
        refine SW.aload_n C dX9_changes_40 rfl 0 rfl ?_
        refine SW.get (v := .ref (qK 0)) (T := TX9) (N := 11) C inX9_changes_X9 0 rfl rfl 7 (by decide) lkX9_changes_46 rfl dX9_changes_41 ?_
        refine SW.aload_n C dX9_changes_44 rfl 0 rfl ?_
        refine SW.get (v := .ref (qS 0)) (T := TX9) (N := 11) C inX9_changes_X9 0 rfl rfl 0 (by decide) lkX9_changes_12 rfl dX9_changes_45 ?_
        refine SW.iload_n C dX9_changes_48 rfl 1 rfl ?_
        refine SW.aload_n C dX9_changes_49 rfl 0 rfl ?_
        refine SW.get (v := .ref (qP 0)) (T := TX9) (N := 11) C inX9_changes_X9 0 rfl rfl 5 (by decide) lkX9_changes_32 rfl dX9_changes_50 ?_
        refine SW.callVv_sub (wr := w9 cI cZ qX qS qI qJ qP qV qK qG qL qM oX) (wn := fun u : Ob => w9 cI cZ qX qS qI qJ qP qV qK qG qL qM oX ++ w8 cI cZ qS oS ++ w5 cI cZ qP oP ++ w7 cI cZ qK u) C (ctX7_playTune l D cI cZ qS qP qK oS oP oK v1 _ h) gX9_changes_X7_playTune rfl rfl rfl pdX7_playTune ⟨by decide, by decide⟩ [1, 2, 3, 4, 5, 6, 7, 8, 9, 10, 11, 12, 13] [0] [0, 1, 2, 3, 4, 5, 6, 7, 8, 9, 10, 11, 12, 13] rfl rfl (by decide) (by decide) (by decide) (by decide) (fun _ => rfl) 9 rfl rfl rfl rfl rfl (Nat.le_of_ble_eq_true rfl) dX9_changes_53 (by decide) (fun u h => ?_)
        obtain ⟨oK_53, rfl⟩ : ∃ z, z = u := ⟨_, rfl⟩
        try dsimp only at h
        refine SW.aload_n C dX9_changes_56 rfl 0 rfl ?_
        refine SW.get (v := .ref (qK 0)) (T := TX9) (N := 11) C inX9_changes_X9 0 rfl rfl 7 (by decide) lkX9_changes_46 rfl dX9_changes_57 ?_
        refine SW.get (v := .int (oK_53 0 3)) (T := TX7) (N := 7) C inX9_changes_X7 10 rfl rfl 3 (by decide) lkX9_changes_188 rfl dX9_changes_60 ?_
        refine SW.bipush (v := (-6 : Int32)) C dX9_changes_63 (by decide) ?_
        refine SW.icmp_ne (tgt := 71) C dX9_changes_65 (by decide) (fun hc => ?_) (fun hc => ?_)
        · replace h := h.2 hc
          refine SW.iload_n C dX9_changes_71 rfl 2 rfl ?_
          refine SW.if_ne (tgt := 85) C dX9_changes_72 (by decide) (fun hc => ?_) (fun hc => ?_)
          · replace h := h.2 hc
            refine SW.aload_n C dX9_changes_85 rfl 0 rfl ?_
            refine SW.get (v := .ref (qK 0)) (T := TX9) (N := 11) C inX9_changes_X9 0 rfl rfl 7 (by decide) lkX9_changes_46 rfl dX9_changes_86 ?_
            refine SW.get (v := .int (oK_53 0 3)) (T := TX7) (N := 7) C inX9_changes_X7 10 rfl rfl 3 (by decide) lkX9_changes_188 rfl dX9_changes_89 ?_
            exact SW.iret C oK_53 rfl h dX9_changes_92
          · replace h := h.1 hc
            refine SW.aload_n C dX9_changes_75 rfl 0 rfl ?_
            refine SW.get (v := .ref (qK 0)) (T := TX9) (N := 11) C inX9_changes_X9 0 rfl rfl 7 (by decide) lkX9_changes_46 rfl dX9_changes_76 ?_
            refine SW.get (v := .int (oK_53 0 4)) (T := TX7) (N := 7) C inX9_changes_X7 10 rfl rfl 4 (by decide) lkX9_changes_191 rfl dX9_changes_79 ?_
            refine SW.goto (tgt := 92) C dX9_changes_82 (by decide) ?_
            exact SW.iret C oK_53 rfl h dX9_changes_92
        · replace h := h.1 hc
          refine SW.bipush (v := (-6 : Int32)) C dX9_changes_68 (by decide) ?_
          exact SW.iret C oK_53 rfl h dX9_changes_70
      · replace h := h.2 hc
        refine SW.bipush (v := (-5 : Int32)) C dX9_changes_37 (by decide) ?_
        exact SW.iret C oK rfl h dX9_changes_39
    · replace h := h.2 hc
      refine SW.bipush (v := (-2 : Int32)) C dX9_changes_22 (by decide) ?_
      exact SW.iret C oK rfl h dX9_changes_24
  · replace h := h.1 hc
    refine SW.iconst (v := (-1 : Int32)) C dX9_changes_11 (by decide) ?_
    exact SW.iret C oK rfl h dX9_changes_12
def wpX9_shifts (oX : Ob) (oS : Ob) (oP : Ob) (oK : Ob) (v1 : Int32) (v2 : Int32) (post : Int32 → Ob → Prop) : Prop := wpX9_areTwo oX oS v1 v2 (fun (r3 : Int32) => ((r3 = 0) → post (-1 : Int32) oK) ∧ (¬ (r3 = 0) → wpX5_tuneFault oP (fun (r15 : Int32) => ((r15 = (-6 : Int32)) → wpX7_fittingShifts oS oP oK v1 v2 (fun (r40 : Int32) (oK_40 : Ob) => post r40 oK_40)) ∧ (¬ (r15 = (-6 : Int32)) → post (-5 : Int32) oK))))
theorem pdX9_shifts : yX9_shifts.cls = RX9 ∧ yX9_shifts.cls ≠ "java/lang/invoke/MethodHandle" ∧ yX9_shifts.cls ≠ "java/lang/invoke/VarHandle" ∧ (parseMethodDescriptor yX9_shifts.desc).map (fun d => d.parameters.length) = some 2 := by decide +kernel
theorem lkX9_shifts_32 : Cond.fieldLink RX9 32 (TX9 5).1 (TX9 5).2.1 (TX9 5).2.2.1 ∈ wsX9_shifts := by decide +kernel
theorem inX9_shifts_X9 : ∀ w ∈ u_ws RX9 TX9 11, w ∈ wsX9_shifts := by decide +kernel
theorem lkX9_shifts_46 : Cond.fieldLink RX9 46 (TX9 7).1 (TX9 7).2.1 (TX9 7).2.2.1 ∈ wsX9_shifts := by decide +kernel
theorem lkX9_shifts_12 : Cond.fieldLink RX9 12 (TX9 0).1 (TX9 0).2.1 (TX9 0).2.2.1 ∈ wsX9_shifts := by decide +kernel
set_option maxHeartbeats 4000000 in
set_option maxRecDepth 100000 in
theorem ctX9_shifts (l : Launch) (D : va_G) (cI cZ : ClassId) (qX : Nat → Nat) (qS : Nat → Nat) (qI : Nat → Nat) (qJ : Nat → Nat) (qP : Nat → Nat) (qV : Nat → Nat) (qT : Nat → Nat) (qK : Nat → Nat) (qG : Nat → Nat) (qL : Nat → Nat) (qM : Nat → Nat) (oX : Ob) (oS : Ob) (oP : Ob) (oK : Ob) (v1 : Int32) (v2 : Int32) (post : Int32 → Ob → Prop) (h : wpX9_shifts oX oS oP oK v1 v2 post) : CTi l yX9_shifts wsX9_shifts { frames := 5, cells := 0, slots := 0, locals := 117 } D [(cI, .int), (cZ, .boolean)] [.ref (qX 0), .int v1, .int v2] (w9 cI cZ qX qS qI qJ qP qV qK qG qL qM oX ++ w8 cI cZ qS oS ++ w5 cI cZ qP oP ++ w7 cI cZ qK oK) (fun u : Ob => w9 cI cZ qX qS qI qJ qP qV qK qG qL qM oX ++ w8 cI cZ qS oS ++ w5 cI cZ qP oP ++ w7 cI cZ qK u) (fun (r : Int32) (u : Ob) => post r u) := by
  refine CTi.of (cc := cX9_shifts) (own := RX9) (maxL := 3) (ret := (some .int)) (lv0 := [(0, .ref (qX 0)), (1, .int v1), (2, .int v2)]) (by decide) rfl rfl (Nat.le_of_ble_eq_true rfl) rfl ?_
  intro p e s m args below meth c A C
  unfold wpX9_shifts at h
  refine SW.aload_n C dX9_shifts_0 rfl 0 rfl ?_
  refine SW.iload_n C dX9_shifts_1 rfl 1 rfl ?_
  refine SW.iload_n C dX9_shifts_2 rfl 2 rfl ?_
  refine SW.callVi_sub (wr := w5 cI cZ qP oP ++ w7 cI cZ qK oK) (wn := fun u : Unit => w9 cI cZ qX qS qI qJ qP qV qK qG qL qM oX ++ w8 cI cZ qS oS ++ w5 cI cZ qP oP ++ w7 cI cZ qK oK) C (ctX9_areTwo l D cI cZ qX qS qI qJ qP qV qT qK qG qL qM oX oS v1 v2 _ h) gX9_shifts_X9_areTwo rfl rfl rfl pdX9_areTwo ⟨by decide, by decide⟩ [0, 1, 2, 3, 4, 5, 6, 7] [8, 9, 10, 11, 12, 13] [6, 7, 8, 9, 10, 11, 12, 13, 0, 1, 2, 3, 4, 5] rfl rfl (by decide) (by decide) (by decide) (by decide) (fun _ => rfl) 0 rfl rfl rfl rfl rfl (Nat.le_of_ble_eq_true rfl) dX9_shifts_3 (by decide) (fun r3 u h => ?_)
  try dsimp only at h
  refine SW.if_ne (tgt := 11) C dX9_shifts_6 (by decide) (fun hc => ?_) (fun hc => ?_)
  · replace h := h.2 hc
    refine SW.aload_n C dX9_shifts_11 rfl 0 rfl ?_
    refine SW.get (v := .ref (qP 0)) (T := TX9) (N := 11) C inX9_shifts_X9 0 rfl rfl 5 (by decide) lkX9_shifts_32 rfl dX9_shifts_12 ?_
    refine SW.callVi_sub (wr := w9 cI cZ qX qS qI qJ qP qV qK qG qL qM oX ++ w8 cI cZ qS oS ++ w7 cI cZ qK oK) (wn := fun u : Unit => w9 cI cZ qX qS qI qJ qP qV qK qG qL qM oX ++ w8 cI cZ qS oS ++ w5 cI cZ qP oP ++ w7 cI cZ qK oK) C (ctX5_tuneFault l D cI cZ qP oP _ h) gX9_shifts_X5_tuneFault rfl rfl rfl pdX5_tuneFault ⟨by decide, by decide⟩ [8, 9] [0, 1, 2, 3, 4, 5, 6, 7, 10, 11, 12, 13] [0, 1, 2, 3, 4, 5, 6, 7, 12, 13, 8, 9, 10, 11] rfl rfl (by decide) (by decide) (by decide) (by decide) (fun _ => rfl) 0 rfl rfl rfl rfl rfl (Nat.le_of_ble_eq_true rfl) dX9_shifts_15 (by decide) (fun r15 u h => ?_)
    try dsimp only at h
    refine SW.bipush (v := (-6 : Int32)) C dX9_shifts_18 (by decide) ?_
    refine SW.icmp_eq (tgt := 26) C dX9_shifts_20 (by decide) (fun hc => ?_) (fun hc => ?_)
    · replace h := h.1 hc
      refine SW.aload_n C dX9_shifts_26 rfl 0 rfl ?_
      refine SW.get (v := .ref (qK 0)) (T := TX9) (N := 11) C inX9_shifts_X9 0 rfl rfl 7 (by decide) lkX9_shifts_46 rfl dX9_shifts_27 ?_
      refine SW.aload_n C dX9_shifts_30 rfl 0 rfl ?_
      refine SW.get (v := .ref (qS 0)) (T := TX9) (N := 11) C inX9_shifts_X9 0 rfl rfl 0 (by decide) lkX9_shifts_12 rfl dX9_shifts_31 ?_
      refine SW.iload_n C dX9_shifts_34 rfl 1 rfl ?_
      refine SW.iload_n C dX9_shifts_35 rfl 2 rfl ?_
      refine SW.aload_n C dX9_shifts_36 rfl 0 rfl ?_
      refine SW.get (v := .ref (qP 0)) (T := TX9) (N := 11) C inX9_shifts_X9 0 rfl rfl 5 (by decide) lkX9_shifts_32 rfl dX9_shifts_37 ?_
      refine SW.callVi_sub (wr := w9 cI cZ qX qS qI qJ qP qV qK qG qL qM oX) (wn := fun u : Ob => w9 cI cZ qX qS qI qJ qP qV qK qG qL qM oX ++ w8 cI cZ qS oS ++ w5 cI cZ qP oP ++ w7 cI cZ qK u) C (ctX7_fittingShifts l D cI cZ qS qP qK oS oP oK v1 v2 _ h) gX9_shifts_X7_fittingShifts rfl rfl rfl pdX7_fittingShifts ⟨by decide, by decide⟩ [1, 2, 3, 4, 5, 6, 7, 8, 9, 10, 11, 12, 13] [0] [0, 1, 2, 3, 4, 5, 6, 7, 8, 9, 10, 11, 12, 13] rfl rfl (by decide) (by decide) (by decide) (by decide) (fun _ => rfl) 9 rfl rfl rfl rfl rfl (Nat.le_of_ble_eq_true rfl) dX9_shifts_40 (by decide) (fun r40 u h => ?_)
      obtain ⟨oK_40, rfl⟩ : ∃ z, z = u := ⟨_, rfl⟩
      try dsimp only at h
      exact SW.iret C oK_40 rfl h dX9_shifts_43
    · replace h := h.2 hc
      refine SW.bipush (v := (-5 : Int32)) C dX9_shifts_23 (by decide) ?_
      exact SW.iret C oK rfl h dX9_shifts_25
  · replace h := h.1 hc
    refine SW.iconst (v := (-1 : Int32)) C dX9_shifts_9 (by decide) ?_
    exact SW.iret C oK rfl h dX9_shifts_10
def wpX9_seen (oX : Ob) (oS : Ob) (v1 : Int32) (v2 : Int32) (post : Int32 → Ob → Prop) : Prop := wpX8_has oS v1 (fun (r5 : Int32) => ((r5 = 0) → post (-1 : Int32) oS) ∧ (¬ (r5 = 0) → wpX9_isOutside v2 (1 : Int32) (200 : Int32) (fun (r18 : Int32) => ((r18 = 0) → wpX8_addSight oS v1 v2 (fun (r33 : Int32) (oS_33 : Ob) => ((r33 = 0) → post (-4 : Int32) oS_33) ∧ (¬ (r33 = 0) → post (oS_33 0 6) oS_33))) ∧ (¬ (r18 = 0) → post (-2 : Int32) oS))))
theorem pdX9_seen : yX9_seen.cls = RX9 ∧ yX9_seen.cls ≠ "java/lang/invoke/MethodHandle" ∧ yX9_seen.cls ≠ "java/lang/invoke/VarHandle" ∧ (parseMethodDescriptor yX9_seen.desc).map (fun d => d.parameters.length) = some 2 := by decide +kernel
theorem lkX9_seen_12 : Cond.fieldLink RX9 12 (TX9 0).1 (TX9 0).2.1 (TX9 0).2.2.1 ∈ wsX9_seen := by decide +kernel
theorem inX9_seen_X9 : ∀ w ∈ u_ws RX9 TX9 11, w ∈ wsX9_seen := by decide +kernel
theorem lkX9_seen_201 : Cond.fieldLink RX9 201 (TX8 6).1 (TX8 6).2.1 (TX8 6).2.2.1 ∈ wsX9_seen := by decide +kernel
theorem inX9_seen_X8 : ∀ w ∈ u_ws RX8 TX8 13, w ∈ wsX9_seen := by decide +kernel
set_option maxHeartbeats 4000000 in
set_option maxRecDepth 100000 in
theorem ctX9_seen (l : Launch) (D : va_G) (cI cZ : ClassId) (qX : Nat → Nat) (qS : Nat → Nat) (qI : Nat → Nat) (qJ : Nat → Nat) (qP : Nat → Nat) (qV : Nat → Nat) (qT : Nat → Nat) (qK : Nat → Nat) (qG : Nat → Nat) (qL : Nat → Nat) (qM : Nat → Nat) (oX : Ob) (oS : Ob) (v1 : Int32) (v2 : Int32) (post : Int32 → Ob → Prop) (h : wpX9_seen oX oS v1 v2 post) : CTi l yX9_seen wsX9_seen { frames := 1, cells := 0, slots := 0, locals := 22 } D [(cI, .int), (cZ, .boolean)] [.ref (qX 0), .int v1, .int v2] (w9 cI cZ qX qS qI qJ qP qV qK qG qL qM oX ++ w8 cI cZ qS oS) (fun u : Ob => w9 cI cZ qX qS qI qJ qP qV qK qG qL qM oX ++ w8 cI cZ qS u) (fun (r : Int32) (u : Ob) => post r u) := by
  refine CTi.of (cc := cX9_seen) (own := RX9) (maxL := 3) (ret := (some .int)) (lv0 := [(0, .ref (qX 0)), (1, .int v1), (2, .int v2)]) (by decide) rfl rfl (Nat.le_of_ble_eq_true rfl) rfl ?_
  intro p e s m args below meth c A C
  unfold wpX9_seen at h
  refine SW.aload_n C dX9_seen_0 rfl 0 rfl ?_
  refine SW.get (v := .ref (qS 0)) (T := TX9) (N := 11) C inX9_seen_X9 0 rfl rfl 0 (by decide) lkX9_seen_12 rfl dX9_seen_1 ?_
  refine SW.iload_n C dX9_seen_4 rfl 1 rfl ?_
  refine SW.callVi_sub (wr := w9 cI cZ qX qS qI qJ qP qV qK qG qL qM oX) (wn := fun u : Unit => w9 cI cZ qX qS qI qJ qP qV qK qG qL qM oX ++ w8 cI cZ qS oS) C (ctX8_has l D cI cZ qS oS v1 _ h) gX9_seen_X8_has rfl rfl rfl pdX8_has ⟨by decide, by decide⟩ [1, 2, 3, 4, 5, 6, 7] [0] [0, 1, 2, 3, 4, 5, 6, 7] rfl rfl (by decide) (by decide) (by decide) (by decide) (fun _ => rfl) 0 rfl rfl rfl rfl rfl (Nat.le_of_ble_eq_true rfl) dX9_seen_5 (by decide) (fun r5 u h => ?_)
  try dsimp only at h
  refine SW.if_ne (tgt := 13) C dX9_seen_8 (by decide) (fun hc => ?_) (fun hc => ?_)
  · replace h := h.2 hc
    refine SW.iload_n C dX9_seen_13 rfl 2 rfl ?_
    refine SW.iconst (v := (1 : Int32)) C dX9_seen_14 (by decide) ?_
    refine SW.sipush (v := (200 : Int32)) C dX9_seen_15 (by decide) ?_
    refine SW.callSi_pure C (ctX9_isOutside l D cI cZ v2 (1 : Int32) (200 : Int32) _ h) gX9_seen_X9_isOutside rfl rfl rfl pdX9_isOutside ⟨by decide, by decide⟩ rfl rfl (Nat.le_of_ble_eq_true rfl) dX9_seen_18 (by decide) (fun r18 u h => ?_)
    try dsimp only at h
    refine SW.if_eq (tgt := 27) C dX9_seen_21 (by decide) (fun hc => ?_) (fun hc => ?_)
    · replace h := h.1 hc
      refine SW.aload_n C dX9_seen_27 rfl 0 rfl ?_
      refine SW.get (v := .ref (qS 0)) (T := TX9) (N := 11) C inX9_seen_X9 0 rfl rfl 0 (by decide) lkX9_seen_12 rfl dX9_seen_28 ?_
      refine SW.iload_n C dX9_seen_31 rfl 1 rfl ?_
      refine SW.iload_n C dX9_seen_32 rfl 2 rfl ?_
      refine SW.callVi_sub (wr := w9 cI cZ qX qS qI qJ qP qV qK qG qL qM oX) (wn := fun u : Ob => w9 cI cZ qX qS qI qJ qP qV qK qG qL qM oX ++ w8 cI cZ qS u) C (ctX8_addSight l D cI cZ qS oS v1 v2 _ h) gX9_seen_X8_addSight rfl rfl rfl pdX8_addSight ⟨by decide, by decide⟩ [1, 2, 3, 4, 5, 6, 7] [0] [0, 1, 2, 3, 4, 5, 6, 7] rfl rfl (by decide) (by decide) (by decide) (by decide) (fun _ => rfl) 0 rfl rfl rfl rfl rfl (Nat.le_of_ble_eq_true rfl) dX9_seen_33 (by decide) (fun r33 u h => ?_)
      obtain ⟨oS_33, rfl⟩ : ∃ z, z = u := ⟨_, rfl⟩
      try dsimp only at h
      refine SW.if_eq (tgt := 49) C dX9_seen_36 (by decide) (fun hc => ?_) (fun hc => ?_)
      · replace h := h.1 hc
        refine SW.bipush (v := (-4 : Int32)) C dX9_seen_49 (by decide) ?_
        exact SW.iret C oS_33 rfl h dX9_seen_51
      · replace h := h.2 hc
        refine SW.aload_n C dX9_seen_39 rfl 0 rfl ?_
        refine SW.get (v := .ref (qS 0)) (T := TX9) (N := 11) C inX9_seen_X9 0 rfl rfl 0 (by decide) lkX9_seen_12 rfl dX9_seen_40 ?_
        refine SW.get (v := .int (oS_33 0 6)) (T := TX8) (N := 13) C inX9_seen_X8 1 rfl rfl 6 (by decide) lkX9_seen_201 rfl dX9_seen_43 ?_
        refine SW.goto (tgt := 51) C dX9_seen_46 (by decide) ?_
        exact SW.iret C oS_33 rfl h dX9_seen_51
    · replace h := h.2 hc
      refine SW.bipush (v := (-2 : Int32)) C dX9_seen_24 (by decide) ?_
      exact SW.iret C oS rfl h dX9_seen_26
  · replace h := h.1 hc
    refine SW.iconst (v := (-1 : Int32)) C dX9_seen_11 (by decide) ?_
    exact SW.iret C oS rfl h dX9_seen_12
def wpX9_forget (oX : Ob) (oS : Ob) (post : Int32 → Ob → Prop) : Prop := post (oS 0 6) (pf oS 6 (0 : Int32))
theorem pdX9_forget : yX9_forget.cls = RX9 ∧ yX9_forget.cls ≠ "java/lang/invoke/MethodHandle" ∧ yX9_forget.cls ≠ "java/lang/invoke/VarHandle" ∧ (parseMethodDescriptor yX9_forget.desc).map (fun d => d.parameters.length) = some 0 := by decide +kernel
theorem lkX9_forget_12 : Cond.fieldLink RX9 12 (TX9 0).1 (TX9 0).2.1 (TX9 0).2.2.1 ∈ wsX9_forget := by decide +kernel
theorem inX9_forget_X9 : ∀ w ∈ u_ws RX9 TX9 11, w ∈ wsX9_forget := by decide +kernel
theorem lkX9_forget_201 : Cond.fieldLink RX9 201 (TX8 6).1 (TX8 6).2.1 (TX8 6).2.2.1 ∈ wsX9_forget := by decide +kernel
theorem inX9_forget_X8 : ∀ w ∈ u_ws RX8 TX8 13, w ∈ wsX9_forget := by decide +kernel
set_option maxHeartbeats 4000000 in
set_option maxRecDepth 100000 in
theorem ctX9_forget (l : Launch) (D : va_G) (cI cZ : ClassId) (qX : Nat → Nat) (qS : Nat → Nat) (qI : Nat → Nat) (qJ : Nat → Nat) (qP : Nat → Nat) (qV : Nat → Nat) (qT : Nat → Nat) (qK : Nat → Nat) (qG : Nat → Nat) (qL : Nat → Nat) (qM : Nat → Nat) (oX : Ob) (oS : Ob) (post : Int32 → Ob → Prop) (h : wpX9_forget oX oS post) : CTi l yX9_forget wsX9_forget { frames := 0, cells := 0, slots := 0, locals := 0 } D [(cI, .int), (cZ, .boolean)] [.ref (qX 0)] (w9 cI cZ qX qS qI qJ qP qV qK qG qL qM oX ++ w8 cI cZ qS oS) (fun u : Ob => w9 cI cZ qX qS qI qJ qP qV qK qG qL qM oX ++ w8 cI cZ qS u) (fun (r : Int32) (u : Ob) => post r u) := by
  refine CTi.of (cc := cX9_forget) (own := RX9) (maxL := 2) (ret := (some .int)) (lv0 := [(0, .ref (qX 0))]) (by decide) rfl rfl (Nat.le_of_ble_eq_true rfl) rfl ?_
  intro p e s m args below meth c A C
  unfold wpX9_forget at h
  refine SW.aload_n C dX9_forget_0 rfl 0 rfl ?_
  refine SW.get (v := .ref (qS 0)) (T := TX9) (N := 11) C inX9_forget_X9 0 rfl rfl 0 (by decide) lkX9_forget_12 rfl dX9_forget_1 ?_
  refine SW.get (v := .int (oS 0 6)) (T := TX8) (N := 13) C inX9_forget_X8 1 rfl rfl 6 (by decide) lkX9_forget_201 rfl dX9_forget_4 ?_
  refine SW.istore_n (lv' := [(1, .int (oS 0 6)), (0, .ref (qX 0))]) C dX9_forget_7 rfl (by decide) rfl ?_
  refine SW.aload_n C dX9_forget_8 rfl 1 rfl ?_
  refine SW.get (v := .ref (qS 0)) (T := TX9) (N := 11) C inX9_forget_X9 0 rfl rfl 0 (by decide) lkX9_forget_12 rfl dX9_forget_9 ?_
  refine SW.iconst (v := (0 : Int32)) C dX9_forget_12 (by decide) ?_
  refine SW.put (ws' := w9 cI cZ qX qS qI qJ qP qV qK qG qL qM oX ++ w8 cI cZ qS (pf oS 6 (0 : Int32))) (T := TX8) (N := 13) C inX9_forget_X8 tyX8 tyX8_ok nmX8 1 rfl rfl 6 (by decide) lkX9_forget_201 rfl rfl rfl (Nat.le_of_ble_eq_true rfl) rfl dX9_forget_13 ?_
  refine SW.iload_n C dX9_forget_16 rfl 0 rfl ?_
  exact SW.iret C (pf oS 6 (0 : Int32)) rfl h dX9_forget_17
def wpX9_fit (oX : Ob) (oS : Ob) (oG : Ob) (v1 : Int32) (post : Int32 → Ob → Prop) : Prop := wpX9_isOutside v1 (0 : Int32) (3 : Int32) (fun (r3 : Int32) => ((r3 = 0) → wpX3_gather oS oG (fun (oG_20 : Ob) => ((v1 = (0 : Int32)) → post (oG_20 0 2) oG_20) ∧ ((v1 = (1 : Int32)) → wpX3_inSome oG_20 (fun (r64 : Int32) => post r64 oG_20)) ∧ ((v1 = (2 : Int32)) → wpX3_inAll oG_20 (fun (r72 : Int32) => post r72 oG_20)) ∧ (¬ v1 = (0 : Int32) → ¬ v1 = (1 : Int32) → ¬ v1 = (2 : Int32) → (wpX3_least oG_20 (fun (r80 : Int32) => post r80 oG_20))))) ∧ (¬ (r3 = 0) → post (-2 : Int32) oG))
theorem pdX9_fit : yX9_fit.cls = RX9 ∧ yX9_fit.cls ≠ "java/lang/invoke/MethodHandle" ∧ yX9_fit.cls ≠ "java/lang/invoke/VarHandle" ∧ (parseMethodDescriptor yX9_fit.desc).map (fun d => d.parameters.length) = some 1 := by decide +kernel
theorem lkX9_fit_53 : Cond.fieldLink RX9 53 (TX9 8).1 (TX9 8).2.1 (TX9 8).2.2.1 ∈ wsX9_fit := by decide +kernel
theorem inX9_fit_X9 : ∀ w ∈ u_ws RX9 TX9 11, w ∈ wsX9_fit := by decide +kernel
theorem lkX9_fit_12 : Cond.fieldLink RX9 12 (TX9 0).1 (TX9 0).2.1 (TX9 0).2.2.1 ∈ wsX9_fit := by decide +kernel
theorem lkX9_fit_208 : Cond.fieldLink RX9 208 (TX3 2).1 (TX3 2).2.1 (TX3 2).2.2.1 ∈ wsX9_fit := by decide +kernel
theorem inX9_fit_X3 : ∀ w ∈ u_ws RX3 TX3 5, w ∈ wsX9_fit := by decide +kernel
set_option maxHeartbeats 4000000 in
set_option maxRecDepth 100000 in
theorem ctX9_fit (l : Launch) (D : va_G) (cI cZ : ClassId) (qX : Nat → Nat) (qS : Nat → Nat) (qI : Nat → Nat) (qJ : Nat → Nat) (qP : Nat → Nat) (qV : Nat → Nat) (qT : Nat → Nat) (qK : Nat → Nat) (qG : Nat → Nat) (qL : Nat → Nat) (qM : Nat → Nat) (oX : Ob) (oS : Ob) (oG : Ob) (v1 : Int32) (post : Int32 → Ob → Prop) (h : wpX9_fit oX oS oG v1 post) : CTi l yX9_fit wsX9_fit { frames := 5, cells := 0, slots := 0, locals := 111 } D [(cI, .int), (cZ, .boolean)] [.ref (qX 0), .int v1] (w9 cI cZ qX qS qI qJ qP qV qK qG qL qM oX ++ w8 cI cZ qS oS ++ w3 cI cZ qG oG) (fun u : Ob => w9 cI cZ qX qS qI qJ qP qV qK qG qL qM oX ++ w8 cI cZ qS oS ++ w3 cI cZ qG u) (fun (r : Int32) (u : Ob) => post r u) := by
  refine CTi.of (cc := cX9_fit) (own := RX9) (maxL := 2) (ret := (some .int)) (lv0 := [(0, .ref (qX 0)), (1, .int v1)]) (by decide) rfl rfl (Nat.le_of_ble_eq_true rfl) rfl ?_
  intro p e s m args below meth c A C
  unfold wpX9_fit at h
  refine SW.iload_n C dX9_fit_0 rfl 1 rfl ?_
  refine SW.iconst (v := (0 : Int32)) C dX9_fit_1 (by decide) ?_
  refine SW.iconst (v := (3 : Int32)) C dX9_fit_2 (by decide) ?_
  refine SW.callSi_pure C (ctX9_isOutside l D cI cZ v1 (0 : Int32) (3 : Int32) _ h) gX9_fit_X9_isOutside rfl rfl rfl pdX9_isOutside ⟨by decide, by decide⟩ rfl rfl (Nat.le_of_ble_eq_true rfl) dX9_fit_3 (by decide) (fun r3 u h => ?_)
  try dsimp only at h
  refine SW.if_eq (tgt := 12) C dX9_fit_6 (by decide) (fun hc => ?_) (fun hc => ?_)
  · replace h := h.1 hc
    refine SW.aload_n C dX9_fit_12 rfl 0 rfl ?_
    refine SW.get (v := .ref (qG 0)) (T := TX9) (N := 11) C inX9_fit_X9 0 rfl rfl 8 (by decide) lkX9_fit_53 rfl dX9_fit_13 ?_
    refine SW.aload_n C dX9_fit_16 rfl 0 rfl ?_
    refine SW.get (v := .ref (qS 0)) (T := TX9) (N := 11) C inX9_fit_X9 0 rfl rfl 0 (by decide) lkX9_fit_12 rfl dX9_fit_17 ?_
    refine SW.callVv_sub (wr := w9 cI cZ qX qS qI qJ qP qV qK qG qL qM oX) (wn := fun u : Ob => w9 cI cZ qX qS qI qJ qP qV qK qG qL qM oX ++ w8 cI cZ qS oS ++ w3 cI cZ qG u) C (ctX3_gather l D cI cZ qS qG oS oG _ h) gX9_fit_X3_gather rfl rfl rfl pdX3_gather ⟨by decide, by decide⟩ [1, 2, 3, 4, 5, 6, 7, 8, 9, 10] [0] [0, 1, 2, 3, 4, 5, 6, 7, 8, 9, 10] rfl rfl (by decide) (by decide) (by decide) (by decide) (fun _ => rfl) 7 rfl rfl rfl rfl rfl (Nat.le_of_ble_eq_true rfl) dX9_fit_20 (by decide) (fun u h => ?_)
    obtain ⟨oG_20, rfl⟩ : ∃ z, z = u := ⟨_, rfl⟩
    try dsimp only at h
    refine SW.iload_n C dX9_fit_23 rfl 1 rfl ?_
    by_cases hs0 : v1 = (0 : Int32)
    · replace h := h.1 hs0
      refine SW.tableIn (tgt := 52) (off := 28) C dX9_fit_24 (by rw [hs0]; decide) (by rw [hs0]; decide) (by rw [hs0]; rfl) (by decide) ?_
      refine SW.aload_n C dX9_fit_52 rfl 0 rfl ?_
      refine SW.get (v := .ref (qG 0)) (T := TX9) (N := 11) C inX9_fit_X9 0 rfl rfl 8 (by decide) lkX9_fit_53 rfl dX9_fit_53 ?_
      refine SW.get (v := .int (oG_20 0 2)) (T := TX3) (N := 5) C inX9_fit_X3 8 rfl rfl 2 (by decide) lkX9_fit_208 rfl dX9_fit_56 ?_
      exact SW.iret C oG_20 rfl h dX9_fit_59
    by_cases hs1 : v1 = (1 : Int32)
    · replace h := h.2.1 hs1
      refine SW.tableIn (tgt := 60) (off := 36) C dX9_fit_24 (by rw [hs1]; decide) (by rw [hs1]; decide) (by rw [hs1]; rfl) (by decide) ?_
      refine SW.aload_n C dX9_fit_60 rfl 0 rfl ?_
      refine SW.get (v := .ref (qG 0)) (T := TX9) (N := 11) C inX9_fit_X9 0 rfl rfl 8 (by decide) lkX9_fit_53 rfl dX9_fit_61 ?_
      refine SW.callVi_sub (wr := w9 cI cZ qX qS qI qJ qP qV qK qG qL qM oX ++ w8 cI cZ qS oS) (wn := fun u : Unit => w9 cI cZ qX qS qI qJ qP qV qK qG qL qM oX ++ w8 cI cZ qS oS ++ w3 cI cZ qG oG_20) C (ctX3_inSome l D cI cZ qG oG_20 _ h) gX9_fit_X3_inSome rfl rfl rfl pdX3_inSome ⟨by decide, by decide⟩ [8, 9, 10] [0, 1, 2, 3, 4, 5, 6, 7] [0, 1, 2, 3, 4, 5, 6, 7, 8, 9, 10] rfl rfl (by decide) (by decide) (by decide) (by decide) (fun _ => rfl) 0 rfl rfl rfl rfl rfl (Nat.le_of_ble_eq_true rfl) dX9_fit_64 (by decide) (fun r64 u h => ?_)
      try dsimp only at h
      exact SW.iret C oG_20 rfl h dX9_fit_67
    by_cases hs2 : v1 = (2 : Int32)
    · replace h := h.2.2.1 hs2
      refine SW.tableIn (tgt := 68) (off := 44) C dX9_fit_24 (by rw [hs2]; decide) (by rw [hs2]; decide) (by rw [hs2]; rfl) (by decide) ?_
      refine SW.aload_n C dX9_fit_68 rfl 0 rfl ?_
      refine SW.get (v := .ref (qG 0)) (T := TX9) (N := 11) C inX9_fit_X9 0 rfl rfl 8 (by decide) lkX9_fit_53 rfl dX9_fit_69 ?_
      refine SW.callVi_sub (wr := w9 cI cZ qX qS qI qJ qP qV qK qG qL qM oX ++ w8 cI cZ qS oS) (wn := fun u : Unit => w9 cI cZ qX qS qI qJ qP qV qK qG qL qM oX ++ w8 cI cZ qS oS ++ w3 cI cZ qG oG_20) C (ctX3_inAll l D cI cZ qG oG_20 _ h) gX9_fit_X3_inAll rfl rfl rfl pdX3_inAll ⟨by decide, by decide⟩ [8, 9, 10] [0, 1, 2, 3, 4, 5, 6, 7] [0, 1, 2, 3, 4, 5, 6, 7, 8, 9, 10] rfl rfl (by decide) (by decide) (by decide) (by decide) (fun _ => rfl) 0 rfl rfl rfl rfl rfl (Nat.le_of_ble_eq_true rfl) dX9_fit_72 (by decide) (fun r72 u h => ?_)
      try dsimp only at h
      exact SW.iret C oG_20 rfl h dX9_fit_75
    replace h := h.2.2.2 hs0 hs1 hs2
    refine SW.tableOut (tgt := 76) C dX9_fit_24 (by have e0 := sw_ne hs0; have e1 := sw_ne hs1; have e2 := sw_ne hs2; simp only [Int32.reduceToInt] at e0 e1 e2; omega) (by decide) ?_
    refine SW.aload_n C dX9_fit_76 rfl 0 rfl ?_
    refine SW.get (v := .ref (qG 0)) (T := TX9) (N := 11) C inX9_fit_X9 0 rfl rfl 8 (by decide) lkX9_fit_53 rfl dX9_fit_77 ?_
    refine SW.callVi_sub (wr := w9 cI cZ qX qS qI qJ qP qV qK qG qL qM oX ++ w8 cI cZ qS oS) (wn := fun u : Unit => w9 cI cZ qX qS qI qJ qP qV qK qG qL qM oX ++ w8 cI cZ qS oS ++ w3 cI cZ qG oG_20) C (ctX3_least l D cI cZ qG oG_20 _ h) gX9_fit_X3_least rfl rfl rfl pdX3_least ⟨by decide, by decide⟩ [8, 9, 10] [0, 1, 2, 3, 4, 5, 6, 7] [0, 1, 2, 3, 4, 5, 6, 7, 8, 9, 10] rfl rfl (by decide) (by decide) (by decide) (by decide) (fun _ => rfl) 0 rfl rfl rfl rfl rfl (Nat.le_of_ble_eq_true rfl) dX9_fit_80 (by decide) (fun r80 u h => ?_)
    try dsimp only at h
    exact SW.iret C oG_20 rfl h dX9_fit_83
  · replace h := h.2 hc
    refine SW.bipush (v := (-2 : Int32)) C dX9_fit_9 (by decide) ?_
    exact SW.iret C oG rfl h dX9_fit_11
def wpX9_ask (oX : Ob) (oS : Ob) (oG : Ob) (v1 : Int32) (post : Int32 → Ob → Prop) : Prop := wpX9_isOutside v1 (0 : Int32) (1 : Int32) (fun (r3 : Int32) => ((r3 = 0) → wpX3_gather oS oG (fun (oG_20 : Ob) => wpX3_chooseWindow oS oG_20 (fun (oG_31 : Ob) => ((v1 = 0) → post (oG_31 0 3) oG_31) ∧ (¬ (v1 = 0) → post (oG_31 0 4) oG_31)))) ∧ (¬ (r3 = 0) → post (-2 : Int32) oG))
theorem pdX9_ask : yX9_ask.cls = RX9 ∧ yX9_ask.cls ≠ "java/lang/invoke/MethodHandle" ∧ yX9_ask.cls ≠ "java/lang/invoke/VarHandle" ∧ (parseMethodDescriptor yX9_ask.desc).map (fun d => d.parameters.length) = some 1 := by decide +kernel
theorem lkX9_ask_53 : Cond.fieldLink RX9 53 (TX9 8).1 (TX9 8).2.1 (TX9 8).2.2.1 ∈ wsX9_ask := by decide +kernel
theorem inX9_ask_X9 : ∀ w ∈ u_ws RX9 TX9 11, w ∈ wsX9_ask := by decide +kernel
theorem lkX9_ask_12 : Cond.fieldLink RX9 12 (TX9 0).1 (TX9 0).2.1 (TX9 0).2.2.1 ∈ wsX9_ask := by decide +kernel
theorem lkX9_ask_226 : Cond.fieldLink RX9 226 (TX3 4).1 (TX3 4).2.1 (TX3 4).2.2.1 ∈ wsX9_ask := by decide +kernel
theorem inX9_ask_X3 : ∀ w ∈ u_ws RX3 TX3 5, w ∈ wsX9_ask := by decide +kernel
theorem lkX9_ask_223 : Cond.fieldLink RX9 223 (TX3 3).1 (TX3 3).2.1 (TX3 3).2.2.1 ∈ wsX9_ask := by decide +kernel
set_option maxHeartbeats 4000000 in
set_option maxRecDepth 100000 in
theorem ctX9_ask (l : Launch) (D : va_G) (cI cZ : ClassId) (qX : Nat → Nat) (qS : Nat → Nat) (qI : Nat → Nat) (qJ : Nat → Nat) (qP : Nat → Nat) (qV : Nat → Nat) (qT : Nat → Nat) (qK : Nat → Nat) (qG : Nat → Nat) (qL : Nat → Nat) (qM : Nat → Nat) (oX : Ob) (oS : Ob) (oG : Ob) (v1 : Int32) (post : Int32 → Ob → Prop) (h : wpX9_ask oX oS oG v1 post) : CTi l yX9_ask wsX9_ask { frames := 5, cells := 0, slots := 0, locals := 114 } D [(cI, .int), (cZ, .boolean)] [.ref (qX 0), .int v1] (w9 cI cZ qX qS qI qJ qP qV qK qG qL qM oX ++ w8 cI cZ qS oS ++ w3 cI cZ qG oG) (fun u : Ob => w9 cI cZ qX qS qI qJ qP qV qK qG qL qM oX ++ w8 cI cZ qS oS ++ w3 cI cZ qG u) (fun (r : Int32) (u : Ob) => post r u) := by
  refine CTi.of (cc := cX9_ask) (own := RX9) (maxL := 2) (ret := (some .int)) (lv0 := [(0, .ref (qX 0)), (1, .int v1)]) (by decide) rfl rfl (Nat.le_of_ble_eq_true rfl) rfl ?_
  intro p e s m args below meth c A C
  unfold wpX9_ask at h
  refine SW.iload_n C dX9_ask_0 rfl 1 rfl ?_
  refine SW.iconst (v := (0 : Int32)) C dX9_ask_1 (by decide) ?_
  refine SW.iconst (v := (1 : Int32)) C dX9_ask_2 (by decide) ?_
  refine SW.callSi_pure C (ctX9_isOutside l D cI cZ v1 (0 : Int32) (1 : Int32) _ h) gX9_ask_X9_isOutside rfl rfl rfl pdX9_isOutside ⟨by decide, by decide⟩ rfl rfl (Nat.le_of_ble_eq_true rfl) dX9_ask_3 (by decide) (fun r3 u h => ?_)
  try dsimp only at h
  refine SW.if_eq (tgt := 12) C dX9_ask_6 (by decide) (fun hc => ?_) (fun hc => ?_)
  · replace h := h.1 hc
    refine SW.aload_n C dX9_ask_12 rfl 0 rfl ?_
    refine SW.get (v := .ref (qG 0)) (T := TX9) (N := 11) C inX9_ask_X9 0 rfl rfl 8 (by decide) lkX9_ask_53 rfl dX9_ask_13 ?_
    refine SW.aload_n C dX9_ask_16 rfl 0 rfl ?_
    refine SW.get (v := .ref (qS 0)) (T := TX9) (N := 11) C inX9_ask_X9 0 rfl rfl 0 (by decide) lkX9_ask_12 rfl dX9_ask_17 ?_
    refine SW.callVv_sub (wr := w9 cI cZ qX qS qI qJ qP qV qK qG qL qM oX) (wn := fun u : Ob => w9 cI cZ qX qS qI qJ qP qV qK qG qL qM oX ++ w8 cI cZ qS oS ++ w3 cI cZ qG u) C (ctX3_gather l D cI cZ qS qG oS oG _ h) gX9_ask_X3_gather rfl rfl rfl pdX3_gather ⟨by decide, by decide⟩ [1, 2, 3, 4, 5, 6, 7, 8, 9, 10] [0] [0, 1, 2, 3, 4, 5, 6, 7, 8, 9, 10] rfl rfl (by decide) (by decide) (by decide) (by decide) (fun _ => rfl) 7 rfl rfl rfl rfl rfl (Nat.le_of_ble_eq_true rfl) dX9_ask_20 (by decide) (fun u h => ?_)
    obtain ⟨oG_20, rfl⟩ : ∃ z, z = u := ⟨_, rfl⟩
    try dsimp only at h
    refine SW.aload_n C dX9_ask_23 rfl 0 rfl ?_
    refine SW.get (v := .ref (qG 0)) (T := TX9) (N := 11) C inX9_ask_X9 0 rfl rfl 8 (by decide) lkX9_ask_53 rfl dX9_ask_24 ?_
    refine SW.aload_n C dX9_ask_27 rfl 0 rfl ?_
    refine SW.get (v := .ref (qS 0)) (T := TX9) (N := 11) C inX9_ask_X9 0 rfl rfl 0 (by decide) lkX9_ask_12 rfl dX9_ask_28 ?_
    refine SW.callVv_sub (wr := w9 cI cZ qX qS qI qJ qP qV qK qG qL qM oX) (wn := fun u : Ob => w9 cI cZ qX qS qI qJ qP qV qK qG qL qM oX ++ w8 cI cZ qS oS ++ w3 cI cZ qG u) C (ctX3_chooseWindow l D cI cZ qS qG oS oG_20 _ h) gX9_ask_X3_chooseWindow rfl rfl rfl pdX3_chooseWindow ⟨by decide, by decide⟩ [1, 2, 3, 4, 5, 6, 7, 8, 9, 10] [0] [0, 1, 2, 3, 4, 5, 6, 7, 8, 9, 10] rfl rfl (by decide) (by decide) (by decide) (by decide) (fun _ => rfl) 7 rfl rfl rfl rfl rfl (Nat.le_of_ble_eq_true rfl) dX9_ask_31 (by decide) (fun u h => ?_)
    obtain ⟨oG_31, rfl⟩ : ∃ z, z = u := ⟨_, rfl⟩
    try dsimp only at h
    refine SW.iload_n C dX9_ask_34 rfl 1 rfl ?_
    refine SW.if_ne (tgt := 48) C dX9_ask_35 (by decide) (fun hc => ?_) (fun hc => ?_)
    · replace h := h.2 hc
      refine SW.aload_n C dX9_ask_48 rfl 0 rfl ?_
      refine SW.get (v := .ref (qG 0)) (T := TX9) (N := 11) C inX9_ask_X9 0 rfl rfl 8 (by decide) lkX9_ask_53 rfl dX9_ask_49 ?_
      refine SW.get (v := .int (oG_31 0 4)) (T := TX3) (N := 5) C inX9_ask_X3 8 rfl rfl 4 (by decide) lkX9_ask_226 rfl dX9_ask_52 ?_
      exact SW.iret C oG_31 rfl h dX9_ask_55
    · replace h := h.1 hc
      refine SW.aload_n C dX9_ask_38 rfl 0 rfl ?_
      refine SW.get (v := .ref (qG 0)) (T := TX9) (N := 11) C inX9_ask_X9 0 rfl rfl 8 (by decide) lkX9_ask_53 rfl dX9_ask_39 ?_
      refine SW.get (v := .int (oG_31 0 3)) (T := TX3) (N := 5) C inX9_ask_X3 8 rfl rfl 3 (by decide) lkX9_ask_223 rfl dX9_ask_42 ?_
      refine SW.goto (tgt := 55) C dX9_ask_45 (by decide) ?_
      exact SW.iret C oG_31 rfl h dX9_ask_55
  · replace h := h.2 hc
    refine SW.bipush (v := (-2 : Int32)) C dX9_ask_9 (by decide) ?_
    exact SW.iret C oG rfl h dX9_ask_11
def wpX9_borrow (oX : Ob) (oS : Ob) (v1 : Int32) (v2 : Int32) (v3 : Int32) (post : Int32 → Ob → Prop) : Prop := wpX9_areTwo oX oS v1 v2 (fun (r3 : Int32) => ((r3 = 0) → post (-1 : Int32) oS) ∧ (¬ (r3 = 0) → wpX9_isOutside v3 (1 : Int32) (9 : Int32) (fun (r15 : Int32) => ((r15 = 0) → (vp_in v1 10) ∧ ((vp_in v2 10) ∧ ((((1000 : Int32) ≤ ((jld (oS 5) v1) + v3)) → post (-3 : Int32) oS) ∧ (¬ ((1000 : Int32) ≤ ((jld (oS 5) v1) + v3)) → (((-1000 : Int32) < ((jld (oS 5) v2) - v3)) → (vp_in v1 10) ∧ (∀ oS_90n : Ob, oS_90n = (pa oS 5 (nC v1) ((jld (oS 5) v1) + v3)) → ((vp_in v2 10) ∧ (post (((jld (oS 5) v1) + v3) + (1000 : Int32)) (pa oS_90n 5 (nC v2) ((jld (oS 5) v2) - v3)))))) ∧ (¬ ((-1000 : Int32) < ((jld (oS 5) v2) - v3)) → post (-3 : Int32) oS))))) ∧ (¬ (r15 = 0) → post (-2 : Int32) oS))))
theorem pdX9_borrow : yX9_borrow.cls = RX9 ∧ yX9_borrow.cls ≠ "java/lang/invoke/MethodHandle" ∧ yX9_borrow.cls ≠ "java/lang/invoke/VarHandle" ∧ (parseMethodDescriptor yX9_borrow.desc).map (fun d => d.parameters.length) = some 3 := by decide +kernel
theorem lkX9_borrow_12 : Cond.fieldLink RX9 12 (TX9 0).1 (TX9 0).2.1 (TX9 0).2.2.1 ∈ wsX9_borrow := by decide +kernel
theorem inX9_borrow_X9 : ∀ w ∈ u_ws RX9 TX9 11, w ∈ wsX9_borrow := by decide +kernel
theorem lkX9_borrow_229 : Cond.fieldLink RX9 229 (TX8 11).1 (TX8 11).2.1 (TX8 11).2.2.1 ∈ wsX9_borrow := by decide +kernel
theorem inX9_borrow_X8 : ∀ w ∈ u_ws RX8 TX8 13, w ∈ wsX9_borrow := by decide +kernel
set_option maxHeartbeats 4000000 in
set_option maxRecDepth 100000 in
theorem ctX9_borrow (l : Launch) (D : va_G) (cI cZ : ClassId) (qX : Nat → Nat) (qS : Nat → Nat) (qI : Nat → Nat) (qJ : Nat → Nat) (qP : Nat → Nat) (qV : Nat → Nat) (qT : Nat → Nat) (qK : Nat → Nat) (qG : Nat → Nat) (qL : Nat → Nat) (qM : Nat → Nat) (oX : Ob) (oS : Ob) (v1 : Int32) (v2 : Int32) (v3 : Int32) (post : Int32 → Ob → Prop) (h : wpX9_borrow oX oS v1 v2 v3 post) : CTi l yX9_borrow wsX9_borrow { frames := 2, cells := 0, slots := 0, locals := 43 } D [(cI, .int), (cZ, .boolean)] [.ref (qX 0), .int v1, .int v2, .int v3] (w9 cI cZ qX qS qI qJ qP qV qK qG qL qM oX ++ w8 cI cZ qS oS) (fun u : Ob => w9 cI cZ qX qS qI qJ qP qV qK qG qL qM oX ++ w8 cI cZ qS u) (fun (r : Int32) (u : Ob) => post r u) := by
  refine CTi.of (cc := cX9_borrow) (own := RX9) (maxL := 6) (ret := (some .int)) (lv0 := [(0, .ref (qX 0)), (1, .int v1), (2, .int v2), (3, .int v3)]) (by decide) rfl rfl (Nat.le_of_ble_eq_true rfl) rfl ?_
  intro p e s m args below meth c A C
  unfold wpX9_borrow at h
  refine SW.aload_n C dX9_borrow_0 rfl 0 rfl ?_
  refine SW.iload_n C dX9_borrow_1 rfl 1 rfl ?_
  refine SW.iload_n C dX9_borrow_2 rfl 2 rfl ?_
  refine SW.callVi_same C (ctX9_areTwo l D cI cZ qX qS qI qJ qP qV qT qK qG qL qM oX oS v1 v2 _ h) gX9_borrow_X9_areTwo rfl rfl rfl pdX9_areTwo ⟨by decide, by decide⟩ 0 rfl rfl rfl rfl rfl (Nat.le_of_ble_eq_true rfl) dX9_borrow_3 (by decide) (fun r3 u h => ?_)
  try dsimp only at h
  refine SW.if_ne (tgt := 11) C dX9_borrow_6 (by decide) (fun hc => ?_) (fun hc => ?_)
  · replace h := h.2 hc
    refine SW.iload_n C dX9_borrow_11 rfl 3 rfl ?_
    refine SW.iconst (v := (1 : Int32)) C dX9_borrow_12 (by decide) ?_
    refine SW.bipush (v := (9 : Int32)) C dX9_borrow_13 (by decide) ?_
    refine SW.callSi_pure C (ctX9_isOutside l D cI cZ v3 (1 : Int32) (9 : Int32) _ h) gX9_borrow_X9_isOutside rfl rfl rfl pdX9_isOutside ⟨by decide, by decide⟩ rfl rfl (Nat.le_of_ble_eq_true rfl) dX9_borrow_15 (by decide) (fun r15 u h => ?_)
    try dsimp only at h
    refine SW.if_eq (tgt := 24) C dX9_borrow_18 (by decide) (fun hc => ?_) (fun hc => ?_)
    · replace h := h.1 hc
      refine SW.aload_n C dX9_borrow_24 rfl 0 rfl ?_
      refine SW.get (v := .ref (qS 0)) (T := TX9) (N := 11) C inX9_borrow_X9 0 rfl rfl 0 (by decide) lkX9_borrow_12 rfl dX9_borrow_25 ?_
      refine SW.get (v := .ref (qS 5)) (T := TX8) (N := 13) C inX9_borrow_X8 1 rfl rfl 11 (by decide) lkX9_borrow_229 rfl dX9_borrow_28 ?_
      refine SW.iload_n C dX9_borrow_31 rfl 1 rfl ?_
      refine SW.iald C 6 0 rfl rfl h.1 dX9_borrow_32 ?_
      replace h := h.2
      refine SW.iload_n C dX9_borrow_33 rfl 3 rfl ?_
      refine SW.iadd C dX9_borrow_34 ?_
      refine SW.istore (lv' := [(4, .int ((jld (oS 5) v1) + v3)), (0, .ref (qX 0)), (1, .int v1), (2, .int v2), (3, .int v3)]) C dX9_borrow_35 (by decide) rfl ?_
      refine SW.aload_n C dX9_borrow_37 rfl 1 rfl ?_
      refine SW.get (v := .ref (qS 0)) (T := TX9) (N := 11) C inX9_borrow_X9 0 rfl rfl 0 (by decide) lkX9_borrow_12 rfl dX9_borrow_38 ?_
      refine SW.get (v := .ref (qS 5)) (T := TX8) (N := 13) C inX9_borrow_X8 1 rfl rfl 11 (by decide) lkX9_borrow_229 rfl dX9_borrow_41 ?_
      refine SW.iload_n C dX9_borrow_44 rfl 3 rfl ?_
      refine SW.iald C 6 0 rfl rfl h.1 dX9_borrow_45 ?_
      replace h := h.2
      refine SW.iload_n C dX9_borrow_46 rfl 4 rfl ?_
      refine SW.isub C dX9_borrow_47 ?_
      refine SW.istore (lv' := [(5, .int ((jld (oS 5) v2) - v3)), (4, .int ((jld (oS 5) v1) + v3)), (0, .ref (qX 0)), (1, .int v1), (2, .int v2), (3, .int v3)]) C dX9_borrow_48 (by decide) rfl ?_
      refine SW.iload C dX9_borrow_50 1 rfl ?_
      refine SW.sipush (v := (1000 : Int32)) C dX9_borrow_52 (by decide) ?_
      refine SW.icmp_ge (tgt := 66) C dX9_borrow_55 (by decide) (fun hc => ?_) (fun hc => ?_)
      · replace h := h.1 hc
        refine SW.bipush (v := (-3 : Int32)) C dX9_borrow_66 (by decide) ?_
        exact SW.iret C oS rfl h dX9_borrow_68
      · replace h := h.2 hc
        refine SW.iload C dX9_borrow_58 0 rfl ?_
        refine SW.sipush (v := (-1000 : Int32)) C dX9_borrow_60 (by decide) ?_
        refine SW.icmp_gt (tgt := 69) C dX9_borrow_63 (by decide) (fun hc => ?_) (fun hc => ?_)
        · replace h := h.1 hc
          refine SW.aload_n C dX9_borrow_69 rfl 2 rfl ?_
          refine SW.get (v := .ref (qS 0)) (T := TX9) (N := 11) C inX9_borrow_X9 0 rfl rfl 0 (by decide) lkX9_borrow_12 rfl dX9_borrow_70 ?_
          refine SW.get (v := .ref (qS 5)) (T := TX8) (N := 13) C inX9_borrow_X8 1 rfl rfl 11 (by decide) lkX9_borrow_229 rfl dX9_borrow_73 ?_
          refine SW.iload_n C dX9_borrow_76 rfl 3 rfl ?_
          refine SW.iload C dX9_borrow_77 1 rfl ?_
          refine SW.iast (ws' := w9 cI cZ qX qS qI qJ qP qV qK qG qL qM oX ++ w8 cI cZ qS (pa oS 5 (nC v1) ((jld (oS 5) v1) + v3))) C 6 0 rfl rfl h.1 rfl dX9_borrow_79 ?_
          replace h := h.2
          refine SW.aload_n C dX9_borrow_80 rfl 2 rfl ?_
          refine SW.get (v := .ref (qS 0)) (T := TX9) (N := 11) C inX9_borrow_X9 0 rfl rfl 0 (by decide) lkX9_borrow_12 rfl dX9_borrow_81 ?_
          refine SW.get (v := .ref (qS 5)) (T := TX8) (N := 13) C inX9_borrow_X8 1 rfl rfl 11 (by decide) lkX9_borrow_229 rfl dX9_borrow_84 ?_
          refine SW.iload_n C dX9_borrow_87 rfl 4 rfl ?_
          refine SW.iload C dX9_borrow_88 0 rfl ?_
          refine SW.nameOb (wz := fun z => w9 cI cZ qX qS qI qJ qP qV qK qG qL qM oX ++ w8 cI cZ qS z) (o := (pa oS 5 (nC v1) ((jld (oS 5) v1) + v3))) (fun oS_90n he => ?_)
          replace h := h oS_90n he
          refine SW.iast (ws' := w9 cI cZ qX qS qI qJ qP qV qK qG qL qM oX ++ w8 cI cZ qS (pa oS_90n 5 (nC v2) ((jld (oS 5) v2) - v3))) C 6 0 rfl rfl h.1 rfl dX9_borrow_90 ?_
          replace h := h.2
          refine SW.iload C dX9_borrow_91 1 rfl ?_
          refine SW.sipush (v := (1000 : Int32)) C dX9_borrow_93 (by decide) ?_
          refine SW.iadd C dX9_borrow_96 ?_
          exact SW.iret C (pa oS_90n 5 (nC v2) ((jld (oS 5) v2) - v3)) rfl h dX9_borrow_97
        · replace h := h.2 hc
          refine SW.bipush (v := (-3 : Int32)) C dX9_borrow_66 (by decide) ?_
          exact SW.iret C oS rfl h dX9_borrow_68
    · replace h := h.2 hc
      refine SW.bipush (v := (-2 : Int32)) C dX9_borrow_21 (by decide) ?_
      exact SW.iret C oS rfl h dX9_borrow_23
  · replace h := h.1 hc
    refine SW.iconst (v := (-1 : Int32)) C dX9_borrow_9 (by decide) ?_
    exact SW.iret C oS rfl h dX9_borrow_10
def wpX9_teas (oX : Ob) (oS : Ob) (oL : Ob) (post : Int32 → Ob → Prop) : Prop := wpX4_fewestPayments oS oL (fun (r8 : Int32) (oL_8 : Ob) => post r8 oL_8)
theorem pdX9_teas : yX9_teas.cls = RX9 ∧ yX9_teas.cls ≠ "java/lang/invoke/MethodHandle" ∧ yX9_teas.cls ≠ "java/lang/invoke/VarHandle" ∧ (parseMethodDescriptor yX9_teas.desc).map (fun d => d.parameters.length) = some 0 := by decide +kernel
theorem lkX9_teas_60 : Cond.fieldLink RX9 60 (TX9 9).1 (TX9 9).2.1 (TX9 9).2.2.1 ∈ wsX9_teas := by decide +kernel
theorem inX9_teas_X9 : ∀ w ∈ u_ws RX9 TX9 11, w ∈ wsX9_teas := by decide +kernel
theorem lkX9_teas_12 : Cond.fieldLink RX9 12 (TX9 0).1 (TX9 0).2.1 (TX9 0).2.2.1 ∈ wsX9_teas := by decide +kernel
set_option maxHeartbeats 4000000 in
set_option maxRecDepth 100000 in
theorem ctX9_teas (l : Launch) (D : va_G) (cI cZ : ClassId) (qX : Nat → Nat) (qS : Nat → Nat) (qI : Nat → Nat) (qJ : Nat → Nat) (qP : Nat → Nat) (qV : Nat → Nat) (qT : Nat → Nat) (qK : Nat → Nat) (qG : Nat → Nat) (qL : Nat → Nat) (qM : Nat → Nat) (oX : Ob) (oS : Ob) (oL : Ob) (post : Int32 → Ob → Prop) (h : wpX9_teas oX oS oL post) : CTi l yX9_teas wsX9_teas { frames := 3, cells := 0, slots := 0, locals := 70 } D [(cI, .int), (cZ, .boolean)] [.ref (qX 0)] (w9 cI cZ qX qS qI qJ qP qV qK qG qL qM oX ++ w8 cI cZ qS oS ++ w4 cI cZ qL oL) (fun u : Ob => w9 cI cZ qX qS qI qJ qP qV qK qG qL qM oX ++ w8 cI cZ qS oS ++ w4 cI cZ qL u) (fun (r : Int32) (u : Ob) => post r u) := by
  refine CTi.of (cc := cX9_teas) (own := RX9) (maxL := 1) (ret := (some .int)) (lv0 := [(0, .ref (qX 0))]) (by decide) rfl rfl (Nat.le_of_ble_eq_true rfl) rfl ?_
  intro p e s m args below meth c A C
  unfold wpX9_teas at h
  refine SW.aload_n C dX9_teas_0 rfl 0 rfl ?_
  refine SW.get (v := .ref (qL 0)) (T := TX9) (N := 11) C inX9_teas_X9 0 rfl rfl 9 (by decide) lkX9_teas_60 rfl dX9_teas_1 ?_
  refine SW.aload_n C dX9_teas_4 rfl 0 rfl ?_
  refine SW.get (v := .ref (qS 0)) (T := TX9) (N := 11) C inX9_teas_X9 0 rfl rfl 0 (by decide) lkX9_teas_12 rfl dX9_teas_5 ?_
  refine SW.callVi_sub (wr := w9 cI cZ qX qS qI qJ qP qV qK qG qL qM oX) (wn := fun u : Ob => w9 cI cZ qX qS qI qJ qP qV qK qG qL qM oX ++ w8 cI cZ qS oS ++ w4 cI cZ qL u) C (ctX4_fewestPayments l D cI cZ qS qL oS oL _ h) gX9_teas_X4_fewestPayments rfl rfl rfl pdX4_fewestPayments ⟨by decide, by decide⟩ [1, 2, 3, 4, 5, 6, 7, 8, 9, 10] [0] [0, 1, 2, 3, 4, 5, 6, 7, 8, 9, 10] rfl rfl (by decide) (by decide) (by decide) (by decide) (fun _ => rfl) 7 rfl rfl rfl rfl rfl (Nat.le_of_ble_eq_true rfl) dX9_teas_8 (by decide) (fun r8 u h => ?_)
  obtain ⟨oL_8, rfl⟩ : ∃ z, z = u := ⟨_, rfl⟩
  try dsimp only at h
  exact SW.iret C oL_8 rfl h dX9_teas_11
def wpX9_gainsByOwnFinger (oX : Ob) (oS : Ob) (v1 : Int32) (post : Int32 → Prop) : Prop := wpX8_allows oS ((oS 0 5) ^^^ (jshl (1 : Int32) v1)) (fun (r17 : Int32) => ((r17 = 0) → post (0 : Int32)) ∧ (¬ (r17 = 0) → wpX8_lengthAt oS v1 (oS 0 5) (fun (r37 : Int32) => wpX8_lengthAt oS v1 ((oS 0 5) ^^^ (jshl (1 : Int32) v1)) (fun (r51 : Int32) => wpX8_worth oS r51 (fun (r54 : Int32) => wpX8_worth oS r37 (fun (r62 : Int32) => ((r54 ≤ r62) → post (0 : Int32)) ∧ (¬ (r54 ≤ r62) → post (1 : Int32))))))))
theorem pdX9_gainsByOwnFinger : yX9_gainsByOwnFinger.cls = RX9 ∧ yX9_gainsByOwnFinger.cls ≠ "java/lang/invoke/MethodHandle" ∧ yX9_gainsByOwnFinger.cls ≠ "java/lang/invoke/VarHandle" ∧ (parseMethodDescriptor yX9_gainsByOwnFinger.desc).map (fun d => d.parameters.length) = some 1 := by decide +kernel
theorem lkX9_gainsByOwnFinger_12 : Cond.fieldLink RX9 12 (TX9 0).1 (TX9 0).2.1 (TX9 0).2.2.1 ∈ wsX9_gainsByOwnFinger := by decide +kernel
theorem inX9_gainsByOwnFinger_X9 : ∀ w ∈ u_ws RX9 TX9 11, w ∈ wsX9_gainsByOwnFinger := by decide +kernel
theorem lkX9_gainsByOwnFinger_135 : Cond.fieldLink RX9 135 (TX8 5).1 (TX8 5).2.1 (TX8 5).2.2.1 ∈ wsX9_gainsByOwnFinger := by decide +kernel
theorem inX9_gainsByOwnFinger_X8 : ∀ w ∈ u_ws RX8 TX8 13, w ∈ wsX9_gainsByOwnFinger := by decide +kernel
set_option maxHeartbeats 4000000 in
set_option maxRecDepth 100000 in
theorem ctX9_gainsByOwnFinger (l : Launch) (D : va_G) (cI cZ : ClassId) (qX : Nat → Nat) (qS : Nat → Nat) (qI : Nat → Nat) (qJ : Nat → Nat) (qP : Nat → Nat) (qV : Nat → Nat) (qT : Nat → Nat) (qK : Nat → Nat) (qG : Nat → Nat) (qL : Nat → Nat) (qM : Nat → Nat) (oX : Ob) (oS : Ob) (v1 : Int32) (post : Int32 → Prop) (h : wpX9_gainsByOwnFinger oX oS v1 post) : CTi l yX9_gainsByOwnFinger wsX9_gainsByOwnFinger { frames := 3, cells := 0, slots := 0, locals := 66 } D [(cI, .int), (cZ, .boolean)] [.ref (qX 0), .int v1] (w9 cI cZ qX qS qI qJ qP qV qK qG qL qM oX ++ w8 cI cZ qS oS) (fun _ : Unit => w9 cI cZ qX qS qI qJ qP qV qK qG qL qM oX ++ w8 cI cZ qS oS) (fun (r : Int32) (_ : Unit) => post r) := by
  refine CTi.of (cc := cX9_gainsByOwnFinger) (own := RX9) (maxL := 4) (ret := (some .boolean)) (lv0 := [(0, .ref (qX 0)), (1, .int v1)]) (by decide) rfl rfl (Nat.le_of_ble_eq_true rfl) rfl ?_
  intro p e s m args below meth c A C
  unfold wpX9_gainsByOwnFinger at h
  refine SW.aload_n C dX9_gainsByOwnFinger_0 rfl 0 rfl ?_
  refine SW.get (v := .ref (qS 0)) (T := TX9) (N := 11) C inX9_gainsByOwnFinger_X9 0 rfl rfl 0 (by decide) lkX9_gainsByOwnFinger_12 rfl dX9_gainsByOwnFinger_1 ?_
  refine SW.get (v := .int (oS 0 5)) (T := TX8) (N := 13) C inX9_gainsByOwnFinger_X8 1 rfl rfl 5 (by decide) lkX9_gainsByOwnFinger_135 rfl dX9_gainsByOwnFinger_4 ?_
  refine SW.iconst (v := (1 : Int32)) C dX9_gainsByOwnFinger_7 (by decide) ?_
  refine SW.iload_n C dX9_gainsByOwnFinger_8 rfl 1 rfl ?_
  refine SW.ishl C dX9_gainsByOwnFinger_9 ?_
  refine SW.ixor C dX9_gainsByOwnFinger_10 ?_
  refine SW.istore_n (lv' := [(2, .int ((oS 0 5) ^^^ (jshl (1 : Int32) v1))), (0, .ref (qX 0)), (1, .int v1)]) C dX9_gainsByOwnFinger_11 rfl (by decide) rfl ?_
  refine SW.aload_n C dX9_gainsByOwnFinger_12 rfl 1 rfl ?_
  refine SW.get (v := .ref (qS 0)) (T := TX9) (N := 11) C inX9_gainsByOwnFinger_X9 0 rfl rfl 0 (by decide) lkX9_gainsByOwnFinger_12 rfl dX9_gainsByOwnFinger_13 ?_
  refine SW.iload_n C dX9_gainsByOwnFinger_16 rfl 0 rfl ?_
  refine SW.callVi_sub (wr := w9 cI cZ qX qS qI qJ qP qV qK qG qL qM oX) (wn := fun u : Unit => w9 cI cZ qX qS qI qJ qP qV qK qG qL qM oX ++ w8 cI cZ qS oS) C (ctX8_allows l D cI cZ qS oS ((oS 0 5) ^^^ (jshl (1 : Int32) v1)) _ h) gX9_gainsByOwnFinger_X8_allows rfl rfl rfl pdX8_allows ⟨by decide, by decide⟩ [1, 2, 3, 4, 5, 6, 7] [0] [0, 1, 2, 3, 4, 5, 6, 7] rfl rfl (by decide) (by decide) (by decide) (by decide) (fun _ => rfl) 0 rfl rfl rfl rfl rfl (Nat.le_of_ble_eq_true rfl) dX9_gainsByOwnFinger_17 (by decide) (fun r17 u h => ?_)
  try dsimp only at h
  refine SW.if_ne (tgt := 25) C dX9_gainsByOwnFinger_20 (by decide) (fun hc => ?_) (fun hc => ?_)
  · replace h := h.2 hc
    refine SW.aload_n C dX9_gainsByOwnFinger_25 rfl 1 rfl ?_
    refine SW.get (v := .ref (qS 0)) (T := TX9) (N := 11) C inX9_gainsByOwnFinger_X9 0 rfl rfl 0 (by decide) lkX9_gainsByOwnFinger_12 rfl dX9_gainsByOwnFinger_26 ?_
    refine SW.iload_n C dX9_gainsByOwnFinger_29 rfl 2 rfl ?_
    refine SW.aload_n C dX9_gainsByOwnFinger_30 rfl 1 rfl ?_
    refine SW.get (v := .ref (qS 0)) (T := TX9) (N := 11) C inX9_gainsByOwnFinger_X9 0 rfl rfl 0 (by decide) lkX9_gainsByOwnFinger_12 rfl dX9_gainsByOwnFinger_31 ?_
    refine SW.get (v := .int (oS 0 5)) (T := TX8) (N := 13) C inX9_gainsByOwnFinger_X8 1 rfl rfl 5 (by decide) lkX9_gainsByOwnFinger_135 rfl dX9_gainsByOwnFinger_34 ?_
    refine SW.callVi_sub (wr := w9 cI cZ qX qS qI qJ qP qV qK qG qL qM oX) (wn := fun u : Unit => w9 cI cZ qX qS qI qJ qP qV qK qG qL qM oX ++ w8 cI cZ qS oS) C (ctX8_lengthAt l D cI cZ qS oS v1 (oS 0 5) _ h) gX9_gainsByOwnFinger_X8_lengthAt rfl rfl rfl pdX8_lengthAt ⟨by decide, by decide⟩ [1, 2, 3, 4, 5, 6, 7] [0] [0, 1, 2, 3, 4, 5, 6, 7] rfl rfl (by decide) (by decide) (by decide) (by decide) (fun _ => rfl) 0 rfl rfl rfl rfl rfl (Nat.le_of_ble_eq_true rfl) dX9_gainsByOwnFinger_37 (by decide) (fun r37 u h => ?_)
    try dsimp only at h
    refine SW.istore_n (lv' := [(3, .int r37), (2, .int ((oS 0 5) ^^^ (jshl (1 : Int32) v1))), (0, .ref (qX 0)), (1, .int v1)]) C dX9_gainsByOwnFinger_40 rfl (by decide) rfl ?_
    refine SW.aload_n C dX9_gainsByOwnFinger_41 rfl 2 rfl ?_
    refine SW.get (v := .ref (qS 0)) (T := TX9) (N := 11) C inX9_gainsByOwnFinger_X9 0 rfl rfl 0 (by decide) lkX9_gainsByOwnFinger_12 rfl dX9_gainsByOwnFinger_42 ?_
    refine SW.aload_n C dX9_gainsByOwnFinger_45 rfl 2 rfl ?_
    refine SW.get (v := .ref (qS 0)) (T := TX9) (N := 11) C inX9_gainsByOwnFinger_X9 0 rfl rfl 0 (by decide) lkX9_gainsByOwnFinger_12 rfl dX9_gainsByOwnFinger_46 ?_
    refine SW.iload_n C dX9_gainsByOwnFinger_49 rfl 3 rfl ?_
    refine SW.iload_n C dX9_gainsByOwnFinger_50 rfl 1 rfl ?_
    refine SW.callVi_sub (wr := w9 cI cZ qX qS qI qJ qP qV qK qG qL qM oX) (wn := fun u : Unit => w9 cI cZ qX qS qI qJ qP qV qK qG qL qM oX ++ w8 cI cZ qS oS) C (ctX8_lengthAt l D cI cZ qS oS v1 ((oS 0 5) ^^^ (jshl (1 : Int32) v1)) _ h) gX9_gainsByOwnFinger_X8_lengthAt rfl rfl rfl pdX8_lengthAt ⟨by decide, by decide⟩ [1, 2, 3, 4, 5, 6, 7] [0] [0, 1, 2, 3, 4, 5, 6, 7] rfl rfl (by decide) (by decide) (by decide) (by decide) (fun _ => rfl) 0 rfl rfl rfl rfl rfl (Nat.le_of_ble_eq_true rfl) dX9_gainsByOwnFinger_51 (by decide) (fun r51 u h => ?_)
    try dsimp only at h
    refine SW.callVi_sub (wr := w9 cI cZ qX qS qI qJ qP qV qK qG qL qM oX) (wn := fun u : Unit => w9 cI cZ qX qS qI qJ qP qV qK qG qL qM oX ++ w8 cI cZ qS oS) C (ctX8_worth l D cI cZ qS oS r51 _ h) gX9_gainsByOwnFinger_X8_worth rfl rfl rfl pdX8_worth ⟨by decide, by decide⟩ [1, 2, 3, 4, 5, 6, 7] [0] [0, 1, 2, 3, 4, 5, 6, 7] rfl rfl (by decide) (by decide) (by decide) (by decide) (fun _ => rfl) 0 rfl rfl rfl rfl rfl (Nat.le_of_ble_eq_true rfl) dX9_gainsByOwnFinger_54 (by decide) (fun r54 u h => ?_)
    try dsimp only at h
    refine SW.aload_n C dX9_gainsByOwnFinger_57 rfl 2 rfl ?_
    refine SW.get (v := .ref (qS 0)) (T := TX9) (N := 11) C inX9_gainsByOwnFinger_X9 0 rfl rfl 0 (by decide) lkX9_gainsByOwnFinger_12 rfl dX9_gainsByOwnFinger_58 ?_
    refine SW.iload_n C dX9_gainsByOwnFinger_61 rfl 0 rfl ?_
    refine SW.callVi_sub (wr := w9 cI cZ qX qS qI qJ qP qV qK qG qL qM oX) (wn := fun u : Unit => w9 cI cZ qX qS qI qJ qP qV qK qG qL qM oX ++ w8 cI cZ qS oS) C (ctX8_worth l D cI cZ qS oS r37 _ h) gX9_gainsByOwnFinger_X8_worth rfl rfl rfl pdX8_worth ⟨by decide, by decide⟩ [1, 2, 3, 4, 5, 6, 7] [0] [0, 1, 2, 3, 4, 5, 6, 7] rfl rfl (by decide) (by decide) (by decide) (by decide) (fun _ => rfl) 0 rfl rfl rfl rfl rfl (Nat.le_of_ble_eq_true rfl) dX9_gainsByOwnFinger_62 (by decide) (fun r62 u h => ?_)
    try dsimp only at h
    refine SW.icmp_le (tgt := 72) C dX9_gainsByOwnFinger_65 (by decide) (fun hc => ?_) (fun hc => ?_)
    · replace h := h.1 hc
      refine SW.iconst (v := (0 : Int32)) C dX9_gainsByOwnFinger_72 (by decide) ?_
      exact SW.zret C () (by decide) rfl h dX9_gainsByOwnFinger_73
    · replace h := h.2 hc
      refine SW.iconst (v := (1 : Int32)) C dX9_gainsByOwnFinger_68 (by decide) ?_
      refine SW.goto (tgt := 73) C dX9_gainsByOwnFinger_69 (by decide) ?_
      exact SW.zret C () (by decide) rfl h dX9_gainsByOwnFinger_73
  · replace h := h.1 hc
    refine SW.iconst (v := (0 : Int32)) C dX9_gainsByOwnFinger_23 (by decide) ?_
    exact SW.zret C () (by decide) rfl h dX9_gainsByOwnFinger_24
def wpX9_feet_L4 (oXc_4 : Ob) (oSc_4 : Ob) (K35 : Int32 → Prop) : Nat → Int32 → Int32 → Prop
  | 0, _, _ => False
  | fu4 + 1, v1_4, v2_4 => (((oSc_4 0 0) ≤ v2_4) → K35 v1_4) ∧ (¬ ((oSc_4 0 0) ≤ v2_4) → wpX9_gainsByOwnFinger oXc_4 oSc_4 v2_4 (fun (r17 : Int32) => jn1 (fun (v1_29 : Int32) => wpX9_feet_L4 oXc_4 oSc_4 K35 fu4 v1_29 (v2_4 + (1 : Int32))) (fun J29 => ((r17 = 0) → J29 v1_4) ∧ (¬ (r17 = 0) → J29 (v1_4 ||| (jshl (1 : Int32) v2_4))))))
def wpX9_feet (oX : Ob) (oS : Ob) (post : Int32 → Prop) : Prop := ∃ fu4 : Nat, wpX9_feet_L4 oX oS (fun (v1_35 : Int32) => post v1_35) fu4 (0 : Int32) (0 : Int32)
theorem pdX9_feet : yX9_feet.cls = RX9 ∧ yX9_feet.cls ≠ "java/lang/invoke/MethodHandle" ∧ yX9_feet.cls ≠ "java/lang/invoke/VarHandle" ∧ (parseMethodDescriptor yX9_feet.desc).map (fun d => d.parameters.length) = some 0 := by decide +kernel
theorem lkX9_feet_12 : Cond.fieldLink RX9 12 (TX9 0).1 (TX9 0).2.1 (TX9 0).2.2.1 ∈ wsX9_feet := by decide +kernel
theorem inX9_feet_X9 : ∀ w ∈ u_ws RX9 TX9 11, w ∈ wsX9_feet := by decide +kernel
theorem lkX9_feet_75 : Cond.fieldLink RX9 75 (TX8 0).1 (TX8 0).2.1 (TX8 0).2.2.1 ∈ wsX9_feet := by decide +kernel
theorem inX9_feet_X8 : ∀ w ∈ u_ws RX8 TX8 13, w ∈ wsX9_feet := by decide +kernel
set_option maxHeartbeats 4000000 in
set_option maxRecDepth 100000 in
theorem ctX9_feet (l : Launch) (D : va_G) (cI cZ : ClassId) (qX : Nat → Nat) (qS : Nat → Nat) (qI : Nat → Nat) (qJ : Nat → Nat) (qP : Nat → Nat) (qV : Nat → Nat) (qT : Nat → Nat) (qK : Nat → Nat) (qG : Nat → Nat) (qL : Nat → Nat) (qM : Nat → Nat) (oX : Ob) (oS : Ob) (post : Int32 → Prop) (h : wpX9_feet oX oS post) : CTi l yX9_feet wsX9_feet { frames := 4, cells := 0, slots := 0, locals := 89 } D [(cI, .int), (cZ, .boolean)] [.ref (qX 0)] (w9 cI cZ qX qS qI qJ qP qV qK qG qL qM oX ++ w8 cI cZ qS oS) (fun _ : Unit => w9 cI cZ qX qS qI qJ qP qV qK qG qL qM oX ++ w8 cI cZ qS oS) (fun (r : Int32) (_ : Unit) => post r) := by
  refine CTi.of (cc := cX9_feet) (own := RX9) (maxL := 3) (ret := (some .int)) (lv0 := [(0, .ref (qX 0))]) (by decide) rfl rfl (Nat.le_of_ble_eq_true rfl) rfl ?_
  intro p e s m args below meth c A C
  unfold wpX9_feet at h
  refine SW.iconst (v := (0 : Int32)) C dX9_feet_0 (by decide) ?_
  refine SW.istore_n (lv' := [(1, .int (0 : Int32)), (0, .ref (qX 0))]) C dX9_feet_1 rfl (by decide) rfl ?_
  refine SW.iconst (v := (0 : Int32)) C dX9_feet_2 (by decide) ?_
  refine SW.istore_n (lv' := [(2, .int (0 : Int32)), (1, .int (0 : Int32)), (0, .ref (qX 0))]) C dX9_feet_3 rfl (by decide) rfl ?_
  have L4 : ∀ (K35 : Int32 → Prop) (hK35 : ∀ (v1_35 : Int32), K35 v1_35 → SW p l e { frames := 4, cells := 0, slots := 0, locals := 89 } s m args below meth c A D 3 0 0 (MQ below (va_Qi (fun (r : Int32) (_ : Unit) => post r) (ctB D A (fun _ : Unit => w9 cI cZ qX qS qI qJ qP qV qK qG qL qM oX ++ w8 cI cZ qS oS)) A) args s 0 0 A) (w9 cI cZ qX qS qI qJ qP qV qK qG qL qM oX ++ w8 cI cZ qS oS) 35 [(1, .int v1_35)] []) (fu : Nat) (v1_4 : Int32) (v2_4 : Int32), wpX9_feet_L4 oX oS K35 fu v1_4 v2_4 → SW p l e { frames := 4, cells := 0, slots := 0, locals := 89 } s m args below meth c A D 3 0 0 (MQ below (va_Qi (fun (r : Int32) (_ : Unit) => post r) (ctB D A (fun _ : Unit => w9 cI cZ qX qS qI qJ qP qV qK qG qL qM oX ++ w8 cI cZ qS oS)) A) args s 0 0 A) (w9 cI cZ qX qS qI qJ qP qV qK qG qL qM oX ++ w8 cI cZ qS oS) 4 [(0, .ref (qX 0)), (1, .int v1_4), (2, .int v2_4)] [] := by
    intro K35 hK35 fu
    induction fu with
    | zero =>
      intro v1_4 v2_4 h
      exact False.elim h
    | succ fu ih =>
      intro v1_4 v2_4 h
      unfold wpX9_feet_L4 at h
      refine SW.iload_n C dX9_feet_4 rfl 2 rfl ?_
      refine SW.aload_n C dX9_feet_5 rfl 0 rfl ?_
      refine SW.get (v := .ref (qS 0)) (T := TX9) (N := 11) C inX9_feet_X9 0 rfl rfl 0 (by decide) lkX9_feet_12 rfl dX9_feet_6 ?_
      refine SW.get (v := .int (oS 0 0)) (T := TX8) (N := 13) C inX9_feet_X8 1 rfl rfl 0 (by decide) lkX9_feet_75 rfl dX9_feet_9 ?_
      refine SW.icmp_ge (tgt := 35) C dX9_feet_12 (by decide) (fun hc => ?_) (fun hc => ?_)
      · replace h := h.1 hc
        refine SW.sub [1] rfl ?_
        exact hK35 _ h
      · replace h := h.2 hc
        refine SW.aload_n C dX9_feet_15 rfl 0 rfl ?_
        refine SW.iload_n C dX9_feet_16 rfl 2 rfl ?_
        refine SW.callVi_same C (ctX9_gainsByOwnFinger l D cI cZ qX qS qI qJ qP qV qT qK qG qL qM oX oS v2_4 _ h) gX9_feet_X9_gainsByOwnFinger rfl rfl rfl pdX9_gainsByOwnFinger ⟨by decide, by decide⟩ 0 rfl rfl rfl rfl rfl (Nat.le_of_ble_eq_true rfl) dX9_feet_17 (by decide) (fun r17 u h => ?_)
        try dsimp only at h
        refine jn1_elim (G := fun v1_29 => SW p l e { frames := 4, cells := 0, slots := 0, locals := 89 } s m args below meth c A D 3 0 0 (MQ below (va_Qi (fun (r : Int32) (_ : Unit) => post r) (ctB D A (fun _ : Unit => w9 cI cZ qX qS qI qJ qP qV qK qG qL qM oX ++ w8 cI cZ qS oS)) A) args s 0 0 A) (w9 cI cZ qX qS qI qJ qP qV qK qG qL qM oX ++ w8 cI cZ qS oS) 29 [(0, .ref (qX 0)), (1, .int v1_29), (2, .int v2_4)] []) h (fun v1_29 h => ?_) (fun J29 hJ29 h => ?_)
        · refine SW.iinc (q := 2) (v := (v2_4 + (1 : Int32))) (lv' := [(2, .int (v2_4 + (1 : Int32))), (0, .ref (qX 0)), (1, .int v1_29)]) C dX9_feet_29 rfl rfl (by decide) rfl ?_
          refine SW.goto (tgt := 4) C dX9_feet_32 (by decide) ?_
          refine SW.sub [1, 2, 0] rfl ?_
          exact ih _ _ h
        · refine SW.if_eq (tgt := 29) C dX9_feet_20 (by decide) (fun hc => ?_) (fun hc => ?_)
          · replace h := h.1 hc
            exact hJ29 _ h
          · replace h := h.2 hc
            refine SW.iload_n C dX9_feet_23 rfl 1 rfl ?_
            refine SW.iconst (v := (1 : Int32)) C dX9_feet_24 (by decide) ?_
            refine SW.iload_n C dX9_feet_25 rfl 2 rfl ?_
            refine SW.ishl C dX9_feet_26 ?_
            refine SW.ior C dX9_feet_27 ?_
            refine SW.istore_n (lv' := [(1, .int (v1_4 ||| (jshl (1 : Int32) v2_4))), (0, .ref (qX 0)), (2, .int v2_4)]) C dX9_feet_28 rfl (by decide) rfl ?_
            refine SW.sub [1, 0, 2] rfl ?_
            exact hJ29 _ h
  obtain ⟨fu, h⟩ := h
  refine SW.sub [2, 1, 0] rfl ?_
  refine L4 _ (fun v1_35 h => ?_) fu _ _ h
  · refine SW.iload_n C dX9_feet_35 rfl 0 rfl ?_
    exact SW.iret C () rfl h dX9_feet_36
def wpX9_hooks (oX : Ob) (v1 : Int32) (v2 : Int32) (v3 : Int32) (post : Int32 → Prop) : Prop := wpX9_isOutside v1 (2 : Int32) (16 : Int32) (fun (r4 : Int32) => ((r4 = 0) → wpX9_isOutside v3 (0 : Int32) (1 : Int32) (fun (r13 : Int32) => ((r13 = 0) → (((v2 &&& (-131071 : Int32)) = 0) → wpX6_fewestHooks v1 v2 (fun (r34 : Int32) => wpX9_sizeOrSet r34 v3 (fun (r38 : Int32) => post r38))) ∧ (¬ ((v2 &&& (-131071 : Int32)) = 0) → post (-2 : Int32))) ∧ (¬ (r13 = 0) → post (-2 : Int32)))) ∧ (¬ (r4 = 0) → post (-2 : Int32)))
theorem pdX9_hooks : yX9_hooks.cls = RX9 ∧ yX9_hooks.cls ≠ "java/lang/invoke/MethodHandle" ∧ yX9_hooks.cls ≠ "java/lang/invoke/VarHandle" ∧ (parseMethodDescriptor yX9_hooks.desc).map (fun d => d.parameters.length) = some 3 := by decide +kernel
set_option maxHeartbeats 4000000 in
set_option maxRecDepth 100000 in
theorem ctX9_hooks (l : Launch) (D : va_G) (cI cZ : ClassId) (qX : Nat → Nat) (qS : Nat → Nat) (qI : Nat → Nat) (qJ : Nat → Nat) (qP : Nat → Nat) (qV : Nat → Nat) (qT : Nat → Nat) (qK : Nat → Nat) (qG : Nat → Nat) (qL : Nat → Nat) (qM : Nat → Nat) (oX : Ob) (v1 : Int32) (v2 : Int32) (v3 : Int32) (post : Int32 → Prop) (h : wpX9_hooks oX v1 v2 v3 post) : CTi l yX9_hooks wsX9_hooks { frames := 3, cells := 0, slots := 0, locals := 72 } D [(cI, .int), (cZ, .boolean)] [.ref (qX 0), .int v1, .int v2, .int v3] (w9 cI cZ qX qS qI qJ qP qV qK qG qL qM oX) (fun _ : Unit => w9 cI cZ qX qS qI qJ qP qV qK qG qL qM oX) (fun (r : Int32) (_ : Unit) => post r) := by
  refine CTi.of (cc := cX9_hooks) (own := RX9) (maxL := 4) (ret := (some .int)) (lv0 := [(0, .ref (qX 0)), (1, .int v1), (2, .int v2), (3, .int v3)]) (by decide) rfl rfl (Nat.le_of_ble_eq_true rfl) rfl ?_
  intro p e s m args below meth c A C
  unfold wpX9_hooks at h
  refine SW.iload_n C dX9_hooks_0 rfl 1 rfl ?_
  refine SW.iconst (v := (2 : Int32)) C dX9_hooks_1 (by decide) ?_
  refine SW.bipush (v := (16 : Int32)) C dX9_hooks_2 (by decide) ?_
  refine SW.callSi_pure C (ctX9_isOutside l D cI cZ v1 (2 : Int32) (16 : Int32) _ h) gX9_hooks_X9_isOutside rfl rfl rfl pdX9_isOutside ⟨by decide, by decide⟩ rfl rfl (Nat.le_of_ble_eq_true rfl) dX9_hooks_4 (by decide) (fun r4 u h => ?_)
  try dsimp only at h
  refine SW.if_ne (tgt := 19) C dX9_hooks_7 (by decide) (fun hc => ?_) (fun hc => ?_)
  · replace h := h.2 hc
    refine SW.bipush (v := (-2 : Int32)) C dX9_hooks_19 (by decide) ?_
    exact SW.iret C () rfl h dX9_hooks_21
  · replace h := h.1 hc
    refine SW.iload_n C dX9_hooks_10 rfl 3 rfl ?_
    refine SW.iconst (v := (0 : Int32)) C dX9_hooks_11 (by decide) ?_
    refine SW.iconst (v := (1 : Int32)) C dX9_hooks_12 (by decide) ?_
    refine SW.callSi_pure C (ctX9_isOutside l D cI cZ v3 (0 : Int32) (1 : Int32) _ h) gX9_hooks_X9_isOutside rfl rfl rfl pdX9_isOutside ⟨by decide, by decide⟩ rfl rfl (Nat.le_of_ble_eq_true rfl) dX9_hooks_13 (by decide) (fun r13 u h => ?_)
    try dsimp only at h
    refine SW.if_eq (tgt := 22) C dX9_hooks_16 (by decide) (fun hc => ?_) (fun hc => ?_)
    · replace h := h.1 hc
      refine SW.iload_n C dX9_hooks_22 rfl 2 rfl ?_
      refine SW.ldc (v := (-131071 : Int32)) C (by decide +kernel) dX9_hooks_23 ?_
      refine SW.iand C dX9_hooks_25 ?_
      refine SW.if_eq (tgt := 32) C dX9_hooks_26 (by decide) (fun hc => ?_) (fun hc => ?_)
      · replace h := h.1 hc
        refine SW.iload_n C dX9_hooks_32 rfl 1 rfl ?_
        refine SW.iload_n C dX9_hooks_33 rfl 2 rfl ?_
        refine SW.callSi_pure C (ctX6_fewestHooks l D cI cZ v1 v2 _ h) gX9_hooks_X6_fewestHooks rfl rfl rfl pdX6_fewestHooks ⟨by decide, by decide⟩ rfl rfl (Nat.le_of_ble_eq_true rfl) dX9_hooks_34 (by decide) (fun r34 u h => ?_)
        try dsimp only at h
        refine SW.iload_n C dX9_hooks_37 rfl 3 rfl ?_
        refine SW.callSi_pure C (ctX9_sizeOrSet l D cI cZ r34 v3 _ h) gX9_hooks_X9_sizeOrSet rfl rfl rfl pdX9_sizeOrSet ⟨by decide, by decide⟩ rfl rfl (Nat.le_of_ble_eq_true rfl) dX9_hooks_38 (by decide) (fun r38 u h => ?_)
        try dsimp only at h
        exact SW.iret C () rfl h dX9_hooks_41
      · replace h := h.2 hc
        refine SW.bipush (v := (-2 : Int32)) C dX9_hooks_29 (by decide) ?_
        exact SW.iret C () rfl h dX9_hooks_31
    · replace h := h.2 hc
      refine SW.bipush (v := (-2 : Int32)) C dX9_hooks_19 (by decide) ?_
      exact SW.iret C () rfl h dX9_hooks_21
def wpX9_turns (oX : Ob) (oS : Ob) (oM : Ob) (v1 : Int32) (post : Int32 → Ob → Ob → Prop) : Prop := wpX9_isOutside v1 (0 : Int32) (1 : Int32) (fun (r3 : Int32) => ((r3 = 0) → wpX2_winningWindow oS oM (fun (r20 : Int32) (oS_20 : Ob) (oM_20 : Ob) => ((v1 = (1 : Int32)) → post r20 oS_20 oM_20) ∧ (¬ (v1 = (1 : Int32)) → ((r20 = (-6 : Int32)) → post (1 : Int32) oS_20 oM_20) ∧ (¬ (r20 = (-6 : Int32)) → post (0 : Int32) oS_20 oM_20)))) ∧ (¬ (r3 = 0) → post (-2 : Int32) oS oM))
theorem pdX9_turns : yX9_turns.cls = RX9 ∧ yX9_turns.cls ≠ "java/lang/invoke/MethodHandle" ∧ yX9_turns.cls ≠ "java/lang/invoke/VarHandle" ∧ (parseMethodDescriptor yX9_turns.desc).map (fun d => d.parameters.length) = some 1 := by decide +kernel
theorem lkX9_turns_67 : Cond.fieldLink RX9 67 (TX9 10).1 (TX9 10).2.1 (TX9 10).2.2.1 ∈ wsX9_turns := by decide +kernel
theorem inX9_turns_X9 : ∀ w ∈ u_ws RX9 TX9 11, w ∈ wsX9_turns := by decide +kernel
theorem lkX9_turns_12 : Cond.fieldLink RX9 12 (TX9 0).1 (TX9 0).2.1 (TX9 0).2.2.1 ∈ wsX9_turns := by decide +kernel
set_option maxHeartbeats 4000000 in
set_option maxRecDepth 100000 in
theorem ctX9_turns (l : Launch) (D : va_G) (cI cZ : ClassId) (qX : Nat → Nat) (qS : Nat → Nat) (qI : Nat → Nat) (qJ : Nat → Nat) (qP : Nat → Nat) (qV : Nat → Nat) (qT : Nat → Nat) (qK : Nat → Nat) (qG : Nat → Nat) (qL : Nat → Nat) (qM : Nat → Nat) (oX : Ob) (oS : Ob) (oM : Ob) (v1 : Int32) (post : Int32 → Ob → Ob → Prop) (h : wpX9_turns oX oS oM v1 post) : CTi l yX9_turns wsX9_turns { frames := 5, cells := 0, slots := 0, locals := 127 } D [(cI, .int), (cZ, .boolean)] [.ref (qX 0), .int v1] (w9 cI cZ qX qS qI qJ qP qV qK qG qL qM oX ++ w8 cI cZ qS oS ++ w2 cI cZ qM oM) (fun u : Ob × Ob => w9 cI cZ qX qS qI qJ qP qV qK qG qL qM oX ++ w8 cI cZ qS u.1 ++ w2 cI cZ qM u.2) (fun (r : Int32) (u : Ob × Ob) => post r u.1 u.2) := by
  refine CTi.of (cc := cX9_turns) (own := RX9) (maxL := 3) (ret := (some .int)) (lv0 := [(0, .ref (qX 0)), (1, .int v1)]) (by decide) rfl rfl (Nat.le_of_ble_eq_true rfl) rfl ?_
  intro p e s m args below meth c A C
  unfold wpX9_turns at h
  refine SW.iload_n C dX9_turns_0 rfl 1 rfl ?_
  refine SW.iconst (v := (0 : Int32)) C dX9_turns_1 (by decide) ?_
  refine SW.iconst (v := (1 : Int32)) C dX9_turns_2 (by decide) ?_
  refine SW.callSi_pure C (ctX9_isOutside l D cI cZ v1 (0 : Int32) (1 : Int32) _ h) gX9_turns_X9_isOutside rfl rfl rfl pdX9_isOutside ⟨by decide, by decide⟩ rfl rfl (Nat.le_of_ble_eq_true rfl) dX9_turns_3 (by decide) (fun r3 u h => ?_)
  try dsimp only at h
  refine SW.if_eq (tgt := 12) C dX9_turns_6 (by decide) (fun hc => ?_) (fun hc => ?_)
  · replace h := h.1 hc
    refine SW.aload_n C dX9_turns_12 rfl 0 rfl ?_
    refine SW.get (v := .ref (qM 0)) (T := TX9) (N := 11) C inX9_turns_X9 0 rfl rfl 10 (by decide) lkX9_turns_67 rfl dX9_turns_13 ?_
    refine SW.aload_n C dX9_turns_16 rfl 0 rfl ?_
    refine SW.get (v := .ref (qS 0)) (T := TX9) (N := 11) C inX9_turns_X9 0 rfl rfl 0 (by decide) lkX9_turns_12 rfl dX9_turns_17 ?_
    refine SW.callVi_sub (wr := w9 cI cZ qX qS qI qJ qP qV qK qG qL qM oX) (wn := fun u : Ob × Ob => w9 cI cZ qX qS qI qJ qP qV qK qG qL qM oX ++ w8 cI cZ qS u.1 ++ w2 cI cZ qM u.2) C (ctX2_winningWindow l D cI cZ qS qM oS oM _ h) gX9_turns_X2_winningWindow rfl rfl rfl pdX2_winningWindow ⟨by decide, by decide⟩ [1, 2, 3, 4, 5, 6, 7, 8, 9] [0] [0, 1, 2, 3, 4, 5, 6, 7, 8, 9] rfl rfl (by decide) (by decide) (by decide) (by decide) (fun _ => rfl) 7 rfl rfl rfl rfl rfl (Nat.le_of_ble_eq_true rfl) dX9_turns_20 (by decide) (fun r20 u h => ?_)
    obtain ⟨oS_20, oM_20⟩ := u
    try dsimp only at h
    refine SW.istore_n (lv' := [(2, .int r20), (0, .ref (qX 0)), (1, .int v1)]) C dX9_turns_23 rfl (by decide) rfl ?_
    refine SW.iload_n C dX9_turns_24 rfl 2 rfl ?_
    refine SW.iconst (v := (1 : Int32)) C dX9_turns_25 (by decide) ?_
    refine SW.icmp_ne (tgt := 31) C dX9_turns_26 (by decide) (fun hc => ?_) (fun hc => ?_)
    · replace h := h.2 hc
      refine SW.iload_n C dX9_turns_31 rfl 0 rfl ?_
      refine SW.bipush (v := (-6 : Int32)) C dX9_turns_32 (by decide) ?_
      refine SW.icmp_ne (tgt := 41) C dX9_turns_34 (by decide) (fun hc => ?_) (fun hc => ?_)
      · replace h := h.2 hc
        refine SW.iconst (v := (0 : Int32)) C dX9_turns_41 (by decide) ?_
        exact SW.iret C (oS_20, oM_20) rfl h dX9_turns_42
      · replace h := h.1 hc
        refine SW.iconst (v := (1 : Int32)) C dX9_turns_37 (by decide) ?_
        refine SW.goto (tgt := 42) C dX9_turns_38 (by decide) ?_
        exact SW.iret C (oS_20, oM_20) rfl h dX9_turns_42
    · replace h := h.1 hc
      refine SW.iload_n C dX9_turns_29 rfl 0 rfl ?_
      exact SW.iret C (oS_20, oM_20) rfl h dX9_turns_30
  · replace h := h.2 hc
    refine SW.bipush (v := (-2 : Int32)) C dX9_turns_9 (by decide) ?_
    exact SW.iret C (oS, oM) rfl h dX9_turns_11
def wpX9_slips (oX : Ob) (oS : Ob) (v1 : Int32) (v2 : Int32) (v3 : Int32) (v4 : Int32) (post : Int64 → Prop) : Prop := wpX8_has oS v1 (fun (r5 : Int32) => ((r5 = 0) → post (-1000000000000000001 : Int64)) ∧ (¬ (r5 = 0) → wpX9_isOutside v2 (1 : Int32) (200 : Int32) (fun (r20 : Int32) => ((r20 = 0) → wpX9_isOutside v3 (0 : Int32) (10 : Int32) (fun (r30 : Int32) => ((r30 = 0) → wpX9_isOutside v4 (0 : Int32) (1 : Int32) (fun (r40 : Int32) => ((r40 = 0) → wpX0_toHear oS v1 v2 v3 (fun (r57 : Int64) => wpX0_ofAll oS (fun (r64 : Int64) => wpX9_lowestTerms r57 r64 v4 (fun (r69 : Int64) => post r69)))) ∧ (¬ (r40 = 0) → post (-1000000000000000002 : Int64)))) ∧ (¬ (r30 = 0) → post (-1000000000000000002 : Int64)))) ∧ (¬ (r20 = 0) → post (-1000000000000000002 : Int64)))))
theorem pdX9_slips : yX9_slips.cls = RX9 ∧ yX9_slips.cls ≠ "java/lang/invoke/MethodHandle" ∧ yX9_slips.cls ≠ "java/lang/invoke/VarHandle" ∧ (parseMethodDescriptor yX9_slips.desc).map (fun d => d.parameters.length) = some 4 := by decide +kernel
theorem lkX9_slips_12 : Cond.fieldLink RX9 12 (TX9 0).1 (TX9 0).2.1 (TX9 0).2.2.1 ∈ wsX9_slips := by decide +kernel
theorem inX9_slips_X9 : ∀ w ∈ u_ws RX9 TX9 11, w ∈ wsX9_slips := by decide +kernel
set_option maxHeartbeats 4000000 in
set_option maxRecDepth 100000 in
theorem ctX9_slips (l : Launch) (D : va_G) (cI cZ : ClassId) (qX : Nat → Nat) (qS : Nat → Nat) (qI : Nat → Nat) (qJ : Nat → Nat) (qP : Nat → Nat) (qV : Nat → Nat) (qT : Nat → Nat) (qK : Nat → Nat) (qG : Nat → Nat) (qL : Nat → Nat) (qM : Nat → Nat) (oX : Ob) (oS : Ob) (v1 : Int32) (v2 : Int32) (v3 : Int32) (v4 : Int32) (post : Int64 → Prop) (h : wpX9_slips oX oS v1 v2 v3 v4 post) : CTl l yX9_slips wsX9_slips { frames := 4, cells := 0, slots := 0, locals := 92 } D [(cI, .int), (cZ, .boolean)] [.ref (qX 0), .int v1, .int v2, .int v3, .int v4] (w9 cI cZ qX qS qI qJ qP qV qK qG qL qM oX ++ w8 cI cZ qS oS) (fun _ : Unit => w9 cI cZ qX qS qI qJ qP qV qK qG qL qM oX ++ w8 cI cZ qS oS) (fun (r : Int64) (_ : Unit) => post r) := by
  refine CTl.of (cc := cX9_slips) (own := RX9) (maxL := 5) (ret := (some .long)) (lv0 := [(0, .ref (qX 0)), (1, .int v1), (2, .int v2), (3, .int v3), (4, .int v4)]) (by decide) rfl rfl (Nat.le_of_ble_eq_true rfl) rfl ?_
  intro p e s m args below meth c A C
  unfold wpX9_slips at h
  refine SW.aload_n C dX9_slips_0 rfl 0 rfl ?_
  refine SW.get (v := .ref (qS 0)) (T := TX9) (N := 11) C inX9_slips_X9 0 rfl rfl 0 (by decide) lkX9_slips_12 rfl dX9_slips_1 ?_
  refine SW.iload_n C dX9_slips_4 rfl 1 rfl ?_
  refine SW.callVi_sub (wr := w9 cI cZ qX qS qI qJ qP qV qK qG qL qM oX) (wn := fun u : Unit => w9 cI cZ qX qS qI qJ qP qV qK qG qL qM oX ++ w8 cI cZ qS oS) C (ctX8_has l D cI cZ qS oS v1 _ h) gX9_slips_X8_has rfl rfl rfl pdX8_has ⟨by decide, by decide⟩ [1, 2, 3, 4, 5, 6, 7] [0] [0, 1, 2, 3, 4, 5, 6, 7] rfl rfl (by decide) (by decide) (by decide) (by decide) (fun _ => rfl) 0 rfl rfl rfl rfl rfl (Nat.le_of_ble_eq_true rfl) dX9_slips_5 (by decide) (fun r5 u h => ?_)
  try dsimp only at h
  refine SW.if_ne (tgt := 15) C dX9_slips_8 (by decide) (fun hc => ?_) (fun hc => ?_)
  · replace h := h.2 hc
    refine SW.iload_n C dX9_slips_15 rfl 2 rfl ?_
    refine SW.iconst (v := (1 : Int32)) C dX9_slips_16 (by decide) ?_
    refine SW.sipush (v := (200 : Int32)) C dX9_slips_17 (by decide) ?_
    refine SW.callSi_pure C (ctX9_isOutside l D cI cZ v2 (1 : Int32) (200 : Int32) _ h) gX9_slips_X9_isOutside rfl rfl rfl pdX9_isOutside ⟨by decide, by decide⟩ rfl rfl (Nat.le_of_ble_eq_true rfl) dX9_slips_20 (by decide) (fun r20 u h => ?_)
    try dsimp only at h
    refine SW.if_ne (tgt := 46) C dX9_slips_23 (by decide) (fun hc => ?_) (fun hc => ?_)
    · replace h := h.2 hc
      refine SW.ldc2 (v := (-1000000000000000002 : Int64)) C (by decide +kernel) dX9_slips_46 ?_
      exact SW.lret C () rfl h dX9_slips_49
    · replace h := h.1 hc
      refine SW.iload_n C dX9_slips_26 rfl 3 rfl ?_
      refine SW.iconst (v := (0 : Int32)) C dX9_slips_27 (by decide) ?_
      refine SW.bipush (v := (10 : Int32)) C dX9_slips_28 (by decide) ?_
      refine SW.callSi_pure C (ctX9_isOutside l D cI cZ v3 (0 : Int32) (10 : Int32) _ h) gX9_slips_X9_isOutside rfl rfl rfl pdX9_isOutside ⟨by decide, by decide⟩ rfl rfl (Nat.le_of_ble_eq_true rfl) dX9_slips_30 (by decide) (fun r30 u h => ?_)
      try dsimp only at h
      refine SW.if_ne (tgt := 46) C dX9_slips_33 (by decide) (fun hc => ?_) (fun hc => ?_)
      · replace h := h.2 hc
        refine SW.ldc2 (v := (-1000000000000000002 : Int64)) C (by decide +kernel) dX9_slips_46 ?_
        exact SW.lret C () rfl h dX9_slips_49
      · replace h := h.1 hc
        refine SW.iload C dX9_slips_36 4 rfl ?_
        refine SW.iconst (v := (0 : Int32)) C dX9_slips_38 (by decide) ?_
        refine SW.iconst (v := (1 : Int32)) C dX9_slips_39 (by decide) ?_
        refine SW.callSi_pure C (ctX9_isOutside l D cI cZ v4 (0 : Int32) (1 : Int32) _ h) gX9_slips_X9_isOutside rfl rfl rfl pdX9_isOutside ⟨by decide, by decide⟩ rfl rfl (Nat.le_of_ble_eq_true rfl) dX9_slips_40 (by decide) (fun r40 u h => ?_)
        try dsimp only at h
        refine SW.if_eq (tgt := 50) C dX9_slips_43 (by decide) (fun hc => ?_) (fun hc => ?_)
        · replace h := h.1 hc
          refine SW.aload_n C dX9_slips_50 rfl 0 rfl ?_
          refine SW.get (v := .ref (qS 0)) (T := TX9) (N := 11) C inX9_slips_X9 0 rfl rfl 0 (by decide) lkX9_slips_12 rfl dX9_slips_51 ?_
          refine SW.iload_n C dX9_slips_54 rfl 1 rfl ?_
          refine SW.iload_n C dX9_slips_55 rfl 2 rfl ?_
          refine SW.iload_n C dX9_slips_56 rfl 3 rfl ?_
          refine SW.callSl_sub (wr := w9 cI cZ qX qS qI qJ qP qV qK qG qL qM oX) (wn := fun u : Unit => w9 cI cZ qX qS qI qJ qP qV qK qG qL qM oX ++ w8 cI cZ qS oS) C (ctX0_toHear l D cI cZ qS oS v1 v2 v3 _ h) gX9_slips_X0_toHear rfl rfl rfl pdX0_toHear ⟨by decide, by decide⟩ [1, 2, 3, 4, 5, 6, 7] [0] [0, 1, 2, 3, 4, 5, 6, 7] rfl rfl (by decide) (by decide) (by decide) (by decide) (fun _ => rfl) rfl rfl (Nat.le_of_ble_eq_true rfl) dX9_slips_57 (by decide) (fun r57 u h => ?_)
          try dsimp only at h
          refine SW.aload_n C dX9_slips_60 rfl 0 rfl ?_
          refine SW.get (v := .ref (qS 0)) (T := TX9) (N := 11) C inX9_slips_X9 0 rfl rfl 0 (by decide) lkX9_slips_12 rfl dX9_slips_61 ?_
          refine SW.callSl_sub (wr := w9 cI cZ qX qS qI qJ qP qV qK qG qL qM oX) (wn := fun u : Unit => w9 cI cZ qX qS qI qJ qP qV qK qG qL qM oX ++ w8 cI cZ qS oS) C (ctX0_ofAll l D cI cZ qS oS _ h) gX9_slips_X0_ofAll rfl rfl rfl pdX0_ofAll ⟨by decide, by decide⟩ [1, 2, 3, 4, 5, 6, 7] [0] [0, 1, 2, 3, 4, 5, 6, 7] rfl rfl (by decide) (by decide) (by decide) (by decide) (fun _ => rfl) rfl rfl (Nat.le_of_ble_eq_true rfl) dX9_slips_64 (by decide) (fun r64 u h => ?_)
          try dsimp only at h
          refine SW.iload C dX9_slips_67 4 rfl ?_
          refine SW.callSl_pure C (ctX9_lowestTerms l D cI cZ r57 r64 v4 _ h) gX9_slips_X9_lowestTerms rfl rfl rfl pdX9_lowestTerms ⟨by decide, by decide⟩ rfl rfl (Nat.le_of_ble_eq_true rfl) dX9_slips_69 (by decide) (fun r69 u h => ?_)
          try dsimp only at h
          exact SW.lret C () rfl h dX9_slips_72
        · replace h := h.2 hc
          refine SW.ldc2 (v := (-1000000000000000002 : Int64)) C (by decide +kernel) dX9_slips_46 ?_
          exact SW.lret C () rfl h dX9_slips_49
  · replace h := h.1 hc
    refine SW.ldc2 (v := (-1000000000000000001 : Int64)) C (by decide +kernel) dX9_slips_11 ?_
    exact SW.lret C () rfl h dX9_slips_14
def wpX9_calm (oX : Ob) (oS : Ob) (v1 : Int32) (v2 : Int32) (post : Int64 → Ob → Prop) : Prop := wpX9_isOutside v1 (0 : Int32) (10 : Int32) (fun (r4 : Int32) => ((r4 = 0) → wpX9_isOutside v2 (0 : Int32) (1 : Int32) (fun (r13 : Int32) => ((r13 = 0) → wpX0_toBeCalm oS v1 (fun (r28 : Int64) (oS_28 : Ob) => wpX0_ofAll oS_28 (fun (r35 : Int64) => wpX9_lowestTerms r28 r35 v2 (fun (r39 : Int64) => post r39 oS_28)))) ∧ (¬ (r13 = 0) → post (-1000000000000000002 : Int64) oS))) ∧ (¬ (r4 = 0) → post (-1000000000000000002 : Int64) oS))
theorem pdX9_calm : yX9_calm.cls = RX9 ∧ yX9_calm.cls ≠ "java/lang/invoke/MethodHandle" ∧ yX9_calm.cls ≠ "java/lang/invoke/VarHandle" ∧ (parseMethodDescriptor yX9_calm.desc).map (fun d => d.parameters.length) = some 2 := by decide +kernel
theorem lkX9_calm_12 : Cond.fieldLink RX9 12 (TX9 0).1 (TX9 0).2.1 (TX9 0).2.2.1 ∈ wsX9_calm := by decide +kernel
theorem inX9_calm_X9 : ∀ w ∈ u_ws RX9 TX9 11, w ∈ wsX9_calm := by decide +kernel
set_option maxHeartbeats 4000000 in
set_option maxRecDepth 100000 in
theorem ctX9_calm (l : Launch) (D : va_G) (cI cZ : ClassId) (qX : Nat → Nat) (qS : Nat → Nat) (qI : Nat → Nat) (qJ : Nat → Nat) (qP : Nat → Nat) (qV : Nat → Nat) (qT : Nat → Nat) (qK : Nat → Nat) (qG : Nat → Nat) (qL : Nat → Nat) (qM : Nat → Nat) (oX : Ob) (oS : Ob) (v1 : Int32) (v2 : Int32) (post : Int64 → Ob → Prop) (h : wpX9_calm oX oS v1 v2 post) : CTl l yX9_calm wsX9_calm { frames := 4, cells := 0, slots := 0, locals := 105 } D [(cI, .int), (cZ, .boolean)] [.ref (qX 0), .int v1, .int v2] (w9 cI cZ qX qS qI qJ qP qV qK qG qL qM oX ++ w8 cI cZ qS oS) (fun u : Ob => w9 cI cZ qX qS qI qJ qP qV qK qG qL qM oX ++ w8 cI cZ qS u) (fun (r : Int64) (u : Ob) => post r u) := by
  refine CTl.of (cc := cX9_calm) (own := RX9) (maxL := 3) (ret := (some .long)) (lv0 := [(0, .ref (qX 0)), (1, .int v1), (2, .int v2)]) (by decide) rfl rfl (Nat.le_of_ble_eq_true rfl) rfl ?_
  intro p e s m args below meth c A C
  unfold wpX9_calm at h
  refine SW.iload_n C dX9_calm_0 rfl 1 rfl ?_
  refine SW.iconst (v := (0 : Int32)) C dX9_calm_1 (by decide) ?_
  refine SW.bipush (v := (10 : Int32)) C dX9_calm_2 (by decide) ?_
  refine SW.callSi_pure C (ctX9_isOutside l D cI cZ v1 (0 : Int32) (10 : Int32) _ h) gX9_calm_X9_isOutside rfl rfl rfl pdX9_isOutside ⟨by decide, by decide⟩ rfl rfl (Nat.le_of_ble_eq_true rfl) dX9_calm_4 (by decide) (fun r4 u h => ?_)
  try dsimp only at h
  refine SW.if_ne (tgt := 19) C dX9_calm_7 (by decide) (fun hc => ?_) (fun hc => ?_)
  · replace h := h.2 hc
    refine SW.ldc2 (v := (-1000000000000000002 : Int64)) C (by decide +kernel) dX9_calm_19 ?_
    exact SW.lret C oS rfl h dX9_calm_22
  · replace h := h.1 hc
    refine SW.iload_n C dX9_calm_10 rfl 2 rfl ?_
    refine SW.iconst (v := (0 : Int32)) C dX9_calm_11 (by decide) ?_
    refine SW.iconst (v := (1 : Int32)) C dX9_calm_12 (by decide) ?_
    refine SW.callSi_pure C (ctX9_isOutside l D cI cZ v2 (0 : Int32) (1 : Int32) _ h) gX9_calm_X9_isOutside rfl rfl rfl pdX9_isOutside ⟨by decide, by decide⟩ rfl rfl (Nat.le_of_ble_eq_true rfl) dX9_calm_13 (by decide) (fun r13 u h => ?_)
    try dsimp only at h
    refine SW.if_eq (tgt := 23) C dX9_calm_16 (by decide) (fun hc => ?_) (fun hc => ?_)
    · replace h := h.1 hc
      refine SW.aload_n C dX9_calm_23 rfl 0 rfl ?_
      refine SW.get (v := .ref (qS 0)) (T := TX9) (N := 11) C inX9_calm_X9 0 rfl rfl 0 (by decide) lkX9_calm_12 rfl dX9_calm_24 ?_
      refine SW.iload_n C dX9_calm_27 rfl 1 rfl ?_
      refine SW.callSl_sub (wr := w9 cI cZ qX qS qI qJ qP qV qK qG qL qM oX) (wn := fun u : Ob => w9 cI cZ qX qS qI qJ qP qV qK qG qL qM oX ++ w8 cI cZ qS u) C (ctX0_toBeCalm l D cI cZ qS oS v1 _ h) gX9_calm_X0_toBeCalm rfl rfl rfl pdX0_toBeCalm ⟨by decide, by decide⟩ [1, 2, 3, 4, 5, 6, 7] [0] [0, 1, 2, 3, 4, 5, 6, 7] rfl rfl (by decide) (by decide) (by decide) (by decide) (fun _ => rfl) rfl rfl (Nat.le_of_ble_eq_true rfl) dX9_calm_28 (by decide) (fun r28 u h => ?_)
      obtain ⟨oS_28, rfl⟩ : ∃ z, z = u := ⟨_, rfl⟩
      try dsimp only at h
      refine SW.aload_n C dX9_calm_31 rfl 0 rfl ?_
      refine SW.get (v := .ref (qS 0)) (T := TX9) (N := 11) C inX9_calm_X9 0 rfl rfl 0 (by decide) lkX9_calm_12 rfl dX9_calm_32 ?_
      refine SW.callSl_sub (wr := w9 cI cZ qX qS qI qJ qP qV qK qG qL qM oX) (wn := fun u : Unit => w9 cI cZ qX qS qI qJ qP qV qK qG qL qM oX ++ w8 cI cZ qS oS_28) C (ctX0_ofAll l D cI cZ qS oS_28 _ h) gX9_calm_X0_ofAll rfl rfl rfl pdX0_ofAll ⟨by decide, by decide⟩ [1, 2, 3, 4, 5, 6, 7] [0] [0, 1, 2, 3, 4, 5, 6, 7] rfl rfl (by decide) (by decide) (by decide) (by decide) (fun _ => rfl) rfl rfl (Nat.le_of_ble_eq_true rfl) dX9_calm_35 (by decide) (fun r35 u h => ?_)
      try dsimp only at h
      refine SW.iload_n C dX9_calm_38 rfl 2 rfl ?_
      refine SW.callSl_pure C (ctX9_lowestTerms l D cI cZ r28 r35 v2 _ h) gX9_calm_X9_lowestTerms rfl rfl rfl pdX9_lowestTerms ⟨by decide, by decide⟩ rfl rfl (Nat.le_of_ble_eq_true rfl) dX9_calm_39 (by decide) (fun r39 u h => ?_)
      try dsimp only at h
      exact SW.lret C oS_28 rfl h dX9_calm_42
    · replace h := h.2 hc
      refine SW.ldc2 (v := (-1000000000000000002 : Int64)) C (by decide +kernel) dX9_calm_19 ?_
      exact SW.lret C oS rfl h dX9_calm_22
def wpX9_year (oX : Ob) (oS : Ob) (oV : Ob) (oT : Ob) (v1 : Int32) (v2 : Int32) (v3 : Int32) (post : Int32 → Ob → Ob → Prop) : Prop := wpX9_isOutside v1 (0 : Int32) (9999 : Int32) (fun (r5 : Int32) => ((r5 = 0) → wpX9_isOutside v2 (1 : Int32) (99 : Int32) (fun (r15 : Int32) => ((r15 = 0) → wpX9_isOutside v3 (0 : Int32) (2 : Int32) (fun (r24 : Int32) => ((r24 = 0) → wpX1_draw oS oV oT v1 v2 (fun (oV_43 : Ob) (oT_43 : Ob) => ((v3 = (0 : Int32)) → post (oV_43 0 4) oV_43 oT_43) ∧ ((v3 = (1 : Int32)) → post (oV_43 0 5) oV_43 oT_43) ∧ (¬ v3 = (0 : Int32) → ¬ v3 = (1 : Int32) → (post (oT_43 0 5) oV_43 oT_43)))) ∧ (¬ (r24 = 0) → post (-2 : Int32) oV oT))) ∧ (¬ (r15 = 0) → post (-2 : Int32) oV oT))) ∧ (¬ (r5 = 0) → post (-2 : Int32) oV oT))
theorem pdX9_year : yX9_year.cls = RX9 ∧ yX9_year.cls ≠ "java/lang/invoke/MethodHandle" ∧ yX9_year.cls ≠ "java/lang/invoke/VarHandle" ∧ (parseMethodDescriptor yX9_year.desc).map (fun d => d.parameters.length) = some 3 := by decide +kernel
theorem lkX9_year_39 : Cond.fieldLink RX9 39 (TX9 6).1 (TX9 6).2.1 (TX9 6).2.2.1 ∈ wsX9_year := by decide +kernel
theorem inX9_year_X9 : ∀ w ∈ u_ws RX9 TX9 11, w ∈ wsX9_year := by decide +kernel
theorem lkX9_year_12 : Cond.fieldLink RX9 12 (TX9 0).1 (TX9 0).2.1 (TX9 0).2.2.1 ∈ wsX9_year := by decide +kernel
theorem lkX9_year_148 : Cond.fieldLink RX9 148 (TX1 4).1 (TX1 4).2.1 (TX1 4).2.2.1 ∈ wsX9_year := by decide +kernel
theorem inX9_year_X1 : ∀ w ∈ u_ws RX1 TX1 6, w ∈ wsX9_year := by decide +kernel
theorem lkX9_year_266 : Cond.fieldLink RX9 266 (TX1 5).1 (TX1 5).2.1 (TX1 5).2.2.1 ∈ wsX9_year := by decide +kernel
theorem lkX9_year_132 : Cond.fieldLink RX9 132 (TX1 0).1 (TX1 0).2.1 (TX1 0).2.2.1 ∈ wsX9_year := by decide +kernel
theorem lkX9_year_135 : Cond.fieldLink RX9 135 (TX8 5).1 (TX8 5).2.1 (TX8 5).2.2.1 ∈ wsX9_year := by decide +kernel
theorem inX9_year_X8 : ∀ w ∈ u_ws RX8 TX8 13, w ∈ wsX9_year := by decide +kernel
set_option maxHeartbeats 4000000 in
set_option maxRecDepth 100000 in
theorem ctX9_year (l : Launch) (D : va_G) (cI cZ : ClassId) (qX : Nat → Nat) (qS : Nat → Nat) (qI : Nat → Nat) (qJ : Nat → Nat) (qP : Nat → Nat) (qV : Nat → Nat) (qT : Nat → Nat) (qK : Nat → Nat) (qG : Nat → Nat) (qL : Nat → Nat) (qM : Nat → Nat) (oX : Ob) (oS : Ob) (oV : Ob) (oT : Ob) (v1 : Int32) (v2 : Int32) (v3 : Int32) (post : Int32 → Ob → Ob → Prop) (h : wpX9_year oX oS oV oT v1 v2 v3 post) : CTi l yX9_year wsX9_year { frames := 5, cells := 0, slots := 0, locals := 127 } D [(cI, .int), (cZ, .boolean)] [.ref (qX 0), .int v1, .int v2, .int v3] (w9 cI cZ qX qS qI qJ qP qV qK qG qL qM oX ++ w8 cI cZ qS oS ++ w1 cI cZ qV qT oV ++ w8 cI cZ qT oT) (fun u : Ob × Ob => w9 cI cZ qX qS qI qJ qP qV qK qG qL qM oX ++ w8 cI cZ qS oS ++ w1 cI cZ qV qT u.1 ++ w8 cI cZ qT u.2) (fun (r : Int32) (u : Ob × Ob) => post r u.1 u.2) := by
  refine CTi.of (cc := cX9_year) (own := RX9) (maxL := 4) (ret := (some .int)) (lv0 := [(0, .ref (qX 0)), (1, .int v1), (2, .int v2), (3, .int v3)]) (by decide) rfl rfl (Nat.le_of_ble_eq_true rfl) rfl ?_
  intro p e s m args below meth c A C
  unfold wpX9_year at h
  refine SW.iload_n C dX9_year_0 rfl 1 rfl ?_
  refine SW.iconst (v := (0 : Int32)) C dX9_year_1 (by decide) ?_
  refine SW.sipush (v := (9999 : Int32)) C dX9_year_2 (by decide) ?_
  refine SW.callSi_pure C (ctX9_isOutside l D cI cZ v1 (0 : Int32) (9999 : Int32) _ h) gX9_year_X9_isOutside rfl rfl rfl pdX9_isOutside ⟨by decide, by decide⟩ rfl rfl (Nat.le_of_ble_eq_true rfl) dX9_year_5 (by decide) (fun r5 u h => ?_)
  try dsimp only at h
  refine SW.if_ne (tgt := 30) C dX9_year_8 (by decide) (fun hc => ?_) (fun hc => ?_)
  · replace h := h.2 hc
    refine SW.bipush (v := (-2 : Int32)) C dX9_year_30 (by decide) ?_
    exact SW.iret C (oV, oT) rfl h dX9_year_32
  · replace h := h.1 hc
    refine SW.iload_n C dX9_year_11 rfl 2 rfl ?_
    refine SW.iconst (v := (1 : Int32)) C dX9_year_12 (by decide) ?_
    refine SW.bipush (v := (99 : Int32)) C dX9_year_13 (by decide) ?_
    refine SW.callSi_pure C (ctX9_isOutside l D cI cZ v2 (1 : Int32) (99 : Int32) _ h) gX9_year_X9_isOutside rfl rfl rfl pdX9_isOutside ⟨by decide, by decide⟩ rfl rfl (Nat.le_of_ble_eq_true rfl) dX9_year_15 (by decide) (fun r15 u h => ?_)
    try dsimp only at h
    refine SW.if_ne (tgt := 30) C dX9_year_18 (by decide) (fun hc => ?_) (fun hc => ?_)
    · replace h := h.2 hc
      refine SW.bipush (v := (-2 : Int32)) C dX9_year_30 (by decide) ?_
      exact SW.iret C (oV, oT) rfl h dX9_year_32
    · replace h := h.1 hc
      refine SW.iload_n C dX9_year_21 rfl 3 rfl ?_
      refine SW.iconst (v := (0 : Int32)) C dX9_year_22 (by decide) ?_
      refine SW.iconst (v := (2 : Int32)) C dX9_year_23 (by decide) ?_
      refine SW.callSi_pure C (ctX9_isOutside l D cI cZ v3 (0 : Int32) (2 : Int32) _ h) gX9_year_X9_isOutside rfl rfl rfl pdX9_isOutside ⟨by decide, by decide⟩ rfl rfl (Nat.le_of_ble_eq_true rfl) dX9_year_24 (by decide) (fun r24 u h => ?_)
      try dsimp only at h
      refine SW.if_eq (tgt := 33) C dX9_year_27 (by decide) (fun hc => ?_) (fun hc => ?_)
      · replace h := h.1 hc
        refine SW.aload_n C dX9_year_33 rfl 0 rfl ?_
        refine SW.get (v := .ref (qV 0)) (T := TX9) (N := 11) C inX9_year_X9 0 rfl rfl 6 (by decide) lkX9_year_39 rfl dX9_year_34 ?_
        refine SW.aload_n C dX9_year_37 rfl 0 rfl ?_
        refine SW.get (v := .ref (qS 0)) (T := TX9) (N := 11) C inX9_year_X9 0 rfl rfl 0 (by decide) lkX9_year_12 rfl dX9_year_38 ?_
        refine SW.iload_n C dX9_year_41 rfl 1 rfl ?_
        refine SW.iload_n C dX9_year_42 rfl 2 rfl ?_
        refine SW.callVv_sub (wr := w9 cI cZ qX qS qI qJ qP qV qK qG qL qM oX) (wn := fun u : Ob × Ob => w9 cI cZ qX qS qI qJ qP qV qK qG qL qM oX ++ w8 cI cZ qS oS ++ w1 cI cZ qV qT u.1 ++ w8 cI cZ qT u.2) C (ctX1_draw l D cI cZ qS qV qT oS oV oT v1 v2 _ h) gX9_year_X1_draw rfl rfl rfl pdX1_draw ⟨by decide, by decide⟩ [1, 2, 3, 4, 5, 6, 7, 8, 9, 10, 11, 12, 13, 14, 15] [0] [0, 1, 2, 3, 4, 5, 6, 7, 8, 9, 10, 11, 12, 13, 14, 15] rfl rfl (by decide) (by decide) (by decide) (by decide) (fun _ => rfl) 7 rfl rfl rfl rfl rfl (Nat.le_of_ble_eq_true rfl) dX9_year_43 (by decide) (fun u h => ?_)
        obtain ⟨oV_43, oT_43⟩ := u
        try dsimp only at h
        refine SW.iload_n C dX9_year_46 rfl 3 rfl ?_
        by_cases hs0 : v3 = (0 : Int32)
        · replace h := h.1 hs0
          refine SW.lookup (tgt := 72) (off := 25) C dX9_year_47 (by decide) (by rw [hs0]; rfl) (by decide) ?_
          refine SW.aload_n C dX9_year_72 rfl 0 rfl ?_
          refine SW.get (v := .ref (qV 0)) (T := TX9) (N := 11) C inX9_year_X9 0 rfl rfl 6 (by decide) lkX9_year_39 rfl dX9_year_73 ?_
          refine SW.get (v := .int (oV_43 0 4)) (T := TX1) (N := 6) C inX9_year_X1 8 rfl rfl 4 (by decide) lkX9_year_148 rfl dX9_year_76 ?_
          exact SW.iret C (oV_43, oT_43) rfl h dX9_year_79
        by_cases hs1 : v3 = (1 : Int32)
        · replace h := h.2.1 hs1
          refine SW.lookup (tgt := 80) (off := 33) C dX9_year_47 (by decide) (by rw [hs1]; rfl) (by decide) ?_
          refine SW.aload_n C dX9_year_80 rfl 0 rfl ?_
          refine SW.get (v := .ref (qV 0)) (T := TX9) (N := 11) C inX9_year_X9 0 rfl rfl 6 (by decide) lkX9_year_39 rfl dX9_year_81 ?_
          refine SW.get (v := .int (oV_43 0 5)) (T := TX1) (N := 6) C inX9_year_X1 8 rfl rfl 5 (by decide) lkX9_year_266 rfl dX9_year_84 ?_
          exact SW.iret C (oV_43, oT_43) rfl h dX9_year_87
        replace h := h.2.2 hs0 hs1
        refine SW.lookup (tgt := 88) (off := 41) C dX9_year_47 (by decide) (by have e0 := sw_ne hs0; have e1 := sw_ne hs1; simp only [Int32.reduceToInt] at e0 e1; simp [Op.lookupswitch.offset, e0, Ne.symm e0, e1, Ne.symm e1]) (by decide) ?_
        refine SW.aload_n C dX9_year_88 rfl 0 rfl ?_
        refine SW.get (v := .ref (qV 0)) (T := TX9) (N := 11) C inX9_year_X9 0 rfl rfl 6 (by decide) lkX9_year_39 rfl dX9_year_89 ?_
        refine SW.get (v := .ref (qT 0)) (T := TX1) (N := 6) C inX9_year_X1 8 rfl rfl 0 (by decide) lkX9_year_132 rfl dX9_year_92 ?_
        refine SW.get (v := .int (oT_43 0 5)) (T := TX8) (N := 13) C inX9_year_X8 9 rfl rfl 5 (by decide) lkX9_year_135 rfl dX9_year_95 ?_
        exact SW.iret C (oV_43, oT_43) rfl h dX9_year_98
      · replace h := h.2 hc
        refine SW.bipush (v := (-2 : Int32)) C dX9_year_30 (by decide) ?_
        exact SW.iret C (oV, oT) rfl h dX9_year_32
def wpX9_image (oX : Ob) (oS : Ob) (oI : Ob) (oJ : Ob) (v1 : Int32) (post : Int32 → Ob → Ob → Ob → Prop) : Prop := wpX9_isOutside v1 (0 : Int32) (1 : Int32) (fun (r3 : Int32) => ((r3 = 0) → ((v1 = 0) → wpX8_copyFrom oI oS (fun (oI_24 : Ob) => post (1 : Int32) (pf oX 3 (1 : Int32)) oI_24 oJ)) ∧ (¬ (v1 = 0) → wpX8_copyFrom oJ oS (fun (oJ_43 : Ob) => post (1 : Int32) (pf oX 4 (1 : Int32)) oI oJ_43))) ∧ (¬ (r3 = 0) → post (-2 : Int32) oX oI oJ))
theorem pdX9_image : yX9_image.cls = RX9 ∧ yX9_image.cls ≠ "java/lang/invoke/MethodHandle" ∧ yX9_image.cls ≠ "java/lang/invoke/VarHandle" ∧ (parseMethodDescriptor yX9_image.desc).map (fun d => d.parameters.length) = some 1 := by decide +kernel
theorem lkX9_image_19 : Cond.fieldLink RX9 19 (TX9 2).1 (TX9 2).2.1 (TX9 2).2.2.1 ∈ wsX9_image := by decide +kernel
theorem inX9_image_X9 : ∀ w ∈ u_ws RX9 TX9 11, w ∈ wsX9_image := by decide +kernel
theorem lkX9_image_12 : Cond.fieldLink RX9 12 (TX9 0).1 (TX9 0).2.1 (TX9 0).2.2.1 ∈ wsX9_image := by decide +kernel
theorem lkX9_image_26 : Cond.fieldLink RX9 26 (TX9 4).1 (TX9 4).2.1 (TX9 4).2.2.1 ∈ wsX9_image := by decide +kernel
theorem lkX9_image_16 : Cond.fieldLink RX9 16 (TX9 1).1 (TX9 1).2.1 (TX9 1).2.2.1 ∈ wsX9_image := by decide +kernel
theorem lkX9_image_22 : Cond.fieldLink RX9 22 (TX9 3).1 (TX9 3).2.1 (TX9 3).2.2.1 ∈ wsX9_image := by decide +kernel
set_option maxHeartbeats 4000000 in
set_option maxRecDepth 100000 in
theorem ctX9_image (l : Launch) (D : va_G) (cI cZ : ClassId) (qX : Nat → Nat) (qS : Nat → Nat) (qI : Nat → Nat) (qJ : Nat → Nat) (qP : Nat → Nat) (qV : Nat → Nat) (qT : Nat → Nat) (qK : Nat → Nat) (qG : Nat → Nat) (qL : Nat → Nat) (qM : Nat → Nat) (oX : Ob) (oS : Ob) (oI : Ob) (oJ : Ob) (v1 : Int32) (post : Int32 → Ob → Ob → Ob → Prop) (h : wpX9_image oX oS oI oJ v1 post) : CTi l yX9_image wsX9_image { frames := 2, cells := 0, slots := 0, locals := 44 } D [(cI, .int), (cZ, .boolean)] [.ref (qX 0), .int v1] (w9 cI cZ qX qS qI qJ qP qV qK qG qL qM oX ++ w8 cI cZ qS oS ++ w8 cI cZ qI oI ++ w8 cI cZ qJ oJ) (fun u : Ob × Ob × Ob => w9 cI cZ qX qS qI qJ qP qV qK qG qL qM u.1 ++ w8 cI cZ qS oS ++ w8 cI cZ qI u.2.1 ++ w8 cI cZ qJ u.2.2) (fun (r : Int32) (u : Ob × Ob × Ob) => post r u.1 u.2.1 u.2.2) := by
  refine CTi.of (cc := cX9_image) (own := RX9) (maxL := 2) (ret := (some .int)) (lv0 := [(0, .ref (qX 0)), (1, .int v1)]) (by decide) rfl rfl (Nat.le_of_ble_eq_true rfl) rfl ?_
  intro p e s m args below meth c A C
  unfold wpX9_image at h
  refine SW.iload_n C dX9_image_0 rfl 1 rfl ?_
  refine SW.iconst (v := (0 : Int32)) C dX9_image_1 (by decide) ?_
  refine SW.iconst (v := (1 : Int32)) C dX9_image_2 (by decide) ?_
  refine SW.callSi_pure C (ctX9_isOutside l D cI cZ v1 (0 : Int32) (1 : Int32) _ h) gX9_image_X9_isOutside rfl rfl rfl pdX9_isOutside ⟨by decide, by decide⟩ rfl rfl (Nat.le_of_ble_eq_true rfl) dX9_image_3 (by decide) (fun r3 u h => ?_)
  try dsimp only at h
  refine SW.if_eq (tgt := 12) C dX9_image_6 (by decide) (fun hc => ?_) (fun hc => ?_)
  · replace h := h.1 hc
    refine SW.iload_n C dX9_image_12 rfl 1 rfl ?_
    refine SW.if_ne (tgt := 35) C dX9_image_13 (by decide) (fun hc => ?_) (fun hc => ?_)
    · replace h := h.2 hc
      refine SW.aload_n C dX9_image_35 rfl 0 rfl ?_
      refine SW.get (v := .ref (qJ 0)) (T := TX9) (N := 11) C inX9_image_X9 0 rfl rfl 2 (by decide) lkX9_image_19 rfl dX9_image_36 ?_
      refine SW.aload_n C dX9_image_39 rfl 0 rfl ?_
      refine SW.get (v := .ref (qS 0)) (T := TX9) (N := 11) C inX9_image_X9 0 rfl rfl 0 (by decide) lkX9_image_12 rfl dX9_image_40 ?_
      refine SW.callVv_sub (wr := w9 cI cZ qX qS qI qJ qP qV qK qG qL qM oX ++ w8 cI cZ qI oI) (wn := fun u : Ob => w9 cI cZ qX qS qI qJ qP qV qK qG qL qM oX ++ w8 cI cZ qS oS ++ w8 cI cZ qI oI ++ w8 cI cZ qJ u) C (ctX8_copyFrom l D cI cZ qJ qS oJ oS _ h) gX9_image_X8_copyFrom rfl rfl rfl pdX8_copyFrom ⟨by decide, by decide⟩ [15, 16, 17, 18, 19, 20, 21, 1, 2, 3, 4, 5, 6, 7] [0, 8, 9, 10, 11, 12, 13, 14] [0, 15, 16, 17, 18, 19, 20, 21, 1, 2, 3, 4, 5, 6, 7, 8, 9, 10, 11, 12, 13, 14] rfl rfl (by decide) (by decide) (by decide) (by decide) (fun _ => rfl) 0 rfl rfl rfl rfl rfl (Nat.le_of_ble_eq_true rfl) dX9_image_43 (by decide) (fun u h => ?_)
      obtain ⟨oJ_43, rfl⟩ : ∃ z, z = u := ⟨_, rfl⟩
      try dsimp only at h
      refine SW.aload_n C dX9_image_46 rfl 0 rfl ?_
      refine SW.iconst (v := (1 : Int32)) C dX9_image_47 (by decide) ?_
      refine SW.put (ws' := w9 cI cZ qX qS qI qJ qP qV qK qG qL qM (pf oX 4 (1 : Int32)) ++ w8 cI cZ qS oS ++ w8 cI cZ qI oI ++ w8 cI cZ qJ oJ_43) (T := TX9) (N := 11) C inX9_image_X9 tyX9 tyX9_ok nmX9 0 rfl rfl 4 (by decide) lkX9_image_26 rfl rfl rfl (Nat.le_of_ble_eq_true rfl) rfl dX9_image_48 ?_
      refine SW.iconst (v := (1 : Int32)) C dX9_image_51 (by decide) ?_
      exact SW.iret C ((pf oX 4 (1 : Int32)), oI, oJ_43) rfl h dX9_image_52
    · replace h := h.1 hc
      refine SW.aload_n C dX9_image_16 rfl 0 rfl ?_
      refine SW.get (v := .ref (qI 0)) (T := TX9) (N := 11) C inX9_image_X9 0 rfl rfl 1 (by decide) lkX9_image_16 rfl dX9_image_17 ?_
      refine SW.aload_n C dX9_image_20 rfl 0 rfl ?_
      refine SW.get (v := .ref (qS 0)) (T := TX9) (N := 11) C inX9_image_X9 0 rfl rfl 0 (by decide) lkX9_image_12 rfl dX9_image_21 ?_
      refine SW.callVv_sub (wr := w9 cI cZ qX qS qI qJ qP qV qK qG qL qM oX ++ w8 cI cZ qJ oJ) (wn := fun u : Ob => w9 cI cZ qX qS qI qJ qP qV qK qG qL qM oX ++ w8 cI cZ qS oS ++ w8 cI cZ qI u ++ w8 cI cZ qJ oJ) C (ctX8_copyFrom l D cI cZ qI qS oI oS _ h) gX9_image_X8_copyFrom rfl rfl rfl pdX8_copyFrom ⟨by decide, by decide⟩ [8, 9, 10, 11, 12, 13, 14, 1, 2, 3, 4, 5, 6, 7] [0, 15, 16, 17, 18, 19, 20, 21] [0, 15, 16, 17, 18, 19, 20, 21, 8, 9, 10, 11, 12, 13, 14, 1, 2, 3, 4, 5, 6, 7] rfl rfl (by decide) (by decide) (by decide) (by decide) (fun _ => rfl) 0 rfl rfl rfl rfl rfl (Nat.le_of_ble_eq_true rfl) dX9_image_24 (by decide) (fun u h => ?_)
      obtain ⟨oI_24, rfl⟩ : ∃ z, z = u := ⟨_, rfl⟩
      try dsimp only at h
      refine SW.aload_n C dX9_image_27 rfl 0 rfl ?_
      refine SW.iconst (v := (1 : Int32)) C dX9_image_28 (by decide) ?_
      refine SW.put (ws' := w9 cI cZ qX qS qI qJ qP qV qK qG qL qM (pf oX 3 (1 : Int32)) ++ w8 cI cZ qS oS ++ w8 cI cZ qI oI_24 ++ w8 cI cZ qJ oJ) (T := TX9) (N := 11) C inX9_image_X9 tyX9 tyX9_ok nmX9 0 rfl rfl 3 (by decide) lkX9_image_22 rfl rfl rfl (Nat.le_of_ble_eq_true rfl) rfl dX9_image_29 ?_
      refine SW.goto (tgt := 51) C dX9_image_32 (by decide) ?_
      refine SW.iconst (v := (1 : Int32)) C dX9_image_51 (by decide) ?_
      exact SW.iret C ((pf oX 3 (1 : Int32)), oI_24, oJ) rfl h dX9_image_52
  · replace h := h.2 hc
    refine SW.bipush (v := (-2 : Int32)) C dX9_image_9 (by decide) ?_
    exact SW.iret C (oX, oI, oJ) rfl h dX9_image_11
def wpX9_restore (oX : Ob) (oS : Ob) (oI : Ob) (oJ : Ob) (v1 : Int32) (post : Int32 → Ob → Prop) : Prop := wpX9_isOutside v1 (0 : Int32) (1 : Int32) (fun (r3 : Int32) => ((r3 = 0) → jn0 (((v1 = 0) → wpX8_copyFrom oS oI (fun (oS_55 : Ob) => post (1 : Int32) oS_55)) ∧ (¬ (v1 = 0) → wpX8_copyFrom oS oJ (fun (oS_55 : Ob) => post (1 : Int32) oS_55))) (fun J36 => ((v1 = 0) → (((oX 0 3) = 0) → post (-3 : Int32) oS) ∧ (¬ ((oX 0 3) = 0) → J36)) ∧ (¬ (v1 = 0) → (((oX 0 4) = 0) → post (-3 : Int32) oS) ∧ (¬ ((oX 0 4) = 0) → J36)))) ∧ (¬ (r3 = 0) → post (-2 : Int32) oS))
theorem pdX9_restore : yX9_restore.cls = RX9 ∧ yX9_restore.cls ≠ "java/lang/invoke/MethodHandle" ∧ yX9_restore.cls ≠ "java/lang/invoke/VarHandle" ∧ (parseMethodDescriptor yX9_restore.desc).map (fun d => d.parameters.length) = some 1 := by decide +kernel
theorem lkX9_restore_12 : Cond.fieldLink RX9 12 (TX9 0).1 (TX9 0).2.1 (TX9 0).2.2.1 ∈ wsX9_restore := by decide +kernel
theorem inX9_restore_X9 : ∀ w ∈ u_ws RX9 TX9 11, w ∈ wsX9_restore := by decide +kernel
theorem lkX9_restore_19 : Cond.fieldLink RX9 19 (TX9 2).1 (TX9 2).2.1 (TX9 2).2.2.1 ∈ wsX9_restore := by decide +kernel
theorem lkX9_restore_16 : Cond.fieldLink RX9 16 (TX9 1).1 (TX9 1).2.1 (TX9 1).2.2.1 ∈ wsX9_restore := by decide +kernel
theorem lkX9_restore_26 : Cond.fieldLink RX9 26 (TX9 4).1 (TX9 4).2.1 (TX9 4).2.2.1 ∈ wsX9_restore := by decide +kernel
theorem lkX9_restore_22 : Cond.fieldLink RX9 22 (TX9 3).1 (TX9 3).2.1 (TX9 3).2.2.1 ∈ wsX9_restore := by decide +kernel
set_option maxHeartbeats 4000000 in
set_option maxRecDepth 100000 in
theorem ctX9_restore (l : Launch) (D : va_G) (cI cZ : ClassId) (qX : Nat → Nat) (qS : Nat → Nat) (qI : Nat → Nat) (qJ : Nat → Nat) (qP : Nat → Nat) (qV : Nat → Nat) (qT : Nat → Nat) (qK : Nat → Nat) (qG : Nat → Nat) (qL : Nat → Nat) (qM : Nat → Nat) (oX : Ob) (oS : Ob) (oI : Ob) (oJ : Ob) (v1 : Int32) (post : Int32 → Ob → Prop) (h : wpX9_restore oX oS oI oJ v1 post) : CTi l yX9_restore wsX9_restore { frames := 2, cells := 0, slots := 0, locals := 44 } D [(cI, .int), (cZ, .boolean)] [.ref (qX 0), .int v1] (w9 cI cZ qX qS qI qJ qP qV qK qG qL qM oX ++ w8 cI cZ qS oS ++ w8 cI cZ qI oI ++ w8 cI cZ qJ oJ) (fun u : Ob => w9 cI cZ qX qS qI qJ qP qV qK qG qL qM oX ++ w8 cI cZ qS u ++ w8 cI cZ qI oI ++ w8 cI cZ qJ oJ) (fun (r : Int32) (u : Ob) => post r u) := by
  refine CTi.of (cc := cX9_restore) (own := RX9) (maxL := 2) (ret := (some .int)) (lv0 := [(0, .ref (qX 0)), (1, .int v1)]) (by decide) rfl rfl (Nat.le_of_ble_eq_true rfl) rfl ?_
  intro p e s m args below meth c A C
  unfold wpX9_restore at h
  refine SW.iload_n C dX9_restore_0 rfl 1 rfl ?_
  refine SW.iconst (v := (0 : Int32)) C dX9_restore_1 (by decide) ?_
  refine SW.iconst (v := (1 : Int32)) C dX9_restore_2 (by decide) ?_
  refine SW.callSi_pure C (ctX9_isOutside l D cI cZ v1 (0 : Int32) (1 : Int32) _ h) gX9_restore_X9_isOutside rfl rfl rfl pdX9_isOutside ⟨by decide, by decide⟩ rfl rfl (Nat.le_of_ble_eq_true rfl) dX9_restore_3 (by decide) (fun r3 u h => ?_)
  try dsimp only at h
  refine SW.if_eq (tgt := 12) C dX9_restore_6 (by decide) (fun hc => ?_) (fun hc => ?_)
  · replace h := h.1 hc
    refine SW.iload_n C dX9_restore_12 rfl 1 rfl ?_
    refine jn0_elim (G := SW p l e { frames := 2, cells := 0, slots := 0, locals := 44 } s m args below meth c A D 2 0 0 (MQ below (va_Qi (fun (r : Int32) (u : Ob) => post r u) (ctB D A (fun u : Ob => w9 cI cZ qX qS qI qJ qP qV qK qG qL qM oX ++ w8 cI cZ qS u ++ w8 cI cZ qI oI ++ w8 cI cZ qJ oJ)) A) args s 0 0 A) (w9 cI cZ qX qS qI qJ qP qV qK qG qL qM oX ++ w8 cI cZ qS oS ++ w8 cI cZ qI oI ++ w8 cI cZ qJ oJ) 36 [(0, .ref (qX 0)), (1, .int v1)] []) h (fun h => ?_) (fun J36 hJ36 h => ?_)
    · refine SW.aload_n C dX9_restore_36 rfl 0 rfl ?_
      refine SW.get (v := .ref (qS 0)) (T := TX9) (N := 11) C inX9_restore_X9 0 rfl rfl 0 (by decide) lkX9_restore_12 rfl dX9_restore_37 ?_
      refine SW.iload_n C dX9_restore_40 rfl 1 rfl ?_
      refine SW.if_ne (tgt := 51) C dX9_restore_41 (by decide) (fun hc => ?_) (fun hc => ?_)
      · replace h := h.2 hc
        refine SW.aload_n C dX9_restore_51 rfl 0 rfl ?_
        refine SW.get (v := .ref (qJ 0)) (T := TX9) (N := 11) C inX9_restore_X9 0 rfl rfl 2 (by decide) lkX9_restore_19 rfl dX9_restore_52 ?_
        refine SW.callVv_sub (wr := w9 cI cZ qX qS qI qJ qP qV qK qG qL qM oX ++ w8 cI cZ qI oI) (wn := fun u : Ob => w9 cI cZ qX qS qI qJ qP qV qK qG qL qM oX ++ w8 cI cZ qS u ++ w8 cI cZ qI oI ++ w8 cI cZ qJ oJ) C (ctX8_copyFrom l D cI cZ qS qJ oS oJ _ h) gX9_restore_X8_copyFrom rfl rfl rfl pdX8_copyFrom ⟨by decide, by decide⟩ [1, 2, 3, 4, 5, 6, 7, 15, 16, 17, 18, 19, 20, 21] [0, 8, 9, 10, 11, 12, 13, 14] [0, 8, 9, 10, 11, 12, 13, 14, 1, 2, 3, 4, 5, 6, 7, 15, 16, 17, 18, 19, 20, 21] rfl rfl (by decide) (by decide) (by decide) (by decide) (fun _ => rfl) 0 rfl rfl rfl rfl rfl (Nat.le_of_ble_eq_true rfl) dX9_restore_55 (by decide) (fun u h => ?_)
        obtain ⟨oS_55, rfl⟩ : ∃ z, z = u := ⟨_, rfl⟩
        try dsimp only at h
        refine SW.iconst (v := (1 : Int32)) C dX9_restore_58 (by decide) ?_
        exact SW.iret C oS_55 rfl h dX9_restore_59
      · replace h := h.1 hc
        refine SW.aload_n C dX9_restore_44 rfl 0 rfl ?_
        refine SW.get (v := .ref (qI 0)) (T := TX9) (N := 11) C inX9_restore_X9 0 rfl rfl 1 (by decide) lkX9_restore_16 rfl dX9_restore_45 ?_
        refine SW.goto (tgt := 55) C dX9_restore_48 (by decide) ?_
        refine SW.callVv_sub (wr := w9 cI cZ qX qS qI qJ qP qV qK qG qL qM oX ++ w8 cI cZ qJ oJ) (wn := fun u : Ob => w9 cI cZ qX qS qI qJ qP qV qK qG qL qM oX ++ w8 cI cZ qS u ++ w8 cI cZ qI oI ++ w8 cI cZ qJ oJ) C (ctX8_copyFrom l D cI cZ qS qI oS oI _ h) gX9_restore_X8_copyFrom rfl rfl rfl pdX8_copyFrom ⟨by decide, by decide⟩ [1, 2, 3, 4, 5, 6, 7, 8, 9, 10, 11, 12, 13, 14] [0, 15, 16, 17, 18, 19, 20, 21] [0, 8, 9, 10, 11, 12, 13, 14, 15, 16, 17, 18, 19, 20, 21, 1, 2, 3, 4, 5, 6, 7] rfl rfl (by decide) (by decide) (by decide) (by decide) (fun _ => rfl) 0 rfl rfl rfl rfl rfl (Nat.le_of_ble_eq_true rfl) dX9_restore_55 (by decide) (fun u h => ?_)
        obtain ⟨oS_55, rfl⟩ : ∃ z, z = u := ⟨_, rfl⟩
        try dsimp only at h
        refine SW.iconst (v := (1 : Int32)) C dX9_restore_58 (by decide) ?_
        exact SW.iret C oS_55 rfl h dX9_restore_59
    · refine SW.if_ne (tgt := 26) C dX9_restore_13 (by decide) (fun hc => ?_) (fun hc => ?_)
      · replace h := h.2 hc
        refine SW.aload_n C dX9_restore_26 rfl 0 rfl ?_
        refine SW.get (v := .int (oX 0 4)) (T := TX9) (N := 11) C inX9_restore_X9 0 rfl rfl 4 (by decide) lkX9_restore_26 rfl dX9_restore_27 ?_
        refine SW.if_ne (tgt := 36) C dX9_restore_30 (by decide) (fun hc => ?_) (fun hc => ?_)
        · replace h := h.2 hc
          exact hJ36 h
        · replace h := h.1 hc
          refine SW.bipush (v := (-3 : Int32)) C dX9_restore_33 (by decide) ?_
          exact SW.iret C oS rfl h dX9_restore_35
      · replace h := h.1 hc
        refine SW.aload_n C dX9_restore_16 rfl 0 rfl ?_
        refine SW.get (v := .int (oX 0 3)) (T := TX9) (N := 11) C inX9_restore_X9 0 rfl rfl 3 (by decide) lkX9_restore_22 rfl dX9_restore_17 ?_
        refine SW.if_eq (tgt := 33) C dX9_restore_20 (by decide) (fun hc => ?_) (fun hc => ?_)
        · replace h := h.1 hc
          refine SW.bipush (v := (-3 : Int32)) C dX9_restore_33 (by decide) ?_
          exact SW.iret C oS rfl h dX9_restore_35
        · replace h := h.2 hc
          refine SW.goto (tgt := 36) C dX9_restore_23 (by decide) ?_
          exact hJ36 h
  · replace h := h.2 hc
    refine SW.bipush (v := (-2 : Int32)) C dX9_restore_9 (by decide) ?_
    exact SW.iret C oS rfl h dX9_restore_11
def wpX9_gapTold (oX : Ob) (oS : Ob) (v1 : Int32) (post : Int32 → Prop) : Prop := wpX9_isOutside v1 (10 : Int32) (((10 : Int32) + (oS 0 0)) - (1 : Int32)) (fun (r15 : Int32) => ((r15 = 0) → (vp_in (v1 - (10 : Int32)) 10) ∧ (post (jld (oS 1) (v1 - (10 : Int32))))) ∧ (¬ (r15 = 0) → post (-2 : Int32)))
theorem pdX9_gapTold : yX9_gapTold.cls = RX9 ∧ yX9_gapTold.cls ≠ "java/lang/invoke/MethodHandle" ∧ yX9_gapTold.cls ≠ "java/lang/invoke/VarHandle" ∧ (parseMethodDescriptor yX9_gapTold.desc).map (fun d => d.parameters.length) = some 1 := by decide +kernel
theorem lkX9_gapTold_12 : Cond.fieldLink RX9 12 (TX9 0).1 (TX9 0).2.1 (TX9 0).2.2.1 ∈ wsX9_gapTold := by decide +kernel
theorem inX9_gapTold_X9 : ∀ w ∈ u_ws RX9 TX9 11, w ∈ wsX9_gapTold := by decide +kernel
theorem lkX9_gapTold_75 : Cond.fieldLink RX9 75 (TX8 0).1 (TX8 0).2.1 (TX8 0).2.2.1 ∈ wsX9_gapTold := by decide +kernel
theorem inX9_gapTold_X8 : ∀ w ∈ u_ws RX8 TX8 13, w ∈ wsX9_gapTold := by decide +kernel
theorem lkX9_gapTold_87 : Cond.fieldLink RX9 87 (TX8 7).1 (TX8 7).2.1 (TX8 7).2.2.1 ∈ wsX9_gapTold := by decide +kernel
set_option maxHeartbeats 4000000 in
set_option maxRecDepth 100000 in
theorem ctX9_gapTold (l : Launch) (D : va_G) (cI cZ : ClassId) (qX : Nat → Nat) (qS : Nat → Nat) (qI : Nat → Nat) (qJ : Nat → Nat) (qP : Nat → Nat) (qV : Nat → Nat) (qT : Nat → Nat) (qK : Nat → Nat) (qG : Nat → Nat) (qL : Nat → Nat) (qM : Nat → Nat) (oX : Ob) (oS : Ob) (v1 : Int32) (post : Int32 → Prop) (h : wpX9_gapTold oX oS v1 post) : CTi l yX9_gapTold wsX9_gapTold { frames := 1, cells := 0, slots := 0, locals := 22 } D [(cI, .int), (cZ, .boolean)] [.ref (qX 0), .int v1] (w9 cI cZ qX qS qI qJ qP qV qK qG qL qM oX ++ w8 cI cZ qS oS) (fun _ : Unit => w9 cI cZ qX qS qI qJ qP qV qK qG qL qM oX ++ w8 cI cZ qS oS) (fun (r : Int32) (_ : Unit) => post r) := by
  refine CTi.of (cc := cX9_gapTold) (own := RX9) (maxL := 2) (ret := (some .int)) (lv0 := [(0, .ref (qX 0)), (1, .int v1)]) (by decide) rfl rfl (Nat.le_of_ble_eq_true rfl) rfl ?_
  intro p e s m args below meth c A C
  unfold wpX9_gapTold at h
  refine SW.iload_n C dX9_gapTold_0 rfl 1 rfl ?_
  refine SW.bipush (v := (10 : Int32)) C dX9_gapTold_1 (by decide) ?_
  refine SW.bipush (v := (10 : Int32)) C dX9_gapTold_3 (by decide) ?_
  refine SW.aload_n C dX9_gapTold_5 rfl 0 rfl ?_
  refine SW.get (v := .ref (qS 0)) (T := TX9) (N := 11) C inX9_gapTold_X9 0 rfl rfl 0 (by decide) lkX9_gapTold_12 rfl dX9_gapTold_6 ?_
  refine SW.get (v := .int (oS 0 0)) (T := TX8) (N := 13) C inX9_gapTold_X8 1 rfl rfl 0 (by decide) lkX9_gapTold_75 rfl dX9_gapTold_9 ?_
  refine SW.iadd C dX9_gapTold_12 ?_
  refine SW.iconst (v := (1 : Int32)) C dX9_gapTold_13 (by decide) ?_
  refine SW.isub C dX9_gapTold_14 ?_
  refine SW.callSi_pure C (ctX9_isOutside l D cI cZ v1 (10 : Int32) (((10 : Int32) + (oS 0 0)) - (1 : Int32)) _ h) gX9_gapTold_X9_isOutside rfl rfl rfl pdX9_isOutside ⟨by decide, by decide⟩ rfl rfl (Nat.le_of_ble_eq_true rfl) dX9_gapTold_15 (by decide) (fun r15 u h => ?_)
  try dsimp only at h
  refine SW.if_eq (tgt := 24) C dX9_gapTold_18 (by decide) (fun hc => ?_) (fun hc => ?_)
  · replace h := h.1 hc
    refine SW.aload_n C dX9_gapTold_24 rfl 0 rfl ?_
    refine SW.get (v := .ref (qS 0)) (T := TX9) (N := 11) C inX9_gapTold_X9 0 rfl rfl 0 (by decide) lkX9_gapTold_12 rfl dX9_gapTold_25 ?_
    refine SW.get (v := .ref (qS 1)) (T := TX8) (N := 13) C inX9_gapTold_X8 1 rfl rfl 7 (by decide) lkX9_gapTold_87 rfl dX9_gapTold_28 ?_
    refine SW.iload_n C dX9_gapTold_31 rfl 1 rfl ?_
    refine SW.bipush (v := (10 : Int32)) C dX9_gapTold_32 (by decide) ?_
    refine SW.isub C dX9_gapTold_34 ?_
    refine SW.iald C 2 0 rfl rfl h.1 dX9_gapTold_35 ?_
    replace h := h.2
    exact SW.iret C () rfl h dX9_gapTold_36
  · replace h := h.2 hc
    refine SW.bipush (v := (-2 : Int32)) C dX9_gapTold_21 (by decide) ?_
    exact SW.iret C () rfl h dX9_gapTold_23
def wpX9_told (oX : Ob) (oS : Ob) (oP : Ob) (v1 : Int32) (post : Int32 → Prop) : Prop := ((v1 = (0 : Int32)) → post (oP 0 0)) ∧ ((v1 = (1 : Int32)) → post (oS 0 0)) ∧ ((v1 = (2 : Int32)) → post (oS 0 1)) ∧ ((v1 = (3 : Int32)) → post (oS 0 2)) ∧ ((v1 = (4 : Int32)) → post (oS 0 3)) ∧ ((v1 = (5 : Int32)) → post (oS 0 4)) ∧ ((v1 = (6 : Int32)) → post (oS 0 5)) ∧ ((v1 = (7 : Int32)) → post (oS 0 6)) ∧ (¬ v1 = (0 : Int32) → ¬ v1 = (1 : Int32) → ¬ v1 = (2 : Int32) → ¬ v1 = (3 : Int32) → ¬ v1 = (4 : Int32) → ¬ v1 = (5 : Int32) → ¬ v1 = (6 : Int32) → ¬ v1 = (7 : Int32) → (wpX9_gapTold oX oS v1 (fun (r114 : Int32) => post r114)))
theorem pdX9_told : yX9_told.cls = RX9 ∧ yX9_told.cls ≠ "java/lang/invoke/MethodHandle" ∧ yX9_told.cls ≠ "java/lang/invoke/VarHandle" ∧ (parseMethodDescriptor yX9_told.desc).map (fun d => d.parameters.length) = some 1 := by decide +kernel
theorem lkX9_told_32 : Cond.fieldLink RX9 32 (TX9 5).1 (TX9 5).2.1 (TX9 5).2.2.1 ∈ wsX9_told := by decide +kernel
theorem inX9_told_X9 : ∀ w ∈ u_ws RX9 TX9 11, w ∈ wsX9_told := by decide +kernel
theorem lkX9_told_107 : Cond.fieldLink RX9 107 (TX5 0).1 (TX5 0).2.1 (TX5 0).2.2.1 ∈ wsX9_told := by decide +kernel
theorem inX9_told_X5 : ∀ w ∈ u_ws RX5 TX5 2, w ∈ wsX9_told := by decide +kernel
theorem lkX9_told_12 : Cond.fieldLink RX9 12 (TX9 0).1 (TX9 0).2.1 (TX9 0).2.2.1 ∈ wsX9_told := by decide +kernel
theorem lkX9_told_75 : Cond.fieldLink RX9 75 (TX8 0).1 (TX8 0).2.1 (TX8 0).2.2.1 ∈ wsX9_told := by decide +kernel
theorem inX9_told_X8 : ∀ w ∈ u_ws RX8 TX8 13, w ∈ wsX9_told := by decide +kernel
theorem lkX9_told_272 : Cond.fieldLink RX9 272 (TX8 1).1 (TX8 1).2.1 (TX8 1).2.2.1 ∈ wsX9_told := by decide +kernel
theorem lkX9_told_275 : Cond.fieldLink RX9 275 (TX8 2).1 (TX8 2).2.1 (TX8 2).2.2.1 ∈ wsX9_told := by decide +kernel
theorem lkX9_told_278 : Cond.fieldLink RX9 278 (TX8 3).1 (TX8 3).2.1 (TX8 3).2.2.1 ∈ wsX9_told := by decide +kernel
theorem lkX9_told_138 : Cond.fieldLink RX9 138 (TX8 4).1 (TX8 4).2.1 (TX8 4).2.2.1 ∈ wsX9_told := by decide +kernel
theorem lkX9_told_135 : Cond.fieldLink RX9 135 (TX8 5).1 (TX8 5).2.1 (TX8 5).2.2.1 ∈ wsX9_told := by decide +kernel
theorem lkX9_told_201 : Cond.fieldLink RX9 201 (TX8 6).1 (TX8 6).2.1 (TX8 6).2.2.1 ∈ wsX9_told := by decide +kernel
set_option maxHeartbeats 4000000 in
set_option maxRecDepth 100000 in
theorem ctX9_told (l : Launch) (D : va_G) (cI cZ : ClassId) (qX : Nat → Nat) (qS : Nat → Nat) (qI : Nat → Nat) (qJ : Nat → Nat) (qP : Nat → Nat) (qV : Nat → Nat) (qT : Nat → Nat) (qK : Nat → Nat) (qG : Nat → Nat) (qL : Nat → Nat) (qM : Nat → Nat) (oX : Ob) (oS : Ob) (oP : Ob) (v1 : Int32) (post : Int32 → Prop) (h : wpX9_told oX oS oP v1 post) : CTi l yX9_told wsX9_told { frames := 2, cells := 0, slots := 0, locals := 43 } D [(cI, .int), (cZ, .boolean)] [.ref (qX 0), .int v1] (w9 cI cZ qX qS qI qJ qP qV qK qG qL qM oX ++ w8 cI cZ qS oS ++ w5 cI cZ qP oP) (fun _ : Unit => w9 cI cZ qX qS qI qJ qP qV qK qG qL qM oX ++ w8 cI cZ qS oS ++ w5 cI cZ qP oP) (fun (r : Int32) (_ : Unit) => post r) := by
  refine CTi.of (cc := cX9_told) (own := RX9) (maxL := 2) (ret := (some .int)) (lv0 := [(0, .ref (qX 0)), (1, .int v1)]) (by decide) rfl rfl (Nat.le_of_ble_eq_true rfl) rfl ?_
  intro p e s m args below meth c A C
  unfold wpX9_told at h
  refine SW.iload_n C dX9_told_0 rfl 1 rfl ?_
  by_cases hs0 : v1 = (0 : Int32)
  · replace h := h.1 hs0
    refine SW.tableIn (tgt := 48) (off := 47) C dX9_told_1 (by rw [hs0]; decide) (by rw [hs0]; decide) (by rw [hs0]; rfl) (by decide) ?_
    refine SW.aload_n C dX9_told_48 rfl 0 rfl ?_
    refine SW.get (v := .ref (qP 0)) (T := TX9) (N := 11) C inX9_told_X9 0 rfl rfl 5 (by decide) lkX9_told_32 rfl dX9_told_49 ?_
    refine SW.get (v := .int (oP 0 0)) (T := TX5) (N := 2) C inX9_told_X5 8 rfl rfl 0 (by decide) lkX9_told_107 rfl dX9_told_52 ?_
    exact SW.iret C () rfl h dX9_told_55
  by_cases hs1 : v1 = (1 : Int32)
  · replace h := h.2.1 hs1
    refine SW.tableIn (tgt := 56) (off := 55) C dX9_told_1 (by rw [hs1]; decide) (by rw [hs1]; decide) (by rw [hs1]; rfl) (by decide) ?_
    refine SW.aload_n C dX9_told_56 rfl 0 rfl ?_
    refine SW.get (v := .ref (qS 0)) (T := TX9) (N := 11) C inX9_told_X9 0 rfl rfl 0 (by decide) lkX9_told_12 rfl dX9_told_57 ?_
    refine SW.get (v := .int (oS 0 0)) (T := TX8) (N := 13) C inX9_told_X8 1 rfl rfl 0 (by decide) lkX9_told_75 rfl dX9_told_60 ?_
    exact SW.iret C () rfl h dX9_told_63
  by_cases hs2 : v1 = (2 : Int32)
  · replace h := h.2.2.1 hs2
    refine SW.tableIn (tgt := 64) (off := 63) C dX9_told_1 (by rw [hs2]; decide) (by rw [hs2]; decide) (by rw [hs2]; rfl) (by decide) ?_
    refine SW.aload_n C dX9_told_64 rfl 0 rfl ?_
    refine SW.get (v := .ref (qS 0)) (T := TX9) (N := 11) C inX9_told_X9 0 rfl rfl 0 (by decide) lkX9_told_12 rfl dX9_told_65 ?_
    refine SW.get (v := .int (oS 0 1)) (T := TX8) (N := 13) C inX9_told_X8 1 rfl rfl 1 (by decide) lkX9_told_272 rfl dX9_told_68 ?_
    exact SW.iret C () rfl h dX9_told_71
  by_cases hs3 : v1 = (3 : Int32)
  · replace h := h.2.2.2.1 hs3
    refine SW.tableIn (tgt := 72) (off := 71) C dX9_told_1 (by rw [hs3]; decide) (by rw [hs3]; decide) (by rw [hs3]; rfl) (by decide) ?_
    refine SW.aload_n C dX9_told_72 rfl 0 rfl ?_
    refine SW.get (v := .ref (qS 0)) (T := TX9) (N := 11) C inX9_told_X9 0 rfl rfl 0 (by decide) lkX9_told_12 rfl dX9_told_73 ?_
    refine SW.get (v := .int (oS 0 2)) (T := TX8) (N := 13) C inX9_told_X8 1 rfl rfl 2 (by decide) lkX9_told_275 rfl dX9_told_76 ?_
    exact SW.iret C () rfl h dX9_told_79
  by_cases hs4 : v1 = (4 : Int32)
  · replace h := h.2.2.2.2.1 hs4
    refine SW.tableIn (tgt := 80) (off := 79) C dX9_told_1 (by rw [hs4]; decide) (by rw [hs4]; decide) (by rw [hs4]; rfl) (by decide) ?_
    refine SW.aload_n C dX9_told_80 rfl 0 rfl ?_
    refine SW.get (v := .ref (qS 0)) (T := TX9) (N := 11) C inX9_told_X9 0 rfl rfl 0 (by decide) lkX9_told_12 rfl dX9_told_81 ?_
    refine SW.get (v := .int (oS 0 3)) (T := TX8) (N := 13) C inX9_told_X8 1 rfl rfl 3 (by decide) lkX9_told_278 rfl dX9_told_84 ?_
    exact SW.iret C () rfl h dX9_told_87
  by_cases hs5 : v1 = (5 : Int32)
  · replace h := h.2.2.2.2.2.1 hs5
    refine SW.tableIn (tgt := 88) (off := 87) C dX9_told_1 (by rw [hs5]; decide) (by rw [hs5]; decide) (by rw [hs5]; rfl) (by decide) ?_
    refine SW.aload_n C dX9_told_88 rfl 0 rfl ?_
    refine SW.get (v := .ref (qS 0)) (T := TX9) (N := 11) C inX9_told_X9 0 rfl rfl 0 (by decide) lkX9_told_12 rfl dX9_told_89 ?_
    refine SW.get (v := .int (oS 0 4)) (T := TX8) (N := 13) C inX9_told_X8 1 rfl rfl 4 (by decide) lkX9_told_138 rfl dX9_told_92 ?_
    exact SW.iret C () rfl h dX9_told_95
  by_cases hs6 : v1 = (6 : Int32)
  · replace h := h.2.2.2.2.2.2.1 hs6
    refine SW.tableIn (tgt := 96) (off := 95) C dX9_told_1 (by rw [hs6]; decide) (by rw [hs6]; decide) (by rw [hs6]; rfl) (by decide) ?_
    refine SW.aload_n C dX9_told_96 rfl 0 rfl ?_
    refine SW.get (v := .ref (qS 0)) (T := TX9) (N := 11) C inX9_told_X9 0 rfl rfl 0 (by decide) lkX9_told_12 rfl dX9_told_97 ?_
    refine SW.get (v := .int (oS 0 5)) (T := TX8) (N := 13) C inX9_told_X8 1 rfl rfl 5 (by decide) lkX9_told_135 rfl dX9_told_100 ?_
    exact SW.iret C () rfl h dX9_told_103
  by_cases hs7 : v1 = (7 : Int32)
  · replace h := h.2.2.2.2.2.2.2.1 hs7
    refine SW.tableIn (tgt := 104) (off := 103) C dX9_told_1 (by rw [hs7]; decide) (by rw [hs7]; decide) (by rw [hs7]; rfl) (by decide) ?_
    refine SW.aload_n C dX9_told_104 rfl 0 rfl ?_
    refine SW.get (v := .ref (qS 0)) (T := TX9) (N := 11) C inX9_told_X9 0 rfl rfl 0 (by decide) lkX9_told_12 rfl dX9_told_105 ?_
    refine SW.get (v := .int (oS 0 6)) (T := TX8) (N := 13) C inX9_told_X8 1 rfl rfl 6 (by decide) lkX9_told_201 rfl dX9_told_108 ?_
    exact SW.iret C () rfl h dX9_told_111
  replace h := h.2.2.2.2.2.2.2.2 hs0 hs1 hs2 hs3 hs4 hs5 hs6 hs7
  refine SW.tableOut (tgt := 112) C dX9_told_1 (by have e0 := sw_ne hs0; have e1 := sw_ne hs1; have e2 := sw_ne hs2; have e3 := sw_ne hs3; have e4 := sw_ne hs4; have e5 := sw_ne hs5; have e6 := sw_ne hs6; have e7 := sw_ne hs7; simp only [Int32.reduceToInt] at e0 e1 e2 e3 e4 e5 e6 e7; omega) (by decide) ?_
  refine SW.aload_n C dX9_told_112 rfl 0 rfl ?_
  refine SW.iload_n C dX9_told_113 rfl 1 rfl ?_
  refine SW.callVi_sub (wr := w5 cI cZ qP oP) (wn := fun u : Unit => w9 cI cZ qX qS qI qJ qP qV qK qG qL qM oX ++ w8 cI cZ qS oS ++ w5 cI cZ qP oP) C (ctX9_gapTold l D cI cZ qX qS qI qJ qP qV qT qK qG qL qM oX oS v1 _ h) gX9_told_X9_gapTold rfl rfl rfl pdX9_gapTold ⟨by decide, by decide⟩ [0, 1, 2, 3, 4, 5, 6, 7] [8, 9] [2, 3, 4, 5, 6, 7, 8, 9, 0, 1] rfl rfl (by decide) (by decide) (by decide) (by decide) (fun _ => rfl) 0 rfl rfl rfl rfl rfl (Nat.le_of_ble_eq_true rfl) dX9_told_114 (by decide) (fun r114 u h => ?_)
  try dsimp only at h
  exact SW.iret C () rfl h dX9_told_117
