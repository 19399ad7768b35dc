def wpX0_power_L5 (c0_5 : Int32) (c1_5 : Int32) (K22 : Int64 → Prop) : Nat → Int64 → Int32 → Prop
  | 0, _, _ => False
  | fu5 + 1, v2_5, v4_5 => ((c1_5 ≤ v4_5) → K22 v2_5) ∧ (¬ (c1_5 ≤ v4_5) → wpX0_power_L5 c0_5 c1_5 K22 fu5 (v2_5 * (Int32.toInt64 c0_5)) (v4_5 + (1 : Int32)))
def wpX0_power (v0 : Int32) (v1 : Int32) (post : Int64 → Prop) : Prop := ∃ fu5 : Nat, wpX0_power_L5 v0 v1 (fun (v2_22 : Int64) => post v2_22) fu5 (1 : Int64) (0 : Int32)
theorem pdX0_power : yX0_power.cls ≠ "java/lang/invoke/MethodHandle" ∧ yX0_power.cls ≠ "java/lang/invoke/VarHandle" ∧ (parseMethodDescriptor yX0_power.desc).map (fun d => d.parameters.length) = some 2 := by decide +kernel
set_option maxHeartbeats 4000000 in
set_option maxRecDepth 100000 in
theorem ctX0_power (l : Launch) (D : va_G) (cI cZ : ClassId) (v0 : Int32) (v1 : Int32) (post : Int64 → Prop) (h : wpX0_power v0 v1 post) : CTl l yX0_power wsX0_power { frames := 0, cells := 0, slots := 0, locals := 0 } D [(cI, .int), (cZ, .boolean)] [.int v0, .int v1] (([] : va_W)) (fun _ : Unit => ([] : va_W)) (fun (r : Int64) (_ : Unit) => post r) := by
  refine CTl.of (cc := cX0_power) (own := RX0) (maxL := 5) (ret := (some .long)) (lv0 := [(0, .int v0), (1, .int v1)]) (by decide) rfl rfl (Nat.le_of_ble_eq_true rfl) rfl ?_
  intro p e s m args below meth c A C
  unfold wpX0_power at h
  refine SW.lconst (v := (1 : Int64)) C dX0_power_0 (by decide) ?_
  refine SW.lstore_n (lv' := [(2, .long (1 : Int64)), (0, .int v0), (1, .int v1)]) C dX0_power_1 rfl (by decide) rfl ?_
  refine SW.iconst (v := (0 : Int32)) C dX0_power_2 (by decide) ?_
  refine SW.istore (lv' := [(4, .int (0 : Int32)), (2, .long (1 : Int64)), (0, .int v0), (1, .int v1)]) C dX0_power_3 (by decide) rfl ?_
  have L5 : ∀ (K22 : Int64 → Prop) (hK22 : ∀ (v2_22 : Int64), K22 v2_22 → SW p l e { frames := 0, cells := 0, slots := 0, locals := 0 } s m args below meth c A D 5 0 0 (MQ below (va_Ql (fun (r : Int64) (_ : Unit) => post r) (ctB D A (fun _ : Unit => ([] : va_W))) A) args s 0 0 A) (([] : va_W)) 22 [(2, .long v2_22)] []) (fu : Nat) (v2_5 : Int64) (v4_5 : Int32), wpX0_power_L5 v0 v1 K22 fu v2_5 v4_5 → SW p l e { frames := 0, cells := 0, slots := 0, locals := 0 } s m args below meth c A D 5 0 0 (MQ below (va_Ql (fun (r : Int64) (_ : Unit) => post r) (ctB D A (fun _ : Unit => ([] : va_W))) A) args s 0 0 A) (([] : va_W)) 5 [(0, .int v0), (1, .int v1), (2, .long v2_5), (4, .int v4_5)] [] := by
    intro K22 hK22 fu
    induction fu with
    | zero =>
      intro v2_5 v4_5 h
      exact False.elim h
    | succ fu ih =>
      intro v2_5 v4_5 h
      unfold wpX0_power_L5 at h
      refine SW.iload C dX0_power_5 3 rfl ?_
      refine SW.iload_n C dX0_power_7 rfl 1 rfl ?_
      refine SW.icmp_ge (tgt := 22) C dX0_power_8 (by decide) (fun hc => ?_) (fun hc => ?_)
      · replace h := h.1 hc
        refine SW.sub [2] rfl ?_
        exact hK22 _ h
      · replace h := h.2 hc
        refine SW.lload_n C dX0_power_11 rfl 2 rfl ?_
        refine SW.iload_n C dX0_power_12 rfl 0 rfl ?_
        refine SW.i2l C dX0_power_13 ?_
        refine SW.lmul C dX0_power_14 ?_
        refine SW.lstore_n (lv' := [(2, .long (v2_5 * (Int32.toInt64 v0))), (0, .int v0), (1, .int v1), (4, .int v4_5)]) C dX0_power_15 rfl (by decide) rfl ?_
        refine SW.iinc (q := 3) (v := (v4_5 + (1 : Int32))) (lv' := [(4, .int (v4_5 + (1 : Int32))), (2, .long (v2_5 * (Int32.toInt64 v0))), (0, .int v0), (1, .int v1)]) C dX0_power_16 rfl rfl (by decide) rfl ?_
        refine SW.goto (tgt := 5) C dX0_power_19 (by decide) ?_
        refine SW.sub [2, 3, 1, 0] rfl ?_
        exact ih _ _ h
  obtain ⟨fu, h⟩ := h
  refine SW.sub [2, 3, 1, 0] rfl ?_
  refine L5 _ (fun v2_22 h => ?_) fu _ _ h
  · refine SW.lload_n C dX0_power_22 rfl 0 rfl ?_
    exact SW.lret C () rfl h dX0_power_23
def wpX0_ofAll (oS : Ob) (post : Int64 → Prop) : Prop := wpJ6_bitCount_0f7a4 (oS 0 5) (fun (r6 : Int32) => wpX0_power (10 : Int32) r6 (fun (r9 : Int64) => post r9))
theorem pdX0_ofAll : yX0_ofAll.cls ≠ "java/lang/invoke/MethodHandle" ∧ yX0_ofAll.cls ≠ "java/lang/invoke/VarHandle" ∧ (parseMethodDescriptor yX0_ofAll.desc).map (fun d => d.parameters.length) = some 1 := by decide +kernel
theorem lkX0_ofAll_9 : Cond.fieldLink RX0 9 (TX8 5).1 (TX8 5).2.1 (TX8 5).2.2.1 ∈ wsX0_ofAll := by decide +kernel
theorem inX0_ofAll_X8 : ∀ w ∈ u_ws RX8 TX8 13, w ∈ wsX0_ofAll := by decide +kernel
set_option maxHeartbeats 4000000 in
set_option maxRecDepth 100000 in
theorem ctX0_ofAll (l : Launch) (D : va_G) (cI cZ : ClassId) (qS : Nat → Nat) (oS : Ob) (post : Int64 → Prop) (h : wpX0_ofAll oS post) : CTl l yX0_ofAll wsX0_ofAll { frames := 1, cells := 0, slots := 0, locals := 24 } D [(cI, .int), (cZ, .boolean)] [.ref (qS 0)] (w8 cI cZ qS oS) (fun _ : Unit => w8 cI cZ qS oS) (fun (r : Int64) (_ : Unit) => post r) := by
  refine CTl.of (cc := cX0_ofAll) (own := RX0) (maxL := 1) (ret := (some .long)) (lv0 := [(0, .ref (qS 0))]) (by decide) rfl rfl (Nat.le_of_ble_eq_true rfl) rfl ?_
  intro p e s m args below meth c A C
  unfold wpX0_ofAll at h
  refine SW.bipush (v := (10 : Int32)) C dX0_ofAll_0 (by decide) ?_
  refine SW.aload_n C dX0_ofAll_2 rfl 0 rfl ?_
  refine SW.get (v := .int (oS 0 5)) (T := TX8) (N := 13) C inX0_ofAll_X8 0 rfl rfl 5 (by decide) lkX0_ofAll_9 rfl dX0_ofAll_3 ?_
  refine SW.callSi_pure C (ctJ6_bitCount_0f7a4 l D cI cZ (oS 0 5) _ h) gX0_ofAll_J6_bitCount_0f7a4 rfl rfl rfl pdJ6_bitCount_0f7a4 ⟨by decide, by decide⟩ rfl rfl (Nat.le_of_ble_eq_true rfl) dX0_ofAll_6 (by decide) (fun r6 u h => ?_)
  try dsimp only at h
  refine SW.callSl_pure C (ctX0_power l D cI cZ (10 : Int32) r6 _ h) gX0_ofAll_X0_power rfl rfl rfl pdX0_power ⟨by decide, by decide⟩ rfl rfl (Nat.le_of_ble_eq_true rfl) dX0_ofAll_9 (by decide) (fun r9 u h => ?_)
  try dsimp only at h
  exact SW.lret C () rfl h dX0_ofAll_12
def wpX0_isPart (v0 : Int32) (v1 : Int32) (post : Int32 → Prop) : Prop := (((v0 &&& (v1 ^^^ (-1 : Int32))) = 0) → post (1 : Int32)) ∧ (¬ ((v0 &&& (v1 ^^^ (-1 : Int32))) = 0) → post (0 : Int32))
theorem pdX0_isPart : yX0_isPart.cls ≠ "java/lang/invoke/MethodHandle" ∧ yX0_isPart.cls ≠ "java/lang/invoke/VarHandle" ∧ (parseMethodDescriptor yX0_isPart.desc).map (fun d => d.parameters.length) = some 2 := by decide +kernel
set_option maxHeartbeats 4000000 in
set_option maxRecDepth 100000 in
theorem ctX0_isPart (l : Launch) (D : va_G) (cI cZ : ClassId) (v0 : Int32) (v1 : Int32) (post : Int32 → Prop) (h : wpX0_isPart v0 v1 post) : CTi l yX0_isPart wsX0_isPart { frames := 0, cells := 0, slots := 0, locals := 0 } D [(cI, .int), (cZ, .boolean)] [.int v0, .int v1] (([] : va_W)) (fun _ : Unit => ([] : va_W)) (fun (r : Int32) (_ : Unit) => post r) := by
  refine CTi.of (cc := cX0_isPart) (own := RX0) (maxL := 2) (ret := (some .boolean)) (lv0 := [(0, .int v0), (1, .int v1)]) (by decide) rfl rfl (Nat.le_of_ble_eq_true rfl) rfl ?_
  intro p e s m args below meth c A C
  unfold wpX0_isPart at h
  refine SW.iload_n C dX0_isPart_0 rfl 0 rfl ?_
  refine SW.iload_n C dX0_isPart_1 rfl 1 rfl ?_
  refine SW.iconst (v := (-1 : Int32)) C dX0_isPart_2 (by decide) ?_
  refine SW.ixor C dX0_isPart_3 ?_
  refine SW.iand C dX0_isPart_4 ?_
  refine SW.if_ne (tgt := 12) C dX0_isPart_5 (by decide) (fun hc => ?_) (fun hc => ?_)
  · replace h := h.2 hc
    refine SW.iconst (v := (0 : Int32)) C dX0_isPart_12 (by decide) ?_
    exact SW.zret C () (by decide) rfl h dX0_isPart_13
  · replace h := h.1 hc
    refine SW.iconst (v := (1 : Int32)) C dX0_isPart_8 (by decide) ?_
    refine SW.goto (tgt := 13) C dX0_isPart_9 (by decide) ?_
    exact SW.zret C () (by decide) rfl h dX0_isPart_13
def wpX0_toStay (v0 : Int32) (v1 : Int32) (v2 : Int32) (post : Int64 → Prop) : Prop := wpJ6_bitCount_0f7a4 v1 (fun (r1 : Int32) => wpX0_power ((10 : Int32) - v2) r1 (fun (r10 : Int64) => wpJ6_bitCount_0f7a4 v0 (fun (r15 : Int32) => wpX0_power v2 (r15 - r1) (fun (r20 : Int64) => post (r10 * r20)))))
theorem pdX0_toStay : yX0_toStay.cls ≠ "java/lang/invoke/MethodHandle" ∧ yX0_toStay.cls ≠ "java/lang/invoke/VarHandle" ∧ (parseMethodDescriptor yX0_toStay.desc).map (fun d => d.parameters.length) = some 3 := by decide +kernel
set_option maxHeartbeats 4000000 in
set_option maxRecDepth 100000 in
theorem ctX0_toStay (l : Launch) (D : va_G) (cI cZ : ClassId) (v0 : Int32) (v1 : Int32) (v2 : Int32) (post : Int64 → Prop) (h : wpX0_toStay v0 v1 v2 post) : CTl l yX0_toStay wsX0_toStay { frames := 1, cells := 0, slots := 0, locals := 24 } D [(cI, .int), (cZ, .boolean)] [.int v0, .int v1, .int v2] (([] : va_W)) (fun _ : Unit => ([] : va_W)) (fun (r : Int64) (_ : Unit) => post r) := by
  refine CTl.of (cc := cX0_toStay) (own := RX0) (maxL := 4) (ret := (some .long)) (lv0 := [(0, .int v0), (1, .int v1), (2, .int v2)]) (by decide) rfl rfl (Nat.le_of_ble_eq_true rfl) rfl ?_
  intro p e s m args below meth c A C
  unfold wpX0_toStay at h
  refine SW.iload_n C dX0_toStay_0 rfl 1 rfl ?_
  refine SW.callSi_pure C (ctJ6_bitCount_0f7a4 l D cI cZ v1 _ h) gX0_toStay_J6_bitCount_0f7a4 rfl rfl rfl pdJ6_bitCount_0f7a4 ⟨by decide, by decide⟩ rfl rfl (Nat.le_of_ble_eq_true rfl) dX0_toStay_1 (by decide) (fun r1 u h => ?_)
  try dsimp only at h
  refine SW.istore_n (lv' := [(3, .int r1), (0, .int v0), (1, .int v1), (2, .int v2)]) C dX0_toStay_4 rfl (by decide) rfl ?_
  refine SW.bipush (v := (10 : Int32)) C dX0_toStay_5 (by decide) ?_
  refine SW.iload_n C dX0_toStay_7 rfl 3 rfl ?_
  refine SW.isub C dX0_toStay_8 ?_
  refine SW.iload_n C dX0_toStay_9 rfl 0 rfl ?_
  refine SW.callSl_pure C (ctX0_power l D cI cZ ((10 : Int32) - v2) r1 _ h) gX0_toStay_X0_power rfl rfl rfl pdX0_power ⟨by decide, by decide⟩ rfl rfl (Nat.le_of_ble_eq_true rfl) dX0_toStay_10 (by decide) (fun r10 u h => ?_)
  try dsimp only at h
  refine SW.iload_n C dX0_toStay_13 rfl 3 rfl ?_
  refine SW.iload_n C dX0_toStay_14 rfl 1 rfl ?_
  refine SW.callSi_pure C (ctJ6_bitCount_0f7a4 l D cI cZ v0 _ h) gX0_toStay_J6_bitCount_0f7a4 rfl rfl rfl pdJ6_bitCount_0f7a4 ⟨by decide, by decide⟩ rfl rfl (Nat.le_of_ble_eq_true rfl) dX0_toStay_15 (by decide) (fun r15 u h => ?_)
  try dsimp only at h
  refine SW.iload_n C dX0_toStay_18 rfl 0 rfl ?_
  refine SW.isub C dX0_toStay_19 ?_
  refine SW.callSl_pure C (ctX0_power l D cI cZ v2 (r15 - r1) _ h) gX0_toStay_X0_power rfl rfl rfl pdX0_power ⟨by decide, by decide⟩ rfl rfl (Nat.le_of_ble_eq_true rfl) dX0_toStay_20 (by decide) (fun r20 u h => ?_)
  try dsimp only at h
  refine SW.lmul C dX0_toStay_23 ?_
  exact SW.lret C () rfl h dX0_toStay_24
def wpX0_toHear_L6 (c1_6 : Int32) (c2_6 : Int32) (c3_6 : Int32) (oSc_6 : Ob) (K59 : Int64 → Prop) : Nat → Int64 → Int32 → Prop
  | 0, _, _ => False
  | fu6 + 1, v4_6, v6_6 => (((oSc_6 0 5) < v6_6) → K59 v4_6) ∧ (¬ ((oSc_6 0 5) < v6_6) → wpX0_isPart v6_6 (oSc_6 0 5) (fun (r21 : Int32) => jn1 (fun (v4_53 : Int64) => wpX0_toHear_L6 c1_6 c2_6 c3_6 oSc_6 K59 fu6 v4_53 (v6_6 + (1 : Int32))) (fun J53 => ((r21 = 0) → J53 v4_6) ∧ (¬ (r21 = 0) → wpX8_lengthAt oSc_6 c1_6 v6_6 (fun (r31 : Int32) => ((r31 = c2_6) → wpX0_toStay (oSc_6 0 5) v6_6 c3_6 (fun (r47 : Int64) => J53 (v4_6 + r47))) ∧ (¬ (r31 = c2_6) → J53 v4_6))))))
def wpX0_toHear (oS : Ob) (v1 : Int32) (v2 : Int32) (v3 : Int32) (post : Int64 → Prop) : Prop := ∃ fu6 : Nat, wpX0_toHear_L6 v1 v2 v3 oS (fun (v4_59 : Int64) => post v4_59) fu6 (0 : Int64) (0 : Int32)
theorem pdX0_toHear : yX0_toHear.cls ≠ "java/lang/invoke/MethodHandle" ∧ yX0_toHear.cls ≠ "java/lang/invoke/VarHandle" ∧ (parseMethodDescriptor yX0_toHear.desc).map (fun d => d.parameters.length) = some 4 := by decide +kernel
theorem lkX0_toHear_9 : Cond.fieldLink RX0 9 (TX8 5).1 (TX8 5).2.1 (TX8 5).2.2.1 ∈ wsX0_toHear := by decide +kernel
theorem inX0_toHear_X8 : ∀ w ∈ u_ws RX8 TX8 13, w ∈ wsX0_toHear := by decide +kernel
set_option maxHeartbeats 4000000 in
set_option maxRecDepth 100000 in
theorem ctX0_toHear (l : Launch) (D : va_G) (cI cZ : ClassId) (qS : Nat → Nat) (oS : Ob) (v1 : Int32) (v2 : Int32) (v3 : Int32) (post : Int64 → Prop) (h : wpX0_toHear oS v1 v2 v3 post) : CTl l yX0_toHear wsX0_toHear { frames := 3, cells := 0, slots := 0, locals := 66 } D [(cI, .int), (cZ, .boolean)] [.ref (qS 0), .int v1, .int v2, .int v3] (w8 cI cZ qS oS) (fun _ : Unit => w8 cI cZ qS oS) (fun (r : Int64) (_ : Unit) => post r) := by
  refine CTl.of (cc := cX0_toHear) (own := RX0) (maxL := 7) (ret := (some .long)) (lv0 := [(0, .ref (qS 0)), (1, .int v1), (2, .int v2), (3, .int v3)]) (by decide) rfl rfl (Nat.le_of_ble_eq_true rfl) rfl ?_
  intro p e s m args below meth c A C
  unfold wpX0_toHear at h
  refine SW.lconst (v := (0 : Int64)) C dX0_toHear_0 (by decide) ?_
  refine SW.lstore (lv' := [(4, .long (0 : Int64)), (0, .ref (qS 0)), (1, .int v1), (2, .int v2), (3, .int v3)]) C dX0_toHear_1 (by decide) rfl ?_
  refine SW.iconst (v := (0 : Int32)) C dX0_toHear_3 (by decide) ?_
  refine SW.istore (lv' := [(6, .int (0 : Int32)), (4, .long (0 : Int64)), (0, .ref (qS 0)), (1, .int v1), (2, .int v2), (3, .int v3)]) C dX0_toHear_4 (by decide) rfl ?_
  have L6 : ∀ (K59 : Int64 → Prop) (hK59 : ∀ (v4_59 : Int64), K59 v4_59 → SW p l e { frames := 3, cells := 0, slots := 0, locals := 66 } s m args below meth c A D 7 0 0 (MQ below (va_Ql (fun (r : Int64) (_ : Unit) => post r) (ctB D A (fun _ : Unit => w8 cI cZ qS oS)) A) args s 0 0 A) (w8 cI cZ qS oS) 59 [(4, .long v4_59)] []) (fu : Nat) (v4_6 : Int64) (v6_6 : Int32), wpX0_toHear_L6 v1 v2 v3 oS K59 fu v4_6 v6_6 → SW p l e { frames := 3, cells := 0, slots := 0, locals := 66 } s m args below meth c A D 7 0 0 (MQ below (va_Ql (fun (r : Int64) (_ : Unit) => post r) (ctB D A (fun _ : Unit => w8 cI cZ qS oS)) A) args s 0 0 A) (w8 cI cZ qS oS) 6 [(0, .ref (qS 0)), (1, .int v1), (2, .int v2), (3, .int v3), (4, .long v4_6), (6, .int v6_6)] [] := by
    intro K59 hK59 fu
    induction fu with
    | zero =>
      intro v4_6 v6_6 h
      exact False.elim h
    | succ fu ih =>
      intro v4_6 v6_6 h
      unfold wpX0_toHear_L6 at h
      refine SW.iload C dX0_toHear_6 5 rfl ?_
      refine SW.aload_n C dX0_toHear_8 rfl 0 rfl ?_
      refine SW.get (v := .int (oS 0 5)) (T := TX8) (N := 13) C inX0_toHear_X8 0 rfl rfl 5 (by decide) lkX0_toHear_9 rfl dX0_toHear_9 ?_
      refine SW.icmp_gt (tgt := 59) C dX0_toHear_12 (by decide) (fun hc => ?_) (fun hc => ?_)
      · replace h := h.1 hc
        refine SW.sub [4] rfl ?_
        exact hK59 _ h
      · replace h := h.2 hc
        refine SW.iload C dX0_toHear_15 5 rfl ?_
        refine SW.aload_n C dX0_toHear_17 rfl 0 rfl ?_
        refine SW.get (v := .int (oS 0 5)) (T := TX8) (N := 13) C inX0_toHear_X8 0 rfl rfl 5 (by decide) lkX0_toHear_9 rfl dX0_toHear_18 ?_
        refine SW.callSi_pure C (ctX0_isPart l D cI cZ v6_6 (oS 0 5) _ h) gX0_toHear_X0_isPart rfl rfl rfl pdX0_isPart ⟨by decide, by decide⟩ rfl rfl (Nat.le_of_ble_eq_true rfl) dX0_toHear_21 (by decide) (fun r21 u h => ?_)
        try dsimp only at h
        refine jn1_elim (G := fun v4_53 => SW p l e { frames := 3, cells := 0, slots := 0, locals := 66 } s m args below meth c A D 7 0 0 (MQ below (va_Ql (fun (r : Int64) (_ : Unit) => post r) (ctB D A (fun _ : Unit => w8 cI cZ qS oS)) A) args s 0 0 A) (w8 cI cZ qS oS) 53 [(0, .ref (qS 0)), (1, .int v1), (2, .int v2), (3, .int v3), (4, .long v4_53), (6, .int v6_6)] []) h (fun v4_53 h => ?_) (fun J53 hJ53 h => ?_)
        · refine SW.iinc (q := 5) (v := (v6_6 + (1 : Int32))) (lv' := [(6, .int (v6_6 + (1 : Int32))), (0, .ref (qS 0)), (1, .int v1), (2, .int v2), (3, .int v3), (4, .long v4_53)]) C dX0_toHear_53 rfl rfl (by decide) rfl ?_
          refine SW.goto (tgt := 6) C dX0_toHear_56 (by decide) ?_
          refine SW.sub [1, 2, 3, 4, 5, 0] rfl ?_
          exact ih _ _ h
        · refine SW.if_eq (tgt := 53) C dX0_toHear_24 (by decide) (fun hc => ?_) (fun hc => ?_)
          · replace h := h.1 hc
            exact hJ53 _ h
          · replace h := h.2 hc
            refine SW.aload_n C dX0_toHear_27 rfl 0 rfl ?_
            refine SW.iload_n C dX0_toHear_28 rfl 1 rfl ?_
            refine SW.iload C dX0_toHear_29 5 rfl ?_
            refine SW.callVi_same C (ctX8_lengthAt l D cI cZ qS oS v1 v6_6 _ h) gX0_toHear_X8_lengthAt rfl rfl rfl pdX8_lengthAt ⟨by decide, by decide⟩ 0 rfl rfl rfl rfl rfl (Nat.le_of_ble_eq_true rfl) dX0_toHear_31 (by decide) (fun r31 u h => ?_)
            try dsimp only at h
            refine SW.iload_n C dX0_toHear_34 rfl 2 rfl ?_
            refine SW.icmp_ne (tgt := 53) C dX0_toHear_35 (by decide) (fun hc => ?_) (fun hc => ?_)
            · replace h := h.2 hc
              exact hJ53 _ h
            · replace h := h.1 hc
              refine SW.lload C dX0_toHear_38 4 rfl ?_
              refine SW.aload_n C dX0_toHear_40 rfl 0 rfl ?_
              refine SW.get (v := .int (oS 0 5)) (T := TX8) (N := 13) C inX0_toHear_X8 0 rfl rfl 5 (by decide) lkX0_toHear_9 rfl dX0_toHear_41 ?_
              refine SW.iload C dX0_toHear_44 5 rfl ?_
              refine SW.iload_n C dX0_toHear_46 rfl 3 rfl ?_
              refine SW.callSl_pure C (ctX0_toStay l D cI cZ (oS 0 5) v6_6 v3 _ h) gX0_toHear_X0_toStay rfl rfl rfl pdX0_toStay ⟨by decide, by decide⟩ rfl rfl (Nat.le_of_ble_eq_true rfl) dX0_toHear_47 (by decide) (fun r47 u h => ?_)
              try dsimp only at h
              refine SW.ladd C dX0_toHear_50 ?_
              refine SW.lstore (lv' := [(4, .long (v4_6 + r47)), (0, .ref (qS 0)), (1, .int v1), (2, .int v2), (3, .int v3), (6, .int v6_6)]) C dX0_toHear_51 (by decide) rfl ?_
              refine SW.sub [1, 2, 3, 4, 0, 5] rfl ?_
              exact hJ53 _ h
  obtain ⟨fu, h⟩ := h
  refine SW.sub [2, 3, 4, 5, 1, 0] rfl ?_
  refine L6 _ (fun v4_59 h => ?_) fu _ _ h
  · refine SW.lload C dX0_toHear_59 0 rfl ?_
    exact SW.lret C () rfl h dX0_toHear_61
def wpX0_toBeCalm_L5 (c1_5 : Int32) (K54 : Int64 → Ob → Prop) : Nat → Int64 → Int32 → Ob → Prop
  | 0, _, _, _ => False
  | fu5 + 1, v2_5, v4_5, oS_5 => (((oS_5 0 5) < v4_5) → K54 v2_5 oS_5) ∧ (¬ ((oS_5 0 5) < v4_5) → wpX0_isPart v4_5 (oS_5 0 5) (fun (r20 : Int32) => jn2 (fun (v2_48 : Int64) (oS_48 : Ob) => wpX0_toBeCalm_L5 c1_5 K54 fu5 v2_48 (v4_5 + (1 : Int32)) oS_48) (fun J48 => ((r20 = 0) → J48 v2_5 oS_5) ∧ (¬ (r20 = 0) → wpX8_clashesBy oS_5 v4_5 (fun (r29 : Int32) (oS_29 : Ob) => ((r29 = 0) → wpX0_toStay (oS_29 0 5) v4_5 c1_5 (fun (r43 : Int64) => J48 (v2_5 + r43) oS_29)) ∧ (¬ (r29 = 0) → J48 v2_5 oS_29))))))
def wpX0_toBeCalm (oS : Ob) (v1 : Int32) (post : Int64 → Ob → Prop) : Prop := ∃ fu5 : Nat, wpX0_toBeCalm_L5 v1 (fun (v2_54 : Int64) (oS_54 : Ob) => post v2_54 oS_54) fu5 (0 : Int64) (0 : Int32) oS
theorem pdX0_toBeCalm : yX0_toBeCalm.cls ≠ "java/lang/invoke/MethodHandle" ∧ yX0_toBeCalm.cls ≠ "java/lang/invoke/VarHandle" ∧ (parseMethodDescriptor yX0_toBeCalm.desc).map (fun d => d.parameters.length) = some 2 := by decide +kernel
theorem lkX0_toBeCalm_9 : Cond.fieldLink RX0 9 (TX8 5).1 (TX8 5).2.1 (TX8 5).2.2.1 ∈ wsX0_toBeCalm := by decide +kernel
theorem inX0_toBeCalm_X8 : ∀ w ∈ u_ws RX8 TX8 13, w ∈ wsX0_toBeCalm := by decide +kernel
set_option maxHeartbeats 4000000 in
set_option maxRecDepth 100000 in
theorem ctX0_toBeCalm (l : Launch) (D : va_G) (cI cZ : ClassId) (qS : Nat → Nat) (oS : Ob) (v1 : Int32) (post : Int64 → Ob → Prop) (h : wpX0_toBeCalm oS v1 post) : CTl l yX0_toBeCalm wsX0_toBeCalm { frames := 3, cells := 0, slots := 0, locals := 81 } D [(cI, .int), (cZ, .boolean)] [.ref (qS 0), .int v1] (w8 cI cZ qS oS) (fun u : Ob => w8 cI cZ qS u) (fun (r : Int64) (u : Ob) => post r u) := by
  refine CTl.of (cc := cX0_toBeCalm) (own := RX0) (maxL := 5) (ret := (some .long)) (lv0 := [(0, .ref (qS 0)), (1, .int v1)]) (by decide) rfl rfl (Nat.le_of_ble_eq_true rfl) rfl ?_
  intro p e s m args below meth c A C
  unfold wpX0_toBeCalm at h
  refine SW.lconst (v := (0 : Int64)) C dX0_toBeCalm_0 (by decide) ?_
  refine SW.lstore_n (lv' := [(2, .long (0 : Int64)), (0, .ref (qS 0)), (1, .int v1)]) C dX0_toBeCalm_1 rfl (by decide) rfl ?_
  refine SW.iconst (v := (0 : Int32)) C dX0_toBeCalm_2 (by decide) ?_
  refine SW.istore (lv' := [(4, .int (0 : Int32)), (2, .long (0 : Int64)), (0, .ref (qS 0)), (1, .int v1)]) C dX0_toBeCalm_3 (by decide) rfl ?_
  have L5 : ∀ (K54 : Int64 → Ob → Prop) (hK54 : ∀ (v2_54 : Int64) (oS_54 : Ob), K54 v2_54 oS_54 → SW p l e { frames := 3, cells := 0, slots := 0, locals := 81 } s m args below meth c A D 5 0 0 (MQ below (va_Ql (fun (r : Int64) (u : Ob) => post r u) (ctB D A (fun u : Ob => w8 cI cZ qS u)) A) args s 0 0 A) (w8 cI cZ qS oS_54) 54 [(2, .long v2_54)] []) (fu : Nat) (v2_5 : Int64) (v4_5 : Int32) (oS_5 : Ob), wpX0_toBeCalm_L5 v1 K54 fu v2_5 v4_5 oS_5 → SW p l e { frames := 3, cells := 0, slots := 0, locals := 81 } s m args below meth c A D 5 0 0 (MQ below (va_Ql (fun (r : Int64) (u : Ob) => post r u) (ctB D A (fun u : Ob => w8 cI cZ qS u)) A) args s 0 0 A) (w8 cI cZ qS oS_5) 5 [(0, .ref (qS 0)), (1, .int v1), (2, .long v2_5), (4, .int v4_5)] [] := by
    intro K54 hK54 fu
    induction fu with
    | zero =>
      intro v2_5 v4_5 oS_5 h
      exact False.elim h
    | succ fu ih =>
      intro v2_5 v4_5 oS_5 h
      unfold wpX0_toBeCalm_L5 at h
      refine SW.iload C dX0_toBeCalm_5 3 rfl ?_
      refine SW.aload_n C dX0_toBeCalm_7 rfl 0 rfl ?_
      refine SW.get (v := .int (oS_5 0 5)) (T := TX8) (N := 13) C inX0_toBeCalm_X8 0 rfl rfl 5 (by decide) lkX0_toBeCalm_9 rfl dX0_toBeCalm_8 ?_
      refine SW.icmp_gt (tgt := 54) C dX0_toBeCalm_11 (by decide) (fun hc => ?_) (fun hc => ?_)
      · replace h := h.1 hc
        refine SW.sub [2] rfl ?_
        exact hK54 _ _ h
      · replace h := h.2 hc
        refine SW.iload C dX0_toBeCalm_14 3 rfl ?_
        refine SW.aload_n C dX0_toBeCalm_16 rfl 0 rfl ?_
        refine SW.get (v := .int (oS_5 0 5)) (T := TX8) (N := 13) C inX0_toBeCalm_X8 0 rfl rfl 5 (by decide) lkX0_toBeCalm_9 rfl dX0_toBeCalm_17 ?_
        refine SW.callSi_pure C (ctX0_isPart l D cI cZ v4_5 (oS_5 0 5) _ h) gX0_toBeCalm_X0_isPart rfl rfl rfl pdX0_isPart ⟨by decide, by decide⟩ rfl rfl (Nat.le_of_ble_eq_true rfl) dX0_toBeCalm_20 (by decide) (fun r20 u h => ?_)
        try dsimp only at h
        refine jn2_elim (G := fun v2_48 oS_48 => SW p l e { frames := 3, cells := 0, slots := 0, locals := 81 } s m args below meth c A D 5 0 0 (MQ below (va_Ql (fun (r : Int64) (u : Ob) => post r u) (ctB D A (fun u : Ob => w8 cI cZ qS u)) A) args s 0 0 A) (w8 cI cZ qS oS_48) 48 [(0, .ref (qS 0)), (1, .int v1), (2, .long v2_48), (4, .int v4_5)] []) h (fun v2_48 oS_48 h => ?_) (fun J48 hJ48 h => ?_)
        · refine SW.iinc (q := 3) (v := (v4_5 + (1 : Int32))) (lv' := [(4, .int (v4_5 + (1 : Int32))), (0, .ref (qS 0)), (1, .int v1), (2, .long v2_48)]) C dX0_toBeCalm_48 rfl rfl (by decide) rfl ?_
          refine SW.goto (tgt := 5) C dX0_toBeCalm_51 (by decide) ?_
          refine SW.sub [1, 2, 3, 0] rfl ?_
          exact ih _ _ _ h
        · refine SW.if_eq (tgt := 48) C dX0_toBeCalm_23 (by decide) (fun hc => ?_) (fun hc => ?_)
          · replace h := h.1 hc
            exact hJ48 _ _ h
          · replace h := h.2 hc
            refine SW.aload_n C dX0_toBeCalm_26 rfl 0 rfl ?_
            refine SW.iload C dX0_toBeCalm_27 3 rfl ?_
            refine SW.callVi_same C (ctX8_clashesBy l D cI cZ qS oS_5 v4_5 _ h) gX0_toBeCalm_X8_clashesBy rfl rfl rfl pdX8_clashesBy ⟨by decide, by decide⟩ 0 rfl rfl rfl rfl rfl (Nat.le_of_ble_eq_true rfl) dX0_toBeCalm_29 (by decide) (fun r29 u h => ?_)
            obtain ⟨oS_29, rfl⟩ : ∃ z, z = u := ⟨_, rfl⟩
            try dsimp only at h
            refine SW.if_ne (tgt := 48) C dX0_toBeCalm_32 (by decide) (fun hc => ?_) (fun hc => ?_)
            · replace h := h.2 hc
              exact hJ48 _ _ h
            · replace h := h.1 hc
              refine SW.lload_n C dX0_toBeCalm_35 rfl 2 rfl ?_
              refine SW.aload_n C dX0_toBeCalm_36 rfl 0 rfl ?_
              refine SW.get (v := .int (oS_29 0 5)) (T := TX8) (N := 13) C inX0_toBeCalm_X8 0 rfl rfl 5 (by decide) lkX0_toBeCalm_9 rfl dX0_toBeCalm_37 ?_
              refine SW.iload C dX0_toBeCalm_40 3 rfl ?_
              refine SW.iload_n C dX0_toBeCalm_42 rfl 1 rfl ?_
              refine SW.callSl_pure C (ctX0_toStay l D cI cZ (oS_29 0 5) v4_5 v1 _ h) gX0_toBeCalm_X0_toStay rfl rfl rfl pdX0_toStay ⟨by decide, by decide⟩ rfl rfl (Nat.le_of_ble_eq_true rfl) dX0_toBeCalm_43 (by decide) (fun r43 u h => ?_)
              try dsimp only at h
              refine SW.ladd C dX0_toBeCalm_46 ?_
              refine SW.lstore_n (lv' := [(2, .long (v2_5 + r43)), (0, .ref (qS 0)), (1, .int v1), (4, .int v4_5)]) C dX0_toBeCalm_47 rfl (by decide) rfl ?_
              refine SW.sub [1, 2, 0, 3] rfl ?_
              exact hJ48 _ _ h
  obtain ⟨fu, h⟩ := h
  refine SW.sub [2, 3, 1, 0] rfl ?_
  refine L5 _ (fun v2_54 oS_54 h => ?_) fu _ _ _ h
  · refine SW.lload_n C dX0_toBeCalm_54 rfl 0 rfl ?_
    exact SW.lret C oS_54 rfl h dX0_toBeCalm_55
def wpX1_begin (oS : Ob) (oV : Ob) (oT : Ob) (post : Ob → Ob → Prop) : Prop := wpX8_copyFrom oT oS (fun (oT_5 : Ob) => post (pf (pf (pf (pf (pf oV 1 (0 : Int32)) 2 (0 : Int32)) 3 (-6 : Int32)) 4 (0 : Int32)) 5 (0 : Int32)) oT_5)
theorem pdX1_begin : yX1_begin.cls = RX1 ∧ yX1_begin.cls ≠ "java/lang/invoke/MethodHandle" ∧ yX1_begin.cls ≠ "java/lang/invoke/VarHandle" ∧ (parseMethodDescriptor yX1_begin.desc).map (fun d => d.parameters.length) = some 1 := by decide +kernel
theorem lkX1_begin_12 : Cond.fieldLink RX1 12 (TX1 0).1 (TX1 0).2.1 (TX1 0).2.2.1 ∈ wsX1_begin := by decide +kernel
theorem inX1_begin_X1 : ∀ w ∈ u_ws RX1 TX1 6, w ∈ wsX1_begin := by decide +kernel
theorem lkX1_begin_45 : Cond.fieldLink RX1 45 (TX1 1).1 (TX1 1).2.1 (TX1 1).2.2.1 ∈ wsX1_begin := by decide +kernel
theorem lkX1_begin_38 : Cond.fieldLink RX1 38 (TX1 2).1 (TX1 2).2.1 (TX1 2).2.2.1 ∈ wsX1_begin := by decide +kernel
theorem lkX1_begin_18 : Cond.fieldLink RX1 18 (TX1 3).1 (TX1 3).2.1 (TX1 3).2.2.1 ∈ wsX1_begin := by decide +kernel
theorem lkX1_begin_65 : Cond.fieldLink RX1 65 (TX1 4).1 (TX1 4).2.1 (TX1 4).2.2.1 ∈ wsX1_begin := by decide +kernel
theorem lkX1_begin_52 : Cond.fieldLink RX1 52 (TX1 5).1 (TX1 5).2.1 (TX1 5).2.2.1 ∈ wsX1_begin := by decide +kernel
set_option maxHeartbeats 4000000 in
set_option maxRecDepth 100000 in
theorem ctX1_begin (l : Launch) (D : va_G) (cI cZ : ClassId) (qS : Nat → Nat) (qV : Nat → Nat) (qT : Nat → Nat) (oS : Ob) (oV : Ob) (oT : Ob) (post : Ob → Ob → Prop) (h : wpX1_begin oS oV oT post) : CTv l yX1_begin wsX1_begin { frames := 2, cells := 0, slots := 0, locals := 44 } D [(cI, .int), (cZ, .boolean)] [.ref (qV 0), .ref (qS 0)] (w8 cI cZ qS oS ++ w1 cI cZ qV qT oV ++ w8 cI cZ qT oT) (fun u : Ob × Ob => w8 cI cZ qS oS ++ w1 cI cZ qV qT u.1 ++ w8 cI cZ qT u.2) (fun (u : Ob × Ob) => post u.1 u.2) := by
  refine CTv.of (cc := cX1_begin) (own := RX1) (maxL := 2) (ret := none) (lv0 := [(0, .ref (qV 0)), (1, .ref (qS 0))]) (by decide) rfl rfl (Nat.le_of_ble_eq_true rfl) rfl ?_
  intro p e s m args below meth c A C
  unfold wpX1_begin at h
  refine SW.aload_n C dX1_begin_0 rfl 0 rfl ?_
  refine SW.get (v := .ref (qT 0)) (T := TX1) (N := 6) C inX1_begin_X1 7 rfl rfl 0 (by decide) lkX1_begin_12 rfl dX1_begin_1 ?_
  refine SW.aload_n C dX1_begin_4 rfl 1 rfl ?_
  refine SW.callVv_sub (wr := w1 cI cZ qV qT oV) (wn := fun u : Ob => w8 cI cZ qS oS ++ w1 cI cZ qV qT oV ++ w8 cI cZ qT u) C (ctX8_copyFrom l D cI cZ qT qS oT oS _ h) gX1_begin_X8_copyFrom rfl rfl rfl pdX8_copyFrom ⟨by decide, by decide⟩ [8, 9, 10, 11, 12, 13, 14, 0, 1, 2, 3, 4, 5, 6] [7] [8, 9, 10, 11, 12, 13, 14, 0, 1, 2, 3, 4, 5, 6, 7] rfl rfl (by decide) (by decide) (by decide) (by decide) (fun _ => rfl) 0 rfl rfl rfl rfl rfl (Nat.le_of_ble_eq_true rfl) dX1_begin_5 (by decide) (fun u h => ?_)
  obtain ⟨oT_5, rfl⟩ : ∃ z, z = u := ⟨_, rfl⟩
  try dsimp only at h
  refine SW.aload_n C dX1_begin_8 rfl 0 rfl ?_
  refine SW.iconst (v := (0 : Int32)) C dX1_begin_9 (by decide) ?_
  refine SW.put (ws' := w8 cI cZ qS oS ++ w1 cI cZ qV qT (pf oV 1 (0 : Int32)) ++ w8 cI cZ qT oT_5) (T := TX1) (N := 6) C inX1_begin_X1 tyX1 tyX1_ok nmX1 7 rfl rfl 1 (by decide) lkX1_begin_45 rfl rfl rfl (Nat.le_of_ble_eq_true rfl) rfl dX1_begin_10 ?_
  refine SW.aload_n C dX1_begin_13 rfl 0 rfl ?_
  refine SW.iconst (v := (0 : Int32)) C dX1_begin_14 (by decide) ?_
  refine SW.put (ws' := w8 cI cZ qS oS ++ w1 cI cZ qV qT (pf (pf oV 1 (0 : Int32)) 2 (0 : Int32)) ++ w8 cI cZ qT oT_5) (T := TX1) (N := 6) C inX1_begin_X1 tyX1 tyX1_ok nmX1 7 rfl rfl 2 (by decide) lkX1_begin_38 rfl rfl rfl (Nat.le_of_ble_eq_true rfl) rfl dX1_begin_15 ?_
  refine SW.aload_n C dX1_begin_18 rfl 0 rfl ?_
  refine SW.bipush (v := (-6 : Int32)) C dX1_begin_19 (by decide) ?_
  refine SW.put (ws' := w8 cI cZ qS oS ++ w1 cI cZ qV qT (pf (pf (pf oV 1 (0 : Int32)) 2 (0 : Int32)) 3 (-6 : Int32)) ++ w8 cI cZ qT oT_5) (T := TX1) (N := 6) C inX1_begin_X1 tyX1 tyX1_ok nmX1 7 rfl rfl 3 (by decide) lkX1_begin_18 rfl rfl rfl (Nat.le_of_ble_eq_true rfl) rfl dX1_begin_21 ?_
  refine SW.aload_n C dX1_begin_24 rfl 0 rfl ?_
  refine SW.iconst (v := (0 : Int32)) C dX1_begin_25 (by decide) ?_
  refine SW.put (ws' := w8 cI cZ qS oS ++ w1 cI cZ qV qT (pf (pf (pf (pf oV 1 (0 : Int32)) 2 (0 : Int32)) 3 (-6 : Int32)) 4 (0 : Int32)) ++ w8 cI cZ qT oT_5) (T := TX1) (N := 6) C inX1_begin_X1 tyX1 tyX1_ok nmX1 7 rfl rfl 4 (by decide) lkX1_begin_65 rfl rfl rfl (Nat.le_of_ble_eq_true rfl) rfl dX1_begin_26 ?_
  refine SW.aload_n C dX1_begin_29 rfl 0 rfl ?_
  refine SW.iconst (v := (0 : Int32)) C dX1_begin_30 (by decide) ?_
  refine SW.put (ws' := w8 cI cZ qS oS ++ w1 cI cZ qV qT (pf (pf (pf (pf (pf oV 1 (0 : Int32)) 2 (0 : Int32)) 3 (-6 : Int32)) 4 (0 : Int32)) 5 (0 : Int32)) ++ w8 cI cZ qT oT_5) (T := TX1) (N := 6) C inX1_begin_X1 tyX1 tyX1_ok nmX1 7 rfl rfl 5 (by decide) lkX1_begin_52 rfl rfl rfl (Nat.le_of_ble_eq_true rfl) rfl dX1_begin_31 ?_
  exact SW.vret C ((pf (pf (pf (pf (pf oV 1 (0 : Int32)) 2 (0 : Int32)) 3 (-6 : Int32)) 4 (0 : Int32)) 5 (0 : Int32)), oT_5) rfl h dX1_begin_34
def wpX5_signAt (oP : Ob) (v1 : Int32) (post : Int32 → Prop) : Prop := jn0 (post (0 : Int32)) (fun J27 => ((v1 < 0) → J27) ∧ (¬ (v1 < 0) → (((oP 0 0) ≤ v1) → J27) ∧ (¬ ((oP 0 0) ≤ v1) → (((60 : Int32) ≤ v1) → J27) ∧ (¬ ((60 : Int32) ≤ v1) → (vp_in v1 60) ∧ (post (jld (oP 1) v1))))))
theorem pdX5_signAt : yX5_signAt.cls = RX5 ∧ yX5_signAt.cls ≠ "java/lang/invoke/MethodHandle" ∧ yX5_signAt.cls ≠ "java/lang/invoke/VarHandle" ∧ (parseMethodDescriptor yX5_signAt.desc).map (fun d => d.parameters.length) = some 1 := by decide +kernel
theorem lkX5_signAt_9 : Cond.fieldLink RX5 9 (TX5 0).1 (TX5 0).2.1 (TX5 0).2.2.1 ∈ wsX5_signAt := by decide +kernel
theorem inX5_signAt_X5 : ∀ w ∈ u_ws RX5 TX5 2, w ∈ wsX5_signAt := by decide +kernel
theorem lkX5_signAt_15 : Cond.fieldLink RX5 15 (TX5 1).1 (TX5 1).2.1 (TX5 1).2.2.1 ∈ wsX5_signAt := by decide +kernel
set_option maxHeartbeats 4000000 in
set_option maxRecDepth 100000 in
theorem ctX5_signAt (l : Launch) (D : va_G) (cI cZ : ClassId) (qP : Nat → Nat) (oP : Ob) (v1 : Int32) (post : Int32 → Prop) (h : wpX5_signAt oP v1 post) : CTi l yX5_signAt wsX5_signAt { frames := 0, cells := 0, slots := 0, locals := 0 } D [(cI, .int), (cZ, .boolean)] [.ref (qP 0), .int v1] (w5 cI cZ qP oP) (fun _ : Unit => w5 cI cZ qP oP) (fun (r : Int32) (_ : Unit) => post r) := by
  refine CTi.of (cc := cX5_signAt) (own := RX5) (maxL := 2) (ret := (some .int)) (lv0 := [(0, .ref (qP 0)), (1, .int v1)]) (by decide) rfl rfl (Nat.le_of_ble_eq_true rfl) rfl ?_
  intro p e s m args below meth c A C
  unfold wpX5_signAt at h
  refine SW.iload_n C dX5_signAt_0 rfl 1 rfl ?_
  refine jn0_elim (G := SW p l e { frames := 0, cells := 0, slots := 0, locals := 0 } s m args below meth c A D 2 0 0 (MQ below (va_Qi (fun (r : Int32) (_ : Unit) => post r) (ctB D A (fun _ : Unit => w5 cI cZ qP oP)) A) args s 0 0 A) (w5 cI cZ qP oP) 27 [] []) h (fun h => ?_) (fun J27 hJ27 h => ?_)
  · refine SW.iconst (v := (0 : Int32)) C dX5_signAt_27 (by decide) ?_
    exact SW.iret C () rfl h dX5_signAt_28
  · refine SW.if_lt (tgt := 27) C dX5_signAt_1 (by decide) (fun hc => ?_) (fun hc => ?_)
    · replace h := h.1 hc
      refine SW.sub [] rfl ?_
      exact hJ27 h
    · replace h := h.2 hc
      refine SW.iload_n C dX5_signAt_4 rfl 1 rfl ?_
      refine SW.aload_n C dX5_signAt_5 rfl 0 rfl ?_
      refine SW.get (v := .int (oP 0 0)) (T := TX5) (N := 2) C inX5_signAt_X5 0 rfl rfl 0 (by decide) lkX5_signAt_9 rfl dX5_signAt_6 ?_
      refine SW.icmp_ge (tgt := 27) C dX5_signAt_9 (by decide) (fun hc => ?_) (fun hc => ?_)
      · replace h := h.1 hc
        refine SW.sub [] rfl ?_
        exact hJ27 h
      · replace h := h.2 hc
        refine SW.iload_n C dX5_signAt_12 rfl 1 rfl ?_
        refine SW.bipush (v := (60 : Int32)) C dX5_signAt_13 (by decide) ?_
        refine SW.icmp_ge (tgt := 27) C dX5_signAt_15 (by decide) (fun hc => ?_) (fun hc => ?_)
        · replace h := h.1 hc
          refine SW.sub [] rfl ?_
          exact hJ27 h
        · replace h := h.2 hc
          refine SW.aload_n C dX5_signAt_18 rfl 0 rfl ?_
          refine SW.get (v := .ref (qP 1)) (T := TX5) (N := 2) C inX5_signAt_X5 0 rfl rfl 1 (by decide) lkX5_signAt_15 rfl dX5_signAt_19 ?_
          refine SW.iload_n C dX5_signAt_22 rfl 1 rfl ?_
          refine SW.iald C 1 0 rfl rfl h.1 dX5_signAt_23 ?_
          replace h := h.2
          refine SW.goto (tgt := 28) C dX5_signAt_24 (by decide) ?_
          exact SW.iret C () rfl h dX5_signAt_28
def wpX1_perform (oV : Ob) (oT : Ob) (v1 : Int32) (post : Int32 → Ob → Prop) : Prop := ((v1 = (43 : Int32)) → wpX8_moreDamp oT (fun (r10 : Int32) (oT_10 : Ob) => post r10 oT_10)) ∧ (¬ (v1 = (43 : Int32)) → ((v1 = (45 : Int32)) → wpX8_lessDamp oT (fun (r24 : Int32) (oT_24 : Ob) => post r24 oT_24)) ∧ (¬ (v1 = (45 : Int32)) → wpX8_touch oT (v1 - (97 : Int32)) (fun (r36 : Int32) (oT_36 : Ob) => post r36 oT_36)))
theorem pdX1_perform : yX1_perform.cls = RX1 ∧ yX1_perform.cls ≠ "java/lang/invoke/MethodHandle" ∧ yX1_perform.cls ≠ "java/lang/invoke/VarHandle" ∧ (parseMethodDescriptor yX1_perform.desc).map (fun d => d.parameters.length) = some 1 := by decide +kernel
theorem lkX1_perform_12 : Cond.fieldLink RX1 12 (TX1 0).1 (TX1 0).2.1 (TX1 0).2.2.1 ∈ wsX1_perform := by decide +kernel
theorem inX1_perform_X1 : ∀ w ∈ u_ws RX1 TX1 6, w ∈ wsX1_perform := by decide +kernel
set_option maxHeartbeats 4000000 in
set_option maxRecDepth 100000 in
theorem ctX1_perform (l : Launch) (D : va_G) (cI cZ : ClassId) (qV : Nat → Nat) (qT : Nat → Nat) (oV : Ob) (oT : Ob) (v1 : Int32) (post : Int32 → Ob → Prop) (h : wpX1_perform oV oT v1 post) : CTi l yX1_perform wsX1_perform { frames := 3, cells := 0, slots := 0, locals := 63 } D [(cI, .int), (cZ, .boolean)] [.ref (qV 0), .int v1] (w1 cI cZ qV qT oV ++ w8 cI cZ qT oT) (fun u : Ob => w1 cI cZ qV qT oV ++ w8 cI cZ qT u) (fun (r : Int32) (u : Ob) => post r u) := by
  refine CTi.of (cc := cX1_perform) (own := RX1) (maxL := 2) (ret := (some .int)) (lv0 := [(0, .ref (qV 0)), (1, .int v1)]) (by decide) rfl rfl (Nat.le_of_ble_eq_true rfl) rfl ?_
  intro p e s m args below meth c A C
  unfold wpX1_perform at h
  refine SW.iload_n C dX1_perform_0 rfl 1 rfl ?_
  refine SW.bipush (v := (43 : Int32)) C dX1_perform_1 (by decide) ?_
  refine SW.icmp_ne (tgt := 14) C dX1_perform_3 (by decide) (fun hc => ?_) (fun hc => ?_)
  · replace h := h.2 hc
    refine SW.iload_n C dX1_perform_14 rfl 1 rfl ?_
    refine SW.bipush (v := (45 : Int32)) C dX1_perform_15 (by decide) ?_
    refine SW.icmp_ne (tgt := 28) C dX1_perform_17 (by decide) (fun hc => ?_) (fun hc => ?_)
    · replace h := h.2 hc
      refine SW.aload_n C dX1_perform_28 rfl 0 rfl ?_
      refine SW.get (v := .ref (qT 0)) (T := TX1) (N := 6) C inX1_perform_X1 0 rfl rfl 0 (by decide) lkX1_perform_12 rfl dX1_perform_29 ?_
      refine SW.iload_n C dX1_perform_32 rfl 1 rfl ?_
      refine SW.bipush (v := (97 : Int32)) C dX1_perform_33 (by decide) ?_
      refine SW.isub C dX1_perform_35 ?_
      refine SW.callVi_sub (wr := w1 cI cZ qV qT oV) (wn := fun u : Ob => w1 cI cZ qV qT oV ++ w8 cI cZ qT u) C (ctX8_touch l D cI cZ qT oT (v1 - (97 : Int32)) _ h) gX1_perform_X8_touch rfl rfl rfl pdX8_touch ⟨by decide, by decide⟩ [1, 2, 3, 4, 5, 6, 7] [0] [0, 1, 2, 3, 4, 5, 6, 7] rfl rfl (by decide) (by decide) (by decide) (by decide) (fun _ => rfl) 0 rfl rfl rfl rfl rfl (Nat.le_of_ble_eq_true rfl) dX1_perform_36 (by decide) (fun r36 u h => ?_)
      obtain ⟨oT_36, rfl⟩ : ∃ z, z = u := ⟨_, rfl⟩
      try dsimp only at h
      exact SW.iret C oT_36 rfl h dX1_perform_39
    · replace h := h.1 hc
      refine SW.aload_n C dX1_perform_20 rfl 0 rfl ?_
      refine SW.get (v := .ref (qT 0)) (T := TX1) (N := 6) C inX1_perform_X1 0 rfl rfl 0 (by decide) lkX1_perform_12 rfl dX1_perform_21 ?_
      refine SW.callVi_sub (wr := w1 cI cZ qV qT oV) (wn := fun u : Ob => w1 cI cZ qV qT oV ++ w8 cI cZ qT u) C (ctX8_lessDamp l D cI cZ qT oT _ h) gX1_perform_X8_lessDamp rfl rfl rfl pdX8_lessDamp ⟨by decide, by decide⟩ [1, 2, 3, 4, 5, 6, 7] [0] [0, 1, 2, 3, 4, 5, 6, 7] rfl rfl (by decide) (by decide) (by decide) (by decide) (fun _ => rfl) 0 rfl rfl rfl rfl rfl (Nat.le_of_ble_eq_true rfl) dX1_perform_24 (by decide) (fun r24 u h => ?_)
      obtain ⟨oT_24, rfl⟩ : ∃ z, z = u := ⟨_, rfl⟩
      try dsimp only at h
      exact SW.iret C oT_24 rfl h dX1_perform_27
  · replace h := h.1 hc
    refine SW.aload_n C dX1_perform_6 rfl 0 rfl ?_
    refine SW.get (v := .ref (qT 0)) (T := TX1) (N := 6) C inX1_perform_X1 0 rfl rfl 0 (by decide) lkX1_perform_12 rfl dX1_perform_7 ?_
    refine SW.callVi_sub (wr := w1 cI cZ qV qT oV) (wn := fun u : Ob => w1 cI cZ qV qT oV ++ w8 cI cZ qT u) C (ctX8_moreDamp l D cI cZ qT oT _ h) gX1_perform_X8_moreDamp rfl rfl rfl pdX8_moreDamp ⟨by decide, by decide⟩ [1, 2, 3, 4, 5, 6, 7] [0] [0, 1, 2, 3, 4, 5, 6, 7] rfl rfl (by decide) (by decide) (by decide) (by decide) (fun _ => rfl) 0 rfl rfl rfl rfl rfl (Nat.le_of_ble_eq_true rfl) dX1_perform_10 (by decide) (fun r10 u h => ?_)
    obtain ⟨oT_10, rfl⟩ : ∃ z, z = u := ⟨_, rfl⟩
    try dsimp only at h
    exact SW.iret C oT_10 rfl h dX1_perform_13
def wpX1_listenAt (oV : Ob) (oT : Ob) (v1 : Int32) (post : Ob → Ob → Prop) : Prop := wpX8_clashesBy oT (oT 0 5) (fun (r11 : Int32) (oT_11 : Ob) => ((r11 = 0) → post oV oT_11) ∧ (¬ (r11 = 0) → jn1 (fun (oV_30 : Ob) => post (pf oV_30 4 ((oV_30 0 4) + (1 : Int32))) oT_11) (fun J30 => (((oV 0 4) = 0) → J30 (pf oV 3 v1)) ∧ (¬ ((oV 0 4) = 0) → J30 oV))))
theorem pdX1_listenAt : yX1_listenAt.cls = RX1 ∧ yX1_listenAt.cls ≠ "java/lang/invoke/MethodHandle" ∧ yX1_listenAt.cls ≠ "java/lang/invoke/VarHandle" ∧ (parseMethodDescriptor yX1_listenAt.desc).map (fun d => d.parameters.length) = some 1 := by decide +kernel
theorem lkX1_listenAt_12 : Cond.fieldLink RX1 12 (TX1 0).1 (TX1 0).2.1 (TX1 0).2.2.1 ∈ wsX1_listenAt := by decide +kernel
theorem inX1_listenAt_X1 : ∀ w ∈ u_ws RX1 TX1 6, w ∈ wsX1_listenAt := by decide +kernel
theorem lkX1_listenAt_55 : Cond.fieldLink RX1 55 (TX8 5).1 (TX8 5).2.1 (TX8 5).2.2.1 ∈ wsX1_listenAt := by decide +kernel
theorem inX1_listenAt_X8 : ∀ w ∈ u_ws RX8 TX8 13, w ∈ wsX1_listenAt := by decide +kernel
theorem lkX1_listenAt_65 : Cond.fieldLink RX1 65 (TX1 4).1 (TX1 4).2.1 (TX1 4).2.2.1 ∈ wsX1_listenAt := by decide +kernel
theorem lkX1_listenAt_18 : Cond.fieldLink RX1 18 (TX1 3).1 (TX1 3).2.1 (TX1 3).2.2.1 ∈ wsX1_listenAt := by decide +kernel
set_option maxHeartbeats 4000000 in
set_option maxRecDepth 100000 in
theorem ctX1_listenAt (l : Launch) (D : va_G) (cI cZ : ClassId) (qV : Nat → Nat) (qT : Nat → Nat) (oV : Ob) (oT : Ob) (v1 : Int32) (post : Ob → Ob → Prop) (h : wpX1_listenAt oV oT v1 post) : CTv l yX1_listenAt wsX1_listenAt { frames := 3, cells := 0, slots := 0, locals := 81 } D [(cI, .int), (cZ, .boolean)] [.ref (qV 0), .int v1] (w1 cI cZ qV qT oV ++ w8 cI cZ qT oT) (fun u : Ob × Ob => w1 cI cZ qV qT u.1 ++ w8 cI cZ qT u.2) (fun (u : Ob × Ob) => post u.1 u.2) := by
  refine CTv.of (cc := cX1_listenAt) (own := RX1) (maxL := 2) (ret := none) (lv0 := [(0, .ref (qV 0)), (1, .int v1)]) (by decide) rfl rfl (Nat.le_of_ble_eq_true rfl) rfl ?_
  intro p e s m args below meth c A C
  unfold wpX1_listenAt at h
  refine SW.aload_n C dX1_listenAt_0 rfl 0 rfl ?_
  refine SW.get (v := .ref (qT 0)) (T := TX1) (N := 6) C inX1_listenAt_X1 0 rfl rfl 0 (by decide) lkX1_listenAt_12 rfl dX1_listenAt_1 ?_
  refine SW.aload_n C dX1_listenAt_4 rfl 0 rfl ?_
  refine SW.get (v := .ref (qT 0)) (T := TX1) (N := 6) C inX1_listenAt_X1 0 rfl rfl 0 (by decide) lkX1_listenAt_12 rfl dX1_listenAt_5 ?_
  refine SW.get (v := .int (oT 0 5)) (T := TX8) (N := 13) C inX1_listenAt_X8 1 rfl rfl 5 (by decide) lkX1_listenAt_55 rfl dX1_listenAt_8 ?_
  refine SW.callVi_sub (wr := w1 cI cZ qV qT oV) (wn := fun u : Ob => w1 cI cZ qV qT oV ++ w8 cI cZ qT u) C (ctX8_clashesBy l D cI cZ qT oT (oT 0 5) _ h) gX1_listenAt_X8_clashesBy rfl rfl rfl pdX8_clashesBy ⟨by decide, by decide⟩ [1, 2, 3, 4, 5, 6, 7] [0] [0, 1, 2, 3, 4, 5, 6, 7] rfl rfl (by decide) (by decide) (by decide) (by decide) (fun _ => rfl) 0 rfl rfl rfl rfl rfl (Nat.le_of_ble_eq_true rfl) dX1_listenAt_11 (by decide) (fun r11 u h => ?_)
  obtain ⟨oT_11, rfl⟩ : ∃ z, z = u := ⟨_, rfl⟩
  try dsimp only at h
  refine SW.if_ne (tgt := 18) C dX1_listenAt_14 (by decide) (fun hc => ?_) (fun hc => ?_)
  · replace h := h.2 hc
    refine SW.aload_n C dX1_listenAt_18 rfl 0 rfl ?_
    refine SW.get (v := .int (oV 0 4)) (T := TX1) (N := 6) C inX1_listenAt_X1 0 rfl rfl 4 (by decide) lkX1_listenAt_65 rfl dX1_listenAt_19 ?_
    refine jn1_elim (G := fun oV_30 => SW p l e { frames := 3, cells := 0, slots := 0, locals := 81 } s m args below meth c A D 2 0 0 (MQ below (va_Qv (fun (u : Ob × Ob) => post u.1 u.2) (ctB D A (fun u : Ob × Ob => w1 cI cZ qV qT u.1 ++ w8 cI cZ qT u.2)) A) args s 0 0 A) (w1 cI cZ qV qT oV_30 ++ w8 cI cZ qT oT_11) 30 [(0, .ref (qV 0))] []) h (fun oV_30 h => ?_) (fun J30 hJ30 h => ?_)
    · refine SW.aload_n C dX1_listenAt_30 rfl 0 rfl ?_
      refine SW.dup C dX1_listenAt_31 rfl ?_
      refine SW.get (v := .int (oV_30 0 4)) (T := TX1) (N := 6) C inX1_listenAt_X1 0 rfl rfl 4 (by decide) lkX1_listenAt_65 rfl dX1_listenAt_32 ?_
      refine SW.iconst (v := (1 : Int32)) C dX1_listenAt_35 (by decide) ?_
      refine SW.iadd C dX1_listenAt_36 ?_
      refine SW.put (ws' := w1 cI cZ qV qT (pf oV_30 4 ((oV_30 0 4) + (1 : Int32))) ++ w8 cI cZ qT oT_11) (T := TX1) (N := 6) C inX1_listenAt_X1 tyX1 tyX1_ok nmX1 0 rfl rfl 4 (by decide) lkX1_listenAt_65 rfl rfl rfl (Nat.le_of_ble_eq_true rfl) rfl dX1_listenAt_37 ?_
      exact SW.vret C ((pf oV_30 4 ((oV_30 0 4) + (1 : Int32))), oT_11) rfl h dX1_listenAt_40
    · refine SW.if_ne (tgt := 30) C dX1_listenAt_22 (by decide) (fun hc => ?_) (fun hc => ?_)
      · replace h := h.2 hc
        refine SW.sub [0] rfl ?_
        exact hJ30 _ h
      · replace h := h.1 hc
        refine SW.aload_n C dX1_listenAt_25 rfl 0 rfl ?_
        refine SW.iload_n C dX1_listenAt_26 rfl 1 rfl ?_
        refine SW.put (ws' := w1 cI cZ qV qT (pf oV 3 v1) ++ w8 cI cZ qT oT_11) (T := TX1) (N := 6) C inX1_listenAt_X1 tyX1 tyX1_ok nmX1 0 rfl rfl 3 (by decide) lkX1_listenAt_18 rfl rfl rfl (Nat.le_of_ble_eq_true rfl) rfl dX1_listenAt_27 ?_
        refine SW.sub [0] rfl ?_
        exact hJ30 _ h
  · replace h := h.1 hc
    exact SW.vret C (oV, oT_11) rfl h dX1_listenAt_17
def wpX1_play_L8 (c3_8 : Int32) (oPc_8 : Ob) (post : Ob → Ob → Prop) (K79 : Ob → Ob → Prop) : Nat → Int32 → Ob → Ob → Prop
  | 0, _, _, _ => False
  | fu8 + 1, v4_8, oV_8, oT_8 => (((oPc_8 0 0) ≤ v4_8) → K79 oV_8 oT_8) ∧ (¬ ((oPc_8 0 0) ≤ v4_8) → wpX5_signAt oPc_8 v4_8 (fun (r20 : Int32) => jn2 (fun (oV_55 : Ob) (oT_55 : Ob) => (((oV_55 0 2) = 0) → wpX1_play_L8 c3_8 oPc_8 post K79 fu8 (v4_8 + (1 : Int32)) (pf oV_55 1 ((oV_55 0 1) + (1 : Int32))) oT_55) ∧ (¬ ((oV_55 0 2) = 0) → post oV_55 oT_55)) (fun J55 => ((r20 = (46 : Int32)) → ((c3_8 = 0) → J55 oV_8 oT_8) ∧ (¬ (c3_8 = 0) → wpX1_listenAt oV_8 oT_8 v4_8 (fun (oV_52 : Ob) (oT_52 : Ob) => J55 oV_52 oT_52))) ∧ (¬ (r20 = (46 : Int32)) → wpX1_perform oV_8 oT_8 r20 (fun (r36 : Int32) (oT_36 : Ob) => J55 (pf oV_8 2 r36) oT_36)))))
def wpX1_play (oS : Ob) (oP : Ob) (oV : Ob) (oT : Ob) (v3 : Int32) (post : Ob → Ob → Prop) : Prop := wpX1_begin oS oV oT (fun (oV_2 : Ob) (oT_2 : Ob) => ∃ fu8 : Nat, wpX1_play_L8 v3 oP post (fun (oV_79 : Ob) (oT_79 : Ob) => post oV_79 oT_79) fu8 (0 : Int32) oV_2 oT_2)
theorem pdX1_play : yX1_play.cls = RX1 ∧ yX1_play.cls ≠ "java/lang/invoke/MethodHandle" ∧ yX1_play.cls ≠ "java/lang/invoke/VarHandle" ∧ (parseMethodDescriptor yX1_play.desc).map (fun d => d.parameters.length) = some 3 := by decide +kernel
theorem lkX1_play_26 : Cond.fieldLink RX1 26 (TX5 0).1 (TX5 0).2.1 (TX5 0).2.2.1 ∈ wsX1_play := by decide +kernel
theorem inX1_play_X5 : ∀ w ∈ u_ws RX5 TX5 2, w ∈ wsX1_play := by decide +kernel
theorem lkX1_play_38 : Cond.fieldLink RX1 38 (TX1 2).1 (TX1 2).2.1 (TX1 2).2.2.1 ∈ wsX1_play := by decide +kernel
theorem inX1_play_X1 : ∀ w ∈ u_ws RX1 TX1 6, w ∈ wsX1_play := by decide +kernel
theorem lkX1_play_45 : Cond.fieldLink RX1 45 (TX1 1).1 (TX1 1).2.1 (TX1 1).2.2.1 ∈ wsX1_play := by decide +kernel
set_option maxHeartbeats 4000000 in
set_option maxRecDepth 100000 in
theorem ctX1_play (l : Launch) (D : va_G) (cI cZ : ClassId) (qS : Nat → Nat) (qP : Nat → Nat) (qV : Nat → Nat) (qT : Nat → Nat) (oS : Ob) (oP : Ob) (oV : Ob) (oT : Ob) (v3 : Int32) (post : Ob → Ob → Prop) (h : wpX1_play oS oP oV oT v3 post) : CTv l yX1_play wsX1_play { frames := 4, cells := 0, slots := 0, locals := 102 } D [(cI, .int), (cZ, .boolean)] [.ref (qV 0), .ref (qP 0), .ref (qS 0), .int v3] (w8 cI cZ qS oS ++ w5 cI cZ qP oP ++ w1 cI cZ qV qT oV ++ w8 cI cZ qT oT) (fun u : Ob × Ob => w8 cI cZ qS oS ++ w5 cI cZ qP oP ++ w1 cI cZ qV qT u.1 ++ w8 cI cZ qT u.2) (fun (u : Ob × Ob) => post u.1 u.2) := by
  refine CTv.of (cc := cX1_play) (own := RX1) (maxL := 6) (ret := none) (lv0 := [(0, .ref (qV 0)), (1, .ref (qP 0)), (2, .ref (qS 0)), (3, .int v3)]) (by decide) rfl rfl (Nat.le_of_ble_eq_true rfl) rfl ?_
  intro p e s m args below meth c A C
  unfold wpX1_play at h
  refine SW.aload_n C dX1_play_0 rfl 0 rfl ?_
  refine SW.aload_n C dX1_play_1 rfl 2 rfl ?_
  refine SW.callVv_sub (wr := w5 cI cZ qP oP) (wn := fun u : Ob × Ob => w8 cI cZ qS oS ++ w5 cI cZ qP oP ++ w1 cI cZ qV qT u.1 ++ w8 cI cZ qT u.2) C (ctX1_begin l D cI cZ qS qV qT oS oV oT _ h) gX1_play_X1_begin rfl rfl rfl pdX1_begin ⟨by decide, by decide⟩ [0, 1, 2, 3, 4, 5, 6, 9, 10, 11, 12, 13, 14, 15, 16] [7, 8] [2, 3, 4, 5, 6, 7, 8, 0, 1, 9, 10, 11, 12, 13, 14, 15, 16] rfl rfl (by decide) (by decide) (by decide) (by decide) (fun _ => rfl) 7 rfl rfl rfl rfl rfl (Nat.le_of_ble_eq_true rfl) dX1_play_2 (by decide) (fun u h => ?_)
  obtain ⟨oV_2, oT_2⟩ := u
  try dsimp only at h
  refine SW.iconst (v := (0 : Int32)) C dX1_play_5 (by decide) ?_
  refine SW.istore (lv' := [(4, .int (0 : Int32)), (0, .ref (qV 0)), (1, .ref (qP 0)), (2, .ref (qS 0)), (3, .int v3)]) C dX1_play_6 (by decide) rfl ?_
  have L8 : ∀ (K79 : Ob → Ob → Prop) (hK79 : ∀ (oV_79 : Ob) (oT_79 : Ob), K79 oV_79 oT_79 → SW p l e { frames := 4, cells := 0, slots := 0, locals := 102 } s m args below meth c A D 6 0 0 (MQ below (va_Qv (fun (u : Ob × Ob) => post u.1 u.2) (ctB D A (fun u : Ob × Ob => w8 cI cZ qS oS ++ w5 cI cZ qP oP ++ w1 cI cZ qV qT u.1 ++ w8 cI cZ qT u.2)) A) args s 0 0 A) (w8 cI cZ qS oS ++ w5 cI cZ qP oP ++ w1 cI cZ qV qT oV_79 ++ w8 cI cZ qT oT_79) 79 [] []) (fu : Nat) (v4_8 : Int32) (oV_8 : Ob) (oT_8 : Ob), wpX1_play_L8 v3 oP post K79 fu v4_8 oV_8 oT_8 → SW p l e { frames := 4, cells := 0, slots := 0, locals := 102 } s m args below meth c A D 6 0 0 (MQ below (va_Qv (fun (u : Ob × Ob) => post u.1 u.2) (ctB D A (fun u : Ob × Ob => w8 cI cZ qS oS ++ w5 cI cZ qP oP ++ w1 cI cZ qV qT u.1 ++ w8 cI cZ qT u.2)) A) args s 0 0 A) (w8 cI cZ qS oS ++ w5 cI cZ qP oP ++ w1 cI cZ qV qT oV_8 ++ w8 cI cZ qT oT_8) 8 [(0, .ref (qV 0)), (1, .ref (qP 0)), (3, .int v3), (4, .int v4_8)] [] := by
    intro K79 hK79 fu
    induction fu with
    | zero =>
      intro v4_8 oV_8 oT_8 h
      exact False.elim h
    | succ fu ih =>
      intro v4_8 oV_8 oT_8 h
      unfold wpX1_play_L8 at h
      refine SW.iload C dX1_play_8 3 rfl ?_
      refine SW.aload_n C dX1_play_10 rfl 1 rfl ?_
      refine SW.get (v := .int (oP 0 0)) (T := TX5) (N := 2) C inX1_play_X5 7 rfl rfl 0 (by decide) lkX1_play_26 rfl dX1_play_11 ?_
      refine SW.icmp_ge (tgt := 79) C dX1_play_14 (by decide) (fun hc => ?_) (fun hc => ?_)
      · replace h := h.1 hc
        refine SW.sub [] rfl ?_
        exact hK79 _ _ h
      · replace h := h.2 hc
        refine SW.aload_n C dX1_play_17 rfl 1 rfl ?_
        refine SW.iload C dX1_play_18 3 rfl ?_
        refine SW.callVi_sub (wr := w8 cI cZ qS oS ++ w1 cI cZ qV qT oV_8 ++ w8 cI cZ qT oT_8) (wn := fun u : Unit => w8 cI cZ qS oS ++ w5 cI cZ qP oP ++ w1 cI cZ qV qT oV_8 ++ w8 cI cZ qT oT_8) C (ctX5_signAt l D cI cZ qP oP v4_8 _ h) gX1_play_X5_signAt rfl rfl rfl pdX5_signAt ⟨by decide, by decide⟩ [7, 8] [0, 1, 2, 3, 4, 5, 6, 9, 10, 11, 12, 13, 14, 15, 16] [0, 1, 2, 3, 4, 5, 6, 15, 16, 7, 8, 9, 10, 11, 12, 13, 14] rfl rfl (by decide) (by decide) (by decide) (by decide) (fun _ => rfl) 0 rfl rfl rfl rfl rfl (Nat.le_of_ble_eq_true rfl) dX1_play_20 (by decide) (fun r20 u h => ?_)
        try dsimp only at h
        refine SW.istore (lv' := [(5, .int r20), (0, .ref (qV 0)), (1, .ref (qP 0)), (3, .int v3), (4, .int v4_8)]) C dX1_play_23 (by decide) rfl ?_
        refine SW.iload C dX1_play_25 0 rfl ?_
        refine SW.bipush (v := (46 : Int32)) C dX1_play_27 (by decide) ?_
        refine jn2_elim (G := fun oV_55 oT_55 => SW p l e { frames := 4, cells := 0, slots := 0, locals := 102 } s m args below meth c A D 6 0 0 (MQ below (va_Qv (fun (u : Ob × Ob) => post u.1 u.2) (ctB D A (fun u : Ob × Ob => w8 cI cZ qS oS ++ w5 cI cZ qP oP ++ w1 cI cZ qV qT u.1 ++ w8 cI cZ qT u.2)) A) args s 0 0 A) (w8 cI cZ qS oS ++ w5 cI cZ qP oP ++ w1 cI cZ qV qT oV_55 ++ w8 cI cZ qT oT_55) 55 [(0, .ref (qV 0)), (1, .ref (qP 0)), (3, .int v3), (4, .int v4_8)] []) h (fun oV_55 oT_55 h => ?_) (fun J55 hJ55 h => ?_)
        · refine SW.aload_n C dX1_play_55 rfl 0 rfl ?_
          refine SW.get (v := .int (oV_55 0 2)) (T := TX1) (N := 6) C inX1_play_X1 9 rfl rfl 2 (by decide) lkX1_play_38 rfl dX1_play_56 ?_
          refine SW.if_eq (tgt := 63) C dX1_play_59 (by decide) (fun hc => ?_) (fun hc => ?_)
          · replace h := h.1 hc
            refine SW.aload_n C dX1_play_63 rfl 0 rfl ?_
            refine SW.dup C dX1_play_64 rfl ?_
            refine SW.get (v := .int (oV_55 0 1)) (T := TX1) (N := 6) C inX1_play_X1 9 rfl rfl 1 (by decide) lkX1_play_45 rfl dX1_play_65 ?_
            refine SW.iconst (v := (1 : Int32)) C dX1_play_68 (by decide) ?_
            refine SW.iadd C dX1_play_69 ?_
            refine SW.put (ws' := w8 cI cZ qS oS ++ w5 cI cZ qP oP ++ w1 cI cZ qV qT (pf oV_55 1 ((oV_55 0 1) + (1 : Int32))) ++ w8 cI cZ qT oT_55) (T := TX1) (N := 6) C inX1_play_X1 tyX1 tyX1_ok nmX1 9 rfl rfl 1 (by decide) lkX1_play_45 rfl rfl rfl (Nat.le_of_ble_eq_true rfl) rfl dX1_play_70 ?_
            refine SW.iinc (q := 3) (v := (v4_8 + (1 : Int32))) (lv' := [(4, .int (v4_8 + (1 : Int32))), (0, .ref (qV 0)), (1, .ref (qP 0)), (3, .int v3)]) C dX1_play_73 rfl rfl (by decide) rfl ?_
            refine SW.goto (tgt := 8) C dX1_play_76 (by decide) ?_
            refine SW.sub [1, 2, 3, 0] rfl ?_
            exact ih _ _ _ h
          · replace h := h.2 hc
            exact SW.vret C (oV_55, oT_55) rfl h dX1_play_62
        · refine SW.icmp_eq (tgt := 45) C dX1_play_29 (by decide) (fun hc => ?_) (fun hc => ?_)
          · replace h := h.1 hc
            refine SW.iload_n C dX1_play_45 rfl 3 rfl ?_
            refine SW.if_eq (tgt := 55) C dX1_play_46 (by decide) (fun hc => ?_) (fun hc => ?_)
            · replace h := h.1 hc
              refine SW.sub [1, 2, 3, 4] rfl ?_
              exact hJ55 _ _ h
            · replace h := h.2 hc
              refine SW.aload_n C dX1_play_49 rfl 1 rfl ?_
              refine SW.iload C dX1_play_50 4 rfl ?_
              refine SW.callVv_sub (wr := w8 cI cZ qS oS ++ w5 cI cZ qP oP) (wn := fun u : Ob × Ob => w8 cI cZ qS oS ++ w5 cI cZ qP oP ++ w1 cI cZ qV qT u.1 ++ w8 cI cZ qT u.2) C (ctX1_listenAt l D cI cZ qV qT oV_8 oT_8 v4_8 _ h) gX1_play_X1_listenAt rfl rfl rfl pdX1_listenAt ⟨by decide, by decide⟩ [9, 10, 11, 12, 13, 14, 15, 16] [0, 1, 2, 3, 4, 5, 6, 7, 8] [0, 1, 2, 3, 4, 5, 6, 7, 8, 9, 10, 11, 12, 13, 14, 15, 16] rfl rfl (by decide) (by decide) (by decide) (by decide) (fun _ => rfl) 0 rfl rfl rfl rfl rfl (Nat.le_of_ble_eq_true rfl) dX1_play_52 (by decide) (fun u h => ?_)
              obtain ⟨oV_52, oT_52⟩ := u
              try dsimp only at h
              refine SW.sub [1, 2, 3, 4] rfl ?_
              exact hJ55 _ _ h
          · replace h := h.2 hc
            refine SW.aload_n C dX1_play_32 rfl 1 rfl ?_
            refine SW.aload_n C dX1_play_33 rfl 1 rfl ?_
            refine SW.iload C dX1_play_34 0 rfl ?_
            refine SW.callVi_sub (wr := w8 cI cZ qS oS ++ w5 cI cZ qP oP) (wn := fun u : Ob => w8 cI cZ qS oS ++ w5 cI cZ qP oP ++ w1 cI cZ qV qT oV_8 ++ w8 cI cZ qT u) C (ctX1_perform l D cI cZ qV qT oV_8 oT_8 r20 _ h) gX1_play_X1_perform rfl rfl rfl pdX1_perform ⟨by decide, by decide⟩ [9, 10, 11, 12, 13, 14, 15, 16] [0, 1, 2, 3, 4, 5, 6, 7, 8] [0, 1, 2, 3, 4, 5, 6, 7, 8, 9, 10, 11, 12, 13, 14, 15, 16] rfl rfl (by decide) (by decide) (by decide) (by decide) (fun _ => rfl) 0 rfl rfl rfl rfl rfl (Nat.le_of_ble_eq_true rfl) dX1_play_36 (by decide) (fun r36 u h => ?_)
            obtain ⟨oT_36, rfl⟩ : ∃ z, z = u := ⟨_, rfl⟩
            try dsimp only at h
            refine SW.put (ws' := w8 cI cZ qS oS ++ w5 cI cZ qP oP ++ w1 cI cZ qV qT (pf oV_8 2 r36) ++ w8 cI cZ qT oT_36) (T := TX1) (N := 6) C inX1_play_X1 tyX1 tyX1_ok nmX1 9 rfl rfl 2 (by decide) lkX1_play_38 rfl rfl rfl (Nat.le_of_ble_eq_true rfl) rfl dX1_play_39 ?_
            refine SW.goto (tgt := 55) C dX1_play_42 (by decide) ?_
            refine SW.sub [1, 2, 3, 4] rfl ?_
            exact hJ55 _ _ h
  obtain ⟨fu, h⟩ := h
  refine SW.sub [1, 2, 4, 0] rfl ?_
  refine L8 _ (fun oV_79 oT_79 h => ?_) fu _ _ _ h
  · exact SW.vret C (oV_79, oT_79) rfl h dX1_play_79
def wpX1_performDrawn (oV : Ob) (oT : Ob) (v1 : Int32) (post : Ob → Prop) : Prop := (((jrem v1 (5 : Int32)) = 0) → wpX8_moreDamp oT (fun (r12 : Int32) (oT_12 : Ob) => post oT_12)) ∧ (¬ ((jrem v1 (5 : Int32)) = 0) → (((jrem v1 (5 : Int32)) = (1 : Int32)) → wpX8_lessDamp oT (fun (r28 : Int32) (oT_28 : Ob) => post oT_28)) ∧ (¬ ((jrem v1 (5 : Int32)) = (1 : Int32)) → (((oT 0 0) ≤ 0) → post oT) ∧ (¬ ((oT 0 0) ≤ 0) → (¬ (oT 0 0) = 0) ∧ (wpX8_touch oT (jrem (v1 / (5 : Int32)) (oT 0 0)) (fun (r60 : Int32) (oT_60 : Ob) => post oT_60)))))
theorem pdX1_performDrawn : yX1_performDrawn.cls = RX1 ∧ yX1_performDrawn.cls ≠ "java/lang/invoke/MethodHandle" ∧ yX1_performDrawn.cls ≠ "java/lang/invoke/VarHandle" ∧ (parseMethodDescriptor yX1_performDrawn.desc).map (fun d => d.parameters.length) = some 1 := by decide +kernel
theorem lkX1_performDrawn_12 : Cond.fieldLink RX1 12 (TX1 0).1 (TX1 0).2.1 (TX1 0).2.2.1 ∈ wsX1_performDrawn := by decide +kernel
theorem inX1_performDrawn_X1 : ∀ w ∈ u_ws RX1 TX1 6, w ∈ wsX1_performDrawn := by decide +kernel
theorem lkX1_performDrawn_78 : Cond.fieldLink RX1 78 (TX8 0).1 (TX8 0).2.1 (TX8 0).2.2.1 ∈ wsX1_performDrawn := by decide +kernel
theorem inX1_performDrawn_X8 : ∀ w ∈ u_ws RX8 TX8 13, w ∈ wsX1_performDrawn := by decide +kernel
set_option maxHeartbeats 4000000 in
set_option maxRecDepth 100000 in
theorem ctX1_performDrawn (l : Launch) (D : va_G) (cI cZ : ClassId) (qV : Nat → Nat) (qT : Nat → Nat) (oV : Ob) (oT : Ob) (v1 : Int32) (post : Ob → Prop) (h : wpX1_performDrawn oV oT v1 post) : CTv l yX1_performDrawn wsX1_performDrawn { frames := 3, cells := 0, slots := 0, locals := 63 } D [(cI, .int), (cZ, .boolean)] [.ref (qV 0), .int v1] (w1 cI cZ qV qT oV ++ w8 cI cZ qT oT) (fun u : Ob => w1 cI cZ qV qT oV ++ w8 cI cZ qT u) (fun (u : Ob) => post u) := by
  refine CTv.of (cc := cX1_performDrawn) (own := RX1) (maxL := 3) (ret := none) (lv0 := [(0, .ref (qV 0)), (1, .int v1)]) (by decide) rfl rfl (Nat.le_of_ble_eq_true rfl) rfl ?_
  intro p e s m args below meth c A C
  unfold wpX1_performDrawn at h
  refine SW.iload_n C dX1_performDrawn_0 rfl 1 rfl ?_
  refine SW.iconst (v := (5 : Int32)) C dX1_performDrawn_1 (by decide) ?_
  refine SW.irem C dX1_performDrawn_2 (by decide) ?_
  refine SW.istore_n (lv' := [(2, .int (jrem v1 (5 : Int32))), (0, .ref (qV 0)), (1, .int v1)]) C dX1_performDrawn_3 rfl (by decide) rfl ?_
  refine SW.iload_n C dX1_performDrawn_4 rfl 0 rfl ?_
  refine SW.if_ne (tgt := 19) C dX1_performDrawn_5 (by decide) (fun hc => ?_) (fun hc => ?_)
  · replace h := h.2 hc
    refine SW.iload_n C dX1_performDrawn_19 rfl 0 rfl ?_
    refine SW.iconst (v := (1 : Int32)) C dX1_performDrawn_20 (by decide) ?_
    refine SW.icmp_ne (tgt := 35) C dX1_performDrawn_21 (by decide) (fun hc => ?_) (fun hc => ?_)
    · replace h := h.2 hc
      refine SW.aload_n C dX1_performDrawn_35 rfl 1 rfl ?_
      refine SW.get (v := .ref (qT 0)) (T := TX1) (N := 6) C inX1_performDrawn_X1 0 rfl rfl 0 (by decide) lkX1_performDrawn_12 rfl dX1_performDrawn_36 ?_
      refine SW.get (v := .int (oT 0 0)) (T := TX8) (N := 13) C inX1_performDrawn_X8 1 rfl rfl 0 (by decide) lkX1_performDrawn_78 rfl dX1_performDrawn_39 ?_
      refine SW.if_le (tgt := 64) C dX1_performDrawn_42 (by decide) (fun hc => ?_) (fun hc => ?_)
      · replace h := h.1 hc
        exact SW.vret C oT rfl h dX1_performDrawn_64
      · replace h := h.2 hc
        refine SW.aload_n C dX1_performDrawn_45 rfl 1 rfl ?_
        refine SW.get (v := .ref (qT 0)) (T := TX1) (N := 6) C inX1_performDrawn_X1 0 rfl rfl 0 (by decide) lkX1_performDrawn_12 rfl dX1_performDrawn_46 ?_
        refine SW.iload_n C dX1_performDrawn_49 rfl 2 rfl ?_
        refine SW.iconst (v := (5 : Int32)) C dX1_performDrawn_50 (by decide) ?_
        refine SW.idiv C dX1_performDrawn_51 (by decide) ?_
        refine SW.aload_n C dX1_performDrawn_52 rfl 1 rfl ?_
        refine SW.get (v := .ref (qT 0)) (T := TX1) (N := 6) C inX1_performDrawn_X1 0 rfl rfl 0 (by decide) lkX1_performDrawn_12 rfl dX1_performDrawn_53 ?_
        refine SW.get (v := .int (oT 0 0)) (T := TX8) (N := 13) C inX1_performDrawn_X8 1 rfl rfl 0 (by decide) lkX1_performDrawn_78 rfl dX1_performDrawn_56 ?_
        refine SW.irem C dX1_performDrawn_59 h.1 ?_
        replace h := h.2
        refine SW.callVi_sub (wr := w1 cI cZ qV qT oV) (wn := fun u : Ob => w1 cI cZ qV qT oV ++ w8 cI cZ qT u) C (ctX8_touch l D cI cZ qT oT (jrem (v1 / (5 : Int32)) (oT 0 0)) _ h) gX1_performDrawn_X8_touch rfl rfl rfl pdX8_touch ⟨by decide, by decide⟩ [1, 2, 3, 4, 5, 6, 7] [0] [0, 1, 2, 3, 4, 5, 6, 7] rfl rfl (by decide) (by decide) (by decide) (by decide) (fun _ => rfl) 0 rfl rfl rfl rfl rfl (Nat.le_of_ble_eq_true rfl) dX1_performDrawn_60 (by decide) (fun r60 u h => ?_)
        obtain ⟨oT_60, rfl⟩ : ∃ z, z = u := ⟨_, rfl⟩
        try dsimp only at h
        refine SW.pop C dX1_performDrawn_63 rfl ?_
        exact SW.vret C oT_60 rfl h dX1_performDrawn_64
    · replace h := h.1 hc
      refine SW.aload_n C dX1_performDrawn_24 rfl 1 rfl ?_
      refine SW.get (v := .ref (qT 0)) (T := TX1) (N := 6) C inX1_performDrawn_X1 0 rfl rfl 0 (by decide) lkX1_performDrawn_12 rfl dX1_performDrawn_25 ?_
      refine SW.callVi_sub (wr := w1 cI cZ qV qT oV) (wn := fun u : Ob => w1 cI cZ qV qT oV ++ w8 cI cZ qT u) C (ctX8_lessDamp l D cI cZ qT oT _ h) gX1_performDrawn_X8_lessDamp rfl rfl rfl pdX8_lessDamp ⟨by decide, by decide⟩ [1, 2, 3, 4, 5, 6, 7] [0] [0, 1, 2, 3, 4, 5, 6, 7] rfl rfl (by decide) (by decide) (by decide) (by decide) (fun _ => rfl) 0 rfl rfl rfl rfl rfl (Nat.le_of_ble_eq_true rfl) dX1_performDrawn_28 (by decide) (fun r28 u h => ?_)
      obtain ⟨oT_28, rfl⟩ : ∃ z, z = u := ⟨_, rfl⟩
      try dsimp only at h
      refine SW.pop C dX1_performDrawn_31 rfl ?_
      refine SW.goto (tgt := 64) C dX1_performDrawn_32 (by decide) ?_
      exact SW.vret C oT_28 rfl h dX1_performDrawn_64
  · replace h := h.1 hc
    refine SW.aload_n C dX1_performDrawn_8 rfl 1 rfl ?_
    refine SW.get (v := .ref (qT 0)) (T := TX1) (N := 6) C inX1_performDrawn_X1 0 rfl rfl 0 (by decide) lkX1_performDrawn_12 rfl dX1_performDrawn_9 ?_
    refine SW.callVi_sub (wr := w1 cI cZ qV qT oV) (wn := fun u : Ob => w1 cI cZ qV qT oV ++ w8 cI cZ qT u) C (ctX8_moreDamp l D cI cZ qT oT _ h) gX1_performDrawn_X8_moreDamp rfl rfl rfl pdX8_moreDamp ⟨by decide, by decide⟩ [1, 2, 3, 4, 5, 6, 7] [0] [0, 1, 2, 3, 4, 5, 6, 7] rfl rfl (by decide) (by decide) (by decide) (by decide) (fun _ => rfl) 0 rfl rfl rfl rfl rfl (Nat.le_of_ble_eq_true rfl) dX1_performDrawn_12 (by decide) (fun r12 u h => ?_)
    obtain ⟨oT_12, rfl⟩ : ∃ z, z = u := ⟨_, rfl⟩
    try dsimp only at h
    refine SW.pop C dX1_performDrawn_15 rfl ?_
    refine SW.goto (tgt := 64) C dX1_performDrawn_16 (by decide) ?_
    exact SW.vret C oT_12 rfl h dX1_performDrawn_64
def wpX1_draw_L11 (c3_11 : Int32) (K72 : Ob → Ob → Prop) : Nat → Int32 → Int32 → Ob → Ob → Prop
  | 0, _, _, _, _ => False
  | fu11 + 1, v4_11, v5_11, oV_11, oT_11 => ((c3_11 ≤ v5_11) → K72 oV_11 oT_11) ∧ (¬ (c3_11 ≤ v5_11) → ∀ y28 : Int32, y28 = (jrem (((75 : Int32) * v4_11) + (74 : Int32)) (65537 : Int32)) → (wpX1_performDrawn oV_11 oT_11 y28 (fun (oT_33 : Ob) => wpX1_listenAt oV_11 oT_33 v5_11 (fun (oV_39 : Ob) (oT_39 : Ob) => wpX8_lengthAt oT_39 (0 : Int32) (oT_39 0 5) (fun (r59 : Int32) => wpX1_draw_L11 c3_11 K72 fu11 y28 (v5_11 + (1 : Int32)) (pf oV_39 5 ((oV_39 0 5) + r59)) oT_39)))))
def wpX1_draw (oS : Ob) (oV : Ob) (oT : Ob) (v2 : Int32) (v3 : Int32) (post : Ob → Ob → Prop) : Prop := wpX1_begin oS oV oT (fun (oV_2 : Ob) (oT_2 : Ob) => ∃ fu11 : Nat, wpX1_draw_L11 v3 (fun (oV_72 : Ob) (oT_72 : Ob) => post oV_72 oT_72) fu11 v2 (0 : Int32) oV_2 oT_2)
theorem pdX1_draw : yX1_draw.cls = RX1 ∧ yX1_draw.cls ≠ "java/lang/invoke/MethodHandle" ∧ yX1_draw.cls ≠ "java/lang/invoke/VarHandle" ∧ (parseMethodDescriptor yX1_draw.desc).map (fun d => d.parameters.length) = some 3 := by decide +kernel
theorem lkX1_draw_52 : Cond.fieldLink RX1 52 (TX1 5).1 (TX1 5).2.1 (TX1 5).2.2.1 ∈ wsX1_draw := by decide +kernel
theorem inX1_draw_X1 : ∀ w ∈ u_ws RX1 TX1 6, w ∈ wsX1_draw := by decide +kernel
theorem lkX1_draw_12 : Cond.fieldLink RX1 12 (TX1 0).1 (TX1 0).2.1 (TX1 0).2.2.1 ∈ wsX1_draw := by decide +kernel
theorem lkX1_draw_55 : Cond.fieldLink RX1 55 (TX8 5).1 (TX8 5).2.1 (TX8 5).2.2.1 ∈ wsX1_draw := by decide +kernel
theorem inX1_draw_X8 : ∀ w ∈ u_ws RX8 TX8 13, w ∈ wsX1_draw := by decide +kernel
set_option maxHeartbeats 4000000 in
set_option maxRecDepth 100000 in
theorem ctX1_draw (l : Launch) (D : va_G) (cI cZ : ClassId) (qS : Nat → Nat) (qV : Nat → Nat) (qT : Nat → Nat) (oS : Ob) (oV : Ob) (oT : Ob) (v2 : Int32) (v3 : Int32) (post : Ob → Ob → Prop) (h : wpX1_draw oS oV oT v2 v3 post) : CTv l yX1_draw wsX1_draw { frames := 4, cells := 0, slots := 0, locals := 102 } D [(cI, .int), (cZ, .boolean)] [.ref (qV 0), .ref (qS 0), .int v2, .int v3] (w8 cI cZ qS oS ++ w1 cI cZ qV qT oV ++ w8 cI cZ qT oT) (fun u : Ob × Ob => w8 cI cZ qS oS ++ w1 cI cZ qV qT u.1 ++ w8 cI cZ qT u.2) (fun (u : Ob × Ob) => post u.1 u.2) := by
  refine CTv.of (cc := cX1_draw) (own := RX1) (maxL := 6) (ret := none) (lv0 := [(0, .ref (qV 0)), (1, .ref (qS 0)), (2, .int v2), (3, .int v3)]) (by decide) rfl rfl (Nat.le_of_ble_eq_true rfl) rfl ?_
  intro p e s m args below meth c A C
  unfold wpX1_draw at h
  refine SW.aload_n C dX1_draw_0 rfl 0 rfl ?_
  refine SW.aload_n C dX1_draw_1 rfl 1 rfl ?_
  refine SW.callVv_same C (ctX1_begin l D cI cZ qS qV qT oS oV oT _ h) gX1_draw_X1_begin rfl rfl rfl pdX1_begin ⟨by decide, by decide⟩ 7 rfl rfl rfl rfl rfl (Nat.le_of_ble_eq_true rfl) dX1_draw_2 (by decide) (fun u h => ?_)
  obtain ⟨oV_2, oT_2⟩ := u
  try dsimp only at h
  refine SW.iload_n C dX1_draw_5 rfl 2 rfl ?_
  refine SW.istore (lv' := [(4, .int v2), (0, .ref (qV 0)), (1, .ref (qS 0)), (2, .int v2), (3, .int v3)]) C dX1_draw_6 (by decide) rfl ?_
  refine SW.iconst (v := (0 : Int32)) C dX1_draw_8 (by decide) ?_
  refine SW.istore (lv' := [(5, .int (0 : Int32)), (4, .int v2), (0, .ref (qV 0)), (1, .ref (qS 0)), (2, .int v2), (3, .int v3)]) C dX1_draw_9 (by decide) rfl ?_
  have L11 : ∀ (K72 : Ob → Ob → Prop) (hK72 : ∀ (oV_72 : Ob) (oT_72 : Ob), K72 oV_72 oT_72 → SW p l e { frames := 4, cells := 0, slots := 0, locals := 102 } s m args below meth c A D 6 0 0 (MQ below (va_Qv (fun (u : Ob × Ob) => post u.1 u.2) (ctB D A (fun u : Ob × Ob => w8 cI cZ qS oS ++ w1 cI cZ qV qT u.1 ++ w8 cI cZ qT u.2)) A) args s 0 0 A) (w8 cI cZ qS oS ++ w1 cI cZ qV qT oV_72 ++ w8 cI cZ qT oT_72) 72 [] []) (fu : Nat) (v4_11 : Int32) (v5_11 : Int32) (oV_11 : Ob) (oT_11 : Ob), wpX1_draw_L11 v3 K72 fu v4_11 v5_11 oV_11 oT_11 → SW p l e { frames := 4, cells := 0, slots := 0, locals := 102 } s m args below meth c A D 6 0 0 (MQ below (va_Qv (fun (u : Ob × Ob) => post u.1 u.2) (ctB D A (fun u : Ob × Ob => w8 cI cZ qS oS ++ w1 cI cZ qV qT u.1 ++ w8 cI cZ qT u.2)) A) args s 0 0 A) (w8 cI cZ qS oS ++ w1 cI cZ qV qT oV_11 ++ w8 cI cZ qT oT_11) 11 [(0, .ref (qV 0)), (3, .int v3), (4, .int v4_11), (5, .int v5_11)] [] := by
    intro K72 hK72 fu
    induction fu with
    | zero =>
      intro v4_11 v5_11 oV_11 oT_11 h
      exact False.elim h
    | succ fu ih =>
      intro v4_11 v5_11 oV_11 oT_11 h
      unfold wpX1_draw_L11 at h
      refine SW.iload C dX1_draw_11 3 rfl ?_
      refine SW.iload_n C dX1_draw_13 rfl 1 rfl ?_
      refine SW.icmp_ge (tgt := 72) C dX1_draw_14 (by decide) (fun hc => ?_) (fun hc => ?_)
      · replace h := h.1 hc
        refine SW.sub [] rfl ?_
        exact hK72 _ _ h
      · replace h := h.2 hc
        refine SW.bipush (v := (75 : Int32)) C dX1_draw_17 (by decide) ?_
        refine SW.iload C dX1_draw_19 2 rfl ?_
        refine SW.imul C dX1_draw_21 ?_
        refine SW.bipush (v := (74 : Int32)) C dX1_draw_22 (by decide) ?_
        refine SW.iadd C dX1_draw_24 ?_
        refine SW.ldc (v := (65537 : Int32)) C (by decide +kernel) dX1_draw_25 ?_
        refine SW.irem C dX1_draw_27 (by decide) ?_
        refine SW.topi (fun y28 he => ?_)
        replace h := h y28 he
        refine SW.istore (lv' := [(4, .int y28), (0, .ref (qV 0)), (3, .int v3), (5, .int v5_11)]) C dX1_draw_28 (by decide) rfl ?_
        refine SW.aload_n C dX1_draw_30 rfl 1 rfl ?_
        refine SW.iload C dX1_draw_31 0 rfl ?_
        refine SW.callVv_sub (wr := w8 cI cZ qS oS) (wn := fun u : Ob => w8 cI cZ qS oS ++ w1 cI cZ qV qT oV_11 ++ w8 cI cZ qT u) C (ctX1_performDrawn l D cI cZ qV qT oV_11 oT_11 y28 _ h) gX1_draw_X1_performDrawn rfl rfl rfl pdX1_performDrawn ⟨by decide, by decide⟩ [7, 8, 9, 10, 11, 12, 13, 14] [0, 1, 2, 3, 4, 5, 6] [0, 1, 2, 3, 4, 5, 6, 7, 8, 9, 10, 11, 12, 13, 14] rfl rfl (by decide) (by decide) (by decide) (by decide) (fun _ => rfl) 0 rfl rfl rfl rfl rfl (Nat.le_of_ble_eq_true rfl) dX1_draw_33 (by decide) (fun u h => ?_)
        obtain ⟨oT_33, rfl⟩ : ∃ z, z = u := ⟨_, rfl⟩
        try dsimp only at h
        refine SW.aload_n C dX1_draw_36 rfl 1 rfl ?_
        refine SW.iload C dX1_draw_37 3 rfl ?_
        refine SW.callVv_sub (wr := w8 cI cZ qS oS) (wn := fun u : Ob × Ob => w8 cI cZ qS oS ++ w1 cI cZ qV qT u.1 ++ w8 cI cZ qT u.2) C (ctX1_listenAt l D cI cZ qV qT oV_11 oT_33 v5_11 _ h) gX1_draw_X1_listenAt rfl rfl rfl pdX1_listenAt ⟨by decide, by decide⟩ [7, 8, 9, 10, 11, 12, 13, 14] [0, 1, 2, 3, 4, 5, 6] [0, 1, 2, 3, 4, 5, 6, 7, 8, 9, 10, 11, 12, 13, 14] rfl rfl (by decide) (by decide) (by decide) (by decide) (fun _ => rfl) 0 rfl rfl rfl rfl rfl (Nat.le_of_ble_eq_true rfl) dX1_draw_39 (by decide) (fun u h => ?_)
        obtain ⟨oV_39, oT_39⟩ := u
        try dsimp only at h
        refine SW.aload_n C dX1_draw_42 rfl 1 rfl ?_
        refine SW.dup C dX1_draw_43 rfl ?_
        refine SW.get (v := .int (oV_39 0 5)) (T := TX1) (N := 6) C inX1_draw_X1 7 rfl rfl 5 (by decide) lkX1_draw_52 rfl dX1_draw_44 ?_
        refine SW.aload_n C dX1_draw_47 rfl 1 rfl ?_
        refine SW.get (v := .ref (qT 0)) (T := TX1) (N := 6) C inX1_draw_X1 7 rfl rfl 0 (by decide) lkX1_draw_12 rfl dX1_draw_48 ?_
        refine SW.iconst (v := (0 : Int32)) C dX1_draw_51 (by decide) ?_
        refine SW.aload_n C dX1_draw_52 rfl 1 rfl ?_
        refine SW.get (v := .ref (qT 0)) (T := TX1) (N := 6) C inX1_draw_X1 7 rfl rfl 0 (by decide) lkX1_draw_12 rfl dX1_draw_53 ?_
        refine SW.get (v := .int (oT_39 0 5)) (T := TX8) (N := 13) C inX1_draw_X8 8 rfl rfl 5 (by decide) lkX1_draw_55 rfl dX1_draw_56 ?_
        refine SW.callVi_sub (wr := w8 cI cZ qS oS ++ w1 cI cZ qV qT oV_39) (wn := fun u : Unit => w8 cI cZ qS oS ++ w1 cI cZ qV qT oV_39 ++ w8 cI cZ qT oT_39) C (ctX8_lengthAt l D cI cZ qT oT_39 (0 : Int32) (oT_39 0 5) _ h) gX1_draw_X8_lengthAt rfl rfl rfl pdX8_lengthAt ⟨by decide, by decide⟩ [8, 9, 10, 11, 12, 13, 14] [0, 1, 2, 3, 4, 5, 6, 7] [0, 1, 2, 3, 4, 5, 6, 7, 8, 9, 10, 11, 12, 13, 14] rfl rfl (by decide) (by decide) (by decide) (by decide) (fun _ => rfl) 0 rfl rfl rfl rfl rfl (Nat.le_of_ble_eq_true rfl) dX1_draw_59 (by decide) (fun r59 u h => ?_)
        try dsimp only at h
        refine SW.iadd C dX1_draw_62 ?_
        refine SW.put (ws' := w8 cI cZ qS oS ++ w1 cI cZ qV qT (pf oV_39 5 ((oV_39 0 5) + r59)) ++ w8 cI cZ qT oT_39) (T := TX1) (N := 6) C inX1_draw_X1 tyX1 tyX1_ok nmX1 7 rfl rfl 5 (by decide) lkX1_draw_52 rfl rfl rfl (Nat.le_of_ble_eq_true rfl) rfl dX1_draw_63 ?_
        refine SW.iinc (q := 3) (v := (v5_11 + (1 : Int32))) (lv' := [(5, .int (v5_11 + (1 : Int32))), (4, .int y28), (0, .ref (qV 0)), (3, .int v3)]) C dX1_draw_66 rfl rfl (by decide) rfl ?_
        refine SW.goto (tgt := 11) C dX1_draw_69 (by decide) ?_
        refine SW.sub [2, 3, 1, 0] rfl ?_
        exact ih _ _ _ _ h
  obtain ⟨fu, h⟩ := h
  refine SW.sub [2, 5, 1, 0] rfl ?_
  refine L11 _ (fun oV_72 oT_72 h => ?_) fu _ _ _ _ h
  · exact SW.vret C (oV_72, oT_72) rfl h dX1_draw_72
def wpX2_bestMove_L2 (c2_2 : Int32) (oSc_2 : Ob) (oMc_2 : Ob) (post : Int32 → Prop) (K54 : Prop) : Nat → Int32 → Prop
  | 0, _ => False
  | fu2 + 1, v3_2 => (((oSc_2 0 0) ≤ v3_2) → K54) ∧ (¬ ((oSc_2 0 0) ≤ v3_2) → jn0 (wpX2_bestMove_L2 c2_2 oSc_2 oMc_2 post K54 fu2 (v3_2 + (1 : Int32))) (fun J48 => (((c2_2 ||| (jshl (1 : Int32) v3_2)) = c2_2) → J48) ∧ (¬ ((c2_2 ||| (jshl (1 : Int32) v3_2)) = c2_2) → (((c2_2 ||| (jshl (1 : Int32) v3_2)) < 0) → J48) ∧ (¬ ((c2_2 ||| (jshl (1 : Int32) v3_2)) < 0) → (((1024 : Int32) ≤ (c2_2 ||| (jshl (1 : Int32) v3_2))) → J48) ∧ (¬ ((1024 : Int32) ≤ (c2_2 ||| (jshl (1 : Int32) v3_2))) → (vp_in (c2_2 ||| (jshl (1 : Int32) v3_2)) 1024) ∧ ((((jld (oMc_2 1) (c2_2 ||| (jshl (1 : Int32) v3_2))) = 0) → post v3_2) ∧ (¬ ((jld (oMc_2 1) (c2_2 ||| (jshl (1 : Int32) v3_2))) = 0) → J48)))))))
def wpX2_bestMove (oS : Ob) (oM : Ob) (v2 : Int32) (post : Int32 → Prop) : Prop := ∃ fu2 : Nat, wpX2_bestMove_L2 v2 oS oM post (post (-6 : Int32)) fu2 (0 : Int32)
theorem pdX2_bestMove : yX2_bestMove.cls = RX2 ∧ yX2_bestMove.cls ≠ "java/lang/invoke/MethodHandle" ∧ yX2_bestMove.cls ≠ "java/lang/invoke/VarHandle" ∧ (parseMethodDescriptor yX2_bestMove.desc).map (fun d => d.parameters.length) = some 2 := by decide +kernel
theorem lkX2_bestMove_21 : Cond.fieldLink RX2 21 (TX8 0).1 (TX8 0).2.1 (TX8 0).2.2.1 ∈ wsX2_bestMove := by decide +kernel
theorem inX2_bestMove_X8 : ∀ w ∈ u_ws RX8 TX8 13, w ∈ wsX2_bestMove := by decide +kernel
theorem lkX2_bestMove_9 : Cond.fieldLink RX2 9 (TX2 0).1 (TX2 0).2.1 (TX2 0).2.2.1 ∈ wsX2_bestMove := by decide +kernel
theorem inX2_bestMove_X2 : ∀ w ∈ u_ws RX2 TX2 1, w ∈ wsX2_bestMove := by decide +kernel
set_option maxHeartbeats 4000000 in
set_option maxRecDepth 100000 in
theorem ctX2_bestMove (l : Launch) (D : va_G) (cI cZ : ClassId) (qS : Nat → Nat) (qM : Nat → Nat) (oS : Ob) (oM : Ob) (v2 : Int32) (post : Int32 → Prop) (h : wpX2_bestMove oS oM v2 post) : CTi l yX2_bestMove wsX2_bestMove { frames := 0, cells := 0, slots := 0, locals := 0 } D [(cI, .int), (cZ, .boolean)] [.ref (qM 0), .ref (qS 0), .int v2] (w8 cI cZ qS oS ++ w2 cI cZ qM oM) (fun _ : Unit => w8 cI cZ qS oS ++ w2 cI cZ qM oM) (fun (r : Int32) (_ : Unit) => post r) := by
  refine CTi.of (cc := cX2_bestMove) (own := RX2) (maxL := 5) (ret := (some .int)) (lv0 := [(0, .ref (qM 0)), (1, .ref (qS 0)), (2, .int v2)]) (by decide) rfl rfl (Nat.le_of_ble_eq_true rfl) rfl ?_
  intro p e s m args below meth c A C
  unfold wpX2_bestMove at h
  refine SW.iconst (v := (0 : Int32)) C dX2_bestMove_0 (by decide) ?_
  refine SW.istore_n (lv' := [(3, .int (0 : Int32)), (0, .ref (qM 0)), (1, .ref (qS 0)), (2, .int v2)]) C dX2_bestMove_1 rfl (by decide) rfl ?_
  have L2 : ∀ (K54 : Prop) (hK54 : K54 → SW p l e { frames := 0, cells := 0, slots := 0, locals := 0 } s m args below meth c A D 5 0 0 (MQ below (va_Qi (fun (r : Int32) (_ : Unit) => post r) (ctB D A (fun _ : Unit => w8 cI cZ qS oS ++ w2 cI cZ qM oM)) A) args s 0 0 A) (w8 cI cZ qS oS ++ w2 cI cZ qM oM) 54 [] []) (fu : Nat) (v3_2 : Int32), wpX2_bestMove_L2 v2 oS oM post K54 fu v3_2 → SW p l e { frames := 0, cells := 0, slots := 0, locals := 0 } s m args below meth c A D 5 0 0 (MQ below (va_Qi (fun (r : Int32) (_ : Unit) => post r) (ctB D A (fun _ : Unit => w8 cI cZ qS oS ++ w2 cI cZ qM oM)) A) args s 0 0 A) (w8 cI cZ qS oS ++ w2 cI cZ qM oM) 2 [(0, .ref (qM 0)), (1, .ref (qS 0)), (2, .int v2), (3, .int v3_2)] [] := by
    intro K54 hK54 fu
    induction fu with
    | zero =>
      intro v3_2 h
      exact False.elim h
    | succ fu ih =>
      intro v3_2 h
      unfold wpX2_bestMove_L2 at h
      refine SW.iload_n C dX2_bestMove_2 rfl 3 rfl ?_
      refine SW.aload_n C dX2_bestMove_3 rfl 1 rfl ?_
      refine SW.get (v := .int (oS 0 0)) (T := TX8) (N := 13) C inX2_bestMove_X8 0 rfl rfl 0 (by decide) lkX2_bestMove_21 rfl dX2_bestMove_4 ?_
      refine SW.icmp_ge (tgt := 54) C dX2_bestMove_7 (by decide) (fun hc => ?_) (fun hc => ?_)
      · replace h := h.1 hc
        refine SW.sub [] rfl ?_
        exact hK54 h
      · replace h := h.2 hc
        refine SW.iload_n C dX2_bestMove_10 rfl 2 rfl ?_
        refine SW.iconst (v := (1 : Int32)) C dX2_bestMove_11 (by decide) ?_
        refine SW.iload_n C dX2_bestMove_12 rfl 3 rfl ?_
        refine SW.ishl C dX2_bestMove_13 ?_
        refine SW.ior C dX2_bestMove_14 ?_
        refine SW.istore (lv' := [(4, .int (v2 ||| (jshl (1 : Int32) v3_2))), (0, .ref (qM 0)), (1, .ref (qS 0)), (2, .int v2), (3, .int v3_2)]) C dX2_bestMove_15 (by decide) rfl ?_
        refine SW.iload C dX2_bestMove_17 0 rfl ?_
        refine SW.iload_n C dX2_bestMove_19 rfl 3 rfl ?_
        refine jn0_elim (G := SW p l e { frames := 0, cells := 0, slots := 0, locals := 0 } s m args below meth c A D 5 0 0 (MQ below (va_Qi (fun (r : Int32) (_ : Unit) => post r) (ctB D A (fun _ : Unit => w8 cI cZ qS oS ++ w2 cI cZ qM oM)) A) args s 0 0 A) (w8 cI cZ qS oS ++ w2 cI cZ qM oM) 48 [(0, .ref (qM 0)), (1, .ref (qS 0)), (2, .int v2), (3, .int v3_2)] []) h (fun h => ?_) (fun J48 hJ48 h => ?_)
        · refine SW.iinc (q := 3) (v := (v3_2 + (1 : Int32))) (lv' := [(3, .int (v3_2 + (1 : Int32))), (0, .ref (qM 0)), (1, .ref (qS 0)), (2, .int v2)]) C dX2_bestMove_48 rfl rfl (by decide) rfl ?_
          refine SW.goto (tgt := 2) C dX2_bestMove_51 (by decide) ?_
          refine SW.sub [1, 2, 3, 0] rfl ?_
          exact ih _ h
        · refine SW.icmp_eq (tgt := 48) C dX2_bestMove_20 (by decide) (fun hc => ?_) (fun hc => ?_)
          · replace h := h.1 hc
            refine SW.sub [1, 2, 3, 4] rfl ?_
            exact hJ48 h
          · replace h := h.2 hc
            refine SW.iload C dX2_bestMove_23 0 rfl ?_
            refine SW.if_lt (tgt := 48) C dX2_bestMove_25 (by decide) (fun hc => ?_) (fun hc => ?_)
            · replace h := h.1 hc
              refine SW.sub [1, 2, 3, 4] rfl ?_
              exact hJ48 h
            · replace h := h.2 hc
              refine SW.iload C dX2_bestMove_28 0 rfl ?_
              refine SW.sipush (v := (1024 : Int32)) C dX2_bestMove_30 (by decide) ?_
              refine SW.icmp_ge (tgt := 48) C dX2_bestMove_33 (by decide) (fun hc => ?_) (fun hc => ?_)
              · replace h := h.1 hc
                refine SW.sub [1, 2, 3, 4] rfl ?_
                exact hJ48 h
              · replace h := h.2 hc
                refine SW.aload_n C dX2_bestMove_36 rfl 1 rfl ?_
                refine SW.get (v := .ref (qM 1)) (T := TX2) (N := 1) C inX2_bestMove_X2 7 rfl rfl 0 (by decide) lkX2_bestMove_9 rfl dX2_bestMove_37 ?_
                refine SW.iload C dX2_bestMove_40 0 rfl ?_
                refine SW.iald C 8 0 rfl rfl h.1 dX2_bestMove_42 ?_
                replace h := h.2
                refine SW.if_ne (tgt := 48) C dX2_bestMove_43 (by decide) (fun hc => ?_) (fun hc => ?_)
                · replace h := h.2 hc
                  refine SW.sub [1, 2, 3, 4] rfl ?_
                  exact hJ48 h
                · replace h := h.1 hc
                  refine SW.iload_n C dX2_bestMove_46 rfl 4 rfl ?_
                  exact SW.iret C () rfl h dX2_bestMove_47
  obtain ⟨fu, h⟩ := h
  refine SW.sub [1, 2, 3, 0] rfl ?_
  refine L2 _ (fun h => ?_) fu _ h
  · refine SW.bipush (v := (-6 : Int32)) C dX2_bestMove_54 (by decide) ?_
    exact SW.iret C () rfl h dX2_bestMove_56
def wpX2_fateOf (oS : Ob) (oM : Ob) (v2 : Int32) (post : Int32 → Ob → Prop) : Prop := wpX8_allows oS v2 (fun (r2 : Int32) => ((r2 = 0) → post (2 : Int32) oS) ∧ (¬ (r2 = 0) → wpX8_clashesBy oS v2 (fun (r10 : Int32) (oS_10 : Ob) => ((r10 = 0) → wpX2_bestMove oS_10 oM v2 (fun (r21 : Int32) => ((r21 = (-6 : Int32)) → post (0 : Int32) oS_10) ∧ (¬ (r21 = (-6 : Int32)) → post (1 : Int32) oS_10))) ∧ (¬ (r10 = 0) → post (2 : Int32) oS_10))))
theorem pdX2_fateOf : yX2_fateOf.cls = RX2 ∧ yX2_fateOf.cls ≠ "java/lang/invoke/MethodHandle" ∧ yX2_fateOf.cls ≠ "java/lang/invoke/VarHandle" ∧ (parseMethodDescriptor yX2_fateOf.desc).map (fun d => d.parameters.length) = some 2 := by decide +kernel
set_option maxHeartbeats 4000000 in
set_option maxRecDepth 100000 in
theorem ctX2_fateOf (l : Launch) (D : va_G) (cI cZ : ClassId) (qS : Nat → Nat) (qM : Nat → Nat) (oS : Ob) (oM : Ob) (v2 : Int32) (post : Int32 → Ob → Prop) (h : wpX2_fateOf oS oM v2 post) : CTi l yX2_fateOf wsX2_fateOf { frames := 3, cells := 0, slots := 0, locals := 81 } D [(cI, .int), (cZ, .boolean)] [.ref (qM 0), .ref (qS 0), .int v2] (w8 cI cZ qS oS ++ w2 cI cZ qM oM) (fun u : Ob => w8 cI cZ qS u ++ w2 cI cZ qM oM) (fun (r : Int32) (u : Ob) => post r u) := by
  refine CTi.of (cc := cX2_fateOf) (own := RX2) (maxL := 3) (ret := (some .int)) (lv0 := [(0, .ref (qM 0)), (1, .ref (qS 0)), (2, .int v2)]) (by decide) rfl rfl (Nat.le_of_ble_eq_true rfl) rfl ?_
  intro p e s m args below meth c A C
  unfold wpX2_fateOf at h
  refine SW.aload_n C dX2_fateOf_0 rfl 1 rfl ?_
  refine SW.iload_n C dX2_fateOf_1 rfl 2 rfl ?_
  refine SW.callVi_sub (wr := w2 cI cZ qM oM) (wn := fun u : Unit => w8 cI cZ qS oS ++ w2 cI cZ qM oM) C (ctX8_allows l D cI cZ qS oS v2 _ h) gX2_fateOf_X8_allows rfl rfl rfl pdX8_allows ⟨by decide, by decide⟩ [0, 1, 2, 3, 4, 5, 6] [7, 8] [2, 3, 4, 5, 6, 7, 8, 0, 1] rfl rfl (by decide) (by decide) (by decide) (by decide) (fun _ => rfl) 0 rfl rfl rfl rfl rfl (Nat.le_of_ble_eq_true rfl) dX2_fateOf_2 (by decide) (fun r2 u h => ?_)
  try dsimp only at h
  refine SW.if_eq (tgt := 16) C dX2_fateOf_5 (by decide) (fun hc => ?_) (fun hc => ?_)
  · replace h := h.1 hc
    refine SW.iconst (v := (2 : Int32)) C dX2_fateOf_16 (by decide) ?_
    exact SW.iret C oS rfl h dX2_fateOf_17
  · replace h := h.2 hc
    refine SW.aload_n C dX2_fateOf_8 rfl 1 rfl ?_
    refine SW.iload_n C dX2_fateOf_9 rfl 2 rfl ?_
    refine SW.callVi_sub (wr := w2 cI cZ qM oM) (wn := fun u : Ob => w8 cI cZ qS u ++ w2 cI cZ qM oM) C (ctX8_clashesBy l D cI cZ qS oS v2 _ h) gX2_fateOf_X8_clashesBy rfl rfl rfl pdX8_clashesBy ⟨by decide, by decide⟩ [0, 1, 2, 3, 4, 5, 6] [7, 8] [2, 3, 4, 5, 6, 7, 8, 0, 1] rfl rfl (by decide) (by decide) (by decide) (by decide) (fun _ => rfl) 0 rfl rfl rfl rfl rfl (Nat.le_of_ble_eq_true rfl) dX2_fateOf_10 (by decide) (fun r10 u h => ?_)
    obtain ⟨oS_10, rfl⟩ : ∃ z, z = u := ⟨_, rfl⟩
    try dsimp only at h
    refine SW.if_eq (tgt := 18) C dX2_fateOf_13 (by decide) (fun hc => ?_) (fun hc => ?_)
    · replace h := h.1 hc
      refine SW.aload_n C dX2_fateOf_18 rfl 0 rfl ?_
      refine SW.aload_n C dX2_fateOf_19 rfl 1 rfl ?_
      refine SW.iload_n C dX2_fateOf_20 rfl 2 rfl ?_
      refine SW.callVi_same C (ctX2_bestMove l D cI cZ qS qM oS_10 oM v2 _ h) gX2_fateOf_X2_bestMove rfl rfl rfl pdX2_bestMove ⟨by decide, by decide⟩ 7 rfl rfl rfl rfl rfl (Nat.le_of_ble_eq_true rfl) dX2_fateOf_21 (by decide) (fun r21 u h => ?_)
      try dsimp only at h
      refine SW.bipush (v := (-6 : Int32)) C dX2_fateOf_24 (by decide) ?_
      refine SW.icmp_ne (tgt := 33) C dX2_fateOf_26 (by decide) (fun hc => ?_) (fun hc => ?_)
      · replace h := h.2 hc
        refine SW.iconst (v := (1 : Int32)) C dX2_fateOf_33 (by decide) ?_
        exact SW.iret C oS_10 rfl h dX2_fateOf_34
      · replace h := h.1 hc
        refine SW.iconst (v := (0 : Int32)) C dX2_fateOf_29 (by decide) ?_
        refine SW.goto (tgt := 34) C dX2_fateOf_30 (by decide) ?_
        exact SW.iret C oS_10 rfl h dX2_fateOf_34
    · replace h := h.2 hc
      refine SW.iconst (v := (2 : Int32)) C dX2_fateOf_16 (by decide) ?_
      exact SW.iret C oS_10 rfl h dX2_fateOf_17
def wpX2_winningWindow_L23 (c2_23 : Int32) (K57 : Ob → Ob → Prop) : Nat → Int32 → Ob → Ob → Prop
  | 0, _, _, _ => False
  | fu23 + 1, v4_23, oS_23, oM_23 => ((v4_23 ≤ c2_23) → K57 oS_23 oM_23) ∧ (¬ (v4_23 ≤ c2_23) → jn2 (fun (oS_51 : Ob) (oM_51 : Ob) => wpX2_winningWindow_L23 c2_23 K57 fu23 (v4_23 + (-1 : Int32)) oS_51 oM_51) (fun J51 => (((v4_23 &&& c2_23) = c2_23) → wpX2_fateOf oS_23 oM_23 v4_23 (fun (r47 : Int32) (oS_47 : Ob) => (vp_in v4_23 1024) ∧ (J51 oS_47 (pa oM_23 1 (nC v4_23) r47)))) ∧ (¬ ((v4_23 &&& c2_23) = c2_23) → J51 oS_23 oM_23)))
def wpX2_winningWindow (oS : Ob) (oM : Ob) (post : Int32 → Ob → Ob → Prop) : Prop := ∀ y17 : Int32, y17 = (jmin (jshl (1 : Int32) (oS 0 0)) (1024 : Int32)) → (∃ fu23 : Nat, wpX2_winningWindow_L23 (oS 0 5) (fun (oS_57 : Ob) (oM_57 : Ob) => wpX2_bestMove oS_57 oM_57 (oS 0 5) (fun (r60 : Int32) => post r60 oS_57 oM_57)) fu23 (y17 - (1 : Int32)) oS oM)
theorem pdX2_winningWindow : yX2_winningWindow.cls = RX2 ∧ yX2_winningWindow.cls ≠ "java/lang/invoke/MethodHandle" ∧ yX2_winningWindow.cls ≠ "java/lang/invoke/VarHandle" ∧ (parseMethodDescriptor yX2_winningWindow.desc).map (fun d => d.parameters.length) = some 1 := by decide +kernel
theorem lkX2_winningWindow_15 : Cond.fieldLink RX2 15 (TX8 5).1 (TX8 5).2.1 (TX8 5).2.2.1 ∈ wsX2_winningWindow := by decide +kernel
theorem inX2_winningWindow_X8 : ∀ w ∈ u_ws RX8 TX8 13, w ∈ wsX2_winningWindow := by decide +kernel
theorem lkX2_winningWindow_21 : Cond.fieldLink RX2 21 (TX8 0).1 (TX8 0).2.1 (TX8 0).2.2.1 ∈ wsX2_winningWindow := by decide +kernel
theorem lkX2_winningWindow_9 : Cond.fieldLink RX2 9 (TX2 0).1 (TX2 0).2.1 (TX2 0).2.2.1 ∈ wsX2_winningWindow := by decide +kernel
theorem inX2_winningWindow_X2 : ∀ w ∈ u_ws RX2 TX2 1, w ∈ wsX2_winningWindow := by decide +kernel
set_option maxHeartbeats 4000000 in
set_option maxRecDepth 100000 in
theorem ctX2_winningWindow (l : Launch) (D : va_G) (cI cZ : ClassId) (qS : Nat → Nat) (qM : Nat → Nat) (oS : Ob) (oM : Ob) (post : Int32 → Ob → Ob → Prop) (h : wpX2_winningWindow oS oM post) : CTi l yX2_winningWindow wsX2_winningWindow { frames := 4, cells := 0, slots := 0, locals := 103 } D [(cI, .int), (cZ, .boolean)] [.ref (qM 0), .ref (qS 0)] (w8 cI cZ qS oS ++ w2 cI cZ qM oM) (fun u : Ob × Ob => w8 cI cZ qS u.1 ++ w2 cI cZ qM u.2) (fun (r : Int32) (u : Ob × Ob) => post r u.1 u.2) := by
  refine CTi.of (cc := cX2_winningWindow) (own := RX2) (maxL := 5) (ret := (some .int)) (lv0 := [(0, .ref (qM 0)), (1, .ref (qS 0))]) (by decide) rfl rfl (Nat.le_of_ble_eq_true rfl) rfl ?_
  intro p e s m args below meth c A C
  unfold wpX2_winningWindow at h
  refine SW.aload_n C dX2_winningWindow_0 rfl 1 rfl ?_
  refine SW.get (v := .int (oS 0 5)) (T := TX8) (N := 13) C inX2_winningWindow_X8 0 rfl rfl 5 (by decide) lkX2_winningWindow_15 rfl dX2_winningWindow_1 ?_
  refine SW.istore_n (lv' := [(2, .int (oS 0 5)), (0, .ref (qM 0)), (1, .ref (qS 0))]) C dX2_winningWindow_4 rfl (by decide) rfl ?_
  refine SW.iconst (v := (1 : Int32)) C dX2_winningWindow_5 (by decide) ?_
  refine SW.aload_n C dX2_winningWindow_6 rfl 2 rfl ?_
  refine SW.get (v := .int (oS 0 0)) (T := TX8) (N := 13) C inX2_winningWindow_X8 0 rfl rfl 0 (by decide) lkX2_winningWindow_21 rfl dX2_winningWindow_7 ?_
  refine SW.ishl C dX2_winningWindow_10 ?_
  refine SW.sipush (v := (1024 : Int32)) C dX2_winningWindow_11 (by decide) ?_
  refine SW.mmin C (by decide +kernel) (by decide +kernel) (by decide +kernel) (by decide +kernel) (by decide) (Nat.le_of_ble_eq_true rfl) (by decide) (by decide) dX2_winningWindow_14 ?_
  refine SW.topi (fun y17 he => ?_)
  replace h := h y17 he
  refine SW.istore_n (lv' := [(3, .int y17), (2, .int (oS 0 5)), (0, .ref (qM 0)), (1, .ref (qS 0))]) C dX2_winningWindow_17 rfl (by decide) rfl ?_
  refine SW.iload_n C dX2_winningWindow_18 rfl 0 rfl ?_
  refine SW.iconst (v := (1 : Int32)) C dX2_winningWindow_19 (by decide) ?_
  refine SW.isub C dX2_winningWindow_20 ?_
  refine SW.istore (lv' := [(4, .int (y17 - (1 : Int32))), (3, .int y17), (2, .int (oS 0 5)), (0, .ref (qM 0)), (1, .ref (qS 0))]) C dX2_winningWindow_21 (by decide) rfl ?_
  have L23 : ∀ (K57 : Ob → Ob → Prop) (hK57 : ∀ (oS_57 : Ob) (oM_57 : Ob), K57 oS_57 oM_57 → SW p l e { frames := 4, cells := 0, slots := 0, locals := 103 } s m args below meth c A D 5 0 0 (MQ below (va_Qi (fun (r : Int32) (u : Ob × Ob) => post r u.1 u.2) (ctB D A (fun u : Ob × Ob => w8 cI cZ qS u.1 ++ w2 cI cZ qM u.2)) A) args s 0 0 A) (w8 cI cZ qS oS_57 ++ w2 cI cZ qM oM_57) 57 [(0, .ref (qM 0)), (1, .ref (qS 0)), (2, .int (oS 0 5))] []) (fu : Nat) (v4_23 : Int32) (oS_23 : Ob) (oM_23 : Ob), wpX2_winningWindow_L23 (oS 0 5) K57 fu v4_23 oS_23 oM_23 → SW p l e { frames := 4, cells := 0, slots := 0, locals := 103 } s m args below meth c A D 5 0 0 (MQ below (va_Qi (fun (r : Int32) (u : Ob × Ob) => post r u.1 u.2) (ctB D A (fun u : Ob × Ob => w8 cI cZ qS u.1 ++ w2 cI cZ qM u.2)) A) args s 0 0 A) (w8 cI cZ qS oS_23 ++ w2 cI cZ qM oM_23) 23 [(0, .ref (qM 0)), (1, .ref (qS 0)), (2, .int (oS 0 5)), (4, .int v4_23)] [] := by
    intro K57 hK57 fu
    induction fu with
    | zero =>
      intro v4_23 oS_23 oM_23 h
      exact False.elim h
    | succ fu ih =>
      intro v4_23 oS_23 oM_23 h
      unfold wpX2_winningWindow_L23 at h
      refine SW.iload C dX2_winningWindow_23 3 rfl ?_
      refine SW.iload_n C dX2_winningWindow_25 rfl 2 rfl ?_
      refine SW.icmp_le (tgt := 57) C dX2_winningWindow_26 (by decide) (fun hc => ?_) (fun hc => ?_)
      · replace h := h.1 hc
        refine SW.sub [0, 1, 2] rfl ?_
        exact hK57 _ _ h
      · replace h := h.2 hc
        refine SW.iload C dX2_winningWindow_29 3 rfl ?_
        refine SW.iload_n C dX2_winningWindow_31 rfl 2 rfl ?_
        refine SW.iand C dX2_winningWindow_32 ?_
        refine SW.iload_n C dX2_winningWindow_33 rfl 2 rfl ?_
        refine jn2_elim (G := fun oS_51 oM_51 => SW p l e { frames := 4, cells := 0, slots := 0, locals := 103 } s m args below meth c A D 5 0 0 (MQ below (va_Qi (fun (r : Int32) (u : Ob × Ob) => post r u.1 u.2) (ctB D A (fun u : Ob × Ob => w8 cI cZ qS u.1 ++ w2 cI cZ qM u.2)) A) args s 0 0 A) (w8 cI cZ qS oS_51 ++ w2 cI cZ qM oM_51) 51 [(0, .ref (qM 0)), (1, .ref (qS 0)), (2, .int (oS 0 5)), (4, .int v4_23)] []) h (fun oS_51 oM_51 h => ?_) (fun J51 hJ51 h => ?_)
        · refine SW.iinc (q := 3) (v := (v4_23 + (-1 : Int32))) (lv' := [(4, .int (v4_23 + (-1 : Int32))), (0, .ref (qM 0)), (1, .ref (qS 0)), (2, .int (oS 0 5))]) C dX2_winningWindow_51 rfl rfl (by decide) rfl ?_
          refine SW.goto (tgt := 23) C dX2_winningWindow_54 (by decide) ?_
          refine SW.sub [1, 2, 3, 0] rfl ?_
          exact ih _ _ _ h
        · refine SW.icmp_ne (tgt := 51) C dX2_winningWindow_34 (by decide) (fun hc => ?_) (fun hc => ?_)
          · replace h := h.2 hc
            exact hJ51 _ _ h
          · replace h := h.1 hc
            refine SW.aload_n C dX2_winningWindow_37 rfl 0 rfl ?_
            refine SW.get (v := .ref (qM 1)) (T := TX2) (N := 1) C inX2_winningWindow_X2 7 rfl rfl 0 (by decide) lkX2_winningWindow_9 rfl dX2_winningWindow_38 ?_
            refine SW.iload C dX2_winningWindow_41 3 rfl ?_
            refine SW.aload_n C dX2_winningWindow_43 rfl 0 rfl ?_
            refine SW.aload_n C dX2_winningWindow_44 rfl 1 rfl ?_
            refine SW.iload C dX2_winningWindow_45 3 rfl ?_
            refine SW.callVi_same C (ctX2_fateOf l D cI cZ qS qM oS_23 oM_23 v4_23 _ h) gX2_winningWindow_X2_fateOf rfl rfl rfl pdX2_fateOf ⟨by decide, by decide⟩ 7 rfl rfl rfl rfl rfl (Nat.le_of_ble_eq_true rfl) dX2_winningWindow_47 (by decide) (fun r47 u h => ?_)
            obtain ⟨oS_47, rfl⟩ : ∃ z, z = u := ⟨_, rfl⟩
            try dsimp only at h
            refine SW.iast (ws' := w8 cI cZ qS oS_47 ++ w2 cI cZ qM (pa oM_23 1 (nC v4_23) r47)) C 8 0 rfl rfl h.1 rfl dX2_winningWindow_50 ?_
            replace h := h.2
            exact hJ51 _ _ h
  obtain ⟨fu, h⟩ := h
  refine SW.sub [3, 4, 2, 0] rfl ?_
  refine L23 _ (fun oS_57 oM_57 h => ?_) fu _ _ _ h
  · refine SW.aload_n C dX2_winningWindow_57 rfl 0 rfl ?_
    refine SW.aload_n C dX2_winningWindow_58 rfl 1 rfl ?_
    refine SW.iload_n C dX2_winningWindow_59 rfl 2 rfl ?_
    refine SW.callVi_same C (ctX2_bestMove l D cI cZ qS qM oS_57 oM_57 (oS 0 5) _ h) gX2_winningWindow_X2_bestMove rfl rfl rfl pdX2_bestMove ⟨by decide, by decide⟩ 7 rfl rfl rfl rfl rfl (Nat.le_of_ble_eq_true rfl) dX2_winningWindow_60 (by decide) (fun r60 u h => ?_)
    try dsimp only at h
    exact SW.iret C (oS_57, oM_57) rfl h dX2_winningWindow_63
def wpX3_gather_L20 (c2_20 : Int32) (oSc_20 : Ob) (K77 : Ob → Prop) : Nat → Int32 → Ob → Prop
  | 0, _, _ => False
  | fu20 + 1, v3_20, oG_20 => ((c2_20 ≤ v3_20) → K77 oG_20) ∧ (¬ (c2_20 ≤ v3_20) → (((1024 : Int32) ≤ (oG_20 0 2)) → K77 oG_20) ∧ (¬ ((1024 : Int32) ≤ (oG_20 0 2)) → wpX8_allows oSc_20 v3_20 (fun (r37 : Int32) => jn1 (fun (oG_71 : Ob) => wpX3_gather_L20 c2_20 oSc_20 K77 fu20 (v3_20 + (1 : Int32)) oG_71) (fun J71 => ((r37 = 0) → J71 oG_20) ∧ (¬ (r37 = 0) → wpX8_agreesWithSights oSc_20 v3_20 (fun (r45 : Int32) => ((r45 = 0) → J71 oG_20) ∧ (¬ (r45 = 0) → (vp_in (oG_20 0 2) 1024) ∧ (∀ oG_68n : Ob, oG_68n = (pa oG_20 1 (nC (oG_20 0 2)) v3_20) → (J71 (pf oG_68n 2 ((oG_20 0 2) + (1 : Int32))))))))))))
def wpX3_gather (oS : Ob) (oG : Ob) (post : Ob → Prop) : Prop := ∀ y17 : Int32, y17 = (jmin (jshl (1 : Int32) (oS 0 0)) (1024 : Int32)) → (∃ fu20 : Nat, wpX3_gather_L20 y17 oS (fun (oG_77 : Ob) => post oG_77) fu20 (0 : Int32) (pf oG 2 (0 : Int32)))
theorem pdX3_gather : yX3_gather.cls = RX3 ∧ yX3_gather.cls ≠ "java/lang/invoke/MethodHandle" ∧ yX3_gather.cls ≠ "java/lang/invoke/VarHandle" ∧ (parseMethodDescriptor yX3_gather.desc).map (fun d => d.parameters.length) = some 1 := by decide +kernel
theorem lkX3_gather_25 : Cond.fieldLink RX3 25 (TX3 2).1 (TX3 2).2.1 (TX3 2).2.2.1 ∈ wsX3_gather := by decide +kernel
theorem inX3_gather_X3 : ∀ w ∈ u_ws RX3 TX3 5, w ∈ wsX3_gather := by decide +kernel
theorem lkX3_gather_28 : Cond.fieldLink RX3 28 (TX8 0).1 (TX8 0).2.1 (TX8 0).2.2.1 ∈ wsX3_gather := by decide +kernel
theorem inX3_gather_X8 : ∀ w ∈ u_ws RX8 TX8 13, w ∈ wsX3_gather := by decide +kernel
theorem lkX3_gather_9 : Cond.fieldLink RX3 9 (TX3 0).1 (TX3 0).2.1 (TX3 0).2.2.1 ∈ wsX3_gather := by decide +kernel
set_option maxHeartbeats 4000000 in
set_option maxRecDepth 100000 in
theorem ctX3_gather (l : Launch) (D : va_G) (cI cZ : ClassId) (qS : Nat → Nat) (qG : Nat → Nat) (oS : Ob) (oG : Ob) (post : Ob → Prop) (h : wpX3_gather oS oG post) : CTv l yX3_gather wsX3_gather { frames := 4, cells := 0, slots := 0, locals := 88 } D [(cI, .int), (cZ, .boolean)] [.ref (qG 0), .ref (qS 0)] (w8 cI cZ qS oS ++ w3 cI cZ qG oG) (fun u : Ob => w8 cI cZ qS oS ++ w3 cI cZ qG u) (fun (u : Ob) => post u) := by
  refine CTv.of (cc := cX3_gather) (own := RX3) (maxL := 4) (ret := none) (lv0 := [(0, .ref (qG 0)), (1, .ref (qS 0))]) (by decide) rfl rfl (Nat.le_of_ble_eq_true rfl) rfl ?_
  intro p e s m args below meth c A C
  unfold wpX3_gather at h
  refine SW.aload_n C dX3_gather_0 rfl 0 rfl ?_
  refine SW.iconst (v := (0 : Int32)) C dX3_gather_1 (by decide) ?_
  refine SW.put (ws' := w8 cI cZ qS oS ++ w3 cI cZ qG (pf oG 2 (0 : Int32))) (T := TX3) (N := 5) C inX3_gather_X3 tyX3 tyX3_ok nmX3 7 rfl rfl 2 (by decide) lkX3_gather_25 rfl rfl rfl (Nat.le_of_ble_eq_true rfl) rfl dX3_gather_2 ?_
  refine SW.iconst (v := (1 : Int32)) C dX3_gather_5 (by decide) ?_
  refine SW.aload_n C dX3_gather_6 rfl 1 rfl ?_
  refine SW.get (v := .int (oS 0 0)) (T := TX8) (N := 13) C inX3_gather_X8 0 rfl rfl 0 (by decide) lkX3_gather_28 rfl dX3_gather_7 ?_
  refine SW.ishl C dX3_gather_10 ?_
  refine SW.sipush (v := (1024 : Int32)) C dX3_gather_11 (by decide) ?_
  refine SW.mmin C (by decide +kernel) (by decide +kernel) (by decide +kernel) (by decide +kernel) (by decide) (Nat.le_of_ble_eq_true rfl) (by decide) (by decide) dX3_gather_14 ?_
  refine SW.topi (fun y17 he => ?_)
  replace h := h y17 he
  refine SW.istore_n (lv' := [(2, .int y17), (0, .ref (qG 0)), (1, .ref (qS 0))]) C dX3_gather_17 rfl (by decide) rfl ?_
  refine SW.iconst (v := (0 : Int32)) C dX3_gather_18 (by decide) ?_
  refine SW.istore_n (lv' := [(3, .int (0 : Int32)), (2, .int y17), (0, .ref (qG 0)), (1, .ref (qS 0))]) C dX3_gather_19 rfl (by decide) rfl ?_
  have L20 : ∀ (K77 : Ob → Prop) (hK77 : ∀ (oG_77 : Ob), K77 oG_77 → SW p l e { frames := 4, cells := 0, slots := 0, locals := 88 } s m args below meth c A D 4 0 0 (MQ below (va_Qv (fun (u : Ob) => post u) (ctB D A (fun u : Ob => w8 cI cZ qS oS ++ w3 cI cZ qG u)) A) args s 0 0 A) (w8 cI cZ qS oS ++ w3 cI cZ qG oG_77) 77 [] []) (fu : Nat) (v3_20 : Int32) (oG_20 : Ob), wpX3_gather_L20 y17 oS K77 fu v3_20 oG_20 → SW p l e { frames := 4, cells := 0, slots := 0, locals := 88 } s m args below meth c A D 4 0 0 (MQ below (va_Qv (fun (u : Ob) => post u) (ctB D A (fun u : Ob => w8 cI cZ qS oS ++ w3 cI cZ qG u)) A) args s 0 0 A) (w8 cI cZ qS oS ++ w3 cI cZ qG oG_20) 20 [(0, .ref (qG 0)), (1, .ref (qS 0)), (2, .int y17), (3, .int v3_20)] [] := by
    intro K77 hK77 fu
    induction fu with
    | zero =>
      intro v3_20 oG_20 h
      exact False.elim h
    | succ fu ih =>
      intro v3_20 oG_20 h
      unfold wpX3_gather_L20 at h
      refine SW.iload_n C dX3_gather_20 rfl 3 rfl ?_
      refine SW.iload_n C dX3_gather_21 rfl 2 rfl ?_
      refine SW.icmp_ge (tgt := 77) C dX3_gather_22 (by decide) (fun hc => ?_) (fun hc => ?_)
      · replace h := h.1 hc
        refine SW.sub [] rfl ?_
        exact hK77 _ h
      · replace h := h.2 hc
        refine SW.aload_n C dX3_gather_25 rfl 0 rfl ?_
        refine SW.get (v := .int (oG_20 0 2)) (T := TX3) (N := 5) C inX3_gather_X3 7 rfl rfl 2 (by decide) lkX3_gather_25 rfl dX3_gather_26 ?_
        refine SW.sipush (v := (1024 : Int32)) C dX3_gather_29 (by decide) ?_
        refine SW.icmp_ge (tgt := 77) C dX3_gather_32 (by decide) (fun hc => ?_) (fun hc => ?_)
        · replace h := h.1 hc
          refine SW.sub [] rfl ?_
          exact hK77 _ h
        · replace h := h.2 hc
          refine SW.aload_n C dX3_gather_35 rfl 1 rfl ?_
          refine SW.iload_n C dX3_gather_36 rfl 3 rfl ?_
          refine SW.callVi_sub (wr := w3 cI cZ qG oG_20) (wn := fun u : Unit => w8 cI cZ qS oS ++ w3 cI cZ qG oG_20) C (ctX8_allows l D cI cZ qS oS v3_20 _ h) gX3_gather_X8_allows rfl rfl rfl pdX8_allows ⟨by decide, by decide⟩ [0, 1, 2, 3, 4, 5, 6] [7, 8, 9] [3, 4, 5, 6, 7, 8, 9, 0, 1, 2] rfl rfl (by decide) (by decide) (by decide) (by decide) (fun _ => rfl) 0 rfl rfl rfl rfl rfl (Nat.le_of_ble_eq_true rfl) dX3_gather_37 (by decide) (fun r37 u h => ?_)
          try dsimp only at h
          refine jn1_elim (G := fun oG_71 => SW p l e { frames := 4, cells := 0, slots := 0, locals := 88 } s m args below meth c A D 4 0 0 (MQ below (va_Qv (fun (u : Ob) => post u) (ctB D A (fun u : Ob => w8 cI cZ qS oS ++ w3 cI cZ qG u)) A) args s 0 0 A) (w8 cI cZ qS oS ++ w3 cI cZ qG oG_71) 71 [(0, .ref (qG 0)), (1, .ref (qS 0)), (2, .int y17), (3, .int v3_20)] []) h (fun oG_71 h => ?_) (fun J71 hJ71 h => ?_)
          · refine SW.iinc (q := 3) (v := (v3_20 + (1 : Int32))) (lv' := [(3, .int (v3_20 + (1 : Int32))), (0, .ref (qG 0)), (1, .ref (qS 0)), (2, .int y17)]) C dX3_gather_71 rfl rfl (by decide) rfl ?_
            refine SW.goto (tgt := 20) C dX3_gather_74 (by decide) ?_
            refine SW.sub [1, 2, 3, 0] rfl ?_
            exact ih _ _ h
          · refine SW.if_eq (tgt := 71) C dX3_gather_40 (by decide) (fun hc => ?_) (fun hc => ?_)
            · replace h := h.1 hc
              exact hJ71 _ h
            · replace h := h.2 hc
              refine SW.aload_n C dX3_gather_43 rfl 1 rfl ?_
              refine SW.iload_n C dX3_gather_44 rfl 3 rfl ?_
              refine SW.callVi_sub (wr := w3 cI cZ qG oG_20) (wn := fun u : Unit => w8 cI cZ qS oS ++ w3 cI cZ qG oG_20) C (ctX8_agreesWithSights l D cI cZ qS oS v3_20 _ h) gX3_gather_X8_agreesWithSights rfl rfl rfl pdX8_agreesWithSights ⟨by decide, by decide⟩ [0, 1, 2, 3, 4, 5, 6] [7, 8, 9] [3, 4, 5, 6, 7, 8, 9, 0, 1, 2] rfl rfl (by decide) (by decide) (by decide) (by decide) (fun _ => rfl) 0 rfl rfl rfl rfl rfl (Nat.le_of_ble_eq_true rfl) dX3_gather_45 (by decide) (fun r45 u h => ?_)
              try dsimp only at h
              refine SW.if_eq (tgt := 71) C dX3_gather_48 (by decide) (fun hc => ?_) (fun hc => ?_)
              · replace h := h.1 hc
                exact hJ71 _ h
              · replace h := h.2 hc
                refine SW.aload_n C dX3_gather_51 rfl 0 rfl ?_
                refine SW.get (v := .ref (qG 1)) (T := TX3) (N := 5) C inX3_gather_X3 7 rfl rfl 0 (by decide) lkX3_gather_9 rfl dX3_gather_52 ?_
                refine SW.aload_n C dX3_gather_55 rfl 0 rfl ?_
                refine SW.get (v := .int (oG_20 0 2)) (T := TX3) (N := 5) C inX3_gather_X3 7 rfl rfl 2 (by decide) lkX3_gather_25 rfl dX3_gather_56 ?_
                refine SW.iload_n C dX3_gather_59 rfl 3 rfl ?_
                refine SW.iast (ws' := w8 cI cZ qS oS ++ w3 cI cZ qG (pa oG_20 1 (nC (oG_20 0 2)) v3_20)) C 8 0 rfl rfl h.1 rfl dX3_gather_60 ?_
                replace h := h.2
                refine SW.aload_n C dX3_gather_61 rfl 0 rfl ?_
                refine SW.dup C dX3_gather_62 rfl ?_
                refine SW.get (v := .int (oG_20 0 2)) (T := TX3) (N := 5) C inX3_gather_X3 7 rfl rfl 2 (by decide) lkX3_gather_25 rfl dX3_gather_63 ?_
                refine SW.iconst (v := (1 : Int32)) C dX3_gather_66 (by decide) ?_
                refine SW.iadd C dX3_gather_67 ?_
                refine SW.nameOb (wz := fun z => w8 cI cZ qS oS ++ w3 cI cZ qG z) (o := (pa oG_20 1 (nC (oG_20 0 2)) v3_20)) (fun oG_68n he => ?_)
                replace h := h oG_68n he
                refine SW.put (ws' := w8 cI cZ qS oS ++ w3 cI cZ qG (pf oG_68n 2 ((oG_20 0 2) + (1 : Int32)))) (T := TX3) (N := 5) C inX3_gather_X3 tyX3 tyX3_ok nmX3 7 rfl rfl 2 (by decide) lkX3_gather_25 rfl rfl rfl (Nat.le_of_ble_eq_true rfl) rfl dX3_gather_68 ?_
                exact hJ71 _ h
  obtain ⟨fu, h⟩ := h
  refine SW.sub [2, 3, 1, 0] rfl ?_
  refine L20 _ (fun oG_77 h => ?_) fu _ _ h
  · exact SW.vret C oG_77 rfl h dX3_gather_77
def wpX3_inSome_L4 (oGc_4 : Ob) (K27 : Int32 → Prop) : Nat → Int32 → Int32 → Prop
  | 0, _, _ => False
  | fu4 + 1, v1_4, v2_4 => (((oGc_4 0 2) ≤ v2_4) → K27 v1_4) ∧ (¬ ((oGc_4 0 2) ≤ v2_4) → (vp_in v2_4 1024) ∧ (wpX3_inSome_L4 oGc_4 K27 fu4 (v1_4 ||| (jld (oGc_4 1) v2_4)) (v2_4 + (1 : Int32))))
def wpX3_inSome (oG : Ob) (post : Int32 → Prop) : Prop := ∃ fu4 : Nat, wpX3_inSome_L4 oG (fun (v1_27 : Int32) => post v1_27) fu4 (0 : Int32) (0 : Int32)
theorem pdX3_inSome : yX3_inSome.cls = RX3 ∧ yX3_inSome.cls ≠ "java/lang/invoke/MethodHandle" ∧ yX3_inSome.cls ≠ "java/lang/invoke/VarHandle" ∧ (parseMethodDescriptor yX3_inSome.desc).map (fun d => d.parameters.length) = some 0 := by decide +kernel
theorem lkX3_inSome_25 : Cond.fieldLink RX3 25 (TX3 2).1 (TX3 2).2.1 (TX3 2).2.2.1 ∈ wsX3_inSome := by decide +kernel
theorem inX3_inSome_X3 : ∀ w ∈ u_ws RX3 TX3 5, w ∈ wsX3_inSome := by decide +kernel
theorem lkX3_inSome_9 : Cond.fieldLink RX3 9 (TX3 0).1 (TX3 0).2.1 (TX3 0).2.2.1 ∈ wsX3_inSome := by decide +kernel
set_option maxHeartbeats 4000000 in
set_option maxRecDepth 100000 in
theorem ctX3_inSome (l : Launch) (D : va_G) (cI cZ : ClassId) (qG : Nat → Nat) (oG : Ob) (post : Int32 → Prop) (h : wpX3_inSome oG post) : CTi l yX3_inSome wsX3_inSome { frames := 0, cells := 0, slots := 0, locals := 0 } D [(cI, .int), (cZ, .boolean)] [.ref (qG 0)] (w3 cI cZ qG oG) (fun _ : Unit => w3 cI cZ qG oG) (fun (r : Int32) (_ : Unit) => post r) := by
  refine CTi.of (cc := cX3_inSome) (own := RX3) (maxL := 3) (ret := (some .int)) (lv0 := [(0, .ref (qG 0))]) (by decide) rfl rfl (Nat.le_of_ble_eq_true rfl) rfl ?_
  intro p e s m args below meth c A C
  unfold wpX3_inSome at h
  refine SW.iconst (v := (0 : Int32)) C dX3_inSome_0 (by decide) ?_
  refine SW.istore_n (lv' := [(1, .int (0 : Int32)), (0, .ref (qG 0))]) C dX3_inSome_1 rfl (by decide) rfl ?_
  refine SW.iconst (v := (0 : Int32)) C dX3_inSome_2 (by decide) ?_
  refine SW.istore_n (lv' := [(2, .int (0 : Int32)), (1, .int (0 : Int32)), (0, .ref (qG 0))]) C dX3_inSome_3 rfl (by decide) rfl ?_
  have L4 : ∀ (K27 : Int32 → Prop) (hK27 : ∀ (v1_27 : Int32), K27 v1_27 → SW p l e { frames := 0, cells := 0, slots := 0, locals := 0 } s m args below meth c A D 3 0 0 (MQ below (va_Qi (fun (r : Int32) (_ : Unit) => post r) (ctB D A (fun _ : Unit => w3 cI cZ qG oG)) A) args s 0 0 A) (w3 cI cZ qG oG) 27 [(1, .int v1_27)] []) (fu : Nat) (v1_4 : Int32) (v2_4 : Int32), wpX3_inSome_L4 oG K27 fu v1_4 v2_4 → SW p l e { frames := 0, cells := 0, slots := 0, locals := 0 } s m args below meth c A D 3 0 0 (MQ below (va_Qi (fun (r : Int32) (_ : Unit) => post r) (ctB D A (fun _ : Unit => w3 cI cZ qG oG)) A) args s 0 0 A) (w3 cI cZ qG oG) 4 [(0, .ref (qG 0)), (1, .int v1_4), (2, .int v2_4)] [] := by
    intro K27 hK27 fu
    induction fu with
    | zero =>
      intro v1_4 v2_4 h
      exact False.elim h
    | succ fu ih =>
      intro v1_4 v2_4 h
      unfold wpX3_inSome_L4 at h
      refine SW.iload_n C dX3_inSome_4 rfl 2 rfl ?_
      refine SW.aload_n C dX3_inSome_5 rfl 0 rfl ?_
      refine SW.get (v := .int (oG 0 2)) (T := TX3) (N := 5) C inX3_inSome_X3 0 rfl rfl 2 (by decide) lkX3_inSome_25 rfl dX3_inSome_6 ?_
      refine SW.icmp_ge (tgt := 27) C dX3_inSome_9 (by decide) (fun hc => ?_) (fun hc => ?_)
      · replace h := h.1 hc
        refine SW.sub [1] rfl ?_
        exact hK27 _ h
      · replace h := h.2 hc
        refine SW.iload_n C dX3_inSome_12 rfl 1 rfl ?_
        refine SW.aload_n C dX3_inSome_13 rfl 0 rfl ?_
        refine SW.get (v := .ref (qG 1)) (T := TX3) (N := 5) C inX3_inSome_X3 0 rfl rfl 0 (by decide) lkX3_inSome_9 rfl dX3_inSome_14 ?_
        refine SW.iload_n C dX3_inSome_17 rfl 2 rfl ?_
        refine SW.iald C 1 0 rfl rfl h.1 dX3_inSome_18 ?_
        replace h := h.2
        refine SW.ior C dX3_inSome_19 ?_
        refine SW.istore_n (lv' := [(1, .int (v1_4 ||| (jld (oG 1) v2_4))), (0, .ref (qG 0)), (2, .int v2_4)]) C dX3_inSome_20 rfl (by decide) rfl ?_
        refine SW.iinc (q := 2) (v := (v2_4 + (1 : Int32))) (lv' := [(2, .int (v2_4 + (1 : Int32))), (1, .int (v1_4 ||| (jld (oG 1) v2_4))), (0, .ref (qG 0))]) C dX3_inSome_21 rfl rfl (by decide) rfl ?_
        refine SW.goto (tgt := 4) C dX3_inSome_24 (by decide) ?_
        refine SW.sub [2, 1, 0] rfl ?_
        exact ih _ _ h
  obtain ⟨fu, h⟩ := h
  refine SW.sub [2, 1, 0] rfl ?_
  refine L4 _ (fun v1_27 h => ?_) fu _ _ h
  · refine SW.iload_n C dX3_inSome_27 rfl 0 rfl ?_
    exact SW.iret C () rfl h dX3_inSome_28
def wpX3_inAll_L15 (oGc_15 : Ob) (K38 : Int32 → Prop) : Nat → Int32 → Int32 → Prop
  | 0, _, _ => False
  | fu15 + 1, v1_15, v2_15 => (((oGc_15 0 2) ≤ v2_15) → K38 v1_15) ∧ (¬ ((oGc_15 0 2) ≤ v2_15) → (vp_in v2_15 1024) ∧ (wpX3_inAll_L15 oGc_15 K38 fu15 (v1_15 &&& (jld (oGc_15 1) v2_15)) (v2_15 + (1 : Int32))))
def wpX3_inAll (oG : Ob) (post : Int32 → Prop) : Prop := (((oG 0 2) = 0) → post (0 : Int32)) ∧ (¬ ((oG 0 2) = 0) → ∃ fu15 : Nat, wpX3_inAll_L15 oG (fun (v1_38 : Int32) => post v1_38) fu15 (1023 : Int32) (0 : Int32))
theorem pdX3_inAll : yX3_inAll.cls = RX3 ∧ yX3_inAll.cls ≠ "java/lang/invoke/MethodHandle" ∧ yX3_inAll.cls ≠ "java/lang/invoke/VarHandle" ∧ (parseMethodDescriptor yX3_inAll.desc).map (fun d => d.parameters.length) = some 0 := by decide +kernel
theorem lkX3_inAll_25 : Cond.fieldLink RX3 25 (TX3 2).1 (TX3 2).2.1 (TX3 2).2.2.1 ∈ wsX3_inAll := by decide +kernel
theorem inX3_inAll_X3 : ∀ w ∈ u_ws RX3 TX3 5, w ∈ wsX3_inAll := by decide +kernel
theorem lkX3_inAll_9 : Cond.fieldLink RX3 9 (TX3 0).1 (TX3 0).2.1 (TX3 0).2.2.1 ∈ wsX3_inAll := by decide +kernel
set_option maxHeartbeats 4000000 in
set_option maxRecDepth 100000 in
theorem ctX3_inAll (l : Launch) (D : va_G) (cI cZ : ClassId) (qG : Nat → Nat) (oG : Ob) (post : Int32 → Prop) (h : wpX3_inAll oG post) : CTi l yX3_inAll wsX3_inAll { frames := 0, cells := 0, slots := 0, locals := 0 } D [(cI, .int), (cZ, .boolean)] [.ref (qG 0)] (w3 cI cZ qG oG) (fun _ : Unit => w3 cI cZ qG oG) (fun (r : Int32) (_ : Unit) => post r) := by
  refine CTi.of (cc := cX3_inAll) (own := RX3) (maxL := 3) (ret := (some .int)) (lv0 := [(0, .ref (qG 0))]) (by decide) rfl rfl (Nat.le_of_ble_eq_true rfl) rfl ?_
  intro p e s m args below meth c A C
  unfold wpX3_inAll at h
  refine SW.aload_n C dX3_inAll_0 rfl 0 rfl ?_
  refine SW.get (v := .int (oG 0 2)) (T := TX3) (N := 5) C inX3_inAll_X3 0 rfl rfl 2 (by decide) lkX3_inAll_25 rfl dX3_inAll_1 ?_
  refine SW.if_ne (tgt := 9) C dX3_inAll_4 (by decide) (fun hc => ?_) (fun hc => ?_)
  · replace h := h.2 hc
    refine SW.sipush (v := (1023 : Int32)) C dX3_inAll_9 (by decide) ?_
    refine SW.istore_n (lv' := [(1, .int (1023 : Int32)), (0, .ref (qG 0))]) C dX3_inAll_12 rfl (by decide) rfl ?_
    refine SW.iconst (v := (0 : Int32)) C dX3_inAll_13 (by decide) ?_
    refine SW.istore_n (lv' := [(2, .int (0 : Int32)), (1, .int (1023 : Int32)), (0, .ref (qG 0))]) C dX3_inAll_14 rfl (by decide) rfl ?_
    have L15 : ∀ (K38 : Int32 → Prop) (hK38 : ∀ (v1_38 : Int32), K38 v1_38 → SW p l e { frames := 0, cells := 0, slots := 0, locals := 0 } s m args below meth c A D 3 0 0 (MQ below (va_Qi (fun (r : Int32) (_ : Unit) => post r) (ctB D A (fun _ : Unit => w3 cI cZ qG oG)) A) args s 0 0 A) (w3 cI cZ qG oG) 38 [(1, .int v1_38)] []) (fu : Nat) (v1_15 : Int32) (v2_15 : Int32), wpX3_inAll_L15 oG K38 fu v1_15 v2_15 → SW p l e { frames := 0, cells := 0, slots := 0, locals := 0 } s m args below meth c A D 3 0 0 (MQ below (va_Qi (fun (r : Int32) (_ : Unit) => post r) (ctB D A (fun _ : Unit => w3 cI cZ qG oG)) A) args s 0 0 A) (w3 cI cZ qG oG) 15 [(0, .ref (qG 0)), (1, .int v1_15), (2, .int v2_15)] [] := by
      intro K38 hK38 fu
      induction fu with
      | zero =>
        intro v1_15 v2_15 h
        exact False.elim h
      | succ fu ih =>
        intro v1_15 v2_15 h
        unfold wpX3_inAll_L15 at h
        refine SW.iload_n C dX3_inAll_15 rfl 2 rfl ?_
        refine SW.aload_n C dX3_inAll_16 rfl 0 rfl ?_
        refine SW.get (v := .int (oG 0 2)) (T := TX3) (N := 5) C inX3_inAll_X3 0 rfl rfl 2 (by decide) lkX3_inAll_25 rfl dX3_inAll_17 ?_
        refine SW.icmp_ge (tgt := 38) C dX3_inAll_20 (by decide) (fun hc => ?_) (fun hc => ?_)
        · replace h := h.1 hc
          refine SW.sub [1] rfl ?_
          exact hK38 _ h
        · replace h := h.2 hc
          refine SW.iload_n C dX3_inAll_23 rfl 1 rfl ?_
          refine SW.aload_n C dX3_inAll_24 rfl 0 rfl ?_
          refine SW.get (v := .ref (qG 1)) (T := TX3) (N := 5) C inX3_inAll_X3 0 rfl rfl 0 (by decide) lkX3_inAll_9 rfl dX3_inAll_25 ?_
          refine SW.iload_n C dX3_inAll_28 rfl 2 rfl ?_
          refine SW.iald C 1 0 rfl rfl h.1 dX3_inAll_29 ?_
          replace h := h.2
          refine SW.iand C dX3_inAll_30 ?_
          refine SW.istore_n (lv' := [(1, .int (v1_15 &&& (jld (oG 1) v2_15))), (0, .ref (qG 0)), (2, .int v2_15)]) C dX3_inAll_31 rfl (by decide) rfl ?_
          refine SW.iinc (q := 2) (v := (v2_15 + (1 : Int32))) (lv' := [(2, .int (v2_15 + (1 : Int32))), (1, .int (v1_15 &&& (jld (oG 1) v2_15))), (0, .ref (qG 0))]) C dX3_inAll_32 rfl rfl (by decide) rfl ?_
          refine SW.goto (tgt := 15) C dX3_inAll_35 (by decide) ?_
          refine SW.sub [2, 1, 0] rfl ?_
          exact ih _ _ h
    obtain ⟨fu, h⟩ := h
    refine SW.sub [2, 1, 0] rfl ?_
    refine L15 _ (fun v1_38 h => ?_) fu _ _ h
    · refine SW.iload_n C dX3_inAll_38 rfl 0 rfl ?_
      exact SW.iret C () rfl h dX3_inAll_39
  · replace h := h.1 hc
    refine SW.iconst (v := (0 : Int32)) C dX3_inAll_7 (by decide) ?_
    exact SW.iret C () rfl h dX3_inAll_8
def wpX3_least (oG : Ob) (post : Int32 → Prop) : Prop := (((oG 0 2) = 0) → post (-6 : Int32)) ∧ (¬ ((oG 0 2) = 0) → post (jld (oG 1) (0 : Int32)))
theorem pdX3_least : yX3_least.cls = RX3 ∧ yX3_least.cls ≠ "java/lang/invoke/MethodHandle" ∧ yX3_least.cls ≠ "java/lang/invoke/VarHandle" ∧ (parseMethodDescriptor yX3_least.desc).map (fun d => d.parameters.length) = some 0 := by decide +kernel
theorem lkX3_least_25 : Cond.fieldLink RX3 25 (TX3 2).1 (TX3 2).2.1 (TX3 2).2.2.1 ∈ wsX3_least := by decide +kernel
theorem inX3_least_X3 : ∀ w ∈ u_ws RX3 TX3 5, w ∈ wsX3_least := by decide +kernel
theorem lkX3_least_9 : Cond.fieldLink RX3 9 (TX3 0).1 (TX3 0).2.1 (TX3 0).2.2.1 ∈ wsX3_least := by decide +kernel
set_option maxHeartbeats 4000000 in
set_option maxRecDepth 100000 in
theorem ctX3_least (l : Launch) (D : va_G) (cI cZ : ClassId) (qG : Nat → Nat) (oG : Ob) (post : Int32 → Prop) (h : wpX3_least oG post) : CTi l yX3_least wsX3_least { frames := 0, cells := 0, slots := 0, locals := 0 } D [(cI, .int), (cZ, .boolean)] [.ref (qG 0)] (w3 cI cZ qG oG) (fun _ : Unit => w3 cI cZ qG oG) (fun (r : Int32) (_ : Unit) => post r) := by
  refine CTi.of (cc := cX3_least) (own := RX3) (maxL := 1) (ret := (some .int)) (lv0 := [(0, .ref (qG 0))]) (by decide) rfl rfl (Nat.le_of_ble_eq_true rfl) rfl ?_
  intro p e s m args below meth c A C
  unfold wpX3_least at h
  refine SW.aload_n C dX3_least_0 rfl 0 rfl ?_
  refine SW.get (v := .int (oG 0 2)) (T := TX3) (N := 5) C inX3_least_X3 0 rfl rfl 2 (by decide) lkX3_least_25 rfl dX3_least_1 ?_
  refine SW.if_ne (tgt := 12) C dX3_least_4 (by decide) (fun hc => ?_) (fun hc => ?_)
  · replace h := h.2 hc
    refine SW.aload_n C dX3_least_12 rfl 0 rfl ?_
    refine SW.get (v := .ref (qG 1)) (T := TX3) (N := 5) C inX3_least_X3 0 rfl rfl 0 (by decide) lkX3_least_9 rfl dX3_least_13 ?_
    refine SW.iconst (v := (0 : Int32)) C dX3_least_16 (by decide) ?_
    refine SW.iald C 1 0 rfl rfl (by unfold vp_in; decide) dX3_least_17 ?_
    exact SW.iret C () rfl h dX3_least_18
  · replace h := h.1 hc
    refine SW.bipush (v := (-6 : Int32)) C dX3_least_7 (by decide) ?_
    refine SW.goto (tgt := 18) C dX3_least_9 (by decide) ?_
    exact SW.iret C () rfl h dX3_least_18
def wpX3_leftAtMost_L2 (K22 : Ob → Prop) : Nat → Int32 → Ob → Prop
  | 0, _, _ => False
  | fu2 + 1, v3_2, oG_2 => (((200 : Int32) < v3_2) → K22 oG_2) ∧ (¬ ((200 : Int32) < v3_2) → (vp_in v3_2 201) ∧ (wpX3_leftAtMost_L2 K22 fu2 (v3_2 + (1 : Int32)) (pa oG_2 2 (nC v3_2) (0 : Int32))))
def wpX3_leftAtMost_L27 (c2_27 : Int32) (oSc_27 : Ob) (K92 : Int32 → Ob → Prop) : Nat → Int32 → Int32 → Ob → Prop
  | 0, _, _, _ => False
  | fu27 + 1, v3_27, v4_27, oG_27 => (((oG_27 0 2) ≤ v4_27) → K92 v3_27 oG_27) ∧ (¬ ((oG_27 0 2) ≤ v4_27) → (vp_in v4_27 1024) ∧ (wpX8_lengthAt oSc_27 c2_27 (jld (oG_27 1) v4_27) (fun (r45 : Int32) => jn2 (fun (v3_86 : Int32) (oG_86 : Ob) => wpX3_leftAtMost_L27 c2_27 oSc_27 K92 fu27 v3_86 (v4_27 + (1 : Int32)) oG_86) (fun J86 => ((r45 < 0) → J86 v3_27 oG_27) ∧ (¬ (r45 < 0) → (((200 : Int32) < r45) → J86 v3_27 oG_27) ∧ (¬ ((200 : Int32) < r45) → (vp_in r45 201) ∧ ((vp_in r45 201) ∧ ((vp_in r45 201) ∧ (∀ y85 : Int32, y85 = (jmax v3_27 (jld (upd (oG_27 2) (nC r45) ((jld (oG_27 2) r45) + (1 : Int32))) r45)) → (J86 y85 (pa oG_27 2 (nC r45) ((jld (oG_27 2) r45) + (1 : Int32)))))))))))))
def wpX3_leftAtMost (oS : Ob) (oG : Ob) (v2 : Int32) (post : Int32 → Ob → Prop) : Prop := ∃ fu2 : Nat, wpX3_leftAtMost_L2 (fun (oG_22 : Ob) => ∃ fu27 : Nat, wpX3_leftAtMost_L27 v2 oS (fun (v3_92 : Int32) (oG_92 : Ob) => post v3_92 oG_92) fu27 (0 : Int32) (0 : Int32) oG_22) fu2 (0 : Int32) oG
theorem pdX3_leftAtMost : yX3_leftAtMost.cls = RX3 ∧ yX3_leftAtMost.cls ≠ "java/lang/invoke/MethodHandle" ∧ yX3_leftAtMost.cls ≠ "java/lang/invoke/VarHandle" ∧ (parseMethodDescriptor yX3_leftAtMost.desc).map (fun d => d.parameters.length) = some 2 := by decide +kernel
theorem lkX3_leftAtMost_15 : Cond.fieldLink RX3 15 (TX3 1).1 (TX3 1).2.1 (TX3 1).2.2.1 ∈ wsX3_leftAtMost := by decide +kernel
theorem inX3_leftAtMost_X3 : ∀ w ∈ u_ws RX3 TX3 5, w ∈ wsX3_leftAtMost := by decide +kernel
theorem lkX3_leftAtMost_25 : Cond.fieldLink RX3 25 (TX3 2).1 (TX3 2).2.1 (TX3 2).2.2.1 ∈ wsX3_leftAtMost := by decide +kernel
theorem lkX3_leftAtMost_9 : Cond.fieldLink RX3 9 (TX3 0).1 (TX3 0).2.1 (TX3 0).2.2.1 ∈ wsX3_leftAtMost := by decide +kernel
set_option maxHeartbeats 4000000 in
set_option maxRecDepth 100000 in
theorem ctX3_leftAtMost (l : Launch) (D : va_G) (cI cZ : ClassId) (qS : Nat → Nat) (qG : Nat → Nat) (oS : Ob) (oG : Ob) (v2 : Int32) (post : Int32 → Ob → Prop) (h : wpX3_leftAtMost oS oG v2 post) : CTi l yX3_leftAtMost wsX3_leftAtMost { frames := 3, cells := 0, slots := 0, locals := 66 } D [(cI, .int), (cZ, .boolean)] [.ref (qG 0), .ref (qS 0), .int v2] (w8 cI cZ qS oS ++ w3 cI cZ qG oG) (fun u : Ob => w8 cI cZ qS oS ++ w3 cI cZ qG u) (fun (r : Int32) (u : Ob) => post r u) := by
  refine CTi.of (cc := cX3_leftAtMost) (own := RX3) (maxL := 6) (ret := (some .int)) (lv0 := [(0, .ref (qG 0)), (1, .ref (qS 0)), (2, .int v2)]) (by decide) rfl rfl (Nat.le_of_ble_eq_true rfl) rfl ?_
  intro p e s m args below meth c A C
  unfold wpX3_leftAtMost at h
  refine SW.iconst (v := (0 : Int32)) C dX3_leftAtMost_0 (by decide) ?_
  refine SW.istore_n (lv' := [(3, .int (0 : Int32)), (0, .ref (qG 0)), (1, .ref (qS 0)), (2, .int v2)]) C dX3_leftAtMost_1 rfl (by decide) rfl ?_
  have L2 : ∀ (K22 : Ob → Prop) (hK22 : ∀ (oG_22 : Ob), K22 oG_22 → SW p l e { frames := 3, cells := 0, slots := 0, locals := 66 } s m args below meth c A D 6 0 0 (MQ below (va_Qi (fun (r : Int32) (u : Ob) => post r u) (ctB D A (fun u : Ob => w8 cI cZ qS oS ++ w3 cI cZ qG u)) A) args s 0 0 A) (w8 cI cZ qS oS ++ w3 cI cZ qG oG_22) 22 [(0, .ref (qG 0)), (1, .ref (qS 0)), (2, .int v2)] []) (fu : Nat) (v3_2 : Int32) (oG_2 : Ob), wpX3_leftAtMost_L2 K22 fu v3_2 oG_2 → SW p l e { frames := 3, cells := 0, slots := 0, locals := 66 } s m args below meth c A D 6 0 0 (MQ below (va_Qi (fun (r : Int32) (u : Ob) => post r u) (ctB D A (fun u : Ob => w8 cI cZ qS oS ++ w3 cI cZ qG u)) A) args s 0 0 A) (w8 cI cZ qS oS ++ w3 cI cZ qG oG_2) 2 [(0, .ref (qG 0)), (1, .ref (qS 0)), (2, .int v2), (3, .int v3_2)] [] := by
    intro K22 hK22 fu
    induction fu with
    | zero =>
      intro v3_2 oG_2 h
      exact False.elim h
    | succ fu ih =>
      intro v3_2 oG_2 h
      unfold wpX3_leftAtMost_L2 at h
      refine SW.iload_n C dX3_leftAtMost_2 rfl 3 rfl ?_
      refine SW.sipush (v := (200 : Int32)) C dX3_leftAtMost_3 (by decide) ?_
      refine SW.icmp_gt (tgt := 22) C dX3_leftAtMost_6 (by decide) (fun hc => ?_) (fun hc => ?_)
      · replace h := h.1 hc
        refine SW.sub [0, 1, 2] rfl ?_
        exact hK22 _ h
      · replace h := h.2 hc
        refine SW.aload_n C dX3_leftAtMost_9 rfl 0 rfl ?_
        refine SW.get (v := .ref (qG 2)) (T := TX3) (N := 5) C inX3_leftAtMost_X3 7 rfl rfl 1 (by decide) lkX3_leftAtMost_15 rfl dX3_leftAtMost_10 ?_
        refine SW.iload_n C dX3_leftAtMost_13 rfl 3 rfl ?_
        refine SW.iconst (v := (0 : Int32)) C dX3_leftAtMost_14 (by decide) ?_
        refine SW.iast (ws' := w8 cI cZ qS oS ++ w3 cI cZ qG (pa oG_2 2 (nC v3_2) (0 : Int32))) C 9 0 rfl rfl h.1 rfl dX3_leftAtMost_15 ?_
        replace h := h.2
        refine SW.iinc (q := 3) (v := (v3_2 + (1 : Int32))) (lv' := [(3, .int (v3_2 + (1 : Int32))), (0, .ref (qG 0)), (1, .ref (qS 0)), (2, .int v2)]) C dX3_leftAtMost_16 rfl rfl (by decide) rfl ?_
        refine SW.goto (tgt := 2) C dX3_leftAtMost_19 (by decide) ?_
        refine SW.sub [1, 2, 3, 0] rfl ?_
        exact ih _ _ h
  obtain ⟨fu, h⟩ := h
  refine SW.sub [1, 2, 3, 0] rfl ?_
  refine L2 _ (fun oG_22 h => ?_) fu _ _ h
  · refine SW.iconst (v := (0 : Int32)) C dX3_leftAtMost_22 (by decide) ?_
    refine SW.istore_n (lv' := [(3, .int (0 : Int32)), (0, .ref (qG 0)), (1, .ref (qS 0)), (2, .int v2)]) C dX3_leftAtMost_23 rfl (by decide) rfl ?_
    refine SW.iconst (v := (0 : Int32)) C dX3_leftAtMost_24 (by decide) ?_
    refine SW.istore (lv' := [(4, .int (0 : Int32)), (3, .int (0 : Int32)), (0, .ref (qG 0)), (1, .ref (qS 0)), (2, .int v2)]) C dX3_leftAtMost_25 (by decide) rfl ?_
    have L27 : ∀ (K92 : Int32 → Ob → Prop) (hK92 : ∀ (v3_92 : Int32) (oG_92 : Ob), K92 v3_92 oG_92 → SW p l e { frames := 3, cells := 0, slots := 0, locals := 66 } s m args below meth c A D 6 0 0 (MQ below (va_Qi (fun (r : Int32) (u : Ob) => post r u) (ctB D A (fun u : Ob => w8 cI cZ qS oS ++ w3 cI cZ qG u)) A) args s 0 0 A) (w8 cI cZ qS oS ++ w3 cI cZ qG oG_92) 92 [(3, .int v3_92)] []) (fu : Nat) (v3_27 : Int32) (v4_27 : Int32) (oG_27 : Ob), wpX3_leftAtMost_L27 v2 oS K92 fu v3_27 v4_27 oG_27 → SW p l e { frames := 3, cells := 0, slots := 0, locals := 66 } s m args below meth c A D 6 0 0 (MQ below (va_Qi (fun (r : Int32) (u : Ob) => post r u) (ctB D A (fun u : Ob => w8 cI cZ qS oS ++ w3 cI cZ qG u)) A) args s 0 0 A) (w8 cI cZ qS oS ++ w3 cI cZ qG oG_27) 27 [(0, .ref (qG 0)), (1, .ref (qS 0)), (2, .int v2), (3, .int v3_27), (4, .int v4_27)] [] := by
      intro K92 hK92 fu
      induction fu with
      | zero =>
        intro v3_27 v4_27 oG_27 h
        exact False.elim h
      | succ fu ih =>
        intro v3_27 v4_27 oG_27 h
        unfold wpX3_leftAtMost_L27 at h
        refine SW.iload C dX3_leftAtMost_27 4 rfl ?_
        refine SW.aload_n C dX3_leftAtMost_29 rfl 0 rfl ?_
        refine SW.get (v := .int (oG_27 0 2)) (T := TX3) (N := 5) C inX3_leftAtMost_X3 7 rfl rfl 2 (by decide) lkX3_leftAtMost_25 rfl dX3_leftAtMost_30 ?_
        refine SW.icmp_ge (tgt := 92) C dX3_leftAtMost_33 (by decide) (fun hc => ?_) (fun hc => ?_)
        · replace h := h.1 hc
          refine SW.sub [3] rfl ?_
          exact hK92 _ _ h
        · replace h := h.2 hc
          refine SW.aload_n C dX3_leftAtMost_36 rfl 1 rfl ?_
          refine SW.iload_n C dX3_leftAtMost_37 rfl 2 rfl ?_
          refine SW.aload_n C dX3_leftAtMost_38 rfl 0 rfl ?_
          refine SW.get (v := .ref (qG 1)) (T := TX3) (N := 5) C inX3_leftAtMost_X3 7 rfl rfl 0 (by decide) lkX3_leftAtMost_9 rfl dX3_leftAtMost_39 ?_
          refine SW.iload C dX3_leftAtMost_42 4 rfl ?_
          refine SW.iald C 8 0 rfl rfl h.1 dX3_leftAtMost_44 ?_
          replace h := h.2
          refine SW.callVi_sub (wr := w3 cI cZ qG oG_27) (wn := fun u : Unit => w8 cI cZ qS oS ++ w3 cI cZ qG oG_27) C (ctX8_lengthAt l D cI cZ qS oS v2 (jld (oG_27 1) v4_27) _ h) gX3_leftAtMost_X8_lengthAt rfl rfl rfl pdX8_lengthAt ⟨by decide, by decide⟩ [0, 1, 2, 3, 4, 5, 6] [7, 8, 9] [3, 4, 5, 6, 7, 8, 9, 0, 1, 2] rfl rfl (by decide) (by decide) (by decide) (by decide) (fun _ => rfl) 0 rfl rfl rfl rfl rfl (Nat.le_of_ble_eq_true rfl) dX3_leftAtMost_45 (by decide) (fun r45 u h => ?_)
          try dsimp only at h
          refine SW.istore (lv' := [(5, .int r45), (0, .ref (qG 0)), (1, .ref (qS 0)), (2, .int v2), (3, .int v3_27), (4, .int v4_27)]) C dX3_leftAtMost_48 (by decide) rfl ?_
          refine SW.iload C dX3_leftAtMost_50 0 rfl ?_
          refine jn2_elim (G := fun v3_86 oG_86 => SW p l e { frames := 3, cells := 0, slots := 0, locals := 66 } s m args below meth c A D 6 0 0 (MQ below (va_Qi (fun (r : Int32) (u : Ob) => post r u) (ctB D A (fun u : Ob => w8 cI cZ qS oS ++ w3 cI cZ qG u)) A) args s 0 0 A) (w8 cI cZ qS oS ++ w3 cI cZ qG oG_86) 86 [(0, .ref (qG 0)), (1, .ref (qS 0)), (2, .int v2), (3, .int v3_86), (4, .int v4_27)] []) h (fun v3_86 oG_86 h => ?_) (fun J86 hJ86 h => ?_)
          · refine SW.iinc (q := 4) (v := (v4_27 + (1 : Int32))) (lv' := [(4, .int (v4_27 + (1 : Int32))), (0, .ref (qG 0)), (1, .ref (qS 0)), (2, .int v2), (3, .int v3_86)]) C dX3_leftAtMost_86 rfl rfl (by decide) rfl ?_
            refine SW.goto (tgt := 27) C dX3_leftAtMost_89 (by decide) ?_
            refine SW.sub [1, 2, 3, 4, 0] rfl ?_
            exact ih _ _ _ h
          · refine SW.if_lt (tgt := 86) C dX3_leftAtMost_52 (by decide) (fun hc => ?_) (fun hc => ?_)
            · replace h := h.1 hc
              refine SW.sub [1, 2, 3, 4, 5] rfl ?_
              exact hJ86 _ _ h
            · replace h := h.2 hc
              refine SW.iload C dX3_leftAtMost_55 0 rfl ?_
              refine SW.sipush (v := (200 : Int32)) C dX3_leftAtMost_57 (by decide) ?_
              refine SW.icmp_gt (tgt := 86) C dX3_leftAtMost_60 (by decide) (fun hc => ?_) (fun hc => ?_)
              · replace h := h.1 hc
                refine SW.sub [1, 2, 3, 4, 5] rfl ?_
                exact hJ86 _ _ h
              · replace h := h.2 hc
                refine SW.aload_n C dX3_leftAtMost_63 rfl 1 rfl ?_
                refine SW.get (v := .ref (qG 2)) (T := TX3) (N := 5) C inX3_leftAtMost_X3 7 rfl rfl 1 (by decide) lkX3_leftAtMost_15 rfl dX3_leftAtMost_64 ?_
                refine SW.iload C dX3_leftAtMost_67 0 rfl ?_
                refine SW.dup2 C dX3_leftAtMost_69 rfl rfl ?_
                refine SW.iald C 9 0 rfl rfl h.1 dX3_leftAtMost_70 ?_
                replace h := h.2
                refine SW.iconst (v := (1 : Int32)) C dX3_leftAtMost_71 (by decide) ?_
                refine SW.iadd C dX3_leftAtMost_72 ?_
                refine SW.iast (ws' := w8 cI cZ qS oS ++ w3 cI cZ qG (pa oG_27 2 (nC r45) ((jld (oG_27 2) r45) + (1 : Int32)))) C 9 0 rfl rfl h.1 rfl dX3_leftAtMost_73 ?_
                replace h := h.2
                refine SW.iload_n C dX3_leftAtMost_74 rfl 4 rfl ?_
                refine SW.aload_n C dX3_leftAtMost_75 rfl 1 rfl ?_
                refine SW.get (v := .ref (qG 2)) (T := TX3) (N := 5) C inX3_leftAtMost_X3 7 rfl rfl 1 (by decide) lkX3_leftAtMost_15 rfl dX3_leftAtMost_76 ?_
                refine SW.iload C dX3_leftAtMost_79 0 rfl ?_
                refine SW.iald C 9 0 rfl rfl h.1 dX3_leftAtMost_81 ?_
                replace h := h.2
                refine SW.mmax C (by decide +kernel) (by decide +kernel) (by decide +kernel) (by decide +kernel) (by decide) (Nat.le_of_ble_eq_true rfl) (by decide) (by decide) dX3_leftAtMost_82 ?_
                refine SW.topi (fun y85 he => ?_)
                replace h := h y85 he
                refine SW.istore_n (lv' := [(3, .int y85), (5, .int r45), (0, .ref (qG 0)), (1, .ref (qS 0)), (2, .int v2), (4, .int v4_27)]) C dX3_leftAtMost_85 rfl (by decide) rfl ?_
                refine SW.sub [2, 3, 4, 0, 5] rfl ?_
                exact hJ86 _ _ h
    obtain ⟨fu, h⟩ := h
    refine SW.sub [2, 3, 4, 1, 0] rfl ?_
    refine L27 _ (fun v3_92 oG_92 h => ?_) fu _ _ _ h
    · refine SW.iload_n C dX3_leftAtMost_92 rfl 0 rfl ?_
      exact SW.iret C oG_92 rfl h dX3_leftAtMost_93
def wpX3_chooseWindow_L22 (oSc_22 : Ob) (K78 : Ob → Prop) : Nat → Int32 → Ob → Prop
  | 0, _, _ => False
  | fu22 + 1, v2_22, oG_22 => (((oSc_22 0 0) ≤ v2_22) → K78 oG_22) ∧ (¬ ((oSc_22 0 0) ≤ v2_22) → wpX8_isSeen oSc_22 v2_22 (fun (r32 : Int32) => jn1 (fun (oG_72 : Ob) => wpX3_chooseWindow_L22 oSc_22 K78 fu22 (v2_22 + (1 : Int32)) oG_72) (fun J72 => ((r32 = 0) → wpX3_leftAtMost oSc_22 oG_22 v2_22 (fun (r41 : Int32) (oG_41 : Ob) => jn0 (J72 (pf (pf oG_41 3 v2_22) 4 r41)) (fun J62 => (((oG_41 0 3) = (-6 : Int32)) → J62) ∧ (¬ ((oG_41 0 3) = (-6 : Int32)) → (((oG_41 0 4) ≤ r41) → J72 oG_41) ∧ (¬ ((oG_41 0 4) ≤ r41) → J62))))) ∧ (¬ (r32 = 0) → J72 oG_22))))
def wpX3_chooseWindow (oS : Ob) (oG : Ob) (post : Ob → Prop) : Prop := (((oG 0 2) = 0) → post (pf (pf oG 3 (-6 : Int32)) 4 (-6 : Int32))) ∧ (¬ ((oG 0 2) = 0) → ∃ fu22 : Nat, wpX3_chooseWindow_L22 oS (fun (oG_78 : Ob) => post oG_78) fu22 (0 : Int32) (pf (pf oG 3 (-6 : Int32)) 4 (-6 : Int32)))
theorem pdX3_chooseWindow : yX3_chooseWindow.cls = RX3 ∧ yX3_chooseWindow.cls ≠ "java/lang/invoke/MethodHandle" ∧ yX3_chooseWindow.cls ≠ "java/lang/invoke/VarHandle" ∧ (parseMethodDescriptor yX3_chooseWindow.desc).map (fun d => d.parameters.length) = some 1 := by decide +kernel
theorem lkX3_chooseWindow_18 : Cond.fieldLink RX3 18 (TX3 3).1 (TX3 3).2.1 (TX3 3).2.2.1 ∈ wsX3_chooseWindow := by decide +kernel
theorem inX3_chooseWindow_X3 : ∀ w ∈ u_ws RX3 TX3 5, w ∈ wsX3_chooseWindow := by decide +kernel
theorem lkX3_chooseWindow_22 : Cond.fieldLink RX3 22 (TX3 4).1 (TX3 4).2.1 (TX3 4).2.2.1 ∈ wsX3_chooseWindow := by decide +kernel
theorem lkX3_chooseWindow_25 : Cond.fieldLink RX3 25 (TX3 2).1 (TX3 2).2.1 (TX3 2).2.2.1 ∈ wsX3_chooseWindow := by decide +kernel
theorem lkX3_chooseWindow_28 : Cond.fieldLink RX3 28 (TX8 0).1 (TX8 0).2.1 (TX8 0).2.2.1 ∈ wsX3_chooseWindow := by decide +kernel
theorem inX3_chooseWindow_X8 : ∀ w ∈ u_ws RX8 TX8 13, w ∈ wsX3_chooseWindow := by decide +kernel
set_option maxHeartbeats 4000000 in
set_option maxRecDepth 100000 in
theorem ctX3_chooseWindow (l : Launch) (D : va_G) (cI cZ : ClassId) (qS : Nat → Nat) (qG : Nat → Nat) (oS : Ob) (oG : Ob) (post : Ob → Prop) (h : wpX3_chooseWindow oS oG post) : CTv l yX3_chooseWindow wsX3_chooseWindow { frames := 4, cells := 0, slots := 0, locals := 91 } D [(cI, .int), (cZ, .boolean)] [.ref (qG 0), .ref (qS 0)] (w8 cI cZ qS oS ++ w3 cI cZ qG oG) (fun u : Ob => w8 cI cZ qS oS ++ w3 cI cZ qG u) (fun (u : Ob) => post u) := by
  refine CTv.of (cc := cX3_chooseWindow) (own := RX3) (maxL := 4) (ret := none) (lv0 := [(0, .ref (qG 0)), (1, .ref (qS 0))]) (by decide) rfl rfl (Nat.le_of_ble_eq_true rfl) rfl ?_
  intro p e s m args below meth c A C
  unfold wpX3_chooseWindow at h
  refine SW.aload_n C dX3_chooseWindow_0 rfl 0 rfl ?_
  refine SW.bipush (v := (-6 : Int32)) C dX3_chooseWindow_1 (by decide) ?_
  refine SW.put (ws' := w8 cI cZ qS oS ++ w3 cI cZ qG (pf oG 3 (-6 : Int32))) (T := TX3) (N := 5) C inX3_chooseWindow_X3 tyX3 tyX3_ok nmX3 7 rfl rfl 3 (by decide) lkX3_chooseWindow_18 rfl rfl rfl (Nat.le_of_ble_eq_true rfl) rfl dX3_chooseWindow_3 ?_
  refine SW.aload_n C dX3_chooseWindow_6 rfl 0 rfl ?_
  refine SW.bipush (v := (-6 : Int32)) C dX3_chooseWindow_7 (by decide) ?_
  refine SW.put (ws' := w8 cI cZ qS oS ++ w3 cI cZ qG (pf (pf oG 3 (-6 : Int32)) 4 (-6 : Int32))) (T := TX3) (N := 5) C inX3_chooseWindow_X3 tyX3 tyX3_ok nmX3 7 rfl rfl 4 (by decide) lkX3_chooseWindow_22 rfl rfl rfl (Nat.le_of_ble_eq_true rfl) rfl dX3_chooseWindow_9 ?_
  refine SW.aload_n C dX3_chooseWindow_12 rfl 0 rfl ?_
  refine SW.get (v := .int (oG 0 2)) (T := TX3) (N := 5) C inX3_chooseWindow_X3 7 rfl rfl 2 (by decide) lkX3_chooseWindow_25 rfl dX3_chooseWindow_13 ?_
  refine SW.if_ne (tgt := 20) C dX3_chooseWindow_16 (by decide) (fun hc => ?_) (fun hc => ?_)
  · replace h := h.2 hc
    refine SW.iconst (v := (0 : Int32)) C dX3_chooseWindow_20 (by decide) ?_
    refine SW.istore_n (lv' := [(2, .int (0 : Int32)), (0, .ref (qG 0)), (1, .ref (qS 0))]) C dX3_chooseWindow_21 rfl (by decide) rfl ?_
    have L22 : ∀ (K78 : Ob → Prop) (hK78 : ∀ (oG_78 : Ob), K78 oG_78 → SW p l e { frames := 4, cells := 0, slots := 0, locals := 91 } s m args below meth c A D 4 0 0 (MQ below (va_Qv (fun (u : Ob) => post u) (ctB D A (fun u : Ob => w8 cI cZ qS oS ++ w3 cI cZ qG u)) A) args s 0 0 A) (w8 cI cZ qS oS ++ w3 cI cZ qG oG_78) 78 [] []) (fu : Nat) (v2_22 : Int32) (oG_22 : Ob), wpX3_chooseWindow_L22 oS K78 fu v2_22 oG_22 → SW p l e { frames := 4, cells := 0, slots := 0, locals := 91 } s m args below meth c A D 4 0 0 (MQ below (va_Qv (fun (u : Ob) => post u) (ctB D A (fun u : Ob => w8 cI cZ qS oS ++ w3 cI cZ qG u)) A) args s 0 0 A) (w8 cI cZ qS oS ++ w3 cI cZ qG oG_22) 22 [(0, .ref (qG 0)), (1, .ref (qS 0)), (2, .int v2_22)] [] := by
      intro K78 hK78 fu
      induction fu with
      | zero =>
        intro v2_22 oG_22 h
        exact False.elim h
      | succ fu ih =>
        intro v2_22 oG_22 h
        unfold wpX3_chooseWindow_L22 at h
        refine SW.iload_n C dX3_chooseWindow_22 rfl 2 rfl ?_
        refine SW.aload_n C dX3_chooseWindow_23 rfl 1 rfl ?_
        refine SW.get (v := .int (oS 0 0)) (T := TX8) (N := 13) C inX3_chooseWindow_X8 0 rfl rfl 0 (by decide) lkX3_chooseWindow_28 rfl dX3_chooseWindow_24 ?_
        refine SW.icmp_ge (tgt := 78) C dX3_chooseWindow_27 (by decide) (fun hc => ?_) (fun hc => ?_)
        · replace h := h.1 hc
          refine SW.sub [] rfl ?_
          exact hK78 _ h
        · replace h := h.2 hc
          refine SW.aload_n C dX3_chooseWindow_30 rfl 1 rfl ?_
          refine SW.iload_n C dX3_chooseWindow_31 rfl 2 rfl ?_
          refine SW.callVi_sub (wr := w3 cI cZ qG oG_22) (wn := fun u : Unit => w8 cI cZ qS oS ++ w3 cI cZ qG oG_22) C (ctX8_isSeen l D cI cZ qS oS v2_22 _ h) gX3_chooseWindow_X8_isSeen rfl rfl rfl pdX8_isSeen ⟨by decide, by decide⟩ [0, 1, 2, 3, 4, 5, 6] [7, 8, 9] [3, 4, 5, 6, 7, 8, 9, 0, 1, 2] rfl rfl (by decide) (by decide) (by decide) (by decide) (fun _ => rfl) 0 rfl rfl rfl rfl rfl (Nat.le_of_ble_eq_true rfl) dX3_chooseWindow_32 (by decide) (fun r32 u h => ?_)
          try dsimp only at h
          refine jn1_elim (G := fun oG_72 => SW p l e { frames := 4, cells := 0, slots := 0, locals := 91 } s m args below meth c A D 4 0 0 (MQ below (va_Qv (fun (u : Ob) => post u) (ctB D A (fun u : Ob => w8 cI cZ qS oS ++ w3 cI cZ qG u)) A) args s 0 0 A) (w8 cI cZ qS oS ++ w3 cI cZ qG oG_72) 72 [(0, .ref (qG 0)), (1, .ref (qS 0)), (2, .int v2_22)] []) h (fun oG_72 h => ?_) (fun J72 hJ72 h => ?_)
          · refine SW.iinc (q := 2) (v := (v2_22 + (1 : Int32))) (lv' := [(2, .int (v2_22 + (1 : Int32))), (0, .ref (qG 0)), (1, .ref (qS 0))]) C dX3_chooseWindow_72 rfl rfl (by decide) rfl ?_
            refine SW.goto (tgt := 22) C dX3_chooseWindow_75 (by decide) ?_
            refine SW.sub [1, 2, 0] rfl ?_
            exact ih _ _ h
          · refine SW.if_ne (tgt := 72) C dX3_chooseWindow_35 (by decide) (fun hc => ?_) (fun hc => ?_)
            · replace h := h.2 hc
              exact hJ72 _ h
            · replace h := h.1 hc
              refine SW.aload_n C dX3_chooseWindow_38 rfl 0 rfl ?_
              refine SW.aload_n C dX3_chooseWindow_39 rfl 1 rfl ?_
              refine SW.iload_n C dX3_chooseWindow_40 rfl 2 rfl ?_
              refine SW.callVi_same C (ctX3_leftAtMost l D cI cZ qS qG oS oG_22 v2_22 _ h) gX3_chooseWindow_X3_leftAtMost rfl rfl rfl pdX3_leftAtMost ⟨by decide, by decide⟩ 7 rfl rfl rfl rfl rfl (Nat.le_of_ble_eq_true rfl) dX3_chooseWindow_41 (by decide) (fun r41 u h => ?_)
              obtain ⟨oG_41, rfl⟩ : ∃ z, z = u := ⟨_, rfl⟩
              try dsimp only at h
              refine SW.istore_n (lv' := [(3, .int r41), (0, .ref (qG 0)), (1, .ref (qS 0)), (2, .int v2_22)]) C dX3_chooseWindow_44 rfl (by decide) rfl ?_
              refine SW.aload_n C dX3_chooseWindow_45 rfl 1 rfl ?_
              refine SW.get (v := .int (oG_41 0 3)) (T := TX3) (N := 5) C inX3_chooseWindow_X3 7 rfl rfl 3 (by decide) lkX3_chooseWindow_18 rfl dX3_chooseWindow_46 ?_
              refine SW.bipush (v := (-6 : Int32)) C dX3_chooseWindow_49 (by decide) ?_
              refine jn0_elim (G := SW p l e { frames := 4, cells := 0, slots := 0, locals := 91 } s m args below meth c A D 4 0 0 (MQ below (va_Qv (fun (u : Ob) => post u) (ctB D A (fun u : Ob => w8 cI cZ qS oS ++ w3 cI cZ qG u)) A) args s 0 0 A) (w8 cI cZ qS oS ++ w3 cI cZ qG oG_41) 62 [(0, .ref (qG 0)), (1, .ref (qS 0)), (2, .int v2_22), (3, .int r41)] []) h (fun h => ?_) (fun J62 hJ62 h => ?_)
              · refine SW.aload_n C dX3_chooseWindow_62 rfl 0 rfl ?_
                refine SW.iload_n C dX3_chooseWindow_63 rfl 2 rfl ?_
                refine SW.put (ws' := w8 cI cZ qS oS ++ w3 cI cZ qG (pf oG_41 3 v2_22)) (T := TX3) (N := 5) C inX3_chooseWindow_X3 tyX3 tyX3_ok nmX3 7 rfl rfl 3 (by decide) lkX3_chooseWindow_18 rfl rfl rfl (Nat.le_of_ble_eq_true rfl) rfl dX3_chooseWindow_64 ?_
                refine SW.aload_n C dX3_chooseWindow_67 rfl 0 rfl ?_
                refine SW.iload_n C dX3_chooseWindow_68 rfl 3 rfl ?_
                refine SW.put (ws' := w8 cI cZ qS oS ++ w3 cI cZ qG (pf (pf oG_41 3 v2_22) 4 r41)) (T := TX3) (N := 5) C inX3_chooseWindow_X3 tyX3 tyX3_ok nmX3 7 rfl rfl 4 (by decide) lkX3_chooseWindow_22 rfl rfl rfl (Nat.le_of_ble_eq_true rfl) rfl dX3_chooseWindow_69 ?_
                refine SW.sub [0, 1, 2] rfl ?_
                exact hJ72 _ h
              · refine SW.icmp_eq (tgt := 62) C dX3_chooseWindow_51 (by decide) (fun hc => ?_) (fun hc => ?_)
                · replace h := h.1 hc
                  refine SW.sub [1, 2, 3, 0] rfl ?_
                  exact hJ62 h
                · replace h := h.2 hc
                  refine SW.iload_n C dX3_chooseWindow_54 rfl 0 rfl ?_
                  refine SW.aload_n C dX3_chooseWindow_55 rfl 1 rfl ?_
                  refine SW.get (v := .int (oG_41 0 4)) (T := TX3) (N := 5) C inX3_chooseWindow_X3 7 rfl rfl 4 (by decide) lkX3_chooseWindow_22 rfl dX3_chooseWindow_56 ?_
                  refine SW.icmp_ge (tgt := 72) C dX3_chooseWindow_59 (by decide) (fun hc => ?_) (fun hc => ?_)
                  · replace h := h.1 hc
                    refine SW.sub [1, 2, 3] rfl ?_
                    exact hJ72 _ h
                  · replace h := h.2 hc
                    refine SW.sub [1, 2, 3, 0] rfl ?_
                    exact hJ62 h
    obtain ⟨fu, h⟩ := h
    refine SW.sub [1, 2, 0] rfl ?_
    refine L22 _ (fun oG_78 h => ?_) fu _ _ h
    · exact SW.vret C oG_78 rfl h dX3_chooseWindow_78
  · replace h := h.1 hc
    exact SW.vret C (pf (pf oG 3 (-6 : Int32)) 4 (-6 : Int32)) rfl h dX3_chooseWindow_19
def wpX4_countGroups_L17 (c2_17 : Int32) (c3_17 : Int32) (oSc_17 : Ob) (K88 : Ob → Prop) : Nat → Int32 → Ob → Prop
  | 0, _, _ => False
  | fu17 + 1, v4_17, oL_17 => ((c2_17 ≤ v4_17) → K88 oL_17) ∧ (¬ (c2_17 ≤ v4_17) → jn1 (fun (oL_82 : Ob) => wpX4_countGroups_L17 c2_17 c3_17 oSc_17 K88 fu17 (v4_17 + (1 : Int32)) oL_82) (fun J82 => (((c3_17 &&& ((jshl (1 : Int32) v4_17) ^^^ (-1 : Int32))) = c3_17) → J82 oL_17) ∧ (¬ ((c3_17 &&& ((jshl (1 : Int32) v4_17) ^^^ (-1 : Int32))) = c3_17) → (vp_in (c3_17 &&& ((jshl (1 : Int32) v4_17) ^^^ (-1 : Int32))) 1024) ∧ ((vp_in v4_17 10) ∧ ((vp_in c3_17 1024) ∧ ((vp_in c3_17 1024) ∧ ((vp_in (c3_17 &&& ((jshl (1 : Int32) v4_17) ^^^ (-1 : Int32))) 1024) ∧ (∀ oL_81n : Ob, oL_81n = (pa oL_17 1 (nC c3_17) ((jld (oL_17 1) (c3_17 &&& ((jshl (1 : Int32) v4_17) ^^^ (-1 : Int32)))) + (jld (oSc_17 5) v4_17))) → ((vp_in c3_17 1024) ∧ (J82 (pa oL_81n 2 (nC c3_17) (jmax (jld (oL_17 2) c3_17) (jld (oL_17 2) (c3_17 &&& ((jshl (1 : Int32) v4_17) ^^^ (-1 : Int32))))))))))))))))
def wpX4_countGroups (oS : Ob) (oL : Ob) (v2 : Int32) (v3 : Int32) (post : Ob → Prop) : Prop := (vp_in v3 1024) ∧ (∀ oL_13n : Ob, oL_13n = (pa oL 1 (nC v3) (0 : Int32)) → ((vp_in v3 1024) ∧ (∃ fu17 : Nat, wpX4_countGroups_L17 v2 v3 oS (fun (oL_88 : Ob) => ((v3 = 0) → post oL_88) ∧ (¬ (v3 = 0) → (vp_in v3 1024) ∧ ((((jld (oL_88 1) v3) = 0) → (vp_in v3 1024) ∧ ((vp_in v3 1024) ∧ (post (pa oL_88 2 (nC v3) ((jld (oL_88 2) v3) + (1 : Int32)))))) ∧ (¬ ((jld (oL_88 1) v3) = 0) → post oL_88)))) fu17 (0 : Int32) (pa oL_13n 2 (nC v3) (0 : Int32)))))
theorem pdX4_countGroups : yX4_countGroups.cls = RX4 ∧ yX4_countGroups.cls ≠ "java/lang/invoke/MethodHandle" ∧ yX4_countGroups.cls ≠ "java/lang/invoke/VarHandle" ∧ (parseMethodDescriptor yX4_countGroups.desc).map (fun d => d.parameters.length) = some 3 := by decide +kernel
theorem lkX4_countGroups_9 : Cond.fieldLink RX4 9 (TX4 0).1 (TX4 0).2.1 (TX4 0).2.2.1 ∈ wsX4_countGroups := by decide +kernel
theorem inX4_countGroups_X4 : ∀ w ∈ u_ws RX4 TX4 2, w ∈ wsX4_countGroups := by decide +kernel
theorem lkX4_countGroups_15 : Cond.fieldLink RX4 15 (TX4 1).1 (TX4 1).2.1 (TX4 1).2.2.1 ∈ wsX4_countGroups := by decide +kernel
theorem lkX4_countGroups_34 : Cond.fieldLink RX4 34 (TX8 11).1 (TX8 11).2.1 (TX8 11).2.2.1 ∈ wsX4_countGroups := by decide +kernel
theorem inX4_countGroups_X8 : ∀ w ∈ u_ws RX8 TX8 13, w ∈ wsX4_countGroups := by decide +kernel
set_option maxHeartbeats 4000000 in
set_option maxRecDepth 100000 in
theorem ctX4_countGroups (l : Launch) (D : va_G) (cI cZ : ClassId) (qS : Nat → Nat) (qL : Nat → Nat) (oS : Ob) (oL : Ob) (v2 : Int32) (v3 : Int32) (post : Ob → Prop) (h : wpX4_countGroups oS oL v2 v3 post) : CTv l yX4_countGroups wsX4_countGroups { frames := 1, cells := 0, slots := 0, locals := 21 } D [(cI, .int), (cZ, .boolean)] [.ref (qL 0), .ref (qS 0), .int v2, .int v3] (w8 cI cZ qS oS ++ w4 cI cZ qL oL) (fun u : Ob => w8 cI cZ qS oS ++ w4 cI cZ qL u) (fun (u : Ob) => post u) := by
  refine CTv.of (cc := cX4_countGroups) (own := RX4) (maxL := 6) (ret := none) (lv0 := [(0, .ref (qL 0)), (1, .ref (qS 0)), (2, .int v2), (3, .int v3)]) (by decide) rfl rfl (Nat.le_of_ble_eq_true rfl) rfl ?_
  intro p e s m args below meth c A C
  unfold wpX4_countGroups at h
  refine SW.aload_n C dX4_countGroups_0 rfl 0 rfl ?_
  refine SW.get (v := .ref (qL 1)) (T := TX4) (N := 2) C inX4_countGroups_X4 7 rfl rfl 0 (by decide) lkX4_countGroups_9 rfl dX4_countGroups_1 ?_
  refine SW.iload_n C dX4_countGroups_4 rfl 3 rfl ?_
  refine SW.iconst (v := (0 : Int32)) C dX4_countGroups_5 (by decide) ?_
  refine SW.iast (ws' := w8 cI cZ qS oS ++ w4 cI cZ qL (pa oL 1 (nC v3) (0 : Int32))) C 8 0 rfl rfl h.1 rfl dX4_countGroups_6 ?_
  replace h := h.2
  refine SW.aload_n C dX4_countGroups_7 rfl 0 rfl ?_
  refine SW.get (v := .ref (qL 2)) (T := TX4) (N := 2) C inX4_countGroups_X4 7 rfl rfl 1 (by decide) lkX4_countGroups_15 rfl dX4_countGroups_8 ?_
  refine SW.iload_n C dX4_countGroups_11 rfl 3 rfl ?_
  refine SW.iconst (v := (0 : Int32)) C dX4_countGroups_12 (by decide) ?_
  refine SW.nameOb (wz := fun z => w8 cI cZ qS oS ++ w4 cI cZ qL z) (o := (pa oL 1 (nC v3) (0 : Int32))) (fun oL_13n he => ?_)
  replace h := h oL_13n he
  refine SW.iast (ws' := w8 cI cZ qS oS ++ w4 cI cZ qL (pa oL_13n 2 (nC v3) (0 : Int32))) C 9 0 rfl rfl h.1 rfl dX4_countGroups_13 ?_
  replace h := h.2
  refine SW.iconst (v := (0 : Int32)) C dX4_countGroups_14 (by decide) ?_
  refine SW.istore (lv' := [(4, .int (0 : Int32)), (0, .ref (qL 0)), (1, .ref (qS 0)), (2, .int v2), (3, .int v3)]) C dX4_countGroups_15 (by decide) rfl ?_
  have L17 : ∀ (K88 : Ob → Prop) (hK88 : ∀ (oL_88 : Ob), K88 oL_88 → SW p l e { frames := 1, cells := 0, slots := 0, locals := 21 } s m args below meth c A D 6 0 0 (MQ below (va_Qv (fun (u : Ob) => post u) (ctB D A (fun u : Ob => w8 cI cZ qS oS ++ w4 cI cZ qL u)) A) args s 0 0 A) (w8 cI cZ qS oS ++ w4 cI cZ qL oL_88) 88 [(0, .ref (qL 0)), (3, .int v3)] []) (fu : Nat) (v4_17 : Int32) (oL_17 : Ob), wpX4_countGroups_L17 v2 v3 oS K88 fu v4_17 oL_17 → SW p l e { frames := 1, cells := 0, slots := 0, locals := 21 } s m args below meth c A D 6 0 0 (MQ below (va_Qv (fun (u : Ob) => post u) (ctB D A (fun u : Ob => w8 cI cZ qS oS ++ w4 cI cZ qL u)) A) args s 0 0 A) (w8 cI cZ qS oS ++ w4 cI cZ qL oL_17) 17 [(0, .ref (qL 0)), (1, .ref (qS 0)), (2, .int v2), (3, .int v3), (4, .int v4_17)] [] := by
    intro K88 hK88 fu
    induction fu with
    | zero =>
      intro v4_17 oL_17 h
      exact False.elim h
    | succ fu ih =>
      intro v4_17 oL_17 h
      unfold wpX4_countGroups_L17 at h
      refine SW.iload C dX4_countGroups_17 4 rfl ?_
      refine SW.iload_n C dX4_countGroups_19 rfl 2 rfl ?_
      refine SW.icmp_ge (tgt := 88) C dX4_countGroups_20 (by decide) (fun hc => ?_) (fun hc => ?_)
      · replace h := h.1 hc
        refine SW.sub [0, 3] rfl ?_
        exact hK88 _ h
      · replace h := h.2 hc
        refine SW.iload_n C dX4_countGroups_23 rfl 3 rfl ?_
        refine SW.iconst (v := (1 : Int32)) C dX4_countGroups_24 (by decide) ?_
        refine SW.iload C dX4_countGroups_25 4 rfl ?_
        refine SW.ishl C dX4_countGroups_27 ?_
        refine SW.iconst (v := (-1 : Int32)) C dX4_countGroups_28 (by decide) ?_
        refine SW.ixor C dX4_countGroups_29 ?_
        refine SW.iand C dX4_countGroups_30 ?_
        refine SW.istore (lv' := [(5, .int (v3 &&& ((jshl (1 : Int32) v4_17) ^^^ (-1 : Int32)))), (0, .ref (qL 0)), (1, .ref (qS 0)), (2, .int v2), (3, .int v3), (4, .int v4_17)]) C dX4_countGroups_31 (by decide) rfl ?_
        refine SW.iload C dX4_countGroups_33 0 rfl ?_
        refine SW.iload_n C dX4_countGroups_35 rfl 4 rfl ?_
        refine jn1_elim (G := fun oL_82 => SW p l e { frames := 1, cells := 0, slots := 0, locals := 21 } s m args below meth c A D 6 0 0 (MQ below (va_Qv (fun (u : Ob) => post u) (ctB D A (fun u : Ob => w8 cI cZ qS oS ++ w4 cI cZ qL u)) A) args s 0 0 A) (w8 cI cZ qS oS ++ w4 cI cZ qL oL_82) 82 [(0, .ref (qL 0)), (1, .ref (qS 0)), (2, .int v2), (3, .int v3), (4, .int v4_17)] []) h (fun oL_82 h => ?_) (fun J82 hJ82 h => ?_)
        · refine SW.iinc (q := 4) (v := (v4_17 + (1 : Int32))) (lv' := [(4, .int (v4_17 + (1 : Int32))), (0, .ref (qL 0)), (1, .ref (qS 0)), (2, .int v2), (3, .int v3)]) C dX4_countGroups_82 rfl rfl (by decide) rfl ?_
          refine SW.goto (tgt := 17) C dX4_countGroups_85 (by decide) ?_
          refine SW.sub [1, 2, 3, 4, 0] rfl ?_
          exact ih _ _ h
        · refine SW.icmp_eq (tgt := 82) C dX4_countGroups_36 (by decide) (fun hc => ?_) (fun hc => ?_)
          · replace h := h.1 hc
            refine SW.sub [1, 2, 3, 4, 5] rfl ?_
            exact hJ82 _ h
          · replace h := h.2 hc
            refine SW.aload_n C dX4_countGroups_39 rfl 1 rfl ?_
            refine SW.get (v := .ref (qL 1)) (T := TX4) (N := 2) C inX4_countGroups_X4 7 rfl rfl 0 (by decide) lkX4_countGroups_9 rfl dX4_countGroups_40 ?_
            refine SW.iload_n C dX4_countGroups_43 rfl 4 rfl ?_
            refine SW.aload_n C dX4_countGroups_44 rfl 1 rfl ?_
            refine SW.get (v := .ref (qL 1)) (T := TX4) (N := 2) C inX4_countGroups_X4 7 rfl rfl 0 (by decide) lkX4_countGroups_9 rfl dX4_countGroups_45 ?_
            refine SW.iload C dX4_countGroups_48 0 rfl ?_
            refine SW.iald C 8 0 rfl rfl h.1 dX4_countGroups_50 ?_
            replace h := h.2
            refine SW.aload_n C dX4_countGroups_51 rfl 2 rfl ?_
            refine SW.get (v := .ref (qS 5)) (T := TX8) (N := 13) C inX4_countGroups_X8 0 rfl rfl 11 (by decide) lkX4_countGroups_34 rfl dX4_countGroups_52 ?_
            refine SW.iload C dX4_countGroups_55 5 rfl ?_
            refine SW.iald C 5 0 rfl rfl h.1 dX4_countGroups_57 ?_
            replace h := h.2
            refine SW.iadd C dX4_countGroups_58 ?_
            refine SW.iast (ws' := w8 cI cZ qS oS ++ w4 cI cZ qL (pa oL_17 1 (nC v3) ((jld (oL_17 1) (v3 &&& ((jshl (1 : Int32) v4_17) ^^^ (-1 : Int32)))) + (jld (oS 5) v4_17)))) C 8 0 rfl rfl h.1 rfl dX4_countGroups_59 ?_
            replace h := h.2
            refine SW.aload_n C dX4_countGroups_60 rfl 1 rfl ?_
            refine SW.get (v := .ref (qL 2)) (T := TX4) (N := 2) C inX4_countGroups_X4 7 rfl rfl 1 (by decide) lkX4_countGroups_15 rfl dX4_countGroups_61 ?_
            refine SW.iload_n C dX4_countGroups_64 rfl 4 rfl ?_
            refine SW.aload_n C dX4_countGroups_65 rfl 1 rfl ?_
            refine SW.get (v := .ref (qL 2)) (T := TX4) (N := 2) C inX4_countGroups_X4 7 rfl rfl 1 (by decide) lkX4_countGroups_15 rfl dX4_countGroups_66 ?_
            refine SW.iload_n C dX4_countGroups_69 rfl 4 rfl ?_
            refine SW.iald C 9 0 rfl rfl h.1 dX4_countGroups_70 ?_
            replace h := h.2
            refine SW.aload_n C dX4_countGroups_71 rfl 1 rfl ?_
            refine SW.get (v := .ref (qL 2)) (T := TX4) (N := 2) C inX4_countGroups_X4 7 rfl rfl 1 (by decide) lkX4_countGroups_15 rfl dX4_countGroups_72 ?_
            refine SW.iload C dX4_countGroups_75 0 rfl ?_
            refine SW.iald C 9 0 rfl rfl h.1 dX4_countGroups_77 ?_
            replace h := h.2
            refine SW.mmax C (by decide +kernel) (by decide +kernel) (by decide +kernel) (by decide +kernel) (by decide) (Nat.le_of_ble_eq_true rfl) (by decide) (by decide) dX4_countGroups_78 ?_
            refine SW.nameOb (wz := fun z => w8 cI cZ qS oS ++ w4 cI cZ qL z) (o := (pa oL_17 1 (nC v3) ((jld (oL_17 1) (v3 &&& ((jshl (1 : Int32) v4_17) ^^^ (-1 : Int32)))) + (jld (oS 5) v4_17)))) (fun oL_81n he => ?_)
            replace h := h oL_81n he
            refine SW.iast (ws' := w8 cI cZ qS oS ++ w4 cI cZ qL (pa oL_81n 2 (nC v3) (jmax (jld (oL_17 2) v3) (jld (oL_17 2) (v3 &&& ((jshl (1 : Int32) v4_17) ^^^ (-1 : Int32))))))) C 9 0 rfl rfl h.1 rfl dX4_countGroups_81 ?_
            replace h := h.2
            refine SW.sub [1, 2, 3, 4, 5] rfl ?_
            exact hJ82 _ h
  obtain ⟨fu, h⟩ := h
  refine SW.sub [1, 2, 3, 4, 0] rfl ?_
  refine L17 _ (fun oL_88 h => ?_) fu _ _ h
  · refine SW.iload_n C dX4_countGroups_88 rfl 1 rfl ?_
    refine SW.if_eq (tgt := 111) C dX4_countGroups_89 (by decide) (fun hc => ?_) (fun hc => ?_)
    · replace h := h.1 hc
      exact SW.vret C oL_88 rfl h dX4_countGroups_111
    · replace h := h.2 hc
      refine SW.aload_n C dX4_countGroups_92 rfl 0 rfl ?_
      refine SW.get (v := .ref (qL 1)) (T := TX4) (N := 2) C inX4_countGroups_X4 7 rfl rfl 0 (by decide) lkX4_countGroups_9 rfl dX4_countGroups_93 ?_
      refine SW.iload_n C dX4_countGroups_96 rfl 1 rfl ?_
      refine SW.iald C 8 0 rfl rfl h.1 dX4_countGroups_97 ?_
      replace h := h.2
      refine SW.if_ne (tgt := 111) C dX4_countGroups_98 (by decide) (fun hc => ?_) (fun hc => ?_)
      · replace h := h.2 hc
        exact SW.vret C oL_88 rfl h dX4_countGroups_111
      · replace h := h.1 hc
        refine SW.aload_n C dX4_countGroups_101 rfl 0 rfl ?_
        refine SW.get (v := .ref (qL 2)) (T := TX4) (N := 2) C inX4_countGroups_X4 7 rfl rfl 1 (by decide) lkX4_countGroups_15 rfl dX4_countGroups_102 ?_
        refine SW.iload_n C dX4_countGroups_105 rfl 1 rfl ?_
        refine SW.dup2 C dX4_countGroups_106 rfl rfl ?_
        refine SW.iald C 9 0 rfl rfl h.1 dX4_countGroups_107 ?_
        replace h := h.2
        refine SW.iconst (v := (1 : Int32)) C dX4_countGroups_108 (by decide) ?_
        refine SW.iadd C dX4_countGroups_109 ?_
        refine SW.iast (ws' := w8 cI cZ qS oS ++ w4 cI cZ qL (pa oL_88 2 (nC v3) ((jld (oL_88 2) v3) + (1 : Int32)))) C 9 0 rfl rfl h.1 rfl dX4_countGroups_110 ?_
        replace h := h.2
        exact SW.vret C (pa oL_88 2 (nC v3) ((jld (oL_88 2) v3) + (1 : Int32))) rfl h dX4_countGroups_111
def wpX4_fewestPayments_L23 (c2_23 : Int32) (c3_23 : Int32) (oSc_23 : Ob) (K43 : Ob → Prop) : Nat → Int32 → Ob → Prop
  | 0, _, _ => False
  | fu23 + 1, v4_23, oL_23 => ((c3_23 ≤ v4_23) → K43 oL_23) ∧ (¬ (c3_23 ≤ v4_23) → wpX4_countGroups oSc_23 oL_23 c2_23 v4_23 (fun (oL_34 : Ob) => wpX4_fewestPayments_L23 c2_23 c3_23 oSc_23 K43 fu23 (v4_23 + (1 : Int32)) oL_34))
def wpX4_fewestPayments (oS : Ob) (oL : Ob) (post : Int32 → Ob → Prop) : Prop := ∀ y9 : Int32, y9 = (jmin (oS 0 0) (10 : Int32)) → (∀ y19 : Int32, y19 = (jmin (jshl (1 : Int32) y9) (1024 : Int32)) → (∃ fu23 : Nat, wpX4_fewestPayments_L23 y9 y19 oS (fun (oL_43 : Ob) => (vp_in (y19 - (1 : Int32)) 1024) ∧ (post (y9 - (jld (oL_43 2) (y19 - (1 : Int32)))) oL_43)) fu23 (0 : Int32) oL))
theorem pdX4_fewestPayments : yX4_fewestPayments.cls = RX4 ∧ yX4_fewestPayments.cls ≠ "java/lang/invoke/MethodHandle" ∧ yX4_fewestPayments.cls ≠ "java/lang/invoke/VarHandle" ∧ (parseMethodDescriptor yX4_fewestPayments.desc).map (fun d => d.parameters.length) = some 1 := by decide +kernel
theorem lkX4_fewestPayments_18 : Cond.fieldLink RX4 18 (TX8 0).1 (TX8 0).2.1 (TX8 0).2.2.1 ∈ wsX4_fewestPayments := by decide +kernel
theorem inX4_fewestPayments_X8 : ∀ w ∈ u_ws RX8 TX8 13, w ∈ wsX4_fewestPayments := by decide +kernel
theorem lkX4_fewestPayments_15 : Cond.fieldLink RX4 15 (TX4 1).1 (TX4 1).2.1 (TX4 1).2.2.1 ∈ wsX4_fewestPayments := by decide +kernel
theorem inX4_fewestPayments_X4 : ∀ w ∈ u_ws RX4 TX4 2, w ∈ wsX4_fewestPayments := by decide +kernel
set_option maxHeartbeats 4000000 in
set_option maxRecDepth 100000 in
theorem ctX4_fewestPayments (l : Launch) (D : va_G) (cI cZ : ClassId) (qS : Nat → Nat) (qL : Nat → Nat) (oS : Ob) (oL : Ob) (post : Int32 → Ob → Prop) (h : wpX4_fewestPayments oS oL post) : CTi l yX4_fewestPayments wsX4_fewestPayments { frames := 2, cells := 0, slots := 0, locals := 46 } D [(cI, .int), (cZ, .boolean)] [.ref (qL 0), .ref (qS 0)] (w8 cI cZ qS oS ++ w4 cI cZ qL oL) (fun u : Ob => w8 cI cZ qS oS ++ w4 cI cZ qL u) (fun (r : Int32) (u : Ob) => post r u) := by
  refine CTi.of (cc := cX4_fewestPayments) (own := RX4) (maxL := 5) (ret := (some .int)) (lv0 := [(0, .ref (qL 0)), (1, .ref (qS 0))]) (by decide) rfl rfl (Nat.le_of_ble_eq_true rfl) rfl ?_
  intro p e s m args below meth c A C
  unfold wpX4_fewestPayments at h
  refine SW.aload_n C dX4_fewestPayments_0 rfl 1 rfl ?_
  refine SW.get (v := .int (oS 0 0)) (T := TX8) (N := 13) C inX4_fewestPayments_X8 0 rfl rfl 0 (by decide) lkX4_fewestPayments_18 rfl dX4_fewestPayments_1 ?_
  refine SW.bipush (v := (10 : Int32)) C dX4_fewestPayments_4 (by decide) ?_
  refine SW.mmin C (by decide +kernel) (by decide +kernel) (by decide +kernel) (by decide +kernel) (by decide) (Nat.le_of_ble_eq_true rfl) (by decide) (by decide) dX4_fewestPayments_6 ?_
  refine SW.topi (fun y9 he => ?_)
  replace h := h y9 he
  refine SW.istore_n (lv' := [(2, .int y9), (0, .ref (qL 0)), (1, .ref (qS 0))]) C dX4_fewestPayments_9 rfl (by decide) rfl ?_
  refine SW.iconst (v := (1 : Int32)) C dX4_fewestPayments_10 (by decide) ?_
  refine SW.iload_n C dX4_fewestPayments_11 rfl 0 rfl ?_
  refine SW.ishl C dX4_fewestPayments_12 ?_
  refine SW.sipush (v := (1024 : Int32)) C dX4_fewestPayments_13 (by decide) ?_
  refine SW.mmin C (by decide +kernel) (by decide +kernel) (by decide +kernel) (by decide +kernel) (by decide) (Nat.le_of_ble_eq_true rfl) (by decide) (by decide) dX4_fewestPayments_16 ?_
  refine SW.topi (fun y19 he => ?_)
  replace h := h y19 he
  refine SW.istore_n (lv' := [(3, .int y19), (2, .int y9), (0, .ref (qL 0)), (1, .ref (qS 0))]) C dX4_fewestPayments_19 rfl (by decide) rfl ?_
  refine SW.iconst (v := (0 : Int32)) C dX4_fewestPayments_20 (by decide) ?_
  refine SW.istore (lv' := [(4, .int (0 : Int32)), (3, .int y19), (2, .int y9), (0, .ref (qL 0)), (1, .ref (qS 0))]) C dX4_fewestPayments_21 (by decide) rfl ?_
  have L23 : ∀ (K43 : Ob → Prop) (hK43 : ∀ (oL_43 : Ob), K43 oL_43 → SW p l e { frames := 2, cells := 0, slots := 0, locals := 46 } s m args below meth c A D 5 0 0 (MQ below (va_Qi (fun (r : Int32) (u : Ob) => post r u) (ctB D A (fun u : Ob => w8 cI cZ qS oS ++ w4 cI cZ qL u)) A) args s 0 0 A) (w8 cI cZ qS oS ++ w4 cI cZ qL oL_43) 43 [(0, .ref (qL 0)), (2, .int y9), (3, .int y19)] []) (fu : Nat) (v4_23 : Int32) (oL_23 : Ob), wpX4_fewestPayments_L23 y9 y19 oS K43 fu v4_23 oL_23 → SW p l e { frames := 2, cells := 0, slots := 0, locals := 46 } s m args below meth c A D 5 0 0 (MQ below (va_Qi (fun (r : Int32) (u : Ob) => post r u) (ctB D A (fun u : Ob => w8 cI cZ qS oS ++ w4 cI cZ qL u)) A) args s 0 0 A) (w8 cI cZ qS oS ++ w4 cI cZ qL oL_23) 23 [(0, .ref (qL 0)), (1, .ref (qS 0)), (2, .int y9), (3, .int y19), (4, .int v4_23)] [] := by
    intro K43 hK43 fu
    induction fu with
    | zero =>
      intro v4_23 oL_23 h
      exact False.elim h
    | succ fu ih =>
      intro v4_23 oL_23 h
      unfold wpX4_fewestPayments_L23 at h
      refine SW.iload C dX4_fewestPayments_23 4 rfl ?_
      refine SW.iload_n C dX4_fewestPayments_25 rfl 3 rfl ?_
      refine SW.icmp_ge (tgt := 43) C dX4_fewestPayments_26 (by decide) (fun hc => ?_) (fun hc => ?_)
      · replace h := h.1 hc
        refine SW.sub [0, 2, 3] rfl ?_
        exact hK43 _ h
      · replace h := h.2 hc
        refine SW.aload_n C dX4_fewestPayments_29 rfl 0 rfl ?_
        refine SW.aload_n C dX4_fewestPayments_30 rfl 1 rfl ?_
        refine SW.iload_n C dX4_fewestPayments_31 rfl 2 rfl ?_
        refine SW.iload C dX4_fewestPayments_32 4 rfl ?_
        refine SW.callVv_same C (ctX4_countGroups l D cI cZ qS qL oS oL_23 y9 v4_23 _ h) gX4_fewestPayments_X4_countGroups rfl rfl rfl pdX4_countGroups ⟨by decide, by decide⟩ 7 rfl rfl rfl rfl rfl (Nat.le_of_ble_eq_true rfl) dX4_fewestPayments_34 (by decide) (fun u h => ?_)
        obtain ⟨oL_34, rfl⟩ : ∃ z, z = u := ⟨_, rfl⟩
        try dsimp only at h
        refine SW.iinc (q := 4) (v := (v4_23 + (1 : Int32))) (lv' := [(4, .int (v4_23 + (1 : Int32))), (0, .ref (qL 0)), (1, .ref (qS 0)), (2, .int y9), (3, .int y19)]) C dX4_fewestPayments_37 rfl rfl (by decide) rfl ?_
        refine SW.goto (tgt := 23) C dX4_fewestPayments_40 (by decide) ?_
        refine SW.sub [1, 2, 3, 4, 0] rfl ?_
        exact ih _ _ h
  obtain ⟨fu, h⟩ := h
  refine SW.sub [3, 4, 2, 1, 0] rfl ?_
  refine L23 _ (fun oL_43 h => ?_) fu _ _ h
  · refine SW.iload_n C dX4_fewestPayments_43 rfl 1 rfl ?_
    refine SW.aload_n C dX4_fewestPayments_44 rfl 0 rfl ?_
    refine SW.get (v := .ref (qL 2)) (T := TX4) (N := 2) C inX4_fewestPayments_X4 7 rfl rfl 1 (by decide) lkX4_fewestPayments_15 rfl dX4_fewestPayments_45 ?_
    refine SW.iload_n C dX4_fewestPayments_48 rfl 2 rfl ?_
    refine SW.iconst (v := (1 : Int32)) C dX4_fewestPayments_49 (by decide) ?_
    refine SW.isub C dX4_fewestPayments_50 ?_
    refine SW.iald C 9 0 rfl rfl h.1 dX4_fewestPayments_51 ?_
    replace h := h.2
    refine SW.isub C dX4_fewestPayments_52 ?_
    exact SW.iret C oL_43 rfl h dX4_fewestPayments_53
def wpX5_write (oP : Ob) (v1 : Int32) (post : Int32 → Ob → Prop) : Prop := (((oP 0 0) < 0) → post (0 : Int32) oP) ∧ (¬ ((oP 0 0) < 0) → (((oP 0 0) < (60 : Int32)) → (vp_in (oP 0 0) 60) ∧ (∀ oP_35n : Ob, oP_35n = (pa oP 1 (nC (oP 0 0)) v1) → (post (1 : Int32) (pf oP_35n 0 ((oP 0 0) + (1 : Int32)))))) ∧ (¬ ((oP 0 0) < (60 : Int32)) → post (0 : Int32) oP))
theorem pdX5_write : yX5_write.cls = RX5 ∧ yX5_write.cls ≠ "java/lang/invoke/MethodHandle" ∧ yX5_write.cls ≠ "java/lang/invoke/VarHandle" ∧ (parseMethodDescriptor yX5_write.desc).map (fun d => d.parameters.length) = some 1 := by decide +kernel
theorem lkX5_write_9 : Cond.fieldLink RX5 9 (TX5 0).1 (TX5 0).2.1 (TX5 0).2.2.1 ∈ wsX5_write := by decide +kernel
theorem inX5_write_X5 : ∀ w ∈ u_ws RX5 TX5 2, w ∈ wsX5_write := by decide +kernel
theorem lkX5_write_15 : Cond.fieldLink RX5 15 (TX5 1).1 (TX5 1).2.1 (TX5 1).2.2.1 ∈ wsX5_write := by decide +kernel
set_option maxHeartbeats 4000000 in
set_option maxRecDepth 100000 in
theorem ctX5_write (l : Launch) (D : va_G) (cI cZ : ClassId) (qP : Nat → Nat) (oP : Ob) (v1 : Int32) (post : Int32 → Ob → Prop) (h : wpX5_write oP v1 post) : CTi l yX5_write wsX5_write { frames := 0, cells := 0, slots := 0, locals := 0 } D [(cI, .int), (cZ, .boolean)] [.ref (qP 0), .int v1] (w5 cI cZ qP oP) (fun u : Ob => w5 cI cZ qP u) (fun (r : Int32) (u : Ob) => post r u) := by
  refine CTi.of (cc := cX5_write) (own := RX5) (maxL := 2) (ret := (some .boolean)) (lv0 := [(0, .ref (qP 0)), (1, .int v1)]) (by decide) rfl rfl (Nat.le_of_ble_eq_true rfl) rfl ?_
  intro p e s m args below meth c A C
  unfold wpX5_write at h
  refine SW.aload_n C dX5_write_0 rfl 0 rfl ?_
  refine SW.get (v := .int (oP 0 0)) (T := TX5) (N := 2) C inX5_write_X5 0 rfl rfl 0 (by decide) lkX5_write_9 rfl dX5_write_1 ?_
  refine SW.if_lt (tgt := 16) C dX5_write_4 (by decide) (fun hc => ?_) (fun hc => ?_)
  · replace h := h.1 hc
    refine SW.iconst (v := (0 : Int32)) C dX5_write_16 (by decide) ?_
    exact SW.zret C oP (by decide) rfl h dX5_write_17
  · replace h := h.2 hc
    refine SW.aload_n C dX5_write_7 rfl 0 rfl ?_
    refine SW.get (v := .int (oP 0 0)) (T := TX5) (N := 2) C inX5_write_X5 0 rfl rfl 0 (by decide) lkX5_write_9 rfl dX5_write_8 ?_
    refine SW.bipush (v := (60 : Int32)) C dX5_write_11 (by decide) ?_
    refine SW.icmp_lt (tgt := 18) C dX5_write_13 (by decide) (fun hc => ?_) (fun hc => ?_)
    · replace h := h.1 hc
      refine SW.aload_n C dX5_write_18 rfl 0 rfl ?_
      refine SW.get (v := .ref (qP 1)) (T := TX5) (N := 2) C inX5_write_X5 0 rfl rfl 1 (by decide) lkX5_write_15 rfl dX5_write_19 ?_
      refine SW.aload_n C dX5_write_22 rfl 0 rfl ?_
      refine SW.get (v := .int (oP 0 0)) (T := TX5) (N := 2) C inX5_write_X5 0 rfl rfl 0 (by decide) lkX5_write_9 rfl dX5_write_23 ?_
      refine SW.iload_n C dX5_write_26 rfl 1 rfl ?_
      refine SW.iast (ws' := w5 cI cZ qP (pa oP 1 (nC (oP 0 0)) v1)) C 1 0 rfl rfl h.1 rfl dX5_write_27 ?_
      replace h := h.2
      refine SW.aload_n C dX5_write_28 rfl 0 rfl ?_
      refine SW.dup C dX5_write_29 rfl ?_
      refine SW.get (v := .int (oP 0 0)) (T := TX5) (N := 2) C inX5_write_X5 0 rfl rfl 0 (by decide) lkX5_write_9 rfl dX5_write_30 ?_
      refine SW.iconst (v := (1 : Int32)) C dX5_write_33 (by decide) ?_
      refine SW.iadd C dX5_write_34 ?_
      refine SW.nameOb (wz := fun z => w5 cI cZ qP z) (o := (pa oP 1 (nC (oP 0 0)) v1)) (fun oP_35n he => ?_)
      replace h := h oP_35n he
      refine SW.put (ws' := w5 cI cZ qP (pf oP_35n 0 ((oP 0 0) + (1 : Int32)))) (T := TX5) (N := 2) C inX5_write_X5 tyX5 tyX5_ok nmX5 0 rfl rfl 0 (by decide) lkX5_write_9 rfl rfl rfl (Nat.le_of_ble_eq_true rfl) rfl dX5_write_35 ?_
      refine SW.iconst (v := (1 : Int32)) C dX5_write_38 (by decide) ?_
      exact SW.zret C (pf oP_35n 0 ((oP 0 0) + (1 : Int32))) (by decide) rfl h dX5_write_39
    · replace h := h.2 hc
      refine SW.iconst (v := (0 : Int32)) C dX5_write_16 (by decide) ?_
      exact SW.zret C oP (by decide) rfl h dX5_write_17
def wpX5_clear (oP : Ob) (post : Int32 → Ob → Prop) : Prop := post (oP 0 0) (pf oP 0 (0 : Int32))
theorem pdX5_clear : yX5_clear.cls = RX5 ∧ yX5_clear.cls ≠ "java/lang/invoke/MethodHandle" ∧ yX5_clear.cls ≠ "java/lang/invoke/VarHandle" ∧ (parseMethodDescriptor yX5_clear.desc).map (fun d => d.parameters.length) = some 0 := by decide +kernel
theorem lkX5_clear_9 : Cond.fieldLink RX5 9 (TX5 0).1 (TX5 0).2.1 (TX5 0).2.2.1 ∈ wsX5_clear := by decide +kernel
theorem inX5_clear_X5 : ∀ w ∈ u_ws RX5 TX5 2, w ∈ wsX5_clear := by decide +kernel
set_option maxHeartbeats 4000000 in
set_option maxRecDepth 100000 in
theorem ctX5_clear (l : Launch) (D : va_G) (cI cZ : ClassId) (qP : Nat → Nat) (oP : Ob) (post : Int32 → Ob → Prop) (h : wpX5_clear oP post) : CTi l yX5_clear wsX5_clear { frames := 0, cells := 0, slots := 0, locals := 0 } D [(cI, .int), (cZ, .boolean)] [.ref (qP 0)] (w5 cI cZ qP oP) (fun u : Ob => w5 cI cZ qP u) (fun (r : Int32) (u : Ob) => post r u) := by
  refine CTi.of (cc := cX5_clear) (own := RX5) (maxL := 2) (ret := (some .int)) (lv0 := [(0, .ref (qP 0))]) (by decide) rfl rfl (Nat.le_of_ble_eq_true rfl) rfl ?_
  intro p e s m args below meth c A C
  unfold wpX5_clear at h
  refine SW.aload_n C dX5_clear_0 rfl 0 rfl ?_
  refine SW.get (v := .int (oP 0 0)) (T := TX5) (N := 2) C inX5_clear_X5 0 rfl rfl 0 (by decide) lkX5_clear_9 rfl dX5_clear_1 ?_
  refine SW.istore_n (lv' := [(1, .int (oP 0 0)), (0, .ref (qP 0))]) C dX5_clear_4 rfl (by decide) rfl ?_
  refine SW.aload_n C dX5_clear_5 rfl 1 rfl ?_
  refine SW.iconst (v := (0 : Int32)) C dX5_clear_6 (by decide) ?_
  refine SW.put (ws' := w5 cI cZ qP (pf oP 0 (0 : Int32))) (T := TX5) (N := 2) C inX5_clear_X5 tyX5 tyX5_ok nmX5 0 rfl rfl 0 (by decide) lkX5_clear_9 rfl rfl rfl (Nat.le_of_ble_eq_true rfl) rfl dX5_clear_7 ?_
  refine SW.iload_n C dX5_clear_10 rfl 0 rfl ?_
  exact SW.iret C (pf oP 0 (0 : Int32)) rfl h dX5_clear_11
def wpX5_isAct (v0 : Int32) (v1 : Int32) (post : Int32 → Prop) : Prop := jn0 (post (1 : Int32)) (fun J32 => ((v0 = (43 : Int32)) → J32) ∧ (¬ (v0 = (43 : Int32)) → ((v0 = (45 : Int32)) → J32) ∧ (¬ (v0 = (45 : Int32)) → ((v0 = (46 : Int32)) → J32) ∧ (¬ (v0 = (46 : Int32)) → jn0 (post (0 : Int32)) (fun J36 => ((v0 < (97 : Int32)) → J36) ∧ (¬ (v0 < (97 : Int32)) → ((((97 : Int32) + v1) ≤ v0) → J36) ∧ (¬ (((97 : Int32) + v1) ≤ v0) → J32)))))))
theorem pdX5_isAct : yX5_isAct.cls ≠ "java/lang/invoke/MethodHandle" ∧ yX5_isAct.cls ≠ "java/lang/invoke/VarHandle" ∧ (parseMethodDescriptor yX5_isAct.desc).map (fun d => d.parameters.length) = some 2 := by decide +kernel
set_option maxHeartbeats 4000000 in
set_option maxRecDepth 100000 in
theorem ctX5_isAct (l : Launch) (D : va_G) (cI cZ : ClassId) (v0 : Int32) (v1 : Int32) (post : Int32 → Prop) (h : wpX5_isAct v0 v1 post) : CTi l yX5_isAct wsX5_isAct { frames := 0, cells := 0, slots := 0, locals := 0 } D [(cI, .int), (cZ, .boolean)] [.int v0, .int v1] (([] : va_W)) (fun _ : Unit => ([] : va_W)) (fun (r : Int32) (_ : Unit) => post r) := by
  refine CTi.of (cc := cX5_isAct) (own := RX5) (maxL := 2) (ret := (some .boolean)) (lv0 := [(0, .int v0), (1, .int v1)]) (by decide) rfl rfl (Nat.le_of_ble_eq_true rfl) rfl ?_
  intro p e s m args below meth c A C
  unfold wpX5_isAct at h
  refine SW.iload_n C dX5_isAct_0 rfl 0 rfl ?_
  refine SW.bipush (v := (43 : Int32)) C dX5_isAct_1 (by decide) ?_
  refine jn0_elim (G := SW p l e { frames := 0, cells := 0, slots := 0, locals := 0 } s m args below meth c A D 2 0 0 (MQ below (va_Qi (fun (r : Int32) (_ : Unit) => post r) (ctB D A (fun _ : Unit => ([] : va_W))) A) args s 0 0 A) (([] : va_W)) 32 [] []) h (fun h => ?_) (fun J32 hJ32 h => ?_)
  · refine SW.iconst (v := (1 : Int32)) C dX5_isAct_32 (by decide) ?_
    refine SW.goto (tgt := 37) C dX5_isAct_33 (by decide) ?_
    exact SW.zret C () (by decide) rfl h dX5_isAct_37
  · refine SW.icmp_eq (tgt := 32) C dX5_isAct_3 (by decide) (fun hc => ?_) (fun hc => ?_)
    · replace h := h.1 hc
      refine SW.sub [] rfl ?_
      exact hJ32 h
    · replace h := h.2 hc
      refine SW.iload_n C dX5_isAct_6 rfl 0 rfl ?_
      refine SW.bipush (v := (45 : Int32)) C dX5_isAct_7 (by decide) ?_
      refine SW.icmp_eq (tgt := 32) C dX5_isAct_9 (by decide) (fun hc => ?_) (fun hc => ?_)
      · replace h := h.1 hc
        refine SW.sub [] rfl ?_
        exact hJ32 h
      · replace h := h.2 hc
        refine SW.iload_n C dX5_isAct_12 rfl 0 rfl ?_
        refine SW.bipush (v := (46 : Int32)) C dX5_isAct_13 (by decide) ?_
        refine SW.icmp_eq (tgt := 32) C dX5_isAct_15 (by decide) (fun hc => ?_) (fun hc => ?_)
        · replace h := h.1 hc
          refine SW.sub [] rfl ?_
          exact hJ32 h
        · replace h := h.2 hc
          refine SW.iload_n C dX5_isAct_18 rfl 0 rfl ?_
          refine SW.bipush (v := (97 : Int32)) C dX5_isAct_19 (by decide) ?_
          refine jn0_elim (G := SW p l e { frames := 0, cells := 0, slots := 0, locals := 0 } s m args below meth c A D 2 0 0 (MQ below (va_Qi (fun (r : Int32) (_ : Unit) => post r) (ctB D A (fun _ : Unit => ([] : va_W))) A) args s 0 0 A) (([] : va_W)) 36 [] []) h (fun h => ?_) (fun J36 hJ36 h => ?_)
          · refine SW.iconst (v := (0 : Int32)) C dX5_isAct_36 (by decide) ?_
            exact SW.zret C () (by decide) rfl h dX5_isAct_37
          · refine SW.icmp_lt (tgt := 36) C dX5_isAct_21 (by decide) (fun hc => ?_) (fun hc => ?_)
            · replace h := h.1 hc
              refine SW.sub [] rfl ?_
              exact hJ36 h
            · replace h := h.2 hc
              refine SW.iload_n C dX5_isAct_24 rfl 0 rfl ?_
              refine SW.bipush (v := (97 : Int32)) C dX5_isAct_25 (by decide) ?_
              refine SW.iload_n C dX5_isAct_27 rfl 1 rfl ?_
              refine SW.iadd C dX5_isAct_28 ?_
              refine SW.icmp_ge (tgt := 36) C dX5_isAct_29 (by decide) (fun hc => ?_) (fun hc => ?_)
              · replace h := h.1 hc
                refine SW.sub [] rfl ?_
                exact hJ36 h
              · replace h := h.2 hc
                refine SW.sub [] rfl ?_
                exact hJ32 h
def wpX5_eveningFault_L2 (c1_2 : Int32) (oPc_2 : Ob) (post : Int32 → Prop) (K30 : Prop) : Nat → Int32 → Prop
  | 0, _ => False
  | fu2 + 1, v2_2 => (((oPc_2 0 0) ≤ v2_2) → K30) ∧ (¬ ((oPc_2 0 0) ≤ v2_2) → wpX5_signAt oPc_2 v2_2 (fun (r12 : Int32) => wpX5_isAct r12 c1_2 (fun (r16 : Int32) => ((r16 = 0) → post v2_2) ∧ (¬ (r16 = 0) → wpX5_eveningFault_L2 c1_2 oPc_2 post K30 fu2 (v2_2 + (1 : Int32))))))
def wpX5_eveningFault (oP : Ob) (v1 : Int32) (post : Int32 → Prop) : Prop := ∃ fu2 : Nat, wpX5_eveningFault_L2 v1 oP post (post (-6 : Int32)) fu2 (0 : Int32)
theorem pdX5_eveningFault : yX5_eveningFault.cls = RX5 ∧ yX5_eveningFault.cls ≠ "java/lang/invoke/MethodHandle" ∧ yX5_eveningFault.cls ≠ "java/lang/invoke/VarHandle" ∧ (parseMethodDescriptor yX5_eveningFault.desc).map (fun d => d.parameters.length) = some 1 := by decide +kernel
theorem lkX5_eveningFault_9 : Cond.fieldLink RX5 9 (TX5 0).1 (TX5 0).2.1 (TX5 0).2.2.1 ∈ wsX5_eveningFault := by decide +kernel
theorem inX5_eveningFault_X5 : ∀ w ∈ u_ws RX5 TX5 2, w ∈ wsX5_eveningFault := by decide +kernel
set_option maxHeartbeats 4000000 in
set_option maxRecDepth 100000 in
theorem ctX5_eveningFault (l : Launch) (D : va_G) (cI cZ : ClassId) (qP : Nat → Nat) (oP : Ob) (v1 : Int32) (post : Int32 → Prop) (h : wpX5_eveningFault oP v1 post) : CTi l yX5_eveningFault wsX5_eveningFault { frames := 1, cells := 0, slots := 0, locals := 21 } D [(cI, .int), (cZ, .boolean)] [.ref (qP 0), .int v1] (w5 cI cZ qP oP) (fun _ : Unit => w5 cI cZ qP oP) (fun (r : Int32) (_ : Unit) => post r) := by
  refine CTi.of (cc := cX5_eveningFault) (own := RX5) (maxL := 3) (ret := (some .int)) (lv0 := [(0, .ref (qP 0)), (1, .int v1)]) (by decide) rfl rfl (Nat.le_of_ble_eq_true rfl) rfl ?_
  intro p e s m args below meth c A C
  unfold wpX5_eveningFault at h
  refine SW.iconst (v := (0 : Int32)) C dX5_eveningFault_0 (by decide) ?_
  refine SW.istore_n (lv' := [(2, .int (0 : Int32)), (0, .ref (qP 0)), (1, .int v1)]) C dX5_eveningFault_1 rfl (by decide) rfl ?_
  have L2 : ∀ (K30 : Prop) (hK30 : K30 → SW p l e { frames := 1, cells := 0, slots := 0, locals := 21 } s m args below meth c A D 3 0 0 (MQ below (va_Qi (fun (r : Int32) (_ : Unit) => post r) (ctB D A (fun _ : Unit => w5 cI cZ qP oP)) A) args s 0 0 A) (w5 cI cZ qP oP) 30 [] []) (fu : Nat) (v2_2 : Int32), wpX5_eveningFault_L2 v1 oP post K30 fu v2_2 → SW p l e { frames := 1, cells := 0, slots := 0, locals := 21 } s m args below meth c A D 3 0 0 (MQ below (va_Qi (fun (r : Int32) (_ : Unit) => post r) (ctB D A (fun _ : Unit => w5 cI cZ qP oP)) A) args s 0 0 A) (w5 cI cZ qP oP) 2 [(0, .ref (qP 0)), (1, .int v1), (2, .int v2_2)] [] := by
    intro K30 hK30 fu
    induction fu with
    | zero =>
      intro v2_2 h
      exact False.elim h
    | succ fu ih =>
      intro v2_2 h
      unfold wpX5_eveningFault_L2 at h
      refine SW.iload_n C dX5_eveningFault_2 rfl 2 rfl ?_
      refine SW.aload_n C dX5_eveningFault_3 rfl 0 rfl ?_
      refine SW.get (v := .int (oP 0 0)) (T := TX5) (N := 2) C inX5_eveningFault_X5 0 rfl rfl 0 (by decide) lkX5_eveningFault_9 rfl dX5_eveningFault_4 ?_
      refine SW.icmp_ge (tgt := 30) C dX5_eveningFault_7 (by decide) (fun hc => ?_) (fun hc => ?_)
      · replace h := h.1 hc
        refine SW.sub [] rfl ?_
        exact hK30 h
      · replace h := h.2 hc
        refine SW.aload_n C dX5_eveningFault_10 rfl 0 rfl ?_
        refine SW.iload_n C dX5_eveningFault_11 rfl 2 rfl ?_
        refine SW.callVi_same C (ctX5_signAt l D cI cZ qP oP v2_2 _ h) gX5_eveningFault_X5_signAt rfl rfl rfl pdX5_signAt ⟨by decide, by decide⟩ 0 rfl rfl rfl rfl rfl (Nat.le_of_ble_eq_true rfl) dX5_eveningFault_12 (by decide) (fun r12 u h => ?_)
        try dsimp only at h
        refine SW.iload_n C dX5_eveningFault_15 rfl 1 rfl ?_
        refine SW.callSi_pure C (ctX5_isAct l D cI cZ r12 v1 _ h) gX5_eveningFault_X5_isAct rfl rfl rfl pdX5_isAct ⟨by decide, by decide⟩ rfl rfl (Nat.le_of_ble_eq_true rfl) dX5_eveningFault_16 (by decide) (fun r16 u h => ?_)
        try dsimp only at h
        refine SW.if_ne (tgt := 24) C dX5_eveningFault_19 (by decide) (fun hc => ?_) (fun hc => ?_)
        · replace h := h.2 hc
          refine SW.iinc (q := 2) (v := (v2_2 + (1 : Int32))) (lv' := [(2, .int (v2_2 + (1 : Int32))), (0, .ref (qP 0)), (1, .int v1)]) C dX5_eveningFault_24 rfl rfl (by decide) rfl ?_
          refine SW.goto (tgt := 2) C dX5_eveningFault_27 (by decide) ?_
          refine SW.sub [1, 2, 0] rfl ?_
          exact ih _ h
        · replace h := h.1 hc
          refine SW.iload_n C dX5_eveningFault_22 rfl 2 rfl ?_
          exact SW.iret C () rfl h dX5_eveningFault_23
  obtain ⟨fu, h⟩ := h
  refine SW.sub [1, 2, 0] rfl ?_
  refine L2 _ (fun h => ?_) fu _ h
  · refine SW.bipush (v := (-6 : Int32)) C dX5_eveningFault_30 (by decide) ?_
    exact SW.iret C () rfl h dX5_eveningFault_32
def wpX5_toneAt (oP : Ob) (v1 : Int32) (post : Int32 → Prop) : Prop := wpX5_signAt oP ((2 : Int32) * v1) (fun (r4 : Int32) => wpX5_signAt oP (((2 : Int32) * v1) + (1 : Int32)) (fun (r19 : Int32) => post ((((r4 - (48 : Int32)) * (10 : Int32)) + r19) - (48 : Int32))))
theorem pdX5_toneAt : yX5_toneAt.cls = RX5 ∧ yX5_toneAt.cls ≠ "java/lang/invoke/MethodHandle" ∧ yX5_toneAt.cls ≠ "java/lang/invoke/VarHandle" ∧ (parseMethodDescriptor yX5_toneAt.desc).map (fun d => d.parameters.length) = some 1 := by decide +kernel
set_option maxHeartbeats 4000000 in
set_option maxRecDepth 100000 in
theorem ctX5_toneAt (l : Launch) (D : va_G) (cI cZ : ClassId) (qP : Nat → Nat) (oP : Ob) (v1 : Int32) (post : Int32 → Prop) (h : wpX5_toneAt oP v1 post) : CTi l yX5_toneAt wsX5_toneAt { frames := 1, cells := 0, slots := 0, locals := 21 } D [(cI, .int), (cZ, .boolean)] [.ref (qP 0), .int v1] (w5 cI cZ qP oP) (fun _ : Unit => w5 cI cZ qP oP) (fun (r : Int32) (_ : Unit) => post r) := by
  refine CTi.of (cc := cX5_toneAt) (own := RX5) (maxL := 2) (ret := (some .int)) (lv0 := [(0, .ref (qP 0)), (1, .int v1)]) (by decide) rfl rfl (Nat.le_of_ble_eq_true rfl) rfl ?_
  intro p e s m args below meth c A C
  unfold wpX5_toneAt at h
  refine SW.aload_n C dX5_toneAt_0 rfl 0 rfl ?_
  refine SW.iconst (v := (2 : Int32)) C dX5_toneAt_1 (by decide) ?_
  refine SW.iload_n C dX5_toneAt_2 rfl 1 rfl ?_
  refine SW.imul C dX5_toneAt_3 ?_
  refine SW.callVi_same C (ctX5_signAt l D cI cZ qP oP ((2 : Int32) * v1) _ h) gX5_toneAt_X5_signAt rfl rfl rfl pdX5_signAt ⟨by decide, by decide⟩ 0 rfl rfl rfl rfl rfl (Nat.le_of_ble_eq_true rfl) dX5_toneAt_4 (by decide) (fun r4 u h => ?_)
  try dsimp only at h
  refine SW.bipush (v := (48 : Int32)) C dX5_toneAt_7 (by decide) ?_
  refine SW.isub C dX5_toneAt_9 ?_
  refine SW.bipush (v := (10 : Int32)) C dX5_toneAt_10 (by decide) ?_
  refine SW.imul C dX5_toneAt_12 ?_
  refine SW.aload_n C dX5_toneAt_13 rfl 0 rfl ?_
  refine SW.iconst (v := (2 : Int32)) C dX5_toneAt_14 (by decide) ?_
  refine SW.iload_n C dX5_toneAt_15 rfl 1 rfl ?_
  refine SW.imul C dX5_toneAt_16 ?_
  refine SW.iconst (v := (1 : Int32)) C dX5_toneAt_17 (by decide) ?_
  refine SW.iadd C dX5_toneAt_18 ?_
  refine SW.callVi_same C (ctX5_signAt l D cI cZ qP oP (((2 : Int32) * v1) + (1 : Int32)) _ h) gX5_toneAt_X5_signAt rfl rfl rfl pdX5_signAt ⟨by decide, by decide⟩ 0 rfl rfl rfl rfl rfl (Nat.le_of_ble_eq_true rfl) dX5_toneAt_19 (by decide) (fun r19 u h => ?_)
  try dsimp only at h
  refine SW.iadd C dX5_toneAt_22 ?_
  refine SW.bipush (v := (48 : Int32)) C dX5_toneAt_23 (by decide) ?_
  refine SW.isub C dX5_toneAt_25 ?_
  exact SW.iret C () rfl h dX5_toneAt_26
def wpX5_isTuneSign (oP : Ob) (v1 : Int32) (post : Int32 → Prop) : Prop := wpX5_signAt oP v1 (fun (r2 : Int32) => (((r2 - (48 : Int32)) < 0) → post (0 : Int32)) ∧ (¬ ((r2 - (48 : Int32)) < 0) → (((r2 - (48 : Int32)) ≤ (9 : Int32)) → (((jrem v1 (2 : Int32)) = 0) → (((20 : Int32) < ((r2 - (48 : Int32)) * (10 : Int32))) → post (0 : Int32)) ∧ (¬ ((20 : Int32) < ((r2 - (48 : Int32)) * (10 : Int32))) → post (1 : Int32))) ∧ (¬ ((jrem v1 (2 : Int32)) = 0) → wpX5_toneAt oP (v1 / (2 : Int32)) (fun (r46 : Int32) => jn0 (post (0 : Int32)) (fun J65 => ((r46 < (1 : Int32)) → J65) ∧ (¬ (r46 < (1 : Int32)) → (((20 : Int32) < r46) → J65) ∧ (¬ ((20 : Int32) < r46) → post (1 : Int32))))))) ∧ (¬ ((r2 - (48 : Int32)) ≤ (9 : Int32)) → post (0 : Int32))))
theorem pdX5_isTuneSign : yX5_isTuneSign.cls = RX5 ∧ yX5_isTuneSign.cls ≠ "java/lang/invoke/MethodHandle" ∧ yX5_isTuneSign.cls ≠ "java/lang/invoke/VarHandle" ∧ (parseMethodDescriptor yX5_isTuneSign.desc).map (fun d => d.parameters.length) = some 1 := by decide +kernel
set_option maxHeartbeats 4000000 in
set_option maxRecDepth 100000 in
theorem ctX5_isTuneSign (l : Launch) (D : va_G) (cI cZ : ClassId) (qP : Nat → Nat) (oP : Ob) (v1 : Int32) (post : Int32 → Prop) (h : wpX5_isTuneSign oP v1 post) : CTi l yX5_isTuneSign wsX5_isTuneSign { frames := 2, cells := 0, slots := 0, locals := 42 } D [(cI, .int), (cZ, .boolean)] [.ref (qP 0), .int v1] (w5 cI cZ qP oP) (fun _ : Unit => w5 cI cZ qP oP) (fun (r : Int32) (_ : Unit) => post r) := by
  refine CTi.of (cc := cX5_isTuneSign) (own := RX5) (maxL := 4) (ret := (some .boolean)) (lv0 := [(0, .ref (qP 0)), (1, .int v1)]) (by decide) rfl rfl (Nat.le_of_ble_eq_true rfl) rfl ?_
  intro p e s m args below meth c A C
  unfold wpX5_isTuneSign at h
  refine SW.aload_n C dX5_isTuneSign_0 rfl 0 rfl ?_
  refine SW.iload_n C dX5_isTuneSign_1 rfl 1 rfl ?_
  refine SW.callVi_same C (ctX5_signAt l D cI cZ qP oP v1 _ h) gX5_isTuneSign_X5_signAt rfl rfl rfl pdX5_signAt ⟨by decide, by decide⟩ 0 rfl rfl rfl rfl rfl (Nat.le_of_ble_eq_true rfl) dX5_isTuneSign_2 (by decide) (fun r2 u h => ?_)
  try dsimp only at h
  refine SW.bipush (v := (48 : Int32)) C dX5_isTuneSign_5 (by decide) ?_
  refine SW.isub C dX5_isTuneSign_7 ?_
  refine SW.istore_n (lv' := [(2, .int (r2 - (48 : Int32))), (0, .ref (qP 0)), (1, .int v1)]) C dX5_isTuneSign_8 rfl (by decide) rfl ?_
  refine SW.iload_n C dX5_isTuneSign_9 rfl 0 rfl ?_
  refine SW.if_lt (tgt := 19) C dX5_isTuneSign_10 (by decide) (fun hc => ?_) (fun hc => ?_)
  · replace h := h.1 hc
    refine SW.iconst (v := (0 : Int32)) C dX5_isTuneSign_19 (by decide) ?_
    exact SW.zret C () (by decide) rfl h dX5_isTuneSign_20
  · replace h := h.2 hc
    refine SW.iload_n C dX5_isTuneSign_13 rfl 0 rfl ?_
    refine SW.bipush (v := (9 : Int32)) C dX5_isTuneSign_14 (by decide) ?_
    refine SW.icmp_le (tgt := 21) C dX5_isTuneSign_16 (by decide) (fun hc => ?_) (fun hc => ?_)
    · replace h := h.1 hc
      refine SW.iload_n C dX5_isTuneSign_21 rfl 2 rfl ?_
      refine SW.iconst (v := (2 : Int32)) C dX5_isTuneSign_22 (by decide) ?_
      refine SW.irem C dX5_isTuneSign_23 (by decide) ?_
      refine SW.if_ne (tgt := 42) C dX5_isTuneSign_24 (by decide) (fun hc => ?_) (fun hc => ?_)
      · replace h := h.2 hc
        refine SW.aload_n C dX5_isTuneSign_42 rfl 1 rfl ?_
        refine SW.iload_n C dX5_isTuneSign_43 rfl 2 rfl ?_
        refine SW.iconst (v := (2 : Int32)) C dX5_isTuneSign_44 (by decide) ?_
        refine SW.idiv C dX5_isTuneSign_45 (by decide) ?_
        refine SW.callVi_same C (ctX5_toneAt l D cI cZ qP oP (v1 / (2 : Int32)) _ h) gX5_isTuneSign_X5_toneAt rfl rfl rfl pdX5_toneAt ⟨by decide, by decide⟩ 0 rfl rfl rfl rfl rfl (Nat.le_of_ble_eq_true rfl) dX5_isTuneSign_46 (by decide) (fun r46 u h => ?_)
        try dsimp only at h
        refine SW.istore_n (lv' := [(3, .int r46), (2, .int (r2 - (48 : Int32))), (0, .ref (qP 0)), (1, .int v1)]) C dX5_isTuneSign_49 rfl (by decide) rfl ?_
        refine SW.iload_n C dX5_isTuneSign_50 rfl 0 rfl ?_
        refine SW.iconst (v := (1 : Int32)) C dX5_isTuneSign_51 (by decide) ?_
        refine jn0_elim (G := SW p l e { frames := 2, cells := 0, slots := 0, locals := 42 } s m args below meth c A D 4 0 0 (MQ below (va_Qi (fun (r : Int32) (_ : Unit) => post r) (ctB D A (fun _ : Unit => w5 cI cZ qP oP)) A) args s 0 0 A) (w5 cI cZ qP oP) 65 [] []) h (fun h => ?_) (fun J65 hJ65 h => ?_)
        · refine SW.iconst (v := (0 : Int32)) C dX5_isTuneSign_65 (by decide) ?_
          exact SW.zret C () (by decide) rfl h dX5_isTuneSign_66
        · refine SW.icmp_lt (tgt := 65) C dX5_isTuneSign_52 (by decide) (fun hc => ?_) (fun hc => ?_)
          · replace h := h.1 hc
            refine SW.sub [] rfl ?_
            exact hJ65 h
          · replace h := h.2 hc
            refine SW.iload_n C dX5_isTuneSign_55 rfl 0 rfl ?_
            refine SW.bipush (v := (20 : Int32)) C dX5_isTuneSign_56 (by decide) ?_
            refine SW.icmp_gt (tgt := 65) C dX5_isTuneSign_58 (by decide) (fun hc => ?_) (fun hc => ?_)
            · replace h := h.1 hc
              refine SW.sub [] rfl ?_
              exact hJ65 h
            · replace h := h.2 hc
              refine SW.iconst (v := (1 : Int32)) C dX5_isTuneSign_61 (by decide) ?_
              refine SW.goto (tgt := 66) C dX5_isTuneSign_62 (by decide) ?_
              exact SW.zret C () (by decide) rfl h dX5_isTuneSign_66
      · replace h := h.1 hc
        refine SW.iload_n C dX5_isTuneSign_27 rfl 0 rfl ?_
        refine SW.bipush (v := (10 : Int32)) C dX5_isTuneSign_28 (by decide) ?_
        refine SW.imul C dX5_isTuneSign_30 ?_
        refine SW.bipush (v := (20 : Int32)) C dX5_isTuneSign_31 (by decide) ?_
        refine SW.icmp_gt (tgt := 40) C dX5_isTuneSign_33 (by decide) (fun hc => ?_) (fun hc => ?_)
        · replace h := h.1 hc
          refine SW.iconst (v := (0 : Int32)) C dX5_isTuneSign_40 (by decide) ?_
          exact SW.zret C () (by decide) rfl h dX5_isTuneSign_41
        · replace h := h.2 hc
          refine SW.iconst (v := (1 : Int32)) C dX5_isTuneSign_36 (by decide) ?_
          refine SW.goto (tgt := 41) C dX5_isTuneSign_37 (by decide) ?_
          exact SW.zret C () (by decide) rfl h dX5_isTuneSign_41
    · replace h := h.2 hc
      refine SW.iconst (v := (0 : Int32)) C dX5_isTuneSign_19 (by decide) ?_
      exact SW.zret C () (by decide) rfl h dX5_isTuneSign_20
def wpX5_tuneFault_L2 (oPc_2 : Ob) (post : Int32 → Prop) (K26 : Prop) : Nat → Int32 → Prop
  | 0, _ => False
  | fu2 + 1, v1_2 => (((oPc_2 0 0) ≤ v1_2) → K26) ∧ (¬ ((oPc_2 0 0) ≤ v1_2) → wpX5_isTuneSign oPc_2 v1_2 (fun (r12 : Int32) => ((r12 = 0) → post v1_2) ∧ (¬ (r12 = 0) → wpX5_tuneFault_L2 oPc_2 post K26 fu2 (v1_2 + (1 : Int32)))))
def wpX5_tuneFault (oP : Ob) (post : Int32 → Prop) : Prop := ∃ fu2 : Nat, wpX5_tuneFault_L2 oP post (jn0 (post (oP 0 0)) (fun J42 => (((oP 0 0) = 0) → J42) ∧ (¬ ((oP 0 0) = 0) → (((jrem (oP 0 0) (2 : Int32)) = 0) → post (-6 : Int32)) ∧ (¬ ((jrem (oP 0 0) (2 : Int32)) = 0) → J42)))) fu2 (0 : Int32)
theorem pdX5_tuneFault : yX5_tuneFault.cls = RX5 ∧ yX5_tuneFault.cls ≠ "java/lang/invoke/MethodHandle" ∧ yX5_tuneFault.cls ≠ "java/lang/invoke/VarHandle" ∧ (parseMethodDescriptor yX5_tuneFault.desc).map (fun d => d.parameters.length) = some 0 := by decide +kernel
theorem lkX5_tuneFault_9 : Cond.fieldLink RX5 9 (TX5 0).1 (TX5 0).2.1 (TX5 0).2.2.1 ∈ wsX5_tuneFault := by decide +kernel
theorem inX5_tuneFault_X5 : ∀ w ∈ u_ws RX5 TX5 2, w ∈ wsX5_tuneFault := by decide +kernel
set_option maxHeartbeats 4000000 in
set_option maxRecDepth 100000 in
theorem ctX5_tuneFault (l : Launch) (D : va_G) (cI cZ : ClassId) (qP : Nat → Nat) (oP : Ob) (post : Int32 → Prop) (h : wpX5_tuneFault oP post) : CTi l yX5_tuneFault wsX5_tuneFault { frames := 3, cells := 0, slots := 0, locals := 65 } D [(cI, .int), (cZ, .boolean)] [.ref (qP 0)] (w5 cI cZ qP oP) (fun _ : Unit => w5 cI cZ qP oP) (fun (r : Int32) (_ : Unit) => post r) := by
  refine CTi.of (cc := cX5_tuneFault) (own := RX5) (maxL := 2) (ret := (some .int)) (lv0 := [(0, .ref (qP 0))]) (by decide) rfl rfl (Nat.le_of_ble_eq_true rfl) rfl ?_
  intro p e s m args below meth c A C
  unfold wpX5_tuneFault at h
  refine SW.iconst (v := (0 : Int32)) C dX5_tuneFault_0 (by decide) ?_
  refine SW.istore_n (lv' := [(1, .int (0 : Int32)), (0, .ref (qP 0))]) C dX5_tuneFault_1 rfl (by decide) rfl ?_
  have L2 : ∀ (K26 : Prop) (hK26 : K26 → SW p l e { frames := 3, cells := 0, slots := 0, locals := 65 } s m args below meth c A D 2 0 0 (MQ below (va_Qi (fun (r : Int32) (_ : Unit) => post r) (ctB D A (fun _ : Unit => w5 cI cZ qP oP)) A) args s 0 0 A) (w5 cI cZ qP oP) 26 [(0, .ref (qP 0))] []) (fu : Nat) (v1_2 : Int32), wpX5_tuneFault_L2 oP post K26 fu v1_2 → SW p l e { frames := 3, cells := 0, slots := 0, locals := 65 } s m args below meth c A D 2 0 0 (MQ below (va_Qi (fun (r : Int32) (_ : Unit) => post r) (ctB D A (fun _ : Unit => w5 cI cZ qP oP)) A) args s 0 0 A) (w5 cI cZ qP oP) 2 [(0, .ref (qP 0)), (1, .int v1_2)] [] := by
    intro K26 hK26 fu
    induction fu with
    | zero =>
      intro v1_2 h
      exact False.elim h
    | succ fu ih =>
      intro v1_2 h
      unfold wpX5_tuneFault_L2 at h
      refine SW.iload_n C dX5_tuneFault_2 rfl 1 rfl ?_
      refine SW.aload_n C dX5_tuneFault_3 rfl 0 rfl ?_
      refine SW.get (v := .int (oP 0 0)) (T := TX5) (N := 2) C inX5_tuneFault_X5 0 rfl rfl 0 (by decide) lkX5_tuneFault_9 rfl dX5_tuneFault_4 ?_
      refine SW.icmp_ge (tgt := 26) C dX5_tuneFault_7 (by decide) (fun hc => ?_) (fun hc => ?_)
      · replace h := h.1 hc
        refine SW.sub [0] rfl ?_
        exact hK26 h
      · replace h := h.2 hc
        refine SW.aload_n C dX5_tuneFault_10 rfl 0 rfl ?_
        refine SW.iload_n C dX5_tuneFault_11 rfl 1 rfl ?_
        refine SW.callVi_same C (ctX5_isTuneSign l D cI cZ qP oP v1_2 _ h) gX5_tuneFault_X5_isTuneSign rfl rfl rfl pdX5_isTuneSign ⟨by decide, by decide⟩ 0 rfl rfl rfl rfl rfl (Nat.le_of_ble_eq_true rfl) dX5_tuneFault_12 (by decide) (fun r12 u h => ?_)
        try dsimp only at h
        refine SW.if_ne (tgt := 20) C dX5_tuneFault_15 (by decide) (fun hc => ?_) (fun hc => ?_)
        · replace h := h.2 hc
          refine SW.iinc (q := 1) (v := (v1_2 + (1 : Int32))) (lv' := [(1, .int (v1_2 + (1 : Int32))), (0, .ref (qP 0))]) C dX5_tuneFault_20 rfl rfl (by decide) rfl ?_
          refine SW.goto (tgt := 2) C dX5_tuneFault_23 (by decide) ?_
          refine SW.sub [1, 0] rfl ?_
          exact ih _ h
        · replace h := h.1 hc
          refine SW.iload_n C dX5_tuneFault_18 rfl 1 rfl ?_
          exact SW.iret C () rfl h dX5_tuneFault_19
  obtain ⟨fu, h⟩ := h
  refine SW.sub [1, 0] rfl ?_
  refine L2 _ (fun h => ?_) fu _ h
  · refine SW.aload_n C dX5_tuneFault_26 rfl 0 rfl ?_
    refine SW.get (v := .int (oP 0 0)) (T := TX5) (N := 2) C inX5_tuneFault_X5 0 rfl rfl 0 (by decide) lkX5_tuneFault_9 rfl dX5_tuneFault_27 ?_
    refine jn0_elim (G := SW p l e { frames := 3, cells := 0, slots := 0, locals := 65 } s m args below meth c A D 2 0 0 (MQ below (va_Qi (fun (r : Int32) (_ : Unit) => post r) (ctB D A (fun _ : Unit => w5 cI cZ qP oP)) A) args s 0 0 A) (w5 cI cZ qP oP) 42 [(0, .ref (qP 0))] []) h (fun h => ?_) (fun J42 hJ42 h => ?_)
    · refine SW.aload_n C dX5_tuneFault_42 rfl 0 rfl ?_
      refine SW.get (v := .int (oP 0 0)) (T := TX5) (N := 2) C inX5_tuneFault_X5 0 rfl rfl 0 (by decide) lkX5_tuneFault_9 rfl dX5_tuneFault_43 ?_
      refine SW.goto (tgt := 51) C dX5_tuneFault_46 (by decide) ?_
      exact SW.iret C () rfl h dX5_tuneFault_51
    · refine SW.if_eq (tgt := 42) C dX5_tuneFault_30 (by decide) (fun hc => ?_) (fun hc => ?_)
      · replace h := h.1 hc
        exact hJ42 h
      · replace h := h.2 hc
        refine SW.aload_n C dX5_tuneFault_33 rfl 0 rfl ?_
        refine SW.get (v := .int (oP 0 0)) (T := TX5) (N := 2) C inX5_tuneFault_X5 0 rfl rfl 0 (by decide) lkX5_tuneFault_9 rfl dX5_tuneFault_34 ?_
        refine SW.iconst (v := (2 : Int32)) C dX5_tuneFault_37 (by decide) ?_
        refine SW.irem C dX5_tuneFault_38 (by decide) ?_
        refine SW.if_eq (tgt := 49) C dX5_tuneFault_39 (by decide) (fun hc => ?_) (fun hc => ?_)
        · replace h := h.1 hc
          refine SW.bipush (v := (-6 : Int32)) C dX5_tuneFault_49 (by decide) ?_
          exact SW.iret C () rfl h dX5_tuneFault_51
        · replace h := h.2 hc
          exact hJ42 h
def wpX5_toneCount (oP : Ob) (post : Int32 → Prop) : Prop := post ((oP 0 0) / (2 : Int32))
theorem pdX5_toneCount : yX5_toneCount.cls = RX5 ∧ yX5_toneCount.cls ≠ "java/lang/invoke/MethodHandle" ∧ yX5_toneCount.cls ≠ "java/lang/invoke/VarHandle" ∧ (parseMethodDescriptor yX5_toneCount.desc).map (fun d => d.parameters.length) = some 0 := by decide +kernel
theorem lkX5_toneCount_9 : Cond.fieldLink RX5 9 (TX5 0).1 (TX5 0).2.1 (TX5 0).2.2.1 ∈ wsX5_toneCount := by decide +kernel
theorem inX5_toneCount_X5 : ∀ w ∈ u_ws RX5 TX5 2, w ∈ wsX5_toneCount := by decide +kernel
set_option maxHeartbeats 4000000 in
set_option maxRecDepth 100000 in
theorem ctX5_toneCount (l : Launch) (D : va_G) (cI cZ : ClassId) (qP : Nat → Nat) (oP : Ob) (post : Int32 → Prop) (h : wpX5_toneCount oP post) : CTi l yX5_toneCount wsX5_toneCount { frames := 0, cells := 0, slots := 0, locals := 0 } D [(cI, .int), (cZ, .boolean)] [.ref (qP 0)] (w5 cI cZ qP oP) (fun _ : Unit => w5 cI cZ qP oP) (fun (r : Int32) (_ : Unit) => post r) := by
  refine CTi.of (cc := cX5_toneCount) (own := RX5) (maxL := 1) (ret := (some .int)) (lv0 := [(0, .ref (qP 0))]) (by decide) rfl rfl (Nat.le_of_ble_eq_true rfl) rfl ?_
  intro p e s m args below meth c A C
  unfold wpX5_toneCount at h
  refine SW.aload_n C dX5_toneCount_0 rfl 0 rfl ?_
  refine SW.get (v := .int (oP 0 0)) (T := TX5) (N := 2) C inX5_toneCount_X5 0 rfl rfl 0 (by decide) lkX5_toneCount_9 rfl dX5_toneCount_1 ?_
  refine SW.iconst (v := (2 : Int32)) C dX5_toneCount_4 (by decide) ?_
  refine SW.idiv C dX5_toneCount_5 (by decide) ?_
  exact SW.iret C () rfl h dX5_toneCount_6
def wpX6_hasAll_L2 (c0_2 : Int32) (c1_2 : Int32) (post : Int32 → Prop) (K31 : Prop) : Nat → Int32 → Prop
  | 0, _ => False
  | fu2 + 1, v3_2 => ((v3_2 < (1 : Int32)) → K31) ∧ (¬ (v3_2 < (1 : Int32)) → jn0 (wpX6_hasAll_L2 c0_2 c1_2 post K31 fu2 (v3_2 + (-1 : Int32))) (fun J25 => ((((jush c1_2 v3_2) &&& (1 : Int32)) = 0) → J25) ∧ (¬ (((jush c1_2 v3_2) &&& (1 : Int32)) = 0) → (((c0_2 &&& (jush c0_2 v3_2)) = 0) → post (0 : Int32)) ∧ (¬ ((c0_2 &&& (jush c0_2 v3_2)) = 0) → J25))))
def wpX6_hasAll (v0 : Int32) (v1 : Int32) (v2 : Int32) (post : Int32 → Prop) : Prop := ∃ fu2 : Nat, wpX6_hasAll_L2 v0 v1 post (post (1 : Int32)) fu2 v2
theorem pdX6_hasAll : yX6_hasAll.cls ≠ "java/lang/invoke/MethodHandle" ∧ yX6_hasAll.cls ≠ "java/lang/invoke/VarHandle" ∧ (parseMethodDescriptor yX6_hasAll.desc).map (fun d => d.parameters.length) = some 3 := by decide +kernel
set_option maxHeartbeats 4000000 in
set_option maxRecDepth 100000 in
theorem ctX6_hasAll (l : Launch) (D : va_G) (cI cZ : ClassId) (v0 : Int32) (v1 : Int32) (v2 : Int32) (post : Int32 → Prop) (h : wpX6_hasAll v0 v1 v2 post) : CTi l yX6_hasAll wsX6_hasAll { frames := 0, cells := 0, slots := 0, locals := 0 } D [(cI, .int), (cZ, .boolean)] [.int v0, .int v1, .int v2] (([] : va_W)) (fun _ : Unit => ([] : va_W)) (fun (r : Int32) (_ : Unit) => post r) := by
  refine CTi.of (cc := cX6_hasAll) (own := RX6) (maxL := 4) (ret := (some .boolean)) (lv0 := [(0, .int v0), (1, .int v1), (2, .int v2)]) (by decide) rfl rfl (Nat.le_of_ble_eq_true rfl) rfl ?_
  intro p e s m args below meth c A C
  unfold wpX6_hasAll at h
  refine SW.iload_n C dX6_hasAll_0 rfl 2 rfl ?_
  refine SW.istore_n (lv' := [(3, .int v2), (0, .int v0), (1, .int v1), (2, .int v2)]) C dX6_hasAll_1 rfl (by decide) rfl ?_
  have L2 : ∀ (K31 : Prop) (hK31 : K31 → SW p l e { frames := 0, cells := 0, slots := 0, locals := 0 } s m args below meth c A D 4 0 0 (MQ below (va_Qi (fun (r : Int32) (_ : Unit) => post r) (ctB D A (fun _ : Unit => ([] : va_W))) A) args s 0 0 A) (([] : va_W)) 31 [] []) (fu : Nat) (v3_2 : Int32), wpX6_hasAll_L2 v0 v1 post K31 fu v3_2 → SW p l e { frames := 0, cells := 0, slots := 0, locals := 0 } s m args below meth c A D 4 0 0 (MQ below (va_Qi (fun (r : Int32) (_ : Unit) => post r) (ctB D A (fun _ : Unit => ([] : va_W))) A) args s 0 0 A) (([] : va_W)) 2 [(0, .int v0), (1, .int v1), (3, .int v3_2)] [] := by
    intro K31 hK31 fu
    induction fu with
    | zero =>
      intro v3_2 h
      exact False.elim h
    | succ fu ih =>
      intro v3_2 h
      unfold wpX6_hasAll_L2 at h
      refine SW.iload_n C dX6_hasAll_2 rfl 2 rfl ?_
      refine SW.iconst (v := (1 : Int32)) C dX6_hasAll_3 (by decide) ?_
      refine SW.icmp_lt (tgt := 31) C dX6_hasAll_4 (by decide) (fun hc => ?_) (fun hc => ?_)
      · replace h := h.1 hc
        refine SW.sub [] rfl ?_
        exact hK31 h
      · replace h := h.2 hc
        refine SW.iload_n C dX6_hasAll_7 rfl 1 rfl ?_
        refine SW.iload_n C dX6_hasAll_8 rfl 2 rfl ?_
        refine SW.iushr C dX6_hasAll_9 ?_
        refine SW.iconst (v := (1 : Int32)) C dX6_hasAll_10 (by decide) ?_
        refine SW.iand C dX6_hasAll_11 ?_
        refine jn0_elim (G := SW p l e { frames := 0, cells := 0, slots := 0, locals := 0 } s m args below meth c A D 4 0 0 (MQ below (va_Qi (fun (r : Int32) (_ : Unit) => post r) (ctB D A (fun _ : Unit => ([] : va_W))) A) args s 0 0 A) (([] : va_W)) 25 [(0, .int v0), (1, .int v1), (3, .int v3_2)] []) h (fun h => ?_) (fun J25 hJ25 h => ?_)
        · refine SW.iinc (q := 2) (v := (v3_2 + (-1 : Int32))) (lv' := [(3, .int (v3_2 + (-1 : Int32))), (0, .int v0), (1, .int v1)]) C dX6_hasAll_25 rfl rfl (by decide) rfl ?_
          refine SW.goto (tgt := 2) C dX6_hasAll_28 (by decide) ?_
          refine SW.sub [1, 2, 0] rfl ?_
          exact ih _ h
        · refine SW.if_eq (tgt := 25) C dX6_hasAll_12 (by decide) (fun hc => ?_) (fun hc => ?_)
          · replace h := h.1 hc
            exact hJ25 h
          · replace h := h.2 hc
            refine SW.iload_n C dX6_hasAll_15 rfl 0 rfl ?_
            refine SW.iload_n C dX6_hasAll_16 rfl 0 rfl ?_
            refine SW.iload_n C dX6_hasAll_17 rfl 2 rfl ?_
            refine SW.iushr C dX6_hasAll_18 ?_
            refine SW.iand C dX6_hasAll_19 ?_
            refine SW.if_ne (tgt := 25) C dX6_hasAll_20 (by decide) (fun hc => ?_) (fun hc => ?_)
            · replace h := h.2 hc
              exact hJ25 h
            · replace h := h.1 hc
              refine SW.iconst (v := (0 : Int32)) C dX6_hasAll_23 (by decide) ?_
              exact SW.zret C () (by decide) rfl h dX6_hasAll_24
  obtain ⟨fu, h⟩ := h
  refine SW.sub [1, 2, 0] rfl ?_
  refine L2 _ (fun h => ?_) fu _ h
  · refine SW.iconst (v := (1 : Int32)) C dX6_hasAll_31 (by decide) ?_
    exact SW.zret C () (by decide) rfl h dX6_hasAll_32
def wpX6_nextOfSameSize (v0 : Int32) (post : Int32 → Prop) : Prop := (((v0 &&& (-v0)) = 0) → post (0 : Int32)) ∧ (¬ ((v0 &&& (-v0)) = 0) → (¬ (v0 &&& (-v0)) = 0) ∧ (post ((v0 + (v0 &&& (-v0))) ||| ((jush (v0 ^^^ (v0 + (v0 &&& (-v0)))) (2 : Int32)) / (v0 &&& (-v0))))))
theorem pdX6_nextOfSameSize : yX6_nextOfSameSize.cls ≠ "java/lang/invoke/MethodHandle" ∧ yX6_nextOfSameSize.cls ≠ "java/lang/invoke/VarHandle" ∧ (parseMethodDescriptor yX6_nextOfSameSize.desc).map (fun d => d.parameters.length) = some 1 := by decide +kernel
set_option maxHeartbeats 4000000 in
set_option maxRecDepth 100000 in
theorem ctX6_nextOfSameSize (l : Launch) (D : va_G) (cI cZ : ClassId) (v0 : Int32) (post : Int32 → Prop) (h : wpX6_nextOfSameSize v0 post) : CTi l yX6_nextOfSameSize wsX6_nextOfSameSize { frames := 0, cells := 0, slots := 0, locals := 0 } D [(cI, .int), (cZ, .boolean)] [.int v0] (([] : va_W)) (fun _ : Unit => ([] : va_W)) (fun (r : Int32) (_ : Unit) => post r) := by
  refine CTi.of (cc := cX6_nextOfSameSize) (own := RX6) (maxL := 3) (ret := (some .int)) (lv0 := [(0, .int v0)]) (by decide) rfl rfl (Nat.le_of_ble_eq_true rfl) rfl ?_
  intro p e s m args below meth c A C
  unfold wpX6_nextOfSameSize at h
  refine SW.iload_n C dX6_nextOfSameSize_0 rfl 0 rfl ?_
  refine SW.iload_n C dX6_nextOfSameSize_1 rfl 0 rfl ?_
  refine SW.ineg C dX6_nextOfSameSize_2 ?_
  refine SW.iand C dX6_nextOfSameSize_3 ?_
  refine SW.istore_n (lv' := [(1, .int (v0 &&& (-v0))), (0, .int v0)]) C dX6_nextOfSameSize_4 rfl (by decide) rfl ?_
  refine SW.iload_n C dX6_nextOfSameSize_5 rfl 0 rfl ?_
  refine SW.if_ne (tgt := 11) C dX6_nextOfSameSize_6 (by decide) (fun hc => ?_) (fun hc => ?_)
  · replace h := h.2 hc
    refine SW.iload_n C dX6_nextOfSameSize_11 rfl 1 rfl ?_
    refine SW.iload_n C dX6_nextOfSameSize_12 rfl 0 rfl ?_
    refine SW.iadd C dX6_nextOfSameSize_13 ?_
    refine SW.istore_n (lv' := [(2, .int (v0 + (v0 &&& (-v0)))), (1, .int (v0 &&& (-v0))), (0, .int v0)]) C dX6_nextOfSameSize_14 rfl (by decide) rfl ?_
    refine SW.iload_n C dX6_nextOfSameSize_15 rfl 0 rfl ?_
    refine SW.iload_n C dX6_nextOfSameSize_16 rfl 2 rfl ?_
    refine SW.iload_n C dX6_nextOfSameSize_17 rfl 0 rfl ?_
    refine SW.ixor C dX6_nextOfSameSize_18 ?_
    refine SW.iconst (v := (2 : Int32)) C dX6_nextOfSameSize_19 (by decide) ?_
    refine SW.iushr C dX6_nextOfSameSize_20 ?_
    refine SW.iload_n C dX6_nextOfSameSize_21 rfl 1 rfl ?_
    refine SW.idiv C dX6_nextOfSameSize_22 h.1 ?_
    replace h := h.2
    refine SW.ior C dX6_nextOfSameSize_23 ?_
    exact SW.iret C () rfl h dX6_nextOfSameSize_24
  · replace h := h.1 hc
    refine SW.iconst (v := (0 : Int32)) C dX6_nextOfSameSize_9 (by decide) ?_
    exact SW.iret C () rfl h dX6_nextOfSameSize_10
def wpX6_leastPlaces_L16 (c0_16 : Int32) (c1_16 : Int32) (c4_16 : Int32) (post : Int32 → Prop) (K71 : Prop) : Nat → Int32 → Int32 → Prop
  | 0, _, _ => False
  | fu16 + 1, v3_16, v5_16 => (((65536 : Int32) ≤ v5_16) → K71) ∧ (¬ ((65536 : Int32) ≤ v5_16) → ((c4_16 ≤ v3_16) → K71) ∧ (¬ (c4_16 ≤ v3_16) → wpX6_hasAll (((jshl v3_16 (1 : Int32)) ||| (1 : Int32)) ||| (jshl (1 : Int32) c0_16)) c1_16 c0_16 (fun (r44 : Int32) => ((r44 = 0) → ((v3_16 = 0) → post (-6 : Int32)) ∧ (¬ (v3_16 = 0) → wpX6_nextOfSameSize v3_16 (fun (r61 : Int32) => wpX6_leastPlaces_L16 c0_16 c1_16 c4_16 post K71 fu16 r61 (v5_16 + (1 : Int32))))) ∧ (¬ (r44 = 0) → post (jshl v3_16 (1 : Int32))))))
def wpX6_leastPlaces (v0 : Int32) (v1 : Int32) (v2 : Int32) (post : Int32 → Prop) : Prop := ∃ fu16 : Nat, wpX6_leastPlaces_L16 v0 v1 (jshl (1 : Int32) (v0 - (1 : Int32))) post (post (-6 : Int32)) fu16 ((jshl (1 : Int32) v2) - (1 : Int32)) (0 : Int32)
theorem pdX6_leastPlaces : yX6_leastPlaces.cls ≠ "java/lang/invoke/MethodHandle" ∧ yX6_leastPlaces.cls ≠ "java/lang/invoke/VarHandle" ∧ (parseMethodDescriptor yX6_leastPlaces.desc).map (fun d => d.parameters.length) = some 3 := by decide +kernel
set_option maxHeartbeats 4000000 in
set_option maxRecDepth 100000 in
theorem ctX6_leastPlaces (l : Launch) (D : va_G) (cI cZ : ClassId) (v0 : Int32) (v1 : Int32) (v2 : Int32) (post : Int32 → Prop) (h : wpX6_leastPlaces v0 v1 v2 post) : CTi l yX6_leastPlaces wsX6_leastPlaces { frames := 1, cells := 0, slots := 0, locals := 23 } D [(cI, .int), (cZ, .boolean)] [.int v0, .int v1, .int v2] (([] : va_W)) (fun _ : Unit => ([] : va_W)) (fun (r : Int32) (_ : Unit) => post r) := by
  refine CTi.of (cc := cX6_leastPlaces) (own := RX6) (maxL := 7) (ret := (some .int)) (lv0 := [(0, .int v0), (1, .int v1), (2, .int v2)]) (by decide) rfl rfl (Nat.le_of_ble_eq_true rfl) rfl ?_
  intro p e s m args below meth c A C
  unfold wpX6_leastPlaces at h
  refine SW.iconst (v := (1 : Int32)) C dX6_leastPlaces_0 (by decide) ?_
  refine SW.iload_n C dX6_leastPlaces_1 rfl 2 rfl ?_
  refine SW.ishl C dX6_leastPlaces_2 ?_
  refine SW.iconst (v := (1 : Int32)) C dX6_leastPlaces_3 (by decide) ?_
  refine SW.isub C dX6_leastPlaces_4 ?_
  refine SW.istore_n (lv' := [(3, .int ((jshl (1 : Int32) v2) - (1 : Int32))), (0, .int v0), (1, .int v1), (2, .int v2)]) C dX6_leastPlaces_5 rfl (by decide) rfl ?_
  refine SW.iconst (v := (1 : Int32)) C dX6_leastPlaces_6 (by decide) ?_
  refine SW.iload_n C dX6_leastPlaces_7 rfl 1 rfl ?_
  refine SW.iconst (v := (1 : Int32)) C dX6_leastPlaces_8 (by decide) ?_
  refine SW.isub C dX6_leastPlaces_9 ?_
  refine SW.ishl C dX6_leastPlaces_10 ?_
  refine SW.istore (lv' := [(4, .int (jshl (1 : Int32) (v0 - (1 : Int32)))), (3, .int ((jshl (1 : Int32) v2) - (1 : Int32))), (0, .int v0), (1, .int v1), (2, .int v2)]) C dX6_leastPlaces_11 (by decide) rfl ?_
  refine SW.iconst (v := (0 : Int32)) C dX6_leastPlaces_13 (by decide) ?_
  refine SW.istore (lv' := [(5, .int (0 : Int32)), (4, .int (jshl (1 : Int32) (v0 - (1 : Int32)))), (3, .int ((jshl (1 : Int32) v2) - (1 : Int32))), (0, .int v0), (1, .int v1), (2, .int v2)]) C dX6_leastPlaces_14 (by decide) rfl ?_
  have L16 : ∀ (K71 : Prop) (hK71 : K71 → SW p l e { frames := 1, cells := 0, slots := 0, locals := 23 } s m args below meth c A D 7 0 0 (MQ below (va_Qi (fun (r : Int32) (_ : Unit) => post r) (ctB D A (fun _ : Unit => ([] : va_W))) A) args s 0 0 A) (([] : va_W)) 71 [] []) (fu : Nat) (v3_16 : Int32) (v5_16 : Int32), wpX6_leastPlaces_L16 v0 v1 (jshl (1 : Int32) (v0 - (1 : Int32))) post K71 fu v3_16 v5_16 → SW p l e { frames := 1, cells := 0, slots := 0, locals := 23 } s m args below meth c A D 7 0 0 (MQ below (va_Qi (fun (r : Int32) (_ : Unit) => post r) (ctB D A (fun _ : Unit => ([] : va_W))) A) args s 0 0 A) (([] : va_W)) 16 [(0, .int v0), (1, .int v1), (3, .int v3_16), (4, .int (jshl (1 : Int32) (v0 - (1 : Int32)))), (5, .int v5_16)] [] := by
    intro K71 hK71 fu
    induction fu with
    | zero =>
      intro v3_16 v5_16 h
      exact False.elim h
    | succ fu ih =>
      intro v3_16 v5_16 h
      unfold wpX6_leastPlaces_L16 at h
      refine SW.iload C dX6_leastPlaces_16 4 rfl ?_
      refine SW.ldc (v := (65536 : Int32)) C (by decide +kernel) dX6_leastPlaces_18 ?_
      refine SW.icmp_ge (tgt := 71) C dX6_leastPlaces_20 (by decide) (fun hc => ?_) (fun hc => ?_)
      · replace h := h.1 hc
        refine SW.sub [] rfl ?_
        exact hK71 h
      · replace h := h.2 hc
        refine SW.iload_n C dX6_leastPlaces_23 rfl 2 rfl ?_
        refine SW.iload C dX6_leastPlaces_24 3 rfl ?_
        refine SW.icmp_ge (tgt := 71) C dX6_leastPlaces_26 (by decide) (fun hc => ?_) (fun hc => ?_)
        · replace h := h.1 hc
          refine SW.sub [] rfl ?_
          exact hK71 h
        · replace h := h.2 hc
          refine SW.iload_n C dX6_leastPlaces_29 rfl 2 rfl ?_
          refine SW.iconst (v := (1 : Int32)) C dX6_leastPlaces_30 (by decide) ?_
          refine SW.ishl C dX6_leastPlaces_31 ?_
          refine SW.istore (lv' := [(6, .int (jshl v3_16 (1 : Int32))), (0, .int v0), (1, .int v1), (3, .int v3_16), (4, .int (jshl (1 : Int32) (v0 - (1 : Int32)))), (5, .int v5_16)]) C dX6_leastPlaces_32 (by decide) rfl ?_
          refine SW.iload C dX6_leastPlaces_34 0 rfl ?_
          refine SW.iconst (v := (1 : Int32)) C dX6_leastPlaces_36 (by decide) ?_
          refine SW.ior C dX6_leastPlaces_37 ?_
          refine SW.iconst (v := (1 : Int32)) C dX6_leastPlaces_38 (by decide) ?_
          refine SW.iload_n C dX6_leastPlaces_39 rfl 1 rfl ?_
          refine SW.ishl C dX6_leastPlaces_40 ?_
          refine SW.ior C dX6_leastPlaces_41 ?_
          refine SW.iload_n C dX6_leastPlaces_42 rfl 2 rfl ?_
          refine SW.iload_n C dX6_leastPlaces_43 rfl 1 rfl ?_
          refine SW.callSi_pure C (ctX6_hasAll l D cI cZ (((jshl v3_16 (1 : Int32)) ||| (1 : Int32)) ||| (jshl (1 : Int32) v0)) v1 v0 _ h) gX6_leastPlaces_X6_hasAll rfl rfl rfl pdX6_hasAll ⟨by decide, by decide⟩ rfl rfl (Nat.le_of_ble_eq_true rfl) dX6_leastPlaces_44 (by decide) (fun r44 u h => ?_)
          try dsimp only at h
          refine SW.if_eq (tgt := 53) C dX6_leastPlaces_47 (by decide) (fun hc => ?_) (fun hc => ?_)
          · replace h := h.1 hc
            refine SW.iload_n C dX6_leastPlaces_53 rfl 3 rfl ?_
            refine SW.if_ne (tgt := 60) C dX6_leastPlaces_54 (by decide) (fun hc => ?_) (fun hc => ?_)
            · replace h := h.2 hc
              refine SW.iload_n C dX6_leastPlaces_60 rfl 3 rfl ?_
              refine SW.callSi_pure C (ctX6_nextOfSameSize l D cI cZ v3_16 _ h) gX6_leastPlaces_X6_nextOfSameSize rfl rfl rfl pdX6_nextOfSameSize ⟨by decide, by decide⟩ rfl rfl (Nat.le_of_ble_eq_true rfl) dX6_leastPlaces_61 (by decide) (fun r61 u h => ?_)
              try dsimp only at h
              refine SW.istore_n (lv' := [(3, .int r61), (6, .int (jshl v3_16 (1 : Int32))), (0, .int v0), (1, .int v1), (4, .int (jshl (1 : Int32) (v0 - (1 : Int32)))), (5, .int v5_16)]) C dX6_leastPlaces_64 rfl (by decide) rfl ?_
              refine SW.iinc (q := 5) (v := (v5_16 + (1 : Int32))) (lv' := [(5, .int (v5_16 + (1 : Int32))), (3, .int r61), (6, .int (jshl v3_16 (1 : Int32))), (0, .int v0), (1, .int v1), (4, .int (jshl (1 : Int32) (v0 - (1 : Int32))))]) C dX6_leastPlaces_65 rfl rfl (by decide) rfl ?_
              refine SW.goto (tgt := 16) C dX6_leastPlaces_68 (by decide) ?_
              refine SW.sub [3, 4, 1, 5, 0] rfl ?_
              exact ih _ _ h
            · replace h := h.1 hc
              refine SW.bipush (v := (-6 : Int32)) C dX6_leastPlaces_57 (by decide) ?_
              exact SW.iret C () rfl h dX6_leastPlaces_59
          · replace h := h.2 hc
            refine SW.iload C dX6_leastPlaces_50 0 rfl ?_
            exact SW.iret C () rfl h dX6_leastPlaces_52
  obtain ⟨fu, h⟩ := h
  refine SW.sub [3, 4, 2, 1, 0] rfl ?_
  refine L16 _ (fun h => ?_) fu _ _ h
  · refine SW.bipush (v := (-6 : Int32)) C dX6_leastPlaces_71 (by decide) ?_
    exact SW.iret C () rfl h dX6_leastPlaces_73
def wpX6_fewestHooks_L13 (c0_13 : Int32) (c1_13 : Int32) (post : Int32 → Prop) (K61 : Prop) : Nat → Int32 → Prop
  | 0, _ => False
  | fu13 + 1, v2_13 => (((6 : Int32) < v2_13) → K61) ∧ (¬ ((6 : Int32) < v2_13) → ((c0_13 ≤ v2_13) → K61) ∧ (¬ (c0_13 ≤ v2_13) → wpJ6_bitCount_0f7a4 c1_13 (fun (r34 : Int32) => jn0 (wpX6_fewestHooks_L13 c0_13 c1_13 post K61 fu13 (v2_13 + (1 : Int32))) (fun J55 => (((((v2_13 + (2 : Int32)) * (v2_13 + (1 : Int32))) / (2 : Int32)) < r34) → J55) ∧ (¬ ((((v2_13 + (2 : Int32)) * (v2_13 + (1 : Int32))) / (2 : Int32)) < r34) → wpX6_leastPlaces c0_13 c1_13 v2_13 (fun (r43 : Int32) => ((r43 = (-6 : Int32)) → J55) ∧ (¬ (r43 = (-6 : Int32)) → post r43)))))))
def wpX6_fewestHooks (v0 : Int32) (v1 : Int32) (post : Int32 → Prop) : Prop := (((jush v1 (v0 + (1 : Int32))) = 0) → ∃ fu13 : Nat, wpX6_fewestHooks_L13 v0 v1 post (post (-6 : Int32)) fu13 (0 : Int32)) ∧ (¬ ((jush v1 (v0 + (1 : Int32))) = 0) → post (-6 : Int32))
theorem pdX6_fewestHooks : yX6_fewestHooks.cls ≠ "java/lang/invoke/MethodHandle" ∧ yX6_fewestHooks.cls ≠ "java/lang/invoke/VarHandle" ∧ (parseMethodDescriptor yX6_fewestHooks.desc).map (fun d => d.parameters.length) = some 2 := by decide +kernel
set_option maxHeartbeats 4000000 in
set_option maxRecDepth 100000 in
theorem ctX6_fewestHooks (l : Launch) (D : va_G) (cI cZ : ClassId) (v0 : Int32) (v1 : Int32) (post : Int32 → Prop) (h : wpX6_fewestHooks v0 v1 post) : CTi l yX6_fewestHooks wsX6_fewestHooks { frames := 2, cells := 0, slots := 0, locals := 49 } D [(cI, .int), (cZ, .boolean)] [.int v0, .int v1] (([] : va_W)) (fun _ : Unit => ([] : va_W)) (fun (r : Int32) (_ : Unit) => post r) := by
  refine CTi.of (cc := cX6_fewestHooks) (own := RX6) (maxL := 4) (ret := (some .int)) (lv0 := [(0, .int v0), (1, .int v1)]) (by decide) rfl rfl (Nat.le_of_ble_eq_true rfl) rfl ?_
  intro p e s m args below meth c A C
  unfold wpX6_fewestHooks at h
  refine SW.iload_n C dX6_fewestHooks_0 rfl 1 rfl ?_
  refine SW.iload_n C dX6_fewestHooks_1 rfl 0 rfl ?_
  refine SW.iconst (v := (1 : Int32)) C dX6_fewestHooks_2 (by decide) ?_
  refine SW.iadd C dX6_fewestHooks_3 ?_
  refine SW.iushr C dX6_fewestHooks_4 ?_
  refine SW.if_eq (tgt := 11) C dX6_fewestHooks_5 (by decide) (fun hc => ?_) (fun hc => ?_)
  · replace h := h.1 hc
    refine SW.iconst (v := (0 : Int32)) C dX6_fewestHooks_11 (by decide) ?_
    refine SW.istore_n (lv' := [(2, .int (0 : Int32)), (0, .int v0), (1, .int v1)]) C dX6_fewestHooks_12 rfl (by decide) rfl ?_
    have L13 : ∀ (K61 : Prop) (hK61 : K61 → SW p l e { frames := 2, cells := 0, slots := 0, locals := 49 } s m args below meth c A D 4 0 0 (MQ below (va_Qi (fun (r : Int32) (_ : Unit) => post r) (ctB D A (fun _ : Unit => ([] : va_W))) A) args s 0 0 A) (([] : va_W)) 61 [] []) (fu : Nat) (v2_13 : Int32), wpX6_fewestHooks_L13 v0 v1 post K61 fu v2_13 → SW p l e { frames := 2, cells := 0, slots := 0, locals := 49 } s m args below meth c A D 4 0 0 (MQ below (va_Qi (fun (r : Int32) (_ : Unit) => post r) (ctB D A (fun _ : Unit => ([] : va_W))) A) args s 0 0 A) (([] : va_W)) 13 [(0, .int v0), (1, .int v1), (2, .int v2_13)] [] := by
      intro K61 hK61 fu
      induction fu with
      | zero =>
        intro v2_13 h
        exact False.elim h
      | succ fu ih =>
        intro v2_13 h
        unfold wpX6_fewestHooks_L13 at h
        refine SW.iload_n C dX6_fewestHooks_13 rfl 2 rfl ?_
        refine SW.bipush (v := (6 : Int32)) C dX6_fewestHooks_14 (by decide) ?_
        refine SW.icmp_gt (tgt := 61) C dX6_fewestHooks_16 (by decide) (fun hc => ?_) (fun hc => ?_)
        · replace h := h.1 hc
          refine SW.sub [] rfl ?_
          exact hK61 h
        · replace h := h.2 hc
          refine SW.iload_n C dX6_fewestHooks_19 rfl 2 rfl ?_
          refine SW.iload_n C dX6_fewestHooks_20 rfl 0 rfl ?_
          refine SW.icmp_ge (tgt := 61) C dX6_fewestHooks_21 (by decide) (fun hc => ?_) (fun hc => ?_)
          · replace h := h.1 hc
            refine SW.sub [] rfl ?_
            exact hK61 h
          · replace h := h.2 hc
            refine SW.iload_n C dX6_fewestHooks_24 rfl 2 rfl ?_
            refine SW.iconst (v := (2 : Int32)) C dX6_fewestHooks_25 (by decide) ?_
            refine SW.iadd C dX6_fewestHooks_26 ?_
            refine SW.iload_n C dX6_fewestHooks_27 rfl 2 rfl ?_
            refine SW.iconst (v := (1 : Int32)) C dX6_fewestHooks_28 (by decide) ?_
            refine SW.iadd C dX6_fewestHooks_29 ?_
            refine SW.imul C dX6_fewestHooks_30 ?_
            refine SW.iconst (v := (2 : Int32)) C dX6_fewestHooks_31 (by decide) ?_
            refine SW.idiv C dX6_fewestHooks_32 (by decide) ?_
            refine SW.iload_n C dX6_fewestHooks_33 rfl 1 rfl ?_
            refine SW.callSi_pure C (ctJ6_bitCount_0f7a4 l D cI cZ v1 _ h) gX6_fewestHooks_J6_bitCount_0f7a4 rfl rfl rfl pdJ6_bitCount_0f7a4 ⟨by decide, by decide⟩ rfl rfl (Nat.le_of_ble_eq_true rfl) dX6_fewestHooks_34 (by decide) (fun r34 u h => ?_)
            try dsimp only at h
            refine jn0_elim (G := SW p l e { frames := 2, cells := 0, slots := 0, locals := 49 } s m args below meth c A D 4 0 0 (MQ below (va_Qi (fun (r : Int32) (_ : Unit) => post r) (ctB D A (fun _ : Unit => ([] : va_W))) A) args s 0 0 A) (([] : va_W)) 55 [(0, .int v0), (1, .int v1), (2, .int v2_13)] []) h (fun h => ?_) (fun J55 hJ55 h => ?_)
            · refine SW.iinc (q := 2) (v := (v2_13 + (1 : Int32))) (lv' := [(2, .int (v2_13 + (1 : Int32))), (0, .int v0), (1, .int v1)]) C dX6_fewestHooks_55 rfl rfl (by decide) rfl ?_
              refine SW.goto (tgt := 13) C dX6_fewestHooks_58 (by decide) ?_
              refine SW.sub [1, 2, 0] rfl ?_
              exact ih _ h
            · refine SW.icmp_lt (tgt := 55) C dX6_fewestHooks_37 (by decide) (fun hc => ?_) (fun hc => ?_)
              · replace h := h.1 hc
                exact hJ55 h
              · replace h := h.2 hc
                refine SW.iload_n C dX6_fewestHooks_40 rfl 0 rfl ?_
                refine SW.iload_n C dX6_fewestHooks_41 rfl 1 rfl ?_
                refine SW.iload_n C dX6_fewestHooks_42 rfl 2 rfl ?_
                refine SW.callSi_pure C (ctX6_leastPlaces l D cI cZ v0 v1 v2_13 _ h) gX6_fewestHooks_X6_leastPlaces rfl rfl rfl pdX6_leastPlaces ⟨by decide, by decide⟩ rfl rfl (Nat.le_of_ble_eq_true rfl) dX6_fewestHooks_43 (by decide) (fun r43 u h => ?_)
                try dsimp only at h
                refine SW.istore_n (lv' := [(3, .int r43), (0, .int v0), (1, .int v1), (2, .int v2_13)]) C dX6_fewestHooks_46 rfl (by decide) rfl ?_
                refine SW.iload_n C dX6_fewestHooks_47 rfl 0 rfl ?_
                refine SW.bipush (v := (-6 : Int32)) C dX6_fewestHooks_48 (by decide) ?_
                refine SW.icmp_eq (tgt := 55) C dX6_fewestHooks_50 (by decide) (fun hc => ?_) (fun hc => ?_)
                · replace h := h.1 hc
                  refine SW.sub [1, 2, 3] rfl ?_
                  exact hJ55 h
                · replace h := h.2 hc
                  refine SW.iload_n C dX6_fewestHooks_53 rfl 0 rfl ?_
                  exact SW.iret C () rfl h dX6_fewestHooks_54
    obtain ⟨fu, h⟩ := h
    refine SW.sub [1, 2, 0] rfl ?_
    refine L13 _ (fun h => ?_) fu _ h
    · refine SW.bipush (v := (-6 : Int32)) C dX6_fewestHooks_61 (by decide) ?_
      exact SW.iret C () rfl h dX6_fewestHooks_63
  · replace h := h.2 hc
    refine SW.bipush (v := (-6 : Int32)) C dX6_fewestHooks_8 (by decide) ?_
    exact SW.iret C () rfl h dX6_fewestHooks_10
def wpX7_fewestFingers_L23 (c1_23 : Int32) (c2_23 : Int32) (c3_23 : Int32) (c4_23 : Int32) (c7_23 : Int32) (oSc_23 : Ob) (K81 : Int32 → Prop) : Nat → Int32 → Int32 → Int32 → Prop
  | 0, _, _, _ => False
  | fu23 + 1, v5_23, v6_23, v8_23 => ((c7_23 ≤ v8_23) → K81 v5_23) ∧ (¬ (c7_23 ≤ v8_23) → wpJ6_bitCount_0f7a4 v8_23 (fun (r32 : Int32) => jn2 (fun (v5_75 : Int32) (v6_75 : Int32) => wpX7_fewestFingers_L23 c1_23 c2_23 c3_23 c4_23 c7_23 oSc_23 K81 fu23 v5_75 v6_75 (v8_23 + (1 : Int32))) (fun J75 => ((v6_23 ≤ r32) → J75 v5_23 v6_23) ∧ (¬ (v6_23 ≤ r32) → wpX8_lengthAt oSc_23 c1_23 v8_23 (fun (r48 : Int32) => ((r48 = c2_23) → wpX8_lengthAt oSc_23 c3_23 v8_23 (fun (r59 : Int32) => ((r59 = c4_23) → J75 v8_23 r32) ∧ (¬ (r59 = c4_23) → J75 v5_23 v6_23))) ∧ (¬ (r48 = c2_23) → J75 v5_23 v6_23))))))
def wpX7_fewestFingers (oS : Ob) (v1 : Int32) (v2 : Int32) (v3 : Int32) (v4 : Int32) (post : Int32 → Prop) : Prop := wpX8_mostFingers oS (fun (r5 : Int32) => ∃ fu23 : Nat, wpX7_fewestFingers_L23 v1 v2 v3 v4 (jshl (1 : Int32) (oS 0 0)) oS (fun (v5_81 : Int32) => post v5_81) fu23 (-6 : Int32) (r5 + (1 : Int32)) (0 : Int32))
theorem pdX7_fewestFingers : yX7_fewestFingers.cls ≠ "java/lang/invoke/MethodHandle" ∧ yX7_fewestFingers.cls ≠ "java/lang/invoke/VarHandle" ∧ (parseMethodDescriptor yX7_fewestFingers.desc).map (fun d => d.parameters.length) = some 5 := by decide +kernel
theorem lkX7_fewestFingers_31 : Cond.fieldLink RX7 31 (TX8 0).1 (TX8 0).2.1 (TX8 0).2.2.1 ∈ wsX7_fewestFingers := by decide +kernel
theorem inX7_fewestFingers_X8 : ∀ w ∈ u_ws RX8 TX8 13, w ∈ wsX7_fewestFingers := by decide +kernel
set_option maxHeartbeats 4000000 in
set_option maxRecDepth 100000 in
theorem ctX7_fewestFingers (l : Launch) (D : va_G) (cI cZ : ClassId) (qS : Nat → Nat) (oS : Ob) (v1 : Int32) (v2 : Int32) (v3 : Int32) (v4 : Int32) (post : Int32 → Prop) (h : wpX7_fewestFingers oS v1 v2 v3 v4 post) : CTi l yX7_fewestFingers wsX7_fewestFingers { frames := 3, cells := 0, slots := 0, locals := 66 } D [(cI, .int), (cZ, .boolean)] [.ref (qS 0), .int v1, .int v2, .int v3, .int v4] (w8 cI cZ qS oS) (fun _ : Unit => w8 cI cZ qS oS) (fun (r : Int32) (_ : Unit) => post r) := by
  refine CTi.of (cc := cX7_fewestFingers) (own := RX7) (maxL := 10) (ret := (some .int)) (lv0 := [(0, .ref (qS 0)), (1, .int v1), (2, .int v2), (3, .int v3), (4, .int v4)]) (by decide) rfl rfl (Nat.le_of_ble_eq_true rfl) rfl ?_
  intro p e s m args below meth c A C
  unfold wpX7_fewestFingers at h
  refine SW.bipush (v := (-6 : Int32)) C dX7_fewestFingers_0 (by decide) ?_
  refine SW.istore (lv' := [(5, .int (-6 : Int32)), (0, .ref (qS 0)), (1, .int v1), (2, .int v2), (3, .int v3), (4, .int v4)]) C dX7_fewestFingers_2 (by decide) rfl ?_
  refine SW.aload_n C dX7_fewestFingers_4 rfl 1 rfl ?_
  refine SW.callVi_same C (ctX8_mostFingers l D cI cZ qS oS _ h) gX7_fewestFingers_X8_mostFingers rfl rfl rfl pdX8_mostFingers ⟨by decide, by decide⟩ 0 rfl rfl rfl rfl rfl (Nat.le_of_ble_eq_true rfl) dX7_fewestFingers_5 (by decide) (fun r5 u h => ?_)
  try dsimp only at h
  refine SW.iconst (v := (1 : Int32)) C dX7_fewestFingers_8 (by decide) ?_
  refine SW.iadd C dX7_fewestFingers_9 ?_
  refine SW.istore (lv' := [(6, .int (r5 + (1 : Int32))), (5, .int (-6 : Int32)), (0, .ref (qS 0)), (1, .int v1), (2, .int v2), (3, .int v3), (4, .int v4)]) C dX7_fewestFingers_10 (by decide) rfl ?_
  refine SW.iconst (v := (1 : Int32)) C dX7_fewestFingers_12 (by decide) ?_
  refine SW.aload_n C dX7_fewestFingers_13 rfl 2 rfl ?_
  refine SW.get (v := .int (oS 0 0)) (T := TX8) (N := 13) C inX7_fewestFingers_X8 0 rfl rfl 0 (by decide) lkX7_fewestFingers_31 rfl dX7_fewestFingers_14 ?_
  refine SW.ishl C dX7_fewestFingers_17 ?_
  refine SW.istore (lv' := [(7, .int (jshl (1 : Int32) (oS 0 0))), (6, .int (r5 + (1 : Int32))), (5, .int (-6 : Int32)), (0, .ref (qS 0)), (1, .int v1), (2, .int v2), (3, .int v3), (4, .int v4)]) C dX7_fewestFingers_18 (by decide) rfl ?_
  refine SW.iconst (v := (0 : Int32)) C dX7_fewestFingers_20 (by decide) ?_
  refine SW.istore (lv' := [(8, .int (0 : Int32)), (7, .int (jshl (1 : Int32) (oS 0 0))), (6, .int (r5 + (1 : Int32))), (5, .int (-6 : Int32)), (0, .ref (qS 0)), (1, .int v1), (2, .int v2), (3, .int v3), (4, .int v4)]) C dX7_fewestFingers_21 (by decide) rfl ?_
  have L23 : ∀ (K81 : Int32 → Prop) (hK81 : ∀ (v5_81 : Int32), K81 v5_81 → SW p l e { frames := 3, cells := 0, slots := 0, locals := 66 } s m args below meth c A D 10 0 0 (MQ below (va_Qi (fun (r : Int32) (_ : Unit) => post r) (ctB D A (fun _ : Unit => w8 cI cZ qS oS)) A) args s 0 0 A) (w8 cI cZ qS oS) 81 [(5, .int v5_81)] []) (fu : Nat) (v5_23 : Int32) (v6_23 : Int32) (v8_23 : Int32), wpX7_fewestFingers_L23 v1 v2 v3 v4 (jshl (1 : Int32) (oS 0 0)) oS K81 fu v5_23 v6_23 v8_23 → SW p l e { frames := 3, cells := 0, slots := 0, locals := 66 } s m args below meth c A D 10 0 0 (MQ below (va_Qi (fun (r : Int32) (_ : Unit) => post r) (ctB D A (fun _ : Unit => w8 cI cZ qS oS)) A) args s 0 0 A) (w8 cI cZ qS oS) 23 [(0, .ref (qS 0)), (1, .int v1), (2, .int v2), (3, .int v3), (4, .int v4), (5, .int v5_23), (6, .int v6_23), (7, .int (jshl (1 : Int32) (oS 0 0))), (8, .int v8_23)] [] := by
    intro K81 hK81 fu
    induction fu with
    | zero =>
      intro v5_23 v6_23 v8_23 h
      exact False.elim h
    | succ fu ih =>
      intro v5_23 v6_23 v8_23 h
      unfold wpX7_fewestFingers_L23 at h
      refine SW.iload C dX7_fewestFingers_23 8 rfl ?_
      refine SW.iload C dX7_fewestFingers_25 7 rfl ?_
      refine SW.icmp_ge (tgt := 81) C dX7_fewestFingers_27 (by decide) (fun hc => ?_) (fun hc => ?_)
      · replace h := h.1 hc
        refine SW.sub [5] rfl ?_
        exact hK81 _ h
      · replace h := h.2 hc
        refine SW.iload C dX7_fewestFingers_30 8 rfl ?_
        refine SW.callSi_pure C (ctJ6_bitCount_0f7a4 l D cI cZ v8_23 _ h) gX7_fewestFingers_J6_bitCount_0f7a4 rfl rfl rfl pdJ6_bitCount_0f7a4 ⟨by decide, by decide⟩ rfl rfl (Nat.le_of_ble_eq_true rfl) dX7_fewestFingers_32 (by decide) (fun r32 u h => ?_)
        try dsimp only at h
        refine SW.istore (lv' := [(9, .int r32), (0, .ref (qS 0)), (1, .int v1), (2, .int v2), (3, .int v3), (4, .int v4), (5, .int v5_23), (6, .int v6_23), (7, .int (jshl (1 : Int32) (oS 0 0))), (8, .int v8_23)]) C dX7_fewestFingers_35 (by decide) rfl ?_
        refine SW.iload C dX7_fewestFingers_37 0 rfl ?_
        refine SW.iload C dX7_fewestFingers_39 7 rfl ?_
        refine jn2_elim (G := fun v5_75 v6_75 => SW p l e { frames := 3, cells := 0, slots := 0, locals := 66 } s m args below meth c A D 10 0 0 (MQ below (va_Qi (fun (r : Int32) (_ : Unit) => post r) (ctB D A (fun _ : Unit => w8 cI cZ qS oS)) A) args s 0 0 A) (w8 cI cZ qS oS) 75 [(0, .ref (qS 0)), (1, .int v1), (2, .int v2), (3, .int v3), (4, .int v4), (5, .int v5_75), (6, .int v6_75), (7, .int (jshl (1 : Int32) (oS 0 0))), (8, .int v8_23)] []) h (fun v5_75 v6_75 h => ?_) (fun J75 hJ75 h => ?_)
        · refine SW.iinc (q := 8) (v := (v8_23 + (1 : Int32))) (lv' := [(8, .int (v8_23 + (1 : Int32))), (0, .ref (qS 0)), (1, .int v1), (2, .int v2), (3, .int v3), (4, .int v4), (5, .int v5_75), (6, .int v6_75), (7, .int (jshl (1 : Int32) (oS 0 0)))]) C dX7_fewestFingers_75 rfl rfl (by decide) rfl ?_
          refine SW.goto (tgt := 23) C dX7_fewestFingers_78 (by decide) ?_
          refine SW.sub [1, 2, 3, 4, 5, 6, 7, 8, 0] rfl ?_
          exact ih _ _ _ h
        · refine SW.icmp_ge (tgt := 75) C dX7_fewestFingers_41 (by decide) (fun hc => ?_) (fun hc => ?_)
          · replace h := h.1 hc
            refine SW.sub [1, 2, 3, 4, 5, 6, 7, 8, 9] rfl ?_
            exact hJ75 _ _ h
          · replace h := h.2 hc
            refine SW.aload_n C dX7_fewestFingers_44 rfl 1 rfl ?_
            refine SW.iload_n C dX7_fewestFingers_45 rfl 2 rfl ?_
            refine SW.iload C dX7_fewestFingers_46 9 rfl ?_
            refine SW.callVi_same C (ctX8_lengthAt l D cI cZ qS oS v1 v8_23 _ h) gX7_fewestFingers_X8_lengthAt rfl rfl rfl pdX8_lengthAt ⟨by decide, by decide⟩ 0 rfl rfl rfl rfl rfl (Nat.le_of_ble_eq_true rfl) dX7_fewestFingers_48 (by decide) (fun r48 u h => ?_)
            try dsimp only at h
            refine SW.iload_n C dX7_fewestFingers_51 rfl 3 rfl ?_
            refine SW.icmp_ne (tgt := 75) C dX7_fewestFingers_52 (by decide) (fun hc => ?_) (fun hc => ?_)
            · replace h := h.2 hc
              refine SW.sub [1, 2, 3, 4, 5, 6, 7, 8, 9] rfl ?_
              exact hJ75 _ _ h
            · replace h := h.1 hc
              refine SW.aload_n C dX7_fewestFingers_55 rfl 1 rfl ?_
              refine SW.iload_n C dX7_fewestFingers_56 rfl 4 rfl ?_
              refine SW.iload C dX7_fewestFingers_57 9 rfl ?_
              refine SW.callVi_same C (ctX8_lengthAt l D cI cZ qS oS v3 v8_23 _ h) gX7_fewestFingers_X8_lengthAt rfl rfl rfl pdX8_lengthAt ⟨by decide, by decide⟩ 0 rfl rfl rfl rfl rfl (Nat.le_of_ble_eq_true rfl) dX7_fewestFingers_59 (by decide) (fun r59 u h => ?_)
              try dsimp only at h
              refine SW.iload C dX7_fewestFingers_62 5 rfl ?_
              refine SW.icmp_ne (tgt := 75) C dX7_fewestFingers_64 (by decide) (fun hc => ?_) (fun hc => ?_)
              · replace h := h.2 hc
                refine SW.sub [1, 2, 3, 4, 5, 6, 7, 8, 9] rfl ?_
                exact hJ75 _ _ h
              · replace h := h.1 hc
                refine SW.iload C dX7_fewestFingers_67 9 rfl ?_
                refine SW.istore (lv' := [(5, .int v8_23), (9, .int r32), (0, .ref (qS 0)), (1, .int v1), (2, .int v2), (3, .int v3), (4, .int v4), (6, .int v6_23), (7, .int (jshl (1 : Int32) (oS 0 0))), (8, .int v8_23)]) C dX7_fewestFingers_69 (by decide) rfl ?_
                refine SW.iload C dX7_fewestFingers_71 1 rfl ?_
                refine SW.istore (lv' := [(6, .int r32), (5, .int v8_23), (9, .int r32), (0, .ref (qS 0)), (1, .int v1), (2, .int v2), (3, .int v3), (4, .int v4), (7, .int (jshl (1 : Int32) (oS 0 0))), (8, .int v8_23)]) C dX7_fewestFingers_73 (by decide) rfl ?_
                refine SW.sub [3, 4, 5, 6, 7, 1, 0, 8, 9] rfl ?_
                exact hJ75 _ _ h
  obtain ⟨fu, h⟩ := h
  refine SW.sub [4, 5, 6, 7, 8, 3, 2, 1, 0] rfl ?_
  refine L23 _ (fun v5_81 h => ?_) fu _ _ _ h
  · refine SW.iload C dX7_fewestFingers_81 0 rfl ?_
    exact SW.iret C () rfl h dX7_fewestFingers_83
def wpX7_evenOut (oK : Ob) (v1 : Int32) (v2 : Int32) (post : Ob → Prop) : Prop := (vp_in v1 1024) ∧ ((vp_in v2 1024) ∧ ((((jld (oK 2) v2) ≤ ((jld (oK 2) v1) + (1 : Int32))) → (vp_in v2 1024) ∧ ((vp_in v1 1024) ∧ ((((jld (oK 2) v1) ≤ ((jld (oK 2) v2) + (1 : Int32))) → post oK) ∧ (¬ ((jld (oK 2) v1) ≤ ((jld (oK 2) v2) + (1 : Int32))) → (vp_in v2 1024) ∧ ((vp_in v1 1024) ∧ (post (pa oK 2 (nC v1) ((jld (oK 2) v2) + (1 : Int32))))))))) ∧ (¬ ((jld (oK 2) v2) ≤ ((jld (oK 2) v1) + (1 : Int32))) → (vp_in v1 1024) ∧ ((vp_in v2 1024) ∧ (post (pa oK 2 (nC v2) ((jld (oK 2) v1) + (1 : Int32))))))))
theorem pdX7_evenOut : yX7_evenOut.cls = RX7 ∧ yX7_evenOut.cls ≠ "java/lang/invoke/MethodHandle" ∧ yX7_evenOut.cls ≠ "java/lang/invoke/VarHandle" ∧ (parseMethodDescriptor yX7_evenOut.desc).map (fun d => d.parameters.length) = some 2 := by decide +kernel
theorem lkX7_evenOut_15 : Cond.fieldLink RX7 15 (TX7 1).1 (TX7 1).2.1 (TX7 1).2.2.1 ∈ wsX7_evenOut := by decide +kernel
theorem inX7_evenOut_X7 : ∀ w ∈ u_ws RX7 TX7 7, w ∈ wsX7_evenOut := by decide +kernel
set_option maxHeartbeats 4000000 in
set_option maxRecDepth 100000 in
theorem ctX7_evenOut (l : Launch) (D : va_G) (cI cZ : ClassId) (qK : Nat → Nat) (oK : Ob) (v1 : Int32) (v2 : Int32) (post : Ob → Prop) (h : wpX7_evenOut oK v1 v2 post) : CTv l yX7_evenOut wsX7_evenOut { frames := 0, cells := 0, slots := 0, locals := 0 } D [(cI, .int), (cZ, .boolean)] [.ref (qK 0), .int v1, .int v2] (w7 cI cZ qK oK) (fun u : Ob => w7 cI cZ qK u) (fun (u : Ob) => post u) := by
  refine CTv.of (cc := cX7_evenOut) (own := RX7) (maxL := 3) (ret := none) (lv0 := [(0, .ref (qK 0)), (1, .int v1), (2, .int v2)]) (by decide) rfl rfl (Nat.le_of_ble_eq_true rfl) rfl ?_
  intro p e s m args below meth c A C
  unfold wpX7_evenOut at h
  refine SW.aload_n C dX7_evenOut_0 rfl 0 rfl ?_
  refine SW.get (v := .ref (qK 2)) (T := TX7) (N := 7) C inX7_evenOut_X7 0 rfl rfl 1 (by decide) lkX7_evenOut_15 rfl dX7_evenOut_1 ?_
  refine SW.iload_n C dX7_evenOut_4 rfl 1 rfl ?_
  refine SW.iald C 2 0 rfl rfl h.1 dX7_evenOut_5 ?_
  replace h := h.2
  refine SW.iconst (v := (1 : Int32)) C dX7_evenOut_6 (by decide) ?_
  refine SW.iadd C dX7_evenOut_7 ?_
  refine SW.aload_n C dX7_evenOut_8 rfl 0 rfl ?_
  refine SW.get (v := .ref (qK 2)) (T := TX7) (N := 7) C inX7_evenOut_X7 0 rfl rfl 1 (by decide) lkX7_evenOut_15 rfl dX7_evenOut_9 ?_
  refine SW.iload_n C dX7_evenOut_12 rfl 2 rfl ?_
  refine SW.iald C 2 0 rfl rfl h.1 dX7_evenOut_13 ?_
  replace h := h.2
  refine SW.icmp_ge (tgt := 34) C dX7_evenOut_14 (by decide) (fun hc => ?_) (fun hc => ?_)
  · replace h := h.1 hc
    refine SW.aload_n C dX7_evenOut_34 rfl 0 rfl ?_
    refine SW.get (v := .ref (qK 2)) (T := TX7) (N := 7) C inX7_evenOut_X7 0 rfl rfl 1 (by decide) lkX7_evenOut_15 rfl dX7_evenOut_35 ?_
    refine SW.iload_n C dX7_evenOut_38 rfl 2 rfl ?_
    refine SW.iald C 2 0 rfl rfl h.1 dX7_evenOut_39 ?_
    replace h := h.2
    refine SW.iconst (v := (1 : Int32)) C dX7_evenOut_40 (by decide) ?_
    refine SW.iadd C dX7_evenOut_41 ?_
    refine SW.aload_n C dX7_evenOut_42 rfl 0 rfl ?_
    refine SW.get (v := .ref (qK 2)) (T := TX7) (N := 7) C inX7_evenOut_X7 0 rfl rfl 1 (by decide) lkX7_evenOut_15 rfl dX7_evenOut_43 ?_
    refine SW.iload_n C dX7_evenOut_46 rfl 1 rfl ?_
    refine SW.iald C 2 0 rfl rfl h.1 dX7_evenOut_47 ?_
    replace h := h.2
    refine SW.icmp_ge (tgt := 65) C dX7_evenOut_48 (by decide) (fun hc => ?_) (fun hc => ?_)
    · replace h := h.1 hc
      exact SW.vret C oK rfl h dX7_evenOut_65
    · replace h := h.2 hc
      refine SW.aload_n C dX7_evenOut_51 rfl 0 rfl ?_
      refine SW.get (v := .ref (qK 2)) (T := TX7) (N := 7) C inX7_evenOut_X7 0 rfl rfl 1 (by decide) lkX7_evenOut_15 rfl dX7_evenOut_52 ?_
      refine SW.iload_n C dX7_evenOut_55 rfl 1 rfl ?_
      refine SW.aload_n C dX7_evenOut_56 rfl 0 rfl ?_
      refine SW.get (v := .ref (qK 2)) (T := TX7) (N := 7) C inX7_evenOut_X7 0 rfl rfl 1 (by decide) lkX7_evenOut_15 rfl dX7_evenOut_57 ?_
      refine SW.iload_n C dX7_evenOut_60 rfl 2 rfl ?_
      refine SW.iald C 2 0 rfl rfl h.1 dX7_evenOut_61 ?_
      replace h := h.2
      refine SW.iconst (v := (1 : Int32)) C dX7_evenOut_62 (by decide) ?_
      refine SW.iadd C dX7_evenOut_63 ?_
      refine SW.iast (ws' := w7 cI cZ qK (pa oK 2 (nC v1) ((jld (oK 2) v2) + (1 : Int32)))) C 2 0 rfl rfl h.1 rfl dX7_evenOut_64 ?_
      replace h := h.2
      exact SW.vret C (pa oK 2 (nC v1) ((jld (oK 2) v2) + (1 : Int32))) rfl h dX7_evenOut_65
  · replace h := h.2 hc
    refine SW.aload_n C dX7_evenOut_17 rfl 0 rfl ?_
    refine SW.get (v := .ref (qK 2)) (T := TX7) (N := 7) C inX7_evenOut_X7 0 rfl rfl 1 (by decide) lkX7_evenOut_15 rfl dX7_evenOut_18 ?_
    refine SW.iload_n C dX7_evenOut_21 rfl 2 rfl ?_
    refine SW.aload_n C dX7_evenOut_22 rfl 0 rfl ?_
    refine SW.get (v := .ref (qK 2)) (T := TX7) (N := 7) C inX7_evenOut_X7 0 rfl rfl 1 (by decide) lkX7_evenOut_15 rfl dX7_evenOut_23 ?_
    refine SW.iload_n C dX7_evenOut_26 rfl 1 rfl ?_
    refine SW.iald C 2 0 rfl rfl h.1 dX7_evenOut_27 ?_
    replace h := h.2
    refine SW.iconst (v := (1 : Int32)) C dX7_evenOut_28 (by decide) ?_
    refine SW.iadd C dX7_evenOut_29 ?_
    refine SW.iast (ws' := w7 cI cZ qK (pa oK 2 (nC v2) ((jld (oK 2) v1) + (1 : Int32)))) C 2 0 rfl rfl h.1 rfl dX7_evenOut_30 ?_
    replace h := h.2
    refine SW.goto (tgt := 65) C dX7_evenOut_31 (by decide) ?_
    exact SW.vret C (pa oK 2 (nC v2) ((jld (oK 2) v1) + (1 : Int32))) rfl h dX7_evenOut_65
def wpX7_spreadCosts_L15 (c2_15 : Int32) (c4_15 : Int32) (K55 : Ob → Prop) : Nat → Int32 → Ob → Prop
  | 0, _, _ => False
  | fu15 + 1, v5_15, oK_15 => ((c2_15 ≤ v5_15) → K55 oK_15) ∧ (¬ (c2_15 ≤ v5_15) → jn1 (fun (oK_49 : Ob) => wpX7_spreadCosts_L15 c2_15 c4_15 K55 fu15 (v5_15 + (1 : Int32)) oK_49) (fun J49 => (((v5_15 ||| c4_15) = v5_15) → J49 oK_15) ∧ (¬ ((v5_15 ||| c4_15) = v5_15) → ((c2_15 ≤ (v5_15 ||| c4_15)) → J49 oK_15) ∧ (¬ (c2_15 ≤ (v5_15 ||| c4_15)) → wpX7_evenOut oK_15 v5_15 (v5_15 ||| c4_15) (fun (oK_46 : Ob) => J49 oK_46)))))
def wpX7_spreadCosts_L2 (c1_2 : Int32) (c2_2 : Int32) (K61 : Ob → Prop) : Nat → Int32 → Ob → Prop
  | 0, _, _ => False
  | fu2 + 1, v3_2, oK_2 => ((c1_2 ≤ v3_2) → K61 oK_2) ∧ (¬ (c1_2 ≤ v3_2) → ∃ fu15 : Nat, wpX7_spreadCosts_L15 c2_2 (jshl (1 : Int32) v3_2) (fun (oK_55 : Ob) => wpX7_spreadCosts_L2 c1_2 c2_2 K61 fu2 (v3_2 + (1 : Int32)) oK_55) fu15 (0 : Int32) oK_2)
def wpX7_spreadCosts (oK : Ob) (v1 : Int32) (v2 : Int32) (post : Ob → Prop) : Prop := ∃ fu2 : Nat, wpX7_spreadCosts_L2 v1 v2 (fun (oK_61 : Ob) => post oK_61) fu2 (0 : Int32) oK
theorem pdX7_spreadCosts : yX7_spreadCosts.cls = RX7 ∧ yX7_spreadCosts.cls ≠ "java/lang/invoke/MethodHandle" ∧ yX7_spreadCosts.cls ≠ "java/lang/invoke/VarHandle" ∧ (parseMethodDescriptor yX7_spreadCosts.desc).map (fun d => d.parameters.length) = some 2 := by decide +kernel
set_option maxHeartbeats 4000000 in
set_option maxRecDepth 100000 in
theorem ctX7_spreadCosts (l : Launch) (D : va_G) (cI cZ : ClassId) (qK : Nat → Nat) (oK : Ob) (v1 : Int32) (v2 : Int32) (post : Ob → Prop) (h : wpX7_spreadCosts oK v1 v2 post) : CTv l yX7_spreadCosts wsX7_spreadCosts { frames := 1, cells := 0, slots := 0, locals := 22 } D [(cI, .int), (cZ, .boolean)] [.ref (qK 0), .int v1, .int v2] (w7 cI cZ qK oK) (fun u : Ob => w7 cI cZ qK u) (fun (u : Ob) => post u) := by
  refine CTv.of (cc := cX7_spreadCosts) (own := RX7) (maxL := 7) (ret := none) (lv0 := [(0, .ref (qK 0)), (1, .int v1), (2, .int v2)]) (by decide) rfl rfl (Nat.le_of_ble_eq_true rfl) rfl ?_
  intro p e s m args below meth c A C
  unfold wpX7_spreadCosts at h
  refine SW.iconst (v := (0 : Int32)) C dX7_spreadCosts_0 (by decide) ?_
  refine SW.istore_n (lv' := [(3, .int (0 : Int32)), (0, .ref (qK 0)), (1, .int v1), (2, .int v2)]) C dX7_spreadCosts_1 rfl (by decide) rfl ?_
  have L2 : ∀ (K61 : Ob → Prop) (hK61 : ∀ (oK_61 : Ob), K61 oK_61 → SW p l e { frames := 1, cells := 0, slots := 0, locals := 22 } s m args below meth c A D 7 0 0 (MQ below (va_Qv (fun (u : Ob) => post u) (ctB D A (fun u : Ob => w7 cI cZ qK u)) A) args s 0 0 A) (w7 cI cZ qK oK_61) 61 [] []) (fu : Nat) (v3_2 : Int32) (oK_2 : Ob), wpX7_spreadCosts_L2 v1 v2 K61 fu v3_2 oK_2 → SW p l e { frames := 1, cells := 0, slots := 0, locals := 22 } s m args below meth c A D 7 0 0 (MQ below (va_Qv (fun (u : Ob) => post u) (ctB D A (fun u : Ob => w7 cI cZ qK u)) A) args s 0 0 A) (w7 cI cZ qK oK_2) 2 [(0, .ref (qK 0)), (1, .int v1), (2, .int v2), (3, .int v3_2)] [] := by
    intro K61 hK61 fu
    induction fu with
    | zero =>
      intro v3_2 oK_2 h
      exact False.elim h
    | succ fu ih =>
      intro v3_2 oK_2 h
      unfold wpX7_spreadCosts_L2 at h
      refine SW.iload_n C dX7_spreadCosts_2 rfl 3 rfl ?_
      refine SW.iload_n C dX7_spreadCosts_3 rfl 1 rfl ?_
      refine SW.icmp_ge (tgt := 61) C dX7_spreadCosts_4 (by decide) (fun hc => ?_) (fun hc => ?_)
      · replace h := h.1 hc
        refine SW.sub [] rfl ?_
        exact hK61 _ h
      · replace h := h.2 hc
        refine SW.iconst (v := (1 : Int32)) C dX7_spreadCosts_7 (by decide) ?_
        refine SW.iload_n C dX7_spreadCosts_8 rfl 3 rfl ?_
        refine SW.ishl C dX7_spreadCosts_9 ?_
        refine SW.istore (lv' := [(4, .int (jshl (1 : Int32) v3_2)), (0, .ref (qK 0)), (1, .int v1), (2, .int v2), (3, .int v3_2)]) C dX7_spreadCosts_10 (by decide) rfl ?_
        refine SW.iconst (v := (0 : Int32)) C dX7_spreadCosts_12 (by decide) ?_
        refine SW.istore (lv' := [(5, .int (0 : Int32)), (4, .int (jshl (1 : Int32) v3_2)), (0, .ref (qK 0)), (1, .int v1), (2, .int v2), (3, .int v3_2)]) C dX7_spreadCosts_13 (by decide) rfl ?_
        have L15 : ∀ (K55 : Ob → Prop) (hK55 : ∀ (oK_55 : Ob), K55 oK_55 → SW p l e { frames := 1, cells := 0, slots := 0, locals := 22 } s m args below meth c A D 7 0 0 (MQ below (va_Qv (fun (u : Ob) => post u) (ctB D A (fun u : Ob => w7 cI cZ qK u)) A) args s 0 0 A) (w7 cI cZ qK oK_55) 55 [(0, .ref (qK 0)), (1, .int v1), (2, .int v2), (3, .int v3_2)] []) (fu : Nat) (v5_15 : Int32) (oK_15 : Ob), wpX7_spreadCosts_L15 v2 (jshl (1 : Int32) v3_2) K55 fu v5_15 oK_15 → SW p l e { frames := 1, cells := 0, slots := 0, locals := 22 } s m args below meth c A D 7 0 0 (MQ below (va_Qv (fun (u : Ob) => post u) (ctB D A (fun u : Ob => w7 cI cZ qK u)) A) args s 0 0 A) (w7 cI cZ qK oK_15) 15 [(0, .ref (qK 0)), (1, .int v1), (2, .int v2), (3, .int v3_2), (4, .int (jshl (1 : Int32) v3_2)), (5, .int v5_15)] [] := by
          intro K55 hK55 fu
          induction fu with
          | zero =>
            intro v5_15 oK_15 h
            exact False.elim h
          | succ fu ih =>
            intro v5_15 oK_15 h
            unfold wpX7_spreadCosts_L15 at h
            refine SW.iload C dX7_spreadCosts_15 5 rfl ?_
            refine SW.iload_n C dX7_spreadCosts_17 rfl 2 rfl ?_
            refine SW.icmp_ge (tgt := 55) C dX7_spreadCosts_18 (by decide) (fun hc => ?_) (fun hc => ?_)
            · replace h := h.1 hc
              refine SW.sub [0, 1, 2, 3] rfl ?_
              exact hK55 _ h
            · replace h := h.2 hc
              refine SW.iload C dX7_spreadCosts_21 5 rfl ?_
              refine SW.iload C dX7_spreadCosts_23 4 rfl ?_
              refine SW.ior C dX7_spreadCosts_25 ?_
              refine SW.istore (lv' := [(6, .int (v5_15 ||| (jshl (1 : Int32) v3_2))), (0, .ref (qK 0)), (1, .int v1), (2, .int v2), (3, .int v3_2), (4, .int (jshl (1 : Int32) v3_2)), (5, .int v5_15)]) C dX7_spreadCosts_26 (by decide) rfl ?_
              refine SW.iload C dX7_spreadCosts_28 0 rfl ?_
              refine SW.iload C dX7_spreadCosts_30 6 rfl ?_
              refine jn1_elim (G := fun oK_49 => SW p l e { frames := 1, cells := 0, slots := 0, locals := 22 } s m args below meth c A D 7 0 0 (MQ below (va_Qv (fun (u : Ob) => post u) (ctB D A (fun u : Ob => w7 cI cZ qK u)) A) args s 0 0 A) (w7 cI cZ qK oK_49) 49 [(0, .ref (qK 0)), (1, .int v1), (2, .int v2), (3, .int v3_2), (4, .int (jshl (1 : Int32) v3_2)), (5, .int v5_15)] []) h (fun oK_49 h => ?_) (fun J49 hJ49 h => ?_)
              · refine SW.iinc (q := 5) (v := (v5_15 + (1 : Int32))) (lv' := [(5, .int (v5_15 + (1 : Int32))), (0, .ref (qK 0)), (1, .int v1), (2, .int v2), (3, .int v3_2), (4, .int (jshl (1 : Int32) v3_2))]) C dX7_spreadCosts_49 rfl rfl (by decide) rfl ?_
                refine SW.goto (tgt := 15) C dX7_spreadCosts_52 (by decide) ?_
                refine SW.sub [1, 2, 3, 4, 5, 0] rfl ?_
                exact ih _ _ h
              · refine SW.icmp_eq (tgt := 49) C dX7_spreadCosts_32 (by decide) (fun hc => ?_) (fun hc => ?_)
                · replace h := h.1 hc
                  refine SW.sub [1, 2, 3, 4, 5, 6] rfl ?_
                  exact hJ49 _ h
                · replace h := h.2 hc
                  refine SW.iload C dX7_spreadCosts_35 0 rfl ?_
                  refine SW.iload_n C dX7_spreadCosts_37 rfl 3 rfl ?_
                  refine SW.icmp_ge (tgt := 49) C dX7_spreadCosts_38 (by decide) (fun hc => ?_) (fun hc => ?_)
                  · replace h := h.1 hc
                    refine SW.sub [1, 2, 3, 4, 5, 6] rfl ?_
                    exact hJ49 _ h
                  · replace h := h.2 hc
                    refine SW.aload_n C dX7_spreadCosts_41 rfl 1 rfl ?_
                    refine SW.iload C dX7_spreadCosts_42 6 rfl ?_
                    refine SW.iload C dX7_spreadCosts_44 0 rfl ?_
                    refine SW.callVv_same C (ctX7_evenOut l D cI cZ qK oK_15 v5_15 (v5_15 ||| (jshl (1 : Int32) v3_2)) _ h) gX7_spreadCosts_X7_evenOut rfl rfl rfl pdX7_evenOut ⟨by decide, by decide⟩ 0 rfl rfl rfl rfl rfl (Nat.le_of_ble_eq_true rfl) dX7_spreadCosts_46 (by decide) (fun u h => ?_)
                    obtain ⟨oK_46, rfl⟩ : ∃ z, z = u := ⟨_, rfl⟩
                    try dsimp only at h
                    refine SW.sub [1, 2, 3, 4, 5, 6] rfl ?_
                    exact hJ49 _ h
        obtain ⟨fu, h⟩ := h
        refine SW.sub [2, 3, 4, 5, 1, 0] rfl ?_
        refine L15 _ (fun oK_55 h => ?_) fu _ _ h
        · refine SW.iinc (q := 3) (v := (v3_2 + (1 : Int32))) (lv' := [(3, .int (v3_2 + (1 : Int32))), (0, .ref (qK 0)), (1, .int v1), (2, .int v2)]) C dX7_spreadCosts_55 rfl rfl (by decide) rfl ?_
          refine SW.goto (tgt := 2) C dX7_spreadCosts_58 (by decide) ?_
          refine SW.sub [1, 2, 3, 0] rfl ?_
          exact ih _ _ h
  obtain ⟨fu, h⟩ := h
  refine SW.sub [1, 2, 3, 0] rfl ?_
  refine L2 _ (fun oK_61 h => ?_) fu _ _ h
  · exact SW.vret C oK_61 rfl h dX7_spreadCosts_61
def wpX7_keepTone_L2 (c1_2 : Int32) (c2_2 : Int32) (K31 : Ob → Prop) : Nat → Int32 → Ob → Prop
  | 0, _, _ => False
  | fu2 + 1, v3_2, oK_2 => ((c2_2 ≤ v3_2) → K31 oK_2) ∧ (¬ (c2_2 ≤ v3_2) → (vp_in v3_2 1024) ∧ (jn1 (fun (oK_25 : Ob) => wpX7_keepTone_L2 c1_2 c2_2 K31 fu2 (v3_2 + (1 : Int32)) oK_25) (fun J25 => (((jld (oK_2 1) v3_2) = c1_2) → J25 oK_2) ∧ (¬ ((jld (oK_2 1) v3_2) = c1_2) → (vp_in v3_2 1024) ∧ (J25 (pa oK_2 2 (nC v3_2) (1000000 : Int32)))))))
def wpX7_keepTone (oK : Ob) (v1 : Int32) (v2 : Int32) (post : Ob → Prop) : Prop := ∃ fu2 : Nat, wpX7_keepTone_L2 v1 v2 (fun (oK_31 : Ob) => post oK_31) fu2 (0 : Int32) oK
theorem pdX7_keepTone : yX7_keepTone.cls = RX7 ∧ yX7_keepTone.cls ≠ "java/lang/invoke/MethodHandle" ∧ yX7_keepTone.cls ≠ "java/lang/invoke/VarHandle" ∧ (parseMethodDescriptor yX7_keepTone.desc).map (fun d => d.parameters.length) = some 2 := by decide +kernel
theorem lkX7_keepTone_9 : Cond.fieldLink RX7 9 (TX7 0).1 (TX7 0).2.1 (TX7 0).2.2.1 ∈ wsX7_keepTone := by decide +kernel
theorem inX7_keepTone_X7 : ∀ w ∈ u_ws RX7 TX7 7, w ∈ wsX7_keepTone := by decide +kernel
theorem lkX7_keepTone_15 : Cond.fieldLink RX7 15 (TX7 1).1 (TX7 1).2.1 (TX7 1).2.2.1 ∈ wsX7_keepTone := by decide +kernel
set_option maxHeartbeats 4000000 in
set_option maxRecDepth 100000 in
theorem ctX7_keepTone (l : Launch) (D : va_G) (cI cZ : ClassId) (qK : Nat → Nat) (oK : Ob) (v1 : Int32) (v2 : Int32) (post : Ob → Prop) (h : wpX7_keepTone oK v1 v2 post) : CTv l yX7_keepTone wsX7_keepTone { frames := 0, cells := 0, slots := 0, locals := 0 } D [(cI, .int), (cZ, .boolean)] [.ref (qK 0), .int v1, .int v2] (w7 cI cZ qK oK) (fun u : Ob => w7 cI cZ qK u) (fun (u : Ob) => post u) := by
  refine CTv.of (cc := cX7_keepTone) (own := RX7) (maxL := 4) (ret := none) (lv0 := [(0, .ref (qK 0)), (1, .int v1), (2, .int v2)]) (by decide) rfl rfl (Nat.le_of_ble_eq_true rfl) rfl ?_
  intro p e s m args below meth c A C
  unfold wpX7_keepTone at h
  refine SW.iconst (v := (0 : Int32)) C dX7_keepTone_0 (by decide) ?_
  refine SW.istore_n (lv' := [(3, .int (0 : Int32)), (0, .ref (qK 0)), (1, .int v1), (2, .int v2)]) C dX7_keepTone_1 rfl (by decide) rfl ?_
  have L2 : ∀ (K31 : Ob → Prop) (hK31 : ∀ (oK_31 : Ob), K31 oK_31 → SW p l e { frames := 0, cells := 0, slots := 0, locals := 0 } s m args below meth c A D 4 0 0 (MQ below (va_Qv (fun (u : Ob) => post u) (ctB D A (fun u : Ob => w7 cI cZ qK u)) A) args s 0 0 A) (w7 cI cZ qK oK_31) 31 [] []) (fu : Nat) (v3_2 : Int32) (oK_2 : Ob), wpX7_keepTone_L2 v1 v2 K31 fu v3_2 oK_2 → SW p l e { frames := 0, cells := 0, slots := 0, locals := 0 } s m args below meth c A D 4 0 0 (MQ below (va_Qv (fun (u : Ob) => post u) (ctB D A (fun u : Ob => w7 cI cZ qK u)) A) args s 0 0 A) (w7 cI cZ qK oK_2) 2 [(0, .ref (qK 0)), (1, .int v1), (2, .int v2), (3, .int v3_2)] [] := by
    intro K31 hK31 fu
    induction fu with
    | zero =>
      intro v3_2 oK_2 h
      exact False.elim h
    | succ fu ih =>
      intro v3_2 oK_2 h
      unfold wpX7_keepTone_L2 at h
      refine SW.iload_n C dX7_keepTone_2 rfl 3 rfl ?_
      refine SW.iload_n C dX7_keepTone_3 rfl 2 rfl ?_
      refine SW.icmp_ge (tgt := 31) C dX7_keepTone_4 (by decide) (fun hc => ?_) (fun hc => ?_)
      · replace h := h.1 hc
        refine SW.sub [] rfl ?_
        exact hK31 _ h
      · replace h := h.2 hc
        refine SW.aload_n C dX7_keepTone_7 rfl 0 rfl ?_
        refine SW.get (v := .ref (qK 1)) (T := TX7) (N := 7) C inX7_keepTone_X7 0 rfl rfl 0 (by decide) lkX7_keepTone_9 rfl dX7_keepTone_8 ?_
        refine SW.iload_n C dX7_keepTone_11 rfl 3 rfl ?_
        refine SW.iald C 1 0 rfl rfl h.1 dX7_keepTone_12 ?_
        replace h := h.2
        refine SW.iload_n C dX7_keepTone_13 rfl 1 rfl ?_
        refine jn1_elim (G := fun oK_25 => SW p l e { frames := 0, cells := 0, slots := 0, locals := 0 } s m args below meth c A D 4 0 0 (MQ below (va_Qv (fun (u : Ob) => post u) (ctB D A (fun u : Ob => w7 cI cZ qK u)) A) args s 0 0 A) (w7 cI cZ qK oK_25) 25 [(0, .ref (qK 0)), (1, .int v1), (2, .int v2), (3, .int v3_2)] []) h (fun oK_25 h => ?_) (fun J25 hJ25 h => ?_)
        · refine SW.iinc (q := 3) (v := (v3_2 + (1 : Int32))) (lv' := [(3, .int (v3_2 + (1 : Int32))), (0, .ref (qK 0)), (1, .int v1), (2, .int v2)]) C dX7_keepTone_25 rfl rfl (by decide) rfl ?_
          refine SW.goto (tgt := 2) C dX7_keepTone_28 (by decide) ?_
          refine SW.sub [1, 2, 3, 0] rfl ?_
          exact ih _ _ h
        · refine SW.icmp_eq (tgt := 25) C dX7_keepTone_14 (by decide) (fun hc => ?_) (fun hc => ?_)
          · replace h := h.1 hc
            exact hJ25 _ h
          · replace h := h.2 hc
            refine SW.aload_n C dX7_keepTone_17 rfl 0 rfl ?_
            refine SW.get (v := .ref (qK 2)) (T := TX7) (N := 7) C inX7_keepTone_X7 0 rfl rfl 1 (by decide) lkX7_keepTone_15 rfl dX7_keepTone_18 ?_
            refine SW.iload_n C dX7_keepTone_21 rfl 3 rfl ?_
            refine SW.ldc (v := (1000000 : Int32)) C (by decide +kernel) dX7_keepTone_22 ?_
            refine SW.iast (ws' := w7 cI cZ qK (pa oK_2 2 (nC v3_2) (1000000 : Int32))) C 2 0 rfl rfl h.1 rfl dX7_keepTone_24 ?_
            replace h := h.2
            exact hJ25 _ h
  obtain ⟨fu, h⟩ := h
  refine SW.sub [1, 2, 3, 0] rfl ?_
  refine L2 _ (fun oK_31 h => ?_) fu _ _ h
  · exact SW.vret C oK_31 rfl h dX7_keepTone_31
def wpX7_chooseLast_L14 (c1_14 : Int32) (K53 : Ob → Prop) : Nat → Int32 → Ob → Prop
  | 0, _, _ => False
  | fu14 + 1, v2_14, oK_14 => ((c1_14 ≤ v2_14) → K53 oK_14) ∧ (¬ (c1_14 ≤ v2_14) → (vp_in v2_14 1024) ∧ (jn1 (fun (oK_47 : Ob) => wpX7_chooseLast_L14 c1_14 K53 fu14 (v2_14 + (1 : Int32)) oK_47) (fun J47 => (((oK_14 0 4) ≤ (jld (oK_14 2) v2_14)) → J47 oK_14) ∧ (¬ ((oK_14 0 4) ≤ (jld (oK_14 2) v2_14)) → (vp_in v2_14 1024) ∧ (J47 (pf (pf oK_14 3 v2_14) 4 (jld (oK_14 2) v2_14)))))))
def wpX7_chooseLast (oK : Ob) (v1 : Int32) (post : Ob → Prop) : Prop := ∃ fu14 : Nat, wpX7_chooseLast_L14 v1 (fun (oK_53 : Ob) => post oK_53) fu14 (0 : Int32) (pf (pf oK 3 (-6 : Int32)) 4 (1000000 : Int32))
theorem pdX7_chooseLast : yX7_chooseLast.cls = RX7 ∧ yX7_chooseLast.cls ≠ "java/lang/invoke/MethodHandle" ∧ yX7_chooseLast.cls ≠ "java/lang/invoke/VarHandle" ∧ (parseMethodDescriptor yX7_chooseLast.desc).map (fun d => d.parameters.length) = some 1 := by decide +kernel
theorem lkX7_chooseLast_21 : Cond.fieldLink RX7 21 (TX7 3).1 (TX7 3).2.1 (TX7 3).2.2.1 ∈ wsX7_chooseLast := by decide +kernel
theorem inX7_chooseLast_X7 : ∀ w ∈ u_ws RX7 TX7 7, w ∈ wsX7_chooseLast := by decide +kernel
theorem lkX7_chooseLast_79 : Cond.fieldLink RX7 79 (TX7 4).1 (TX7 4).2.1 (TX7 4).2.2.1 ∈ wsX7_chooseLast := by decide +kernel
theorem lkX7_chooseLast_15 : Cond.fieldLink RX7 15 (TX7 1).1 (TX7 1).2.1 (TX7 1).2.2.1 ∈ wsX7_chooseLast := by decide +kernel
set_option maxHeartbeats 4000000 in
set_option maxRecDepth 100000 in
theorem ctX7_chooseLast (l : Launch) (D : va_G) (cI cZ : ClassId) (qK : Nat → Nat) (oK : Ob) (v1 : Int32) (post : Ob → Prop) (h : wpX7_chooseLast oK v1 post) : CTv l yX7_chooseLast wsX7_chooseLast { frames := 0, cells := 0, slots := 0, locals := 0 } D [(cI, .int), (cZ, .boolean)] [.ref (qK 0), .int v1] (w7 cI cZ qK oK) (fun u : Ob => w7 cI cZ qK u) (fun (u : Ob) => post u) := by
  refine CTv.of (cc := cX7_chooseLast) (own := RX7) (maxL := 3) (ret := none) (lv0 := [(0, .ref (qK 0)), (1, .int v1)]) (by decide) rfl rfl (Nat.le_of_ble_eq_true rfl) rfl ?_
  intro p e s m args below meth c A C
  unfold wpX7_chooseLast at h
  refine SW.aload_n C dX7_chooseLast_0 rfl 0 rfl ?_
  refine SW.bipush (v := (-6 : Int32)) C dX7_chooseLast_1 (by decide) ?_
  refine SW.put (ws' := w7 cI cZ qK (pf oK 3 (-6 : Int32))) (T := TX7) (N := 7) C inX7_chooseLast_X7 tyX7 tyX7_ok nmX7 0 rfl rfl 3 (by decide) lkX7_chooseLast_21 rfl rfl rfl (Nat.le_of_ble_eq_true rfl) rfl dX7_chooseLast_3 ?_
  refine SW.aload_n C dX7_chooseLast_6 rfl 0 rfl ?_
  refine SW.ldc (v := (1000000 : Int32)) C (by decide +kernel) dX7_chooseLast_7 ?_
  refine SW.put (ws' := w7 cI cZ qK (pf (pf oK 3 (-6 : Int32)) 4 (1000000 : Int32))) (T := TX7) (N := 7) C inX7_chooseLast_X7 tyX7 tyX7_ok nmX7 0 rfl rfl 4 (by decide) lkX7_chooseLast_79 rfl rfl rfl (Nat.le_of_ble_eq_true rfl) rfl dX7_chooseLast_9 ?_
  refine SW.iconst (v := (0 : Int32)) C dX7_chooseLast_12 (by decide) ?_
  refine SW.istore_n (lv' := [(2, .int (0 : Int32)), (0, .ref (qK 0)), (1, .int v1)]) C dX7_chooseLast_13 rfl (by decide) rfl ?_
  have L14 : ∀ (K53 : Ob → Prop) (hK53 : ∀ (oK_53 : Ob), K53 oK_53 → SW p l e { frames := 0, cells := 0, slots := 0, locals := 0 } s m args below meth c A D 3 0 0 (MQ below (va_Qv (fun (u : Ob) => post u) (ctB D A (fun u : Ob => w7 cI cZ qK u)) A) args s 0 0 A) (w7 cI cZ qK oK_53) 53 [] []) (fu : Nat) (v2_14 : Int32) (oK_14 : Ob), wpX7_chooseLast_L14 v1 K53 fu v2_14 oK_14 → SW p l e { frames := 0, cells := 0, slots := 0, locals := 0 } s m args below meth c A D 3 0 0 (MQ below (va_Qv (fun (u : Ob) => post u) (ctB D A (fun u : Ob => w7 cI cZ qK u)) A) args s 0 0 A) (w7 cI cZ qK oK_14) 14 [(0, .ref (qK 0)), (1, .int v1), (2, .int v2_14)] [] := by
    intro K53 hK53 fu
    induction fu with
    | zero =>
      intro v2_14 oK_14 h
      exact False.elim h
    | succ fu ih =>
      intro v2_14 oK_14 h
      unfold wpX7_chooseLast_L14 at h
      refine SW.iload_n C dX7_chooseLast_14 rfl 2 rfl ?_
      refine SW.iload_n C dX7_chooseLast_15 rfl 1 rfl ?_
      refine SW.icmp_ge (tgt := 53) C dX7_chooseLast_16 (by decide) (fun hc => ?_) (fun hc => ?_)
      · replace h := h.1 hc
        refine SW.sub [] rfl ?_
        exact hK53 _ h
      · replace h := h.2 hc
        refine SW.aload_n C dX7_chooseLast_19 rfl 0 rfl ?_
        refine SW.get (v := .ref (qK 2)) (T := TX7) (N := 7) C inX7_chooseLast_X7 0 rfl rfl 1 (by decide) lkX7_chooseLast_15 rfl dX7_chooseLast_20 ?_
        refine SW.iload_n C dX7_chooseLast_23 rfl 2 rfl ?_
        refine SW.iald C 2 0 rfl rfl h.1 dX7_chooseLast_24 ?_
        replace h := h.2
        refine SW.aload_n C dX7_chooseLast_25 rfl 0 rfl ?_
        refine SW.get (v := .int (oK_14 0 4)) (T := TX7) (N := 7) C inX7_chooseLast_X7 0 rfl rfl 4 (by decide) lkX7_chooseLast_79 rfl dX7_chooseLast_26 ?_
        refine jn1_elim (G := fun oK_47 => SW p l e { frames := 0, cells := 0, slots := 0, locals := 0 } s m args below meth c A D 3 0 0 (MQ below (va_Qv (fun (u : Ob) => post u) (ctB D A (fun u : Ob => w7 cI cZ qK u)) A) args s 0 0 A) (w7 cI cZ qK oK_47) 47 [(0, .ref (qK 0)), (1, .int v1), (2, .int v2_14)] []) h (fun oK_47 h => ?_) (fun J47 hJ47 h => ?_)
        · refine SW.iinc (q := 2) (v := (v2_14 + (1 : Int32))) (lv' := [(2, .int (v2_14 + (1 : Int32))), (0, .ref (qK 0)), (1, .int v1)]) C dX7_chooseLast_47 rfl rfl (by decide) rfl ?_
          refine SW.goto (tgt := 14) C dX7_chooseLast_50 (by decide) ?_
          refine SW.sub [1, 2, 0] rfl ?_
          exact ih _ _ h
        · refine SW.icmp_ge (tgt := 47) C dX7_chooseLast_29 (by decide) (fun hc => ?_) (fun hc => ?_)
          · replace h := h.1 hc
            exact hJ47 _ h
          · replace h := h.2 hc
            refine SW.aload_n C dX7_chooseLast_32 rfl 0 rfl ?_
            refine SW.iload_n C dX7_chooseLast_33 rfl 2 rfl ?_
            refine SW.put (ws' := w7 cI cZ qK (pf oK_14 3 v2_14)) (T := TX7) (N := 7) C inX7_chooseLast_X7 tyX7 tyX7_ok nmX7 0 rfl rfl 3 (by decide) lkX7_chooseLast_21 rfl rfl rfl (Nat.le_of_ble_eq_true rfl) rfl dX7_chooseLast_34 ?_
            refine SW.aload_n C dX7_chooseLast_37 rfl 0 rfl ?_
            refine SW.aload_n C dX7_chooseLast_38 rfl 0 rfl ?_
            refine SW.get (v := .ref (qK 2)) (T := TX7) (N := 7) C inX7_chooseLast_X7 0 rfl rfl 1 (by decide) lkX7_chooseLast_15 rfl dX7_chooseLast_39 ?_
            refine SW.iload_n C dX7_chooseLast_42 rfl 2 rfl ?_
            refine SW.iald C 2 0 rfl rfl h.1 dX7_chooseLast_43 ?_
            replace h := h.2
            refine SW.put (ws' := w7 cI cZ qK (pf (pf oK_14 3 v2_14) 4 (jld (oK_14 2) v2_14))) (T := TX7) (N := 7) C inX7_chooseLast_X7 tyX7 tyX7_ok nmX7 0 rfl rfl 4 (by decide) lkX7_chooseLast_79 rfl rfl rfl (Nat.le_of_ble_eq_true rfl) rfl dX7_chooseLast_44 ?_
            exact hJ47 _ h
  obtain ⟨fu, h⟩ := h
  refine SW.sub [1, 2, 0] rfl ?_
  refine L14 _ (fun oK_53 h => ?_) fu _ _ h
  · exact SW.vret C oK_53 rfl h dX7_chooseLast_53
def wpX7_notePair (oK : Ob) (v1 : Int32) (v2 : Int32) (post : Ob → Prop) : Prop := jn1 (fun (p0_17 : Int32) => ((v1 < 0) → post (pf oK 6 ((oK 0 6) ||| p0_17))) ∧ (¬ (v1 < 0) → (((20 : Int32) < v1) → post (pf oK 6 ((oK 0 6) ||| p0_17))) ∧ (¬ ((20 : Int32) < v1) → (vp_in v1 21) ∧ ((vp_in v1 21) ∧ (post (pa (pf (pf oK 6 ((oK 0 6) ||| p0_17)) 5 ((oK 0 5) ||| (jshl (1 : Int32) v1))) 3 (nC v1) ((jld (oK 3) v1) ||| p0_17))))))) (fun J17 => jn0 (J17 (0 : Int32)) (fun J16 => ((v2 < 0) → J16) ∧ (¬ (v2 < 0) → (((20 : Int32) < v2) → J16) ∧ (¬ ((20 : Int32) < v2) → J17 (jshl (1 : Int32) v2)))))
theorem pdX7_notePair : yX7_notePair.cls = RX7 ∧ yX7_notePair.cls ≠ "java/lang/invoke/MethodHandle" ∧ yX7_notePair.cls ≠ "java/lang/invoke/VarHandle" ∧ (parseMethodDescriptor yX7_notePair.desc).map (fun d => d.parameters.length) = some 2 := by decide +kernel
theorem lkX7_notePair_93 : Cond.fieldLink RX7 93 (TX7 6).1 (TX7 6).2.1 (TX7 6).2.2.1 ∈ wsX7_notePair := by decide +kernel
theorem inX7_notePair_X7 : ∀ w ∈ u_ws RX7 TX7 7, w ∈ wsX7_notePair := by decide +kernel
theorem lkX7_notePair_90 : Cond.fieldLink RX7 90 (TX7 5).1 (TX7 5).2.1 (TX7 5).2.2.1 ∈ wsX7_notePair := by decide +kernel
theorem lkX7_notePair_18 : Cond.fieldLink RX7 18 (TX7 2).1 (TX7 2).2.1 (TX7 2).2.2.1 ∈ wsX7_notePair := by decide +kernel
set_option maxHeartbeats 4000000 in
set_option maxRecDepth 100000 in
theorem ctX7_notePair (l : Launch) (D : va_G) (cI cZ : ClassId) (qK : Nat → Nat) (oK : Ob) (v1 : Int32) (v2 : Int32) (post : Ob → Prop) (h : wpX7_notePair oK v1 v2 post) : CTv l yX7_notePair wsX7_notePair { frames := 0, cells := 0, slots := 0, locals := 0 } D [(cI, .int), (cZ, .boolean)] [.ref (qK 0), .int v1, .int v2] (w7 cI cZ qK oK) (fun u : Ob => w7 cI cZ qK u) (fun (u : Ob) => post u) := by
  refine CTv.of (cc := cX7_notePair) (own := RX7) (maxL := 4) (ret := none) (lv0 := [(0, .ref (qK 0)), (1, .int v1), (2, .int v2)]) (by decide) rfl rfl (Nat.le_of_ble_eq_true rfl) rfl ?_
  intro p e s m args below meth c A C
  unfold wpX7_notePair at h
  refine SW.iload_n C dX7_notePair_0 rfl 2 rfl ?_
  refine jn1_elim (G := fun p0_17 => SW p l e { frames := 0, cells := 0, slots := 0, locals := 0 } s m args below meth c A D 4 0 0 (MQ below (va_Qv (fun (u : Ob) => post u) (ctB D A (fun u : Ob => w7 cI cZ qK u)) A) args s 0 0 A) (w7 cI cZ qK oK) 17 [(0, .ref (qK 0)), (1, .int v1)] [.int p0_17]) h (fun p0_17 h => ?_) (fun J17 hJ17 h => ?_)
  · refine SW.istore_n (lv' := [(3, .int p0_17), (0, .ref (qK 0)), (1, .int v1)]) C dX7_notePair_17 rfl (by decide) rfl ?_
    refine SW.aload_n C dX7_notePair_18 rfl 1 rfl ?_
    refine SW.dup C dX7_notePair_19 rfl ?_
    refine SW.get (v := .int (oK 0 6)) (T := TX7) (N := 7) C inX7_notePair_X7 0 rfl rfl 6 (by decide) lkX7_notePair_93 rfl dX7_notePair_20 ?_
    refine SW.iload_n C dX7_notePair_23 rfl 0 rfl ?_
    refine SW.ior C dX7_notePair_24 ?_
    refine SW.put (ws' := w7 cI cZ qK (pf oK 6 ((oK 0 6) ||| p0_17))) (T := TX7) (N := 7) C inX7_notePair_X7 tyX7 tyX7_ok nmX7 0 rfl rfl 6 (by decide) lkX7_notePair_93 rfl rfl rfl (Nat.le_of_ble_eq_true rfl) rfl dX7_notePair_25 ?_
    refine SW.iload_n C dX7_notePair_28 rfl 2 rfl ?_
    refine SW.if_lt (tgt := 60) C dX7_notePair_29 (by decide) (fun hc => ?_) (fun hc => ?_)
    · replace h := h.1 hc
      exact SW.vret C (pf oK 6 ((oK 0 6) ||| p0_17)) rfl h dX7_notePair_60
    · replace h := h.2 hc
      refine SW.iload_n C dX7_notePair_32 rfl 2 rfl ?_
      refine SW.bipush (v := (20 : Int32)) C dX7_notePair_33 (by decide) ?_
      refine SW.icmp_gt (tgt := 60) C dX7_notePair_35 (by decide) (fun hc => ?_) (fun hc => ?_)
      · replace h := h.1 hc
        exact SW.vret C (pf oK 6 ((oK 0 6) ||| p0_17)) rfl h dX7_notePair_60
      · replace h := h.2 hc
        refine SW.aload_n C dX7_notePair_38 rfl 1 rfl ?_
        refine SW.dup C dX7_notePair_39 rfl ?_
        refine SW.get (v := .int (oK 0 5)) (T := TX7) (N := 7) C inX7_notePair_X7 0 rfl rfl 5 (by decide) lkX7_notePair_90 rfl dX7_notePair_40 ?_
        refine SW.iconst (v := (1 : Int32)) C dX7_notePair_43 (by decide) ?_
        refine SW.iload_n C dX7_notePair_44 rfl 2 rfl ?_
        refine SW.ishl C dX7_notePair_45 ?_
        refine SW.ior C dX7_notePair_46 ?_
        refine SW.put (ws' := w7 cI cZ qK (pf (pf oK 6 ((oK 0 6) ||| p0_17)) 5 ((oK 0 5) ||| (jshl (1 : Int32) v1)))) (T := TX7) (N := 7) C inX7_notePair_X7 tyX7 tyX7_ok nmX7 0 rfl rfl 5 (by decide) lkX7_notePair_90 rfl rfl rfl (Nat.le_of_ble_eq_true rfl) rfl dX7_notePair_47 ?_
        refine SW.aload_n C dX7_notePair_50 rfl 1 rfl ?_
        refine SW.get (v := .ref (qK 3)) (T := TX7) (N := 7) C inX7_notePair_X7 0 rfl rfl 2 (by decide) lkX7_notePair_18 rfl dX7_notePair_51 ?_
        refine SW.iload_n C dX7_notePair_54 rfl 2 rfl ?_
        refine SW.dup2 C dX7_notePair_55 rfl rfl ?_
        refine SW.iald C 3 0 rfl rfl h.1 dX7_notePair_56 ?_
        replace h := h.2
        refine SW.iload_n C dX7_notePair_57 rfl 0 rfl ?_
        refine SW.ior C dX7_notePair_58 ?_
        refine SW.iast (ws' := w7 cI cZ qK (pa (pf (pf oK 6 ((oK 0 6) ||| p0_17)) 5 ((oK 0 5) ||| (jshl (1 : Int32) v1))) 3 (nC v1) ((jld (oK 3) v1) ||| p0_17))) C 3 0 rfl rfl h.1 rfl dX7_notePair_59 ?_
        replace h := h.2
        exact SW.vret C (pa (pf (pf oK 6 ((oK 0 6) ||| p0_17)) 5 ((oK 0 5) ||| (jshl (1 : Int32) v1))) 3 (nC v1) ((jld (oK 3) v1) ||| p0_17)) rfl h dX7_notePair_60
  · refine jn0_elim (G := SW p l e { frames := 0, cells := 0, slots := 0, locals := 0 } s m args below meth c A D 4 0 0 (MQ below (va_Qv (fun (u : Ob) => post u) (ctB D A (fun u : Ob => w7 cI cZ qK u)) A) args s 0 0 A) (w7 cI cZ qK oK) 16 [(0, .ref (qK 0)), (1, .int v1)] []) h (fun h => ?_) (fun J16 hJ16 h => ?_)
    · refine SW.iconst (v := (0 : Int32)) C dX7_notePair_16 (by decide) ?_
      exact hJ17 _ h
    · refine SW.if_lt (tgt := 16) C dX7_notePair_1 (by decide) (fun hc => ?_) (fun hc => ?_)
      · replace h := h.1 hc
        refine SW.sub [0, 1] rfl ?_
        exact hJ16 h
      · replace h := h.2 hc
        refine SW.iload_n C dX7_notePair_4 rfl 2 rfl ?_
        refine SW.bipush (v := (20 : Int32)) C dX7_notePair_5 (by decide) ?_
        refine SW.icmp_gt (tgt := 16) C dX7_notePair_7 (by decide) (fun hc => ?_) (fun hc => ?_)
        · replace h := h.1 hc
          refine SW.sub [0, 1] rfl ?_
          exact hJ16 h
        · replace h := h.2 hc
          refine SW.iconst (v := (1 : Int32)) C dX7_notePair_10 (by decide) ?_
          refine SW.iload_n C dX7_notePair_11 rfl 2 rfl ?_
          refine SW.ishl C dX7_notePair_12 ?_
          refine SW.goto (tgt := 17) C dX7_notePair_13 (by decide) ?_
          refine SW.sub [0, 1] rfl ?_
          exact hJ17 _ h
def wpX7_notePartners_L13 (K34 : Ob → Prop) : Nat → Int32 → Ob → Prop
  | 0, _, _ => False
  | fu13 + 1, v4_13, oK_13 => (((20 : Int32) < v4_13) → K34 oK_13) ∧ (¬ ((20 : Int32) < v4_13) → (vp_in v4_13 21) ∧ (wpX7_notePartners_L13 K34 fu13 (v4_13 + (1 : Int32)) (pa oK_13 3 (nC v4_13) (0 : Int32))))
def wpX7_notePartners_L45 (c2_45 : Int32) (c3_45 : Int32) (c4_45 : Int32) (oSc_45 : Ob) (K85 : Ob → Prop) : Nat → Int32 → Ob → Prop
  | 0, _, _ => False
  | fu45 + 1, v5_45, oK_45 => ((c4_45 ≤ v5_45) → K85 oK_45) ∧ (¬ (c4_45 ≤ v5_45) → wpX8_allows oSc_45 v5_45 (fun (r55 : Int32) => jn1 (fun (oK_79 : Ob) => wpX7_notePartners_L45 c2_45 c3_45 c4_45 oSc_45 K85 fu45 (v5_45 + (1 : Int32)) oK_79) (fun J79 => ((r55 = 0) → J79 oK_45) ∧ (¬ (r55 = 0) → wpX8_lengthAt oSc_45 c2_45 v5_45 (fun (r66 : Int32) => wpX8_lengthAt oSc_45 c3_45 v5_45 (fun (r73 : Int32) => wpX7_notePair oK_45 r66 r73 (fun (oK_76 : Ob) => J79 oK_76)))))))
def wpX7_notePartners (oS : Ob) (oK : Ob) (v2 : Int32) (v3 : Int32) (post : Ob → Prop) : Prop := ∃ fu13 : Nat, wpX7_notePartners_L13 (fun (oK_34 : Ob) => ∃ fu45 : Nat, wpX7_notePartners_L45 v2 v3 (jshl (1 : Int32) (oS 0 0)) oS (fun (oK_85 : Ob) => post oK_85) fu45 (0 : Int32) oK_34) fu13 (0 : Int32) (pf (pf oK 5 (0 : Int32)) 6 (0 : Int32))
theorem pdX7_notePartners : yX7_notePartners.cls = RX7 ∧ yX7_notePartners.cls ≠ "java/lang/invoke/MethodHandle" ∧ yX7_notePartners.cls ≠ "java/lang/invoke/VarHandle" ∧ (parseMethodDescriptor yX7_notePartners.desc).map (fun d => d.parameters.length) = some 3 := by decide +kernel
theorem lkX7_notePartners_90 : Cond.fieldLink RX7 90 (TX7 5).1 (TX7 5).2.1 (TX7 5).2.2.1 ∈ wsX7_notePartners := by decide +kernel
theorem inX7_notePartners_X7 : ∀ w ∈ u_ws RX7 TX7 7, w ∈ wsX7_notePartners := by decide +kernel
theorem lkX7_notePartners_93 : Cond.fieldLink RX7 93 (TX7 6).1 (TX7 6).2.1 (TX7 6).2.2.1 ∈ wsX7_notePartners := by decide +kernel
theorem lkX7_notePartners_18 : Cond.fieldLink RX7 18 (TX7 2).1 (TX7 2).2.1 (TX7 2).2.2.1 ∈ wsX7_notePartners := by decide +kernel
theorem lkX7_notePartners_31 : Cond.fieldLink RX7 31 (TX8 0).1 (TX8 0).2.1 (TX8 0).2.2.1 ∈ wsX7_notePartners := by decide +kernel
theorem inX7_notePartners_X8 : ∀ w ∈ u_ws RX8 TX8 13, w ∈ wsX7_notePartners := by decide +kernel
set_option maxHeartbeats 4000000 in
set_option maxRecDepth 100000 in
theorem ctX7_notePartners (l : Launch) (D : va_G) (cI cZ : ClassId) (qS : Nat → Nat) (qK : Nat → Nat) (oS : Ob) (oK : Ob) (v2 : Int32) (v3 : Int32) (post : Ob → Prop) (h : wpX7_notePartners oS oK v2 v3 post) : CTv l yX7_notePartners wsX7_notePartners { frames := 3, cells := 0, slots := 0, locals := 66 } D [(cI, .int), (cZ, .boolean)] [.ref (qK 0), .ref (qS 0), .int v2, .int v3] (w8 cI cZ qS oS ++ w7 cI cZ qK oK) (fun u : Ob => w8 cI cZ qS oS ++ w7 cI cZ qK u) (fun (u : Ob) => post u) := by
  refine CTv.of (cc := cX7_notePartners) (own := RX7) (maxL := 6) (ret := none) (lv0 := [(0, .ref (qK 0)), (1, .ref (qS 0)), (2, .int v2), (3, .int v3)]) (by decide) rfl rfl (Nat.le_of_ble_eq_true rfl) rfl ?_
  intro p e s m args below meth c A C
  unfold wpX7_notePartners at h
  refine SW.aload_n C dX7_notePartners_0 rfl 0 rfl ?_
  refine SW.iconst (v := (0 : Int32)) C dX7_notePartners_1 (by decide) ?_
  refine SW.put (ws' := w8 cI cZ qS oS ++ w7 cI cZ qK (pf oK 5 (0 : Int32))) (T := TX7) (N := 7) C inX7_notePartners_X7 tyX7 tyX7_ok nmX7 7 rfl rfl 5 (by decide) lkX7_notePartners_90 rfl rfl rfl (Nat.le_of_ble_eq_true rfl) rfl dX7_notePartners_2 ?_
  refine SW.aload_n C dX7_notePartners_5 rfl 0 rfl ?_
  refine SW.iconst (v := (0 : Int32)) C dX7_notePartners_6 (by decide) ?_
  refine SW.put (ws' := w8 cI cZ qS oS ++ w7 cI cZ qK (pf (pf oK 5 (0 : Int32)) 6 (0 : Int32))) (T := TX7) (N := 7) C inX7_notePartners_X7 tyX7 tyX7_ok nmX7 7 rfl rfl 6 (by decide) lkX7_notePartners_93 rfl rfl rfl (Nat.le_of_ble_eq_true rfl) rfl dX7_notePartners_7 ?_
  refine SW.iconst (v := (0 : Int32)) C dX7_notePartners_10 (by decide) ?_
  refine SW.istore (lv' := [(4, .int (0 : Int32)), (0, .ref (qK 0)), (1, .ref (qS 0)), (2, .int v2), (3, .int v3)]) C dX7_notePartners_11 (by decide) rfl ?_
  have L13 : ∀ (K34 : Ob → Prop) (hK34 : ∀ (oK_34 : Ob), K34 oK_34 → SW p l e { frames := 3, cells := 0, slots := 0, locals := 66 } s m args below meth c A D 6 0 0 (MQ below (va_Qv (fun (u : Ob) => post u) (ctB D A (fun u : Ob => w8 cI cZ qS oS ++ w7 cI cZ qK u)) A) args s 0 0 A) (w8 cI cZ qS oS ++ w7 cI cZ qK oK_34) 34 [(0, .ref (qK 0)), (1, .ref (qS 0)), (2, .int v2), (3, .int v3)] []) (fu : Nat) (v4_13 : Int32) (oK_13 : Ob), wpX7_notePartners_L13 K34 fu v4_13 oK_13 → SW p l e { frames := 3, cells := 0, slots := 0, locals := 66 } s m args below meth c A D 6 0 0 (MQ below (va_Qv (fun (u : Ob) => post u) (ctB D A (fun u : Ob => w8 cI cZ qS oS ++ w7 cI cZ qK u)) A) args s 0 0 A) (w8 cI cZ qS oS ++ w7 cI cZ qK oK_13) 13 [(0, .ref (qK 0)), (1, .ref (qS 0)), (2, .int v2), (3, .int v3), (4, .int v4_13)] [] := by
    intro K34 hK34 fu
    induction fu with
    | zero =>
      intro v4_13 oK_13 h
      exact False.elim h
    | succ fu ih =>
      intro v4_13 oK_13 h
      unfold wpX7_notePartners_L13 at h
      refine SW.iload C dX7_notePartners_13 4 rfl ?_
      refine SW.bipush (v := (20 : Int32)) C dX7_notePartners_15 (by decide) ?_
      refine SW.icmp_gt (tgt := 34) C dX7_notePartners_17 (by decide) (fun hc => ?_) (fun hc => ?_)
      · replace h := h.1 hc
        refine SW.sub [0, 1, 2, 3] rfl ?_
        exact hK34 _ h
      · replace h := h.2 hc
        refine SW.aload_n C dX7_notePartners_20 rfl 0 rfl ?_
        refine SW.get (v := .ref (qK 3)) (T := TX7) (N := 7) C inX7_notePartners_X7 7 rfl rfl 2 (by decide) lkX7_notePartners_18 rfl dX7_notePartners_21 ?_
        refine SW.iload C dX7_notePartners_24 4 rfl ?_
        refine SW.iconst (v := (0 : Int32)) C dX7_notePartners_26 (by decide) ?_
        refine SW.iast (ws' := w8 cI cZ qS oS ++ w7 cI cZ qK (pa oK_13 3 (nC v4_13) (0 : Int32))) C 10 0 rfl rfl h.1 rfl dX7_notePartners_27 ?_
        replace h := h.2
        refine SW.iinc (q := 4) (v := (v4_13 + (1 : Int32))) (lv' := [(4, .int (v4_13 + (1 : Int32))), (0, .ref (qK 0)), (1, .ref (qS 0)), (2, .int v2), (3, .int v3)]) C dX7_notePartners_28 rfl rfl (by decide) rfl ?_
        refine SW.goto (tgt := 13) C dX7_notePartners_31 (by decide) ?_
        refine SW.sub [1, 2, 3, 4, 0] rfl ?_
        exact ih _ _ h
  obtain ⟨fu, h⟩ := h
  refine SW.sub [1, 2, 3, 4, 0] rfl ?_
  refine L13 _ (fun oK_34 h => ?_) fu _ _ h
  · refine SW.iconst (v := (1 : Int32)) C dX7_notePartners_34 (by decide) ?_
    refine SW.aload_n C dX7_notePartners_35 rfl 1 rfl ?_
    refine SW.get (v := .int (oS 0 0)) (T := TX8) (N := 13) C inX7_notePartners_X8 0 rfl rfl 0 (by decide) lkX7_notePartners_31 rfl dX7_notePartners_36 ?_
    refine SW.ishl C dX7_notePartners_39 ?_
    refine SW.istore (lv' := [(4, .int (jshl (1 : Int32) (oS 0 0))), (0, .ref (qK 0)), (1, .ref (qS 0)), (2, .int v2), (3, .int v3)]) C dX7_notePartners_40 (by decide) rfl ?_
    refine SW.iconst (v := (0 : Int32)) C dX7_notePartners_42 (by decide) ?_
    refine SW.istore (lv' := [(5, .int (0 : Int32)), (4, .int (jshl (1 : Int32) (oS 0 0))), (0, .ref (qK 0)), (1, .ref (qS 0)), (2, .int v2), (3, .int v3)]) C dX7_notePartners_43 (by decide) rfl ?_
    have L45 : ∀ (K85 : Ob → Prop) (hK85 : ∀ (oK_85 : Ob), K85 oK_85 → SW p l e { frames := 3, cells := 0, slots := 0, locals := 66 } s m args below meth c A D 6 0 0 (MQ below (va_Qv (fun (u : Ob) => post u) (ctB D A (fun u : Ob => w8 cI cZ qS oS ++ w7 cI cZ qK u)) A) args s 0 0 A) (w8 cI cZ qS oS ++ w7 cI cZ qK oK_85) 85 [] []) (fu : Nat) (v5_45 : Int32) (oK_45 : Ob), wpX7_notePartners_L45 v2 v3 (jshl (1 : Int32) (oS 0 0)) oS K85 fu v5_45 oK_45 → SW p l e { frames := 3, cells := 0, slots := 0, locals := 66 } s m args below meth c A D 6 0 0 (MQ below (va_Qv (fun (u : Ob) => post u) (ctB D A (fun u : Ob => w8 cI cZ qS oS ++ w7 cI cZ qK u)) A) args s 0 0 A) (w8 cI cZ qS oS ++ w7 cI cZ qK oK_45) 45 [(0, .ref (qK 0)), (1, .ref (qS 0)), (2, .int v2), (3, .int v3), (4, .int (jshl (1 : Int32) (oS 0 0))), (5, .int v5_45)] [] := by
      intro K85 hK85 fu
      induction fu with
      | zero =>
        intro v5_45 oK_45 h
        exact False.elim h
      | succ fu ih =>
        intro v5_45 oK_45 h
        unfold wpX7_notePartners_L45 at h
        refine SW.iload C dX7_notePartners_45 5 rfl ?_
        refine SW.iload C dX7_notePartners_47 4 rfl ?_
        refine SW.icmp_ge (tgt := 85) C dX7_notePartners_49 (by decide) (fun hc => ?_) (fun hc => ?_)
        · replace h := h.1 hc
          refine SW.sub [] rfl ?_
          exact hK85 _ h
        · replace h := h.2 hc
          refine SW.aload_n C dX7_notePartners_52 rfl 1 rfl ?_
          refine SW.iload C dX7_notePartners_53 5 rfl ?_
          refine SW.callVi_sub (wr := w7 cI cZ qK oK_45) (wn := fun u : Unit => w8 cI cZ qS oS ++ w7 cI cZ qK oK_45) C (ctX8_allows l D cI cZ qS oS v5_45 _ h) gX7_notePartners_X8_allows rfl rfl rfl pdX8_allows ⟨by decide, by decide⟩ [0, 1, 2, 3, 4, 5, 6] [7, 8, 9, 10] [4, 5, 6, 7, 8, 9, 10, 0, 1, 2, 3] rfl rfl (by decide) (by decide) (by decide) (by decide) (fun _ => rfl) 0 rfl rfl rfl rfl rfl (Nat.le_of_ble_eq_true rfl) dX7_notePartners_55 (by decide) (fun r55 u h => ?_)
          try dsimp only at h
          refine jn1_elim (G := fun oK_79 => SW p l e { frames := 3, cells := 0, slots := 0, locals := 66 } s m args below meth c A D 6 0 0 (MQ below (va_Qv (fun (u : Ob) => post u) (ctB D A (fun u : Ob => w8 cI cZ qS oS ++ w7 cI cZ qK u)) A) args s 0 0 A) (w8 cI cZ qS oS ++ w7 cI cZ qK oK_79) 79 [(0, .ref (qK 0)), (1, .ref (qS 0)), (2, .int v2), (3, .int v3), (4, .int (jshl (1 : Int32) (oS 0 0))), (5, .int v5_45)] []) h (fun oK_79 h => ?_) (fun J79 hJ79 h => ?_)
          · refine SW.iinc (q := 5) (v := (v5_45 + (1 : Int32))) (lv' := [(5, .int (v5_45 + (1 : Int32))), (0, .ref (qK 0)), (1, .ref (qS 0)), (2, .int v2), (3, .int v3), (4, .int (jshl (1 : Int32) (oS 0 0)))]) C dX7_notePartners_79 rfl rfl (by decide) rfl ?_
            refine SW.goto (tgt := 45) C dX7_notePartners_82 (by decide) ?_
            refine SW.sub [1, 2, 3, 4, 5, 0] rfl ?_
            exact ih _ _ h
          · refine SW.if_eq (tgt := 79) C dX7_notePartners_58 (by decide) (fun hc => ?_) (fun hc => ?_)
            · replace h := h.1 hc
              exact hJ79 _ h
            · replace h := h.2 hc
              refine SW.aload_n C dX7_notePartners_61 rfl 0 rfl ?_
              refine SW.aload_n C dX7_notePartners_62 rfl 1 rfl ?_
              refine SW.iload_n C dX7_notePartners_63 rfl 2 rfl ?_
              refine SW.iload C dX7_notePartners_64 5 rfl ?_
              refine SW.callVi_sub (wr := w7 cI cZ qK oK_45) (wn := fun u : Unit => w8 cI cZ qS oS ++ w7 cI cZ qK oK_45) C (ctX8_lengthAt l D cI cZ qS oS v2 v5_45 _ h) gX7_notePartners_X8_lengthAt rfl rfl rfl pdX8_lengthAt ⟨by decide, by decide⟩ [0, 1, 2, 3, 4, 5, 6] [7, 8, 9, 10] [4, 5, 6, 7, 8, 9, 10, 0, 1, 2, 3] rfl rfl (by decide) (by decide) (by decide) (by decide) (fun _ => rfl) 0 rfl rfl rfl rfl rfl (Nat.le_of_ble_eq_true rfl) dX7_notePartners_66 (by decide) (fun r66 u h => ?_)
              try dsimp only at h
              refine SW.aload_n C dX7_notePartners_69 rfl 1 rfl ?_
              refine SW.iload_n C dX7_notePartners_70 rfl 3 rfl ?_
              refine SW.iload C dX7_notePartners_71 5 rfl ?_
              refine SW.callVi_sub (wr := w7 cI cZ qK oK_45) (wn := fun u : Unit => w8 cI cZ qS oS ++ w7 cI cZ qK oK_45) C (ctX8_lengthAt l D cI cZ qS oS v3 v5_45 _ h) gX7_notePartners_X8_lengthAt rfl rfl rfl pdX8_lengthAt ⟨by decide, by decide⟩ [0, 1, 2, 3, 4, 5, 6] [7, 8, 9, 10] [4, 5, 6, 7, 8, 9, 10, 0, 1, 2, 3] rfl rfl (by decide) (by decide) (by decide) (by decide) (fun _ => rfl) 0 rfl rfl rfl rfl rfl (Nat.le_of_ble_eq_true rfl) dX7_notePartners_73 (by decide) (fun r73 u h => ?_)
              try dsimp only at h
              refine SW.callVv_sub (wr := w8 cI cZ qS oS) (wn := fun u : Ob => w8 cI cZ qS oS ++ w7 cI cZ qK u) C (ctX7_notePair l D cI cZ qK oK_45 r66 r73 _ h) gX7_notePartners_X7_notePair rfl rfl rfl pdX7_notePair ⟨by decide, by decide⟩ [7, 8, 9, 10] [0, 1, 2, 3, 4, 5, 6] [0, 1, 2, 3, 4, 5, 6, 7, 8, 9, 10] rfl rfl (by decide) (by decide) (by decide) (by decide) (fun _ => rfl) 0 rfl rfl rfl rfl rfl (Nat.le_of_ble_eq_true rfl) dX7_notePartners_76 (by decide) (fun u h => ?_)
              obtain ⟨oK_76, rfl⟩ : ∃ z, z = u := ⟨_, rfl⟩
              try dsimp only at h
              exact hJ79 _ h
    obtain ⟨fu, h⟩ := h
    refine SW.sub [2, 3, 4, 5, 1, 0] rfl ?_
    refine L45 _ (fun oK_85 h => ?_) fu _ _ h
    · exact SW.vret C oK_85 rfl h dX7_notePartners_85
def wpX7_shiftFits_L8 (c2_8 : Int32) (c3_8 : Int32) (oPc_8 : Ob) (oKc_8 : Ob) (post : Int32 → Prop) (K102 : Prop) (K61 : Prop) : Nat → Int32 → Prop
  | 0, _ => False
  | fu8 + 1, v4_8 => (((c3_8 + c2_8) ≤ v4_8) → K102) ∧ (¬ ((c3_8 + c2_8) ≤ v4_8) → jn1 (fun (v5_72 : Int32) => jn0 (wpX7_shiftFits_L8 c2_8 c3_8 oPc_8 oKc_8 post K102 K61 fu8 (v4_8 + (1 : Int32))) (fun J96 => ((v4_8 < c2_8) → J96) ∧ (¬ (v4_8 < c2_8) → wpX5_toneAt oPc_8 (v4_8 - c2_8) (fun (r85 : Int32) => ((((jush v5_72 r85) &&& (1 : Int32)) = 0) → post (0 : Int32)) ∧ (¬ (((jush v5_72 r85) &&& (1 : Int32)) = 0) → J96))))) (fun J72 => ((c3_8 ≤ v4_8) → J72 (oKc_8 0 6)) ∧ (¬ (c3_8 ≤ v4_8) → wpX5_toneAt oPc_8 v4_8 (fun (r31 : Int32) => ((r31 < (1 : Int32)) → K61) ∧ (¬ (r31 < (1 : Int32)) → (((20 : Int32) < r31) → K61) ∧ (¬ ((20 : Int32) < r31) → ((((jush (oKc_8 0 5) r31) &&& (1 : Int32)) = 0) → K61) ∧ (¬ (((jush (oKc_8 0 5) r31) &&& (1 : Int32)) = 0) → (vp_in r31 21) ∧ (J72 (jld (oKc_8 3) r31)))))))))
def wpX7_shiftFits (oP : Ob) (oK : Ob) (v2 : Int32) (post : Int32 → Prop) : Prop := wpX5_toneCount oP (fun (r1 : Int32) => ∃ fu8 : Nat, wpX7_shiftFits_L8 v2 r1 oP oK post (post (1 : Int32)) (post (0 : Int32)) fu8 (0 : Int32))
theorem pdX7_shiftFits : yX7_shiftFits.cls = RX7 ∧ yX7_shiftFits.cls ≠ "java/lang/invoke/MethodHandle" ∧ yX7_shiftFits.cls ≠ "java/lang/invoke/VarHandle" ∧ (parseMethodDescriptor yX7_shiftFits.desc).map (fun d => d.parameters.length) = some 2 := by decide +kernel
theorem lkX7_shiftFits_93 : Cond.fieldLink RX7 93 (TX7 6).1 (TX7 6).2.1 (TX7 6).2.2.1 ∈ wsX7_shiftFits := by decide +kernel
theorem inX7_shiftFits_X7 : ∀ w ∈ u_ws RX7 TX7 7, w ∈ wsX7_shiftFits := by decide +kernel
theorem lkX7_shiftFits_90 : Cond.fieldLink RX7 90 (TX7 5).1 (TX7 5).2.1 (TX7 5).2.2.1 ∈ wsX7_shiftFits := by decide +kernel
theorem lkX7_shiftFits_18 : Cond.fieldLink RX7 18 (TX7 2).1 (TX7 2).2.1 (TX7 2).2.2.1 ∈ wsX7_shiftFits := by decide +kernel
set_option maxHeartbeats 4000000 in
set_option maxRecDepth 100000 in
theorem ctX7_shiftFits (l : Launch) (D : va_G) (cI cZ : ClassId) (qP : Nat → Nat) (qK : Nat → Nat) (oP : Ob) (oK : Ob) (v2 : Int32) (post : Int32 → Prop) (h : wpX7_shiftFits oP oK v2 post) : CTi l yX7_shiftFits wsX7_shiftFits { frames := 2, cells := 0, slots := 0, locals := 42 } D [(cI, .int), (cZ, .boolean)] [.ref (qK 0), .ref (qP 0), .int v2] (w5 cI cZ qP oP ++ w7 cI cZ qK oK) (fun _ : Unit => w5 cI cZ qP oP ++ w7 cI cZ qK oK) (fun (r : Int32) (_ : Unit) => post r) := by
  refine CTi.of (cc := cX7_shiftFits) (own := RX7) (maxL := 7) (ret := (some .boolean)) (lv0 := [(0, .ref (qK 0)), (1, .ref (qP 0)), (2, .int v2)]) (by decide) rfl rfl (Nat.le_of_ble_eq_true rfl) rfl ?_
  intro p e s m args below meth c A C
  unfold wpX7_shiftFits at h
  refine SW.aload_n C dX7_shiftFits_0 rfl 1 rfl ?_
  refine SW.callVi_sub (wr := w7 cI cZ qK oK) (wn := fun u : Unit => w5 cI cZ qP oP ++ w7 cI cZ qK oK) C (ctX5_toneCount l D cI cZ qP oP _ h) gX7_shiftFits_X5_toneCount rfl rfl rfl pdX5_toneCount ⟨by decide, by decide⟩ [0, 1] [2, 3, 4, 5] [4, 5, 0, 1, 2, 3] rfl rfl (by decide) (by decide) (by decide) (by decide) (fun _ => rfl) 0 rfl rfl rfl rfl rfl (Nat.le_of_ble_eq_true rfl) dX7_shiftFits_1 (by decide) (fun r1 u h => ?_)
  try dsimp only at h
  refine SW.istore_n (lv' := [(3, .int r1), (0, .ref (qK 0)), (1, .ref (qP 0)), (2, .int v2)]) C dX7_shiftFits_4 rfl (by decide) rfl ?_
  refine SW.iconst (v := (0 : Int32)) C dX7_shiftFits_5 (by decide) ?_
  refine SW.istore (lv' := [(4, .int (0 : Int32)), (3, .int r1), (0, .ref (qK 0)), (1, .ref (qP 0)), (2, .int v2)]) C dX7_shiftFits_6 (by decide) rfl ?_
  have L8 : ∀ (K102 : Prop) (hK102 : K102 → SW p l e { frames := 2, cells := 0, slots := 0, locals := 42 } s m args below meth c A D 7 0 0 (MQ below (va_Qi (fun (r : Int32) (_ : Unit) => post r) (ctB D A (fun _ : Unit => w5 cI cZ qP oP ++ w7 cI cZ qK oK)) A) args s 0 0 A) (w5 cI cZ qP oP ++ w7 cI cZ qK oK) 102 [] []) (K61 : Prop) (hK61 : K61 → SW p l e { frames := 2, cells := 0, slots := 0, locals := 42 } s m args below meth c A D 7 0 0 (MQ below (va_Qi (fun (r : Int32) (_ : Unit) => post r) (ctB D A (fun _ : Unit => w5 cI cZ qP oP ++ w7 cI cZ qK oK)) A) args s 0 0 A) (w5 cI cZ qP oP ++ w7 cI cZ qK oK) 61 [] []) (fu : Nat) (v4_8 : Int32), wpX7_shiftFits_L8 v2 r1 oP oK post K102 K61 fu v4_8 → SW p l e { frames := 2, cells := 0, slots := 0, locals := 42 } s m args below meth c A D 7 0 0 (MQ below (va_Qi (fun (r : Int32) (_ : Unit) => post r) (ctB D A (fun _ : Unit => w5 cI cZ qP oP ++ w7 cI cZ qK oK)) A) args s 0 0 A) (w5 cI cZ qP oP ++ w7 cI cZ qK oK) 8 [(0, .ref (qK 0)), (1, .ref (qP 0)), (2, .int v2), (3, .int r1), (4, .int v4_8)] [] := by
    intro K102 hK102 K61 hK61 fu
    induction fu with
    | zero =>
      intro v4_8 h
      exact False.elim h
    | succ fu ih =>
      intro v4_8 h
      unfold wpX7_shiftFits_L8 at h
      refine SW.iload C dX7_shiftFits_8 4 rfl ?_
      refine SW.iload_n C dX7_shiftFits_10 rfl 3 rfl ?_
      refine SW.iload_n C dX7_shiftFits_11 rfl 2 rfl ?_
      refine SW.iadd C dX7_shiftFits_12 ?_
      refine SW.icmp_ge (tgt := 102) C dX7_shiftFits_13 (by decide) (fun hc => ?_) (fun hc => ?_)
      · replace h := h.1 hc
        refine SW.sub [] rfl ?_
        exact hK102 h
      · replace h := h.2 hc
        refine SW.aload_n C dX7_shiftFits_16 rfl 0 rfl ?_
        refine SW.get (v := .int (oK 0 6)) (T := TX7) (N := 7) C inX7_shiftFits_X7 2 rfl rfl 6 (by decide) lkX7_shiftFits_93 rfl dX7_shiftFits_17 ?_
        refine SW.istore (lv' := [(5, .int (oK 0 6)), (0, .ref (qK 0)), (1, .ref (qP 0)), (2, .int v2), (3, .int r1), (4, .int v4_8)]) C dX7_shiftFits_20 (by decide) rfl ?_
        refine SW.iload C dX7_shiftFits_22 5 rfl ?_
        refine SW.iload_n C dX7_shiftFits_24 rfl 4 rfl ?_
        refine jn1_elim (G := fun v5_72 => SW p l e { frames := 2, cells := 0, slots := 0, locals := 42 } s m args below meth c A D 7 0 0 (MQ below (va_Qi (fun (r : Int32) (_ : Unit) => post r) (ctB D A (fun _ : Unit => w5 cI cZ qP oP ++ w7 cI cZ qK oK)) A) args s 0 0 A) (w5 cI cZ qP oP ++ w7 cI cZ qK oK) 72 [(0, .ref (qK 0)), (1, .ref (qP 0)), (2, .int v2), (3, .int r1), (4, .int v4_8), (5, .int v5_72)] []) h (fun v5_72 h => ?_) (fun J72 hJ72 h => ?_)
        · refine SW.iload C dX7_shiftFits_72 4 rfl ?_
          refine SW.iload_n C dX7_shiftFits_74 rfl 2 rfl ?_
          refine jn0_elim (G := SW p l e { frames := 2, cells := 0, slots := 0, locals := 42 } s m args below meth c A D 7 0 0 (MQ below (va_Qi (fun (r : Int32) (_ : Unit) => post r) (ctB D A (fun _ : Unit => w5 cI cZ qP oP ++ w7 cI cZ qK oK)) A) args s 0 0 A) (w5 cI cZ qP oP ++ w7 cI cZ qK oK) 96 [(0, .ref (qK 0)), (1, .ref (qP 0)), (2, .int v2), (3, .int r1), (4, .int v4_8)] []) h (fun h => ?_) (fun J96 hJ96 h => ?_)
          · refine SW.iinc (q := 4) (v := (v4_8 + (1 : Int32))) (lv' := [(4, .int (v4_8 + (1 : Int32))), (0, .ref (qK 0)), (1, .ref (qP 0)), (2, .int v2), (3, .int r1)]) C dX7_shiftFits_96 rfl rfl (by decide) rfl ?_
            refine SW.goto (tgt := 8) C dX7_shiftFits_99 (by decide) ?_
            refine SW.sub [1, 2, 3, 4, 0] rfl ?_
            exact ih _ h
          · refine SW.icmp_lt (tgt := 96) C dX7_shiftFits_75 (by decide) (fun hc => ?_) (fun hc => ?_)
            · replace h := h.1 hc
              refine SW.sub [0, 1, 2, 3, 4] rfl ?_
              exact hJ96 h
            · replace h := h.2 hc
              refine SW.iload C dX7_shiftFits_78 5 rfl ?_
              refine SW.aload_n C dX7_shiftFits_80 rfl 1 rfl ?_
              refine SW.iload C dX7_shiftFits_81 4 rfl ?_
              refine SW.iload_n C dX7_shiftFits_83 rfl 2 rfl ?_
              refine SW.isub C dX7_shiftFits_84 ?_
              refine SW.callVi_sub (wr := w7 cI cZ qK oK) (wn := fun u : Unit => w5 cI cZ qP oP ++ w7 cI cZ qK oK) C (ctX5_toneAt l D cI cZ qP oP (v4_8 - v2) _ h) gX7_shiftFits_X5_toneAt rfl rfl rfl pdX5_toneAt ⟨by decide, by decide⟩ [0, 1] [2, 3, 4, 5] [4, 5, 0, 1, 2, 3] rfl rfl (by decide) (by decide) (by decide) (by decide) (fun _ => rfl) 0 rfl rfl rfl rfl rfl (Nat.le_of_ble_eq_true rfl) dX7_shiftFits_85 (by decide) (fun r85 u h => ?_)
              try dsimp only at h
              refine SW.iushr C dX7_shiftFits_88 ?_
              refine SW.iconst (v := (1 : Int32)) C dX7_shiftFits_89 (by decide) ?_
              refine SW.iand C dX7_shiftFits_90 ?_
              refine SW.if_ne (tgt := 96) C dX7_shiftFits_91 (by decide) (fun hc => ?_) (fun hc => ?_)
              · replace h := h.2 hc
                refine SW.sub [0, 1, 2, 3, 4] rfl ?_
                exact hJ96 h
              · replace h := h.1 hc
                refine SW.iconst (v := (0 : Int32)) C dX7_shiftFits_94 (by decide) ?_
                exact SW.zret C () (by decide) rfl h dX7_shiftFits_95
        · refine SW.icmp_ge (tgt := 72) C dX7_shiftFits_25 (by decide) (fun hc => ?_) (fun hc => ?_)
          · replace h := h.1 hc
            refine SW.sub [1, 2, 3, 4, 5, 0] rfl ?_
            exact hJ72 _ h
          · replace h := h.2 hc
            refine SW.aload_n C dX7_shiftFits_28 rfl 2 rfl ?_
            refine SW.iload C dX7_shiftFits_29 5 rfl ?_
            refine SW.callVi_sub (wr := w7 cI cZ qK oK) (wn := fun u : Unit => w5 cI cZ qP oP ++ w7 cI cZ qK oK) C (ctX5_toneAt l D cI cZ qP oP v4_8 _ h) gX7_shiftFits_X5_toneAt rfl rfl rfl pdX5_toneAt ⟨by decide, by decide⟩ [0, 1] [2, 3, 4, 5] [4, 5, 0, 1, 2, 3] rfl rfl (by decide) (by decide) (by decide) (by decide) (fun _ => rfl) 0 rfl rfl rfl rfl rfl (Nat.le_of_ble_eq_true rfl) dX7_shiftFits_31 (by decide) (fun r31 u h => ?_)
            try dsimp only at h
            refine SW.istore (lv' := [(6, .int r31), (5, .int (oK 0 6)), (0, .ref (qK 0)), (1, .ref (qP 0)), (2, .int v2), (3, .int r1), (4, .int v4_8)]) C dX7_shiftFits_34 (by decide) rfl ?_
            refine SW.iload C dX7_shiftFits_36 0 rfl ?_
            refine SW.iconst (v := (1 : Int32)) C dX7_shiftFits_38 (by decide) ?_
            refine SW.icmp_lt (tgt := 61) C dX7_shiftFits_39 (by decide) (fun hc => ?_) (fun hc => ?_)
            · replace h := h.1 hc
              refine SW.sub [] rfl ?_
              exact hK61 h
            · replace h := h.2 hc
              refine SW.iload C dX7_shiftFits_42 0 rfl ?_
              refine SW.bipush (v := (20 : Int32)) C dX7_shiftFits_44 (by decide) ?_
              refine SW.icmp_gt (tgt := 61) C dX7_shiftFits_46 (by decide) (fun hc => ?_) (fun hc => ?_)
              · replace h := h.1 hc
                refine SW.sub [] rfl ?_
                exact hK61 h
              · replace h := h.2 hc
                refine SW.aload_n C dX7_shiftFits_49 rfl 2 rfl ?_
                refine SW.get (v := .int (oK 0 5)) (T := TX7) (N := 7) C inX7_shiftFits_X7 2 rfl rfl 5 (by decide) lkX7_shiftFits_90 rfl dX7_shiftFits_50 ?_
                refine SW.iload C dX7_shiftFits_53 0 rfl ?_
                refine SW.iushr C dX7_shiftFits_55 ?_
                refine SW.iconst (v := (1 : Int32)) C dX7_shiftFits_56 (by decide) ?_
                refine SW.iand C dX7_shiftFits_57 ?_
                refine SW.if_ne (tgt := 63) C dX7_shiftFits_58 (by decide) (fun hc => ?_) (fun hc => ?_)
                · replace h := h.2 hc
                  refine SW.aload_n C dX7_shiftFits_63 rfl 2 rfl ?_
                  refine SW.get (v := .ref (qK 3)) (T := TX7) (N := 7) C inX7_shiftFits_X7 2 rfl rfl 2 (by decide) lkX7_shiftFits_18 rfl dX7_shiftFits_64 ?_
                  refine SW.iload C dX7_shiftFits_67 0 rfl ?_
                  refine SW.iald C 5 0 rfl rfl h.1 dX7_shiftFits_69 ?_
                  replace h := h.2
                  refine SW.istore (lv' := [(5, .int (jld (oK 3) r31)), (6, .int r31), (0, .ref (qK 0)), (1, .ref (qP 0)), (2, .int v2), (3, .int r1), (4, .int v4_8)]) C dX7_shiftFits_70 (by decide) rfl ?_
                  refine SW.sub [2, 3, 4, 5, 6, 0] rfl ?_
                  exact hJ72 _ h
                · replace h := h.1 hc
                  refine SW.sub [] rfl ?_
                  exact hK61 h
  obtain ⟨fu, h⟩ := h
  refine SW.sub [2, 3, 4, 1, 0] rfl ?_
  refine L8 _ (fun h => ?_) _ (fun h => ?_) fu _ h
  · refine SW.iconst (v := (1 : Int32)) C dX7_shiftFits_102 (by decide) ?_
    exact SW.zret C () (by decide) rfl h dX7_shiftFits_103
  · refine SW.iconst (v := (0 : Int32)) C dX7_shiftFits_61 (by decide) ?_
    exact SW.zret C () (by decide) rfl h dX7_shiftFits_62
def wpX7_fittingShifts_L13 (oPc_13 : Ob) (oKc_13 : Ob) (K49 : Int32 → Prop) : Nat → Int32 → Int32 → Prop
  | 0, _, _ => False
  | fu13 + 1, v5_13, v6_13 => wpX5_toneCount oPc_13 (fun (r17 : Int32) => ((r17 ≤ v6_13) → K49 v5_13) ∧ (¬ (r17 ≤ v6_13) → wpX7_shiftFits oPc_13 oKc_13 v6_13 (fun (r28 : Int32) => jn1 (fun (v5_43 : Int32) => wpX7_fittingShifts_L13 oPc_13 oKc_13 K49 fu13 v5_43 (v6_13 + (1 : Int32))) (fun J43 => ((r28 = 0) → J43 v5_13) ∧ (¬ (r28 = 0) → J43 (v5_13 ||| (jshl (1 : Int32) v6_13)))))))
def wpX7_fittingShifts (oS : Ob) (oP : Ob) (oK : Ob) (v2 : Int32) (v3 : Int32) (post : Int32 → Ob → Prop) : Prop := wpX7_notePartners oS oK v2 v3 (fun (oK_4 : Ob) => ∃ fu13 : Nat, wpX7_fittingShifts_L13 oP oK_4 (fun (v5_49 : Int32) => post v5_49 oK_4) fu13 (0 : Int32) (0 : Int32))
theorem pdX7_fittingShifts : yX7_fittingShifts.cls = RX7 ∧ yX7_fittingShifts.cls ≠ "java/lang/invoke/MethodHandle" ∧ yX7_fittingShifts.cls ≠ "java/lang/invoke/VarHandle" ∧ (parseMethodDescriptor yX7_fittingShifts.desc).map (fun d => d.parameters.length) = some 4 := by decide +kernel
set_option maxHeartbeats 4000000 in
set_option maxRecDepth 100000 in
theorem ctX7_fittingShifts (l : Launch) (D : va_G) (cI cZ : ClassId) (qS : Nat → Nat) (qP : Nat → Nat) (qK : Nat → Nat) (oS : Ob) (oP : Ob) (oK : Ob) (v2 : Int32) (v3 : Int32) (post : Int32 → Ob → Prop) (h : wpX7_fittingShifts oS oP oK v2 v3 post) : CTi l yX7_fittingShifts wsX7_fittingShifts { frames := 4, cells := 0, slots := 0, locals := 91 } D [(cI, .int), (cZ, .boolean)] [.ref (qK 0), .ref (qS 0), .int v2, .int v3, .ref (qP 0)] (w8 cI cZ qS oS ++ w5 cI cZ qP oP ++ w7 cI cZ qK oK) (fun u : Ob => w8 cI cZ qS oS ++ w5 cI cZ qP oP ++ w7 cI cZ qK u) (fun (r : Int32) (u : Ob) => post r u) := by
  refine CTi.of (cc := cX7_fittingShifts) (own := RX7) (maxL := 7) (ret := (some .int)) (lv0 := [(0, .ref (qK 0)), (1, .ref (qS 0)), (2, .int v2), (3, .int v3), (4, .ref (qP 0))]) (by decide) rfl rfl (Nat.le_of_ble_eq_true rfl) rfl ?_
  intro p e s m args below meth c A C
  unfold wpX7_fittingShifts at h
  refine SW.aload_n C dX7_fittingShifts_0 rfl 0 rfl ?_
  refine SW.aload_n C dX7_fittingShifts_1 rfl 1 rfl ?_
  refine SW.iload_n C dX7_fittingShifts_2 rfl 2 rfl ?_
  refine SW.iload_n C dX7_fittingShifts_3 rfl 3 rfl ?_
  refine SW.callVv_sub (wr := w5 cI cZ qP oP) (wn := fun u : Ob => w8 cI cZ qS oS ++ w5 cI cZ qP oP ++ w7 cI cZ qK u) C (ctX7_notePartners l D cI cZ qS qK oS oK v2 v3 _ h) gX7_fittingShifts_X7_notePartners rfl rfl rfl pdX7_notePartners ⟨by decide, by decide⟩ [0, 1, 2, 3, 4, 5, 6, 9, 10, 11, 12] [7, 8] [2, 3, 4, 5, 6, 7, 8, 0, 1, 9, 10, 11, 12] rfl rfl (by decide) (by decide) (by decide) (by decide) (fun _ => rfl) 7 rfl rfl rfl rfl rfl (Nat.le_of_ble_eq_true rfl) dX7_fittingShifts_4 (by decide) (fun u h => ?_)
  obtain ⟨oK_4, rfl⟩ : ∃ z, z = u := ⟨_, rfl⟩
  try dsimp only at h
  refine SW.iconst (v := (0 : Int32)) C dX7_fittingShifts_7 (by decide) ?_
  refine SW.istore (lv' := [(5, .int (0 : Int32)), (0, .ref (qK 0)), (1, .ref (qS 0)), (2, .int v2), (3, .int v3), (4, .ref (qP 0))]) C dX7_fittingShifts_8 (by decide) rfl ?_
  refine SW.iconst (v := (0 : Int32)) C dX7_fittingShifts_10 (by decide) ?_
  refine SW.istore (lv' := [(6, .int (0 : Int32)), (5, .int (0 : Int32)), (0, .ref (qK 0)), (1, .ref (qS 0)), (2, .int v2), (3, .int v3), (4, .ref (qP 0))]) C dX7_fittingShifts_11 (by decide) rfl ?_
  have L13 : ∀ (K49 : Int32 → Prop) (hK49 : ∀ (v5_49 : Int32), K49 v5_49 → SW p l e { frames := 4, cells := 0, slots := 0, locals := 91 } s m args below meth c A D 7 0 0 (MQ below (va_Qi (fun (r : Int32) (u : Ob) => post r u) (ctB D A (fun u : Ob => w8 cI cZ qS oS ++ w5 cI cZ qP oP ++ w7 cI cZ qK u)) A) args s 0 0 A) (w8 cI cZ qS oS ++ w5 cI cZ qP oP ++ w7 cI cZ qK oK_4) 49 [(5, .int v5_49)] []) (fu : Nat) (v5_13 : Int32) (v6_13 : Int32), wpX7_fittingShifts_L13 oP oK_4 K49 fu v5_13 v6_13 → SW p l e { frames := 4, cells := 0, slots := 0, locals := 91 } s m args below meth c A D 7 0 0 (MQ below (va_Qi (fun (r : Int32) (u : Ob) => post r u) (ctB D A (fun u : Ob => w8 cI cZ qS oS ++ w5 cI cZ qP oP ++ w7 cI cZ qK u)) A) args s 0 0 A) (w8 cI cZ qS oS ++ w5 cI cZ qP oP ++ w7 cI cZ qK oK_4) 13 [(0, .ref (qK 0)), (4, .ref (qP 0)), (5, .int v5_13), (6, .int v6_13)] [] := by
    intro K49 hK49 fu
    induction fu with
    | zero =>
      intro v5_13 v6_13 h
      exact False.elim h
    | succ fu ih =>
      intro v5_13 v6_13 h
      unfold wpX7_fittingShifts_L13 at h
      refine SW.iload C dX7_fittingShifts_13 3 rfl ?_
      refine SW.aload C dX7_fittingShifts_15 1 rfl ?_
      refine SW.callVi_sub (wr := w8 cI cZ qS oS ++ w7 cI cZ qK oK_4) (wn := fun u : Unit => w8 cI cZ qS oS ++ w5 cI cZ qP oP ++ w7 cI cZ qK oK_4) C (ctX5_toneCount l D cI cZ qP oP _ h) gX7_fittingShifts_X5_toneCount rfl rfl rfl pdX5_toneCount ⟨by decide, by decide⟩ [7, 8] [0, 1, 2, 3, 4, 5, 6, 9, 10, 11, 12] [0, 1, 2, 3, 4, 5, 6, 11, 12, 7, 8, 9, 10] rfl rfl (by decide) (by decide) (by decide) (by decide) (fun _ => rfl) 0 rfl rfl rfl rfl rfl (Nat.le_of_ble_eq_true rfl) dX7_fittingShifts_17 (by decide) (fun r17 u h => ?_)
      try dsimp only at h
      refine SW.icmp_ge (tgt := 49) C dX7_fittingShifts_20 (by decide) (fun hc => ?_) (fun hc => ?_)
      · replace h := h.1 hc
        refine SW.sub [2] rfl ?_
        exact hK49 _ h
      · replace h := h.2 hc
        refine SW.aload_n C dX7_fittingShifts_23 rfl 0 rfl ?_
        refine SW.aload C dX7_fittingShifts_24 1 rfl ?_
        refine SW.iload C dX7_fittingShifts_26 3 rfl ?_
        refine SW.callVi_sub (wr := w8 cI cZ qS oS) (wn := fun u : Unit => w8 cI cZ qS oS ++ w5 cI cZ qP oP ++ w7 cI cZ qK oK_4) C (ctX7_shiftFits l D cI cZ qP qK oP oK_4 v6_13 _ h) gX7_fittingShifts_X7_shiftFits rfl rfl rfl pdX7_shiftFits ⟨by decide, by decide⟩ [7, 8, 9, 10, 11, 12] [0, 1, 2, 3, 4, 5, 6] [0, 1, 2, 3, 4, 5, 6, 7, 8, 9, 10, 11, 12] rfl rfl (by decide) (by decide) (by decide) (by decide) (fun _ => rfl) 2 rfl rfl rfl rfl rfl (Nat.le_of_ble_eq_true rfl) dX7_fittingShifts_28 (by decide) (fun r28 u h => ?_)
        try dsimp only at h
        refine jn1_elim (G := fun v5_43 => SW p l e { frames := 4, cells := 0, slots := 0, locals := 91 } s m args below meth c A D 7 0 0 (MQ below (va_Qi (fun (r : Int32) (u : Ob) => post r u) (ctB D A (fun u : Ob => w8 cI cZ qS oS ++ w5 cI cZ qP oP ++ w7 cI cZ qK u)) A) args s 0 0 A) (w8 cI cZ qS oS ++ w5 cI cZ qP oP ++ w7 cI cZ qK oK_4) 43 [(0, .ref (qK 0)), (4, .ref (qP 0)), (5, .int v5_43), (6, .int v6_13)] []) h (fun v5_43 h => ?_) (fun J43 hJ43 h => ?_)
        · refine SW.iinc (q := 3) (v := (v6_13 + (1 : Int32))) (lv' := [(6, .int (v6_13 + (1 : Int32))), (0, .ref (qK 0)), (4, .ref (qP 0)), (5, .int v5_43)]) C dX7_fittingShifts_43 rfl rfl (by decide) rfl ?_
          refine SW.goto (tgt := 13) C dX7_fittingShifts_46 (by decide) ?_
          refine SW.sub [1, 2, 3, 0] rfl ?_
          exact ih _ _ h
        · refine SW.if_eq (tgt := 43) C dX7_fittingShifts_31 (by decide) (fun hc => ?_) (fun hc => ?_)
          · replace h := h.1 hc
            exact hJ43 _ h
          · replace h := h.2 hc
            refine SW.iload C dX7_fittingShifts_34 2 rfl ?_
            refine SW.iconst (v := (1 : Int32)) C dX7_fittingShifts_36 (by decide) ?_
            refine SW.iload C dX7_fittingShifts_37 3 rfl ?_
            refine SW.ishl C dX7_fittingShifts_39 ?_
            refine SW.ior C dX7_fittingShifts_40 ?_
            refine SW.istore (lv' := [(5, .int (v5_13 ||| (jshl (1 : Int32) v6_13))), (0, .ref (qK 0)), (4, .ref (qP 0)), (6, .int v6_13)]) C dX7_fittingShifts_41 (by decide) rfl ?_
            refine SW.sub [1, 2, 0, 3] rfl ?_
            exact hJ43 _ h
  obtain ⟨fu, h⟩ := h
  refine SW.sub [2, 6, 1, 0] rfl ?_
  refine L13 _ (fun v5_49 h => ?_) fu _ _ h
  · refine SW.iload C dX7_fittingShifts_49 0 rfl ?_
    exact SW.iret C oK_4 rfl h dX7_fittingShifts_51
def wpX9_isOutside (v0 : Int32) (v1 : Int32) (v2 : Int32) (post : Int32 → Prop) : Prop := jn0 (post (1 : Int32)) (fun J10 => ((v0 < v1) → J10) ∧ (¬ (v0 < v1) → ((v0 ≤ v2) → post (0 : Int32)) ∧ (¬ (v0 ≤ v2) → J10)))
theorem pdX9_isOutside : yX9_isOutside.cls ≠ "java/lang/invoke/MethodHandle" ∧ yX9_isOutside.cls ≠ "java/lang/invoke/VarHandle" ∧ (parseMethodDescriptor yX9_isOutside.desc).map (fun d => d.parameters.length) = some 3 := by decide +kernel
set_option maxHeartbeats 4000000 in
set_option maxRecDepth 100000 in
theorem ctX9_isOutside (l : Launch) (D : va_G) (cI cZ : ClassId) (v0 : Int32) (v1 : Int32) (v2 : Int32) (post : Int32 → Prop) (h : wpX9_isOutside v0 v1 v2 post) : CTi l yX9_isOutside wsX9_isOutside { frames := 0, cells := 0, slots := 0, locals := 0 } D [(cI, .int), (cZ, .boolean)] [.int v0, .int v1, .int v2] (([] : va_W)) (fun _ : Unit => ([] : va_W)) (fun (r : Int32) (_ : Unit) => post r) := by
  refine CTi.of (cc := cX9_isOutside) (own := RX9) (maxL := 3) (ret := (some .boolean)) (lv0 := [(0, .int v0), (1, .int v1), (2, .int v2)]) (by decide) rfl rfl (Nat.le_of_ble_eq_true rfl) rfl ?_
  intro p e s m args below meth c A C
  unfold wpX9_isOutside at h
  refine SW.iload_n C dX9_isOutside_0 rfl 0 rfl ?_
  refine SW.iload_n C dX9_isOutside_1 rfl 1 rfl ?_
  refine jn0_elim (G := SW p l e { frames := 0, cells := 0, slots := 0, locals := 0 } s m args below meth c A D 3 0 0 (MQ below (va_Qi (fun (r : Int32) (_ : Unit) => post r) (ctB D A (fun _ : Unit => ([] : va_W))) A) args s 0 0 A) (([] : va_W)) 10 [] []) h (fun h => ?_) (fun J10 hJ10 h => ?_)
  · refine SW.iconst (v := (1 : Int32)) C dX9_isOutside_10 (by decide) ?_
    refine SW.goto (tgt := 15) C dX9_isOutside_11 (by decide) ?_
    exact SW.zret C () (by decide) rfl h dX9_isOutside_15
  · refine SW.icmp_lt (tgt := 10) C dX9_isOutside_2 (by decide) (fun hc => ?_) (fun hc => ?_)
    · replace h := h.1 hc
      refine SW.sub [] rfl ?_
      exact hJ10 h
    · replace h := h.2 hc
      refine SW.iload_n C dX9_isOutside_5 rfl 0 rfl ?_
      refine SW.iload_n C dX9_isOutside_6 rfl 2 rfl ?_
      refine SW.icmp_le (tgt := 14) C dX9_isOutside_7 (by decide) (fun hc => ?_) (fun hc => ?_)
      · replace h := h.1 hc
        refine SW.iconst (v := (0 : Int32)) C dX9_isOutside_14 (by decide) ?_
        exact SW.zret C () (by decide) rfl h dX9_isOutside_15
      · replace h := h.2 hc
        refine SW.sub [] rfl ?_
        exact hJ10 h
