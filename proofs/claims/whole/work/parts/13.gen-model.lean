def wpX10_clear_L22 (K48 : Ob → Prop) : Nat → Int32 → Ob → Prop
  | 0, _, _ => False
  | fu22 + 1, v1_22, oY_22 => (((10 : Int32) ≤ v1_22) → K48 oY_22) ∧ (¬ ((10 : Int32) ≤ v1_22) → (vp_in v1_22 10) ∧ (∀ oY_41n : Ob, oY_41n = (pa oY_22 1 (nC v1_22) (2 : Int32)) → ((vp_in v1_22 10) ∧ (wpX10_clear_L22 K48 fu22 (v1_22 + (1 : Int32)) (pa oY_41n 2 (nC v1_22) (0 : Int32))))))
def wpX10_clear (oY : Ob) (post : Ob → Prop) : Prop := ∃ fu22 : Nat, wpX10_clear_L22 (fun (oY_48 : Ob) => post oY_48) fu22 (0 : Int32) (pf (pf (pf (pf oY 2 (2 : Int32)) 5 (0 : Int32)) 6 (0 : Int32)) 8 (0 : Int32))
theorem pdX10_clear : yX10_clear.cls = RX10 ∧ yX10_clear.cls ≠ "java/lang/invoke/MethodHandle" ∧ yX10_clear.cls ≠ "java/lang/invoke/VarHandle" ∧ (parseMethodDescriptor yX10_clear.desc).map (fun d => d.parameters.length) = some 0 := by decide +kernel
theorem lkX10_clear_17 : Cond.fieldLink RX10 17 (TX10 2).1 (TX10 2).2.1 (TX10 2).2.2.1 ∈ wsX10_clear := by decide +kernel
theorem inX10_clear_X10 : ∀ w ∈ u_ws RX10 TX10 25, w ∈ wsX10_clear := by decide +kernel
theorem lkX10_clear_60 : Cond.fieldLink RX10 60 (TX10 5).1 (TX10 5).2.1 (TX10 5).2.2.1 ∈ wsX10_clear := by decide +kernel
theorem lkX10_clear_63 : Cond.fieldLink RX10 63 (TX10 6).1 (TX10 6).2.1 (TX10 6).2.2.1 ∈ wsX10_clear := by decide +kernel
theorem lkX10_clear_66 : Cond.fieldLink RX10 66 (TX10 8).1 (TX10 8).2.1 (TX10 8).2.2.1 ∈ wsX10_clear := by decide +kernel
theorem lkX10_clear_13 : Cond.fieldLink RX10 13 (TX10 1).1 (TX10 1).2.1 (TX10 1).2.2.1 ∈ wsX10_clear := by decide +kernel
theorem lkX10_clear_26 : Cond.fieldLink RX10 26 (TX10 7).1 (TX10 7).2.1 (TX10 7).2.2.1 ∈ wsX10_clear := by decide +kernel
set_option maxHeartbeats 4000000 in
set_option maxRecDepth 100000 in
theorem ctX10_clear (l : Launch) (D : va_G) (cI cZ : ClassId) (qY : Nat → Nat) (oY : Ob) (post : Ob → Prop) (h : wpX10_clear oY post) : CTv l yX10_clear wsX10_clear { frames := 0, cells := 0, slots := 0, locals := 0 } D [(cI, .int), (cZ, .boolean)] [.ref (qY 0)] (w10 cI cZ qY oY) (fun u : Ob => w10 cI cZ qY u) (fun (u : Ob) => post u) := by
  refine CTv.of (cc := cX10_clear) (own := RX10) (maxL := 2) (ret := none) (lv0 := [(0, .ref (qY 0))]) (by decide) rfl rfl (Nat.le_of_ble_eq_true rfl) rfl ?_
  intro p e s m args below meth c A C
  unfold wpX10_clear at h
  refine SW.aload_n C dX10_clear_0 rfl 0 rfl ?_
  refine SW.iconst (v := (2 : Int32)) C dX10_clear_1 (by decide) ?_
  refine SW.put (ws' := w10 cI cZ qY (pf oY 2 (2 : Int32))) (T := TX10) (N := 25) C inX10_clear_X10 tyX10 tyX10_ok nmX10 0 rfl rfl 2 (by decide) lkX10_clear_17 rfl rfl rfl (Nat.le_of_ble_eq_true rfl) rfl dX10_clear_2 ?_
  refine SW.aload_n C dX10_clear_5 rfl 0 rfl ?_
  refine SW.iconst (v := (0 : Int32)) C dX10_clear_6 (by decide) ?_
  refine SW.put (ws' := w10 cI cZ qY (pf (pf oY 2 (2 : Int32)) 5 (0 : Int32))) (T := TX10) (N := 25) C inX10_clear_X10 tyX10 tyX10_ok nmX10 0 rfl rfl 5 (by decide) lkX10_clear_60 rfl rfl rfl (Nat.le_of_ble_eq_true rfl) rfl dX10_clear_7 ?_
  refine SW.aload_n C dX10_clear_10 rfl 0 rfl ?_
  refine SW.iconst (v := (0 : Int32)) C dX10_clear_11 (by decide) ?_
  refine SW.put (ws' := w10 cI cZ qY (pf (pf (pf oY 2 (2 : Int32)) 5 (0 : Int32)) 6 (0 : Int32))) (T := TX10) (N := 25) C inX10_clear_X10 tyX10 tyX10_ok nmX10 0 rfl rfl 6 (by decide) lkX10_clear_63 rfl rfl rfl (Nat.le_of_ble_eq_true rfl) rfl dX10_clear_12 ?_
  refine SW.aload_n C dX10_clear_15 rfl 0 rfl ?_
  refine SW.iconst (v := (0 : Int32)) C dX10_clear_16 (by decide) ?_
  refine SW.put (ws' := w10 cI cZ qY (pf (pf (pf (pf oY 2 (2 : Int32)) 5 (0 : Int32)) 6 (0 : Int32)) 8 (0 : Int32))) (T := TX10) (N := 25) C inX10_clear_X10 tyX10 tyX10_ok nmX10 0 rfl rfl 8 (by decide) lkX10_clear_66 rfl rfl rfl (Nat.le_of_ble_eq_true rfl) rfl dX10_clear_17 ?_
  refine SW.iconst (v := (0 : Int32)) C dX10_clear_20 (by decide) ?_
  refine SW.istore_n (lv' := [(1, .int (0 : Int32)), (0, .ref (qY 0))]) C dX10_clear_21 rfl (by decide) rfl ?_
  have L22 : ∀ (K48 : Ob → Prop) (hK48 : ∀ (oY_48 : Ob), K48 oY_48 → SW p l e { frames := 0, cells := 0, slots := 0, locals := 0 } s m args below meth c A D 2 0 0 (MQ below (va_Qv (fun (u : Ob) => post u) (ctB D A (fun u : Ob => w10 cI cZ qY u)) A) args s 0 0 A) (w10 cI cZ qY oY_48) 48 [] []) (fu : Nat) (v1_22 : Int32) (oY_22 : Ob), wpX10_clear_L22 K48 fu v1_22 oY_22 → SW p l e { frames := 0, cells := 0, slots := 0, locals := 0 } s m args below meth c A D 2 0 0 (MQ below (va_Qv (fun (u : Ob) => post u) (ctB D A (fun u : Ob => w10 cI cZ qY u)) A) args s 0 0 A) (w10 cI cZ qY oY_22) 22 [(0, .ref (qY 0)), (1, .int v1_22)] [] := by
    intro K48 hK48 fu
    induction fu with
    | zero =>
      intro v1_22 oY_22 h
      exact False.elim h
    | succ fu ih =>
      intro v1_22 oY_22 h
      unfold wpX10_clear_L22 at h
      refine SW.iload_n C dX10_clear_22 rfl 1 rfl ?_
      refine SW.bipush (v := (10 : Int32)) C dX10_clear_23 (by decide) ?_
      refine SW.icmp_ge (tgt := 48) C dX10_clear_25 (by decide) (fun hc => ?_) (fun hc => ?_)
      · replace h := h.1 hc
        refine SW.sub [] rfl ?_
        exact hK48 _ h
      · replace h := h.2 hc
        refine SW.aload_n C dX10_clear_28 rfl 0 rfl ?_
        refine SW.get (v := .ref (qY 1)) (T := TX10) (N := 25) C inX10_clear_X10 0 rfl rfl 1 (by decide) lkX10_clear_13 rfl dX10_clear_29 ?_
        refine SW.iload_n C dX10_clear_32 rfl 1 rfl ?_
        refine SW.iconst (v := (2 : Int32)) C dX10_clear_33 (by decide) ?_
        refine SW.iast (ws' := w10 cI cZ qY (pa oY_22 1 (nC v1_22) (2 : Int32))) C 1 0 rfl rfl h.1 rfl dX10_clear_34 ?_
        replace h := h.2
        refine SW.aload_n C dX10_clear_35 rfl 0 rfl ?_
        refine SW.get (v := .ref (qY 2)) (T := TX10) (N := 25) C inX10_clear_X10 0 rfl rfl 7 (by decide) lkX10_clear_26 rfl dX10_clear_36 ?_
        refine SW.iload_n C dX10_clear_39 rfl 1 rfl ?_
        refine SW.iconst (v := (0 : Int32)) C dX10_clear_40 (by decide) ?_
        refine SW.nameOb (wz := fun z => w10 cI cZ qY z) (o := (pa oY_22 1 (nC v1_22) (2 : Int32))) (fun oY_41n he => ?_)
        replace h := h oY_41n he
        refine SW.iast (ws' := w10 cI cZ qY (pa oY_41n 2 (nC v1_22) (0 : Int32))) C 2 0 rfl rfl h.1 rfl dX10_clear_41 ?_
        replace h := h.2
        refine SW.iinc (q := 1) (v := (v1_22 + (1 : Int32))) (lv' := [(1, .int (v1_22 + (1 : Int32))), (0, .ref (qY 0))]) C dX10_clear_42 rfl rfl (by decide) rfl ?_
        refine SW.goto (tgt := 22) C dX10_clear_45 (by decide) ?_
        refine SW.sub [1, 0] rfl ?_
        exact ih _ _ h
  obtain ⟨fu, h⟩ := h
  refine SW.sub [1, 0] rfl ?_
  refine L22 _ (fun oY_48 h => ?_) fu _ _ h
  · exact SW.vret C oY_48 rfl h dX10_clear_48
def wpX10_in (v0 : Int32) (v1 : Int32) (v2 : Int32) (post : Int32 → Prop) : Prop := jn0 (post (0 : Int32)) (fun J14 => ((v0 < v1) → J14) ∧ (¬ (v0 < v1) → ((v2 < v0) → J14) ∧ (¬ (v2 < v0) → post (1 : Int32))))
theorem pdX10_in : yX10_in.cls ≠ "java/lang/invoke/MethodHandle" ∧ yX10_in.cls ≠ "java/lang/invoke/VarHandle" ∧ (parseMethodDescriptor yX10_in.desc).map (fun d => d.parameters.length) = some 3 := by decide +kernel
set_option maxHeartbeats 4000000 in
set_option maxRecDepth 100000 in
theorem ctX10_in (l : Launch) (D : va_G) (cI cZ : ClassId) (v0 : Int32) (v1 : Int32) (v2 : Int32) (post : Int32 → Prop) (h : wpX10_in v0 v1 v2 post) : CTi l yX10_in wsX10_in { frames := 0, cells := 0, slots := 0, locals := 0 } D [(cI, .int), (cZ, .boolean)] [.int v0, .int v1, .int v2] (([] : va_W)) (fun _ : Unit => ([] : va_W)) (fun (r : Int32) (_ : Unit) => post r) := by
  refine CTi.of (cc := cX10_in) (own := RX10) (maxL := 3) (ret := (some .boolean)) (lv0 := [(0, .int v0), (1, .int v1), (2, .int v2)]) (by decide) rfl rfl (Nat.le_of_ble_eq_true rfl) rfl ?_
  intro p e s m args below meth c A C
  unfold wpX10_in at h
  refine SW.iload_n C dX10_in_0 rfl 0 rfl ?_
  refine SW.iload_n C dX10_in_1 rfl 1 rfl ?_
  refine jn0_elim (G := SW p l e { frames := 0, cells := 0, slots := 0, locals := 0 } s m args below meth c A D 3 0 0 (MQ below (va_Qi (fun (r : Int32) (_ : Unit) => post r) (ctB D A (fun _ : Unit => ([] : va_W))) A) args s 0 0 A) (([] : va_W)) 14 [] []) h (fun h => ?_) (fun J14 hJ14 h => ?_)
  · refine SW.iconst (v := (0 : Int32)) C dX10_in_14 (by decide) ?_
    exact SW.zret C () (by decide) rfl h dX10_in_15
  · refine SW.icmp_lt (tgt := 14) C dX10_in_2 (by decide) (fun hc => ?_) (fun hc => ?_)
    · replace h := h.1 hc
      refine SW.sub [] rfl ?_
      exact hJ14 h
    · replace h := h.2 hc
      refine SW.iload_n C dX10_in_5 rfl 0 rfl ?_
      refine SW.iload_n C dX10_in_6 rfl 2 rfl ?_
      refine SW.icmp_gt (tgt := 14) C dX10_in_7 (by decide) (fun hc => ?_) (fun hc => ?_)
      · replace h := h.1 hc
        refine SW.sub [] rfl ?_
        exact hJ14 h
      · replace h := h.2 hc
        refine SW.iconst (v := (1 : Int32)) C dX10_in_10 (by decide) ?_
        refine SW.goto (tgt := 15) C dX10_in_11 (by decide) ?_
        exact SW.zret C () (by decide) rfl h dX10_in_15
def wpX10_has (v0 : Int32) (v1 : Int32) (post : Int32 → Prop) : Prop := ((((jshr v0 v1) &&& (1 : Int32)) = (1 : Int32)) → post (1 : Int32)) ∧ (¬ (((jshr v0 v1) &&& (1 : Int32)) = (1 : Int32)) → post (0 : Int32))
theorem pdX10_has : yX10_has.cls ≠ "java/lang/invoke/MethodHandle" ∧ yX10_has.cls ≠ "java/lang/invoke/VarHandle" ∧ (parseMethodDescriptor yX10_has.desc).map (fun d => d.parameters.length) = some 2 := by decide +kernel
set_option maxHeartbeats 4000000 in
set_option maxRecDepth 100000 in
theorem ctX10_has (l : Launch) (D : va_G) (cI cZ : ClassId) (v0 : Int32) (v1 : Int32) (post : Int32 → Prop) (h : wpX10_has v0 v1 post) : CTi l yX10_has wsX10_has { frames := 0, cells := 0, slots := 0, locals := 0 } D [(cI, .int), (cZ, .boolean)] [.int v0, .int v1] (([] : va_W)) (fun _ : Unit => ([] : va_W)) (fun (r : Int32) (_ : Unit) => post r) := by
  refine CTi.of (cc := cX10_has) (own := RX10) (maxL := 2) (ret := (some .boolean)) (lv0 := [(0, .int v0), (1, .int v1)]) (by decide) rfl rfl (Nat.le_of_ble_eq_true rfl) rfl ?_
  intro p e s m args below meth c A C
  unfold wpX10_has at h
  refine SW.iload_n C dX10_has_0 rfl 0 rfl ?_
  refine SW.iload_n C dX10_has_1 rfl 1 rfl ?_
  refine SW.ishr C dX10_has_2 ?_
  refine SW.iconst (v := (1 : Int32)) C dX10_has_3 (by decide) ?_
  refine SW.iand C dX10_has_4 ?_
  refine SW.iconst (v := (1 : Int32)) C dX10_has_5 (by decide) ?_
  refine SW.icmp_ne (tgt := 13) C dX10_has_6 (by decide) (fun hc => ?_) (fun hc => ?_)
  · replace h := h.2 hc
    refine SW.iconst (v := (0 : Int32)) C dX10_has_13 (by decide) ?_
    exact SW.zret C () (by decide) rfl h dX10_has_14
  · replace h := h.1 hc
    refine SW.iconst (v := (1 : Int32)) C dX10_has_9 (by decide) ?_
    refine SW.goto (tgt := 14) C dX10_has_10 (by decide) ?_
    exact SW.zret C () (by decide) rfl h dX10_has_14
def wpX10_bits_L4 (c0_4 : Int32) (K24 : Int32 → Prop) : Nat → Int32 → Int32 → Prop
  | 0, _, _ => False
  | fu4 + 1, v1_4, v2_4 => (((17 : Int32) ≤ v2_4) → K24 v1_4) ∧ (¬ ((17 : Int32) ≤ v2_4) → wpX10_bits_L4 c0_4 K24 fu4 (v1_4 + ((jshr c0_4 v2_4) &&& (1 : Int32))) (v2_4 + (1 : Int32)))
def wpX10_bits (v0 : Int32) (post : Int32 → Prop) : Prop := ∃ fu4 : Nat, wpX10_bits_L4 v0 (fun (v1_24 : Int32) => post v1_24) fu4 (0 : Int32) (0 : Int32)
theorem pdX10_bits : yX10_bits.cls ≠ "java/lang/invoke/MethodHandle" ∧ yX10_bits.cls ≠ "java/lang/invoke/VarHandle" ∧ (parseMethodDescriptor yX10_bits.desc).map (fun d => d.parameters.length) = some 1 := by decide +kernel
set_option maxHeartbeats 4000000 in
set_option maxRecDepth 100000 in
theorem ctX10_bits (l : Launch) (D : va_G) (cI cZ : ClassId) (v0 : Int32) (post : Int32 → Prop) (h : wpX10_bits v0 post) : CTi l yX10_bits wsX10_bits { frames := 0, cells := 0, slots := 0, locals := 0 } D [(cI, .int), (cZ, .boolean)] [.int v0] (([] : va_W)) (fun _ : Unit => ([] : va_W)) (fun (r : Int32) (_ : Unit) => post r) := by
  refine CTi.of (cc := cX10_bits) (own := RX10) (maxL := 3) (ret := (some .int)) (lv0 := [(0, .int v0)]) (by decide) rfl rfl (Nat.le_of_ble_eq_true rfl) rfl ?_
  intro p e s m args below meth c A C
  unfold wpX10_bits at h
  refine SW.iconst (v := (0 : Int32)) C dX10_bits_0 (by decide) ?_
  refine SW.istore_n (lv' := [(1, .int (0 : Int32)), (0, .int v0)]) C dX10_bits_1 rfl (by decide) rfl ?_
  refine SW.iconst (v := (0 : Int32)) C dX10_bits_2 (by decide) ?_
  refine SW.istore_n (lv' := [(2, .int (0 : Int32)), (1, .int (0 : Int32)), (0, .int v0)]) C dX10_bits_3 rfl (by decide) rfl ?_
  have L4 : ∀ (K24 : Int32 → Prop) (hK24 : ∀ (v1_24 : Int32), K24 v1_24 → SW p l e { frames := 0, cells := 0, slots := 0, locals := 0 } s m args below meth c A D 3 0 0 (MQ below (va_Qi (fun (r : Int32) (_ : Unit) => post r) (ctB D A (fun _ : Unit => ([] : va_W))) A) args s 0 0 A) (([] : va_W)) 24 [(1, .int v1_24)] []) (fu : Nat) (v1_4 : Int32) (v2_4 : Int32), wpX10_bits_L4 v0 K24 fu v1_4 v2_4 → SW p l e { frames := 0, cells := 0, slots := 0, locals := 0 } s m args below meth c A D 3 0 0 (MQ below (va_Qi (fun (r : Int32) (_ : Unit) => post r) (ctB D A (fun _ : Unit => ([] : va_W))) A) args s 0 0 A) (([] : va_W)) 4 [(0, .int v0), (1, .int v1_4), (2, .int v2_4)] [] := by
    intro K24 hK24 fu
    induction fu with
    | zero =>
      intro v1_4 v2_4 h
      exact False.elim h
    | succ fu ih =>
      intro v1_4 v2_4 h
      unfold wpX10_bits_L4 at h
      refine SW.iload_n C dX10_bits_4 rfl 2 rfl ?_
      refine SW.bipush (v := (17 : Int32)) C dX10_bits_5 (by decide) ?_
      refine SW.icmp_ge (tgt := 24) C dX10_bits_7 (by decide) (fun hc => ?_) (fun hc => ?_)
      · replace h := h.1 hc
        refine SW.sub [1] rfl ?_
        exact hK24 _ h
      · replace h := h.2 hc
        refine SW.iload_n C dX10_bits_10 rfl 1 rfl ?_
        refine SW.iload_n C dX10_bits_11 rfl 0 rfl ?_
        refine SW.iload_n C dX10_bits_12 rfl 2 rfl ?_
        refine SW.ishr C dX10_bits_13 ?_
        refine SW.iconst (v := (1 : Int32)) C dX10_bits_14 (by decide) ?_
        refine SW.iand C dX10_bits_15 ?_
        refine SW.iadd C dX10_bits_16 ?_
        refine SW.istore_n (lv' := [(1, .int (v1_4 + ((jshr v0 v2_4) &&& (1 : Int32)))), (0, .int v0), (2, .int v2_4)]) C dX10_bits_17 rfl (by decide) rfl ?_
        refine SW.iinc (q := 2) (v := (v2_4 + (1 : Int32))) (lv' := [(2, .int (v2_4 + (1 : Int32))), (1, .int (v1_4 + ((jshr v0 v2_4) &&& (1 : Int32)))), (0, .int v0)]) C dX10_bits_18 rfl rfl (by decide) rfl ?_
        refine SW.goto (tgt := 4) C dX10_bits_21 (by decide) ?_
        refine SW.sub [2, 1, 0] rfl ?_
        exact ih _ _ h
  obtain ⟨fu, h⟩ := h
  refine SW.sub [2, 1, 0] rfl ?_
  refine L4 _ (fun v1_24 h => ?_) fu _ _ h
  · refine SW.iload_n C dX10_bits_24 rfl 0 rfl ?_
    exact SW.iret C () rfl h dX10_bits_25
def wpX10_isWindow (oY : Ob) (v1 : Int32) (post : Int32 → Prop) : Prop := wpX10_in v1 (0 : Int32) ((oY 0 0) - (1 : Int32)) (fun (r8 : Int32) => isB r8 ∧ post r8)
theorem pdX10_isWindow : yX10_isWindow.cls = RX10 ∧ yX10_isWindow.cls ≠ "java/lang/invoke/MethodHandle" ∧ yX10_isWindow.cls ≠ "java/lang/invoke/VarHandle" ∧ (parseMethodDescriptor yX10_isWindow.desc).map (fun d => d.parameters.length) = some 1 := by decide +kernel
theorem lkX10_isWindow_7 : Cond.fieldLink RX10 7 (TX10 0).1 (TX10 0).2.1 (TX10 0).2.2.1 ∈ wsX10_isWindow := by decide +kernel
theorem inX10_isWindow_X10 : ∀ w ∈ u_ws RX10 TX10 25, w ∈ wsX10_isWindow := by decide +kernel
set_option maxHeartbeats 4000000 in
set_option maxRecDepth 100000 in
theorem ctX10_isWindow (l : Launch) (D : va_G) (cI cZ : ClassId) (qY : Nat → Nat) (oY : Ob) (v1 : Int32) (post : Int32 → Prop) (h : wpX10_isWindow oY v1 post) : CTi l yX10_isWindow wsX10_isWindow { frames := 1, cells := 0, slots := 0, locals := 22 } D [(cI, .int), (cZ, .boolean)] [.ref (qY 0), .int v1] (w10 cI cZ qY oY) (fun _ : Unit => w10 cI cZ qY oY) (fun (r : Int32) (_ : Unit) => post r) := by
  refine CTi.of (cc := cX10_isWindow) (own := RX10) (maxL := 2) (ret := (some .boolean)) (lv0 := [(0, .ref (qY 0)), (1, .int v1)]) (by decide) rfl rfl (Nat.le_of_ble_eq_true rfl) rfl ?_
  intro p e s m args below meth c A C
  unfold wpX10_isWindow at h
  refine SW.iload_n C dX10_isWindow_0 rfl 1 rfl ?_
  refine SW.iconst (v := (0 : Int32)) C dX10_isWindow_1 (by decide) ?_
  refine SW.aload_n C dX10_isWindow_2 rfl 0 rfl ?_
  refine SW.get (v := .int (oY 0 0)) (T := TX10) (N := 25) C inX10_isWindow_X10 0 rfl rfl 0 (by decide) lkX10_isWindow_7 rfl dX10_isWindow_3 ?_
  refine SW.iconst (v := (1 : Int32)) C dX10_isWindow_6 (by decide) ?_
  refine SW.isub C dX10_isWindow_7 ?_
  refine SW.callSi_pure C (ctX10_in l D cI cZ v1 (0 : Int32) ((oY 0 0) - (1 : Int32)) _ h) gX10_isWindow_X10_in rfl rfl rfl pdX10_in ⟨by decide, by decide⟩ rfl rfl (Nat.le_of_ble_eq_true rfl) dX10_isWindow_8 (by decide) (fun r8 u h => ?_)
  try dsimp only at h
  exact SW.zret C () (isB_nar h.1) rfl h.2 dX10_isWindow_11
def wpX10_may (oY : Ob) (post : Int32 → Prop) : Prop := (((oY 0 0) = (2 : Int32)) → post (1 : Int32)) ∧ (¬ ((oY 0 0) = (2 : Int32)) → post ((oY 0 0) - (2 : Int32)))
theorem pdX10_may : yX10_may.cls = RX10 ∧ yX10_may.cls ≠ "java/lang/invoke/MethodHandle" ∧ yX10_may.cls ≠ "java/lang/invoke/VarHandle" ∧ (parseMethodDescriptor yX10_may.desc).map (fun d => d.parameters.length) = some 0 := by decide +kernel
theorem lkX10_may_7 : Cond.fieldLink RX10 7 (TX10 0).1 (TX10 0).2.1 (TX10 0).2.2.1 ∈ wsX10_may := by decide +kernel
theorem inX10_may_X10 : ∀ w ∈ u_ws RX10 TX10 25, w ∈ wsX10_may := by decide +kernel
set_option maxHeartbeats 4000000 in
set_option maxRecDepth 100000 in
theorem ctX10_may (l : Launch) (D : va_G) (cI cZ : ClassId) (qY : Nat → Nat) (oY : Ob) (post : Int32 → Prop) (h : wpX10_may oY post) : CTi l yX10_may wsX10_may { frames := 0, cells := 0, slots := 0, locals := 0 } D [(cI, .int), (cZ, .boolean)] [.ref (qY 0)] (w10 cI cZ qY oY) (fun _ : Unit => w10 cI cZ qY oY) (fun (r : Int32) (_ : Unit) => post r) := by
  refine CTi.of (cc := cX10_may) (own := RX10) (maxL := 1) (ret := (some .int)) (lv0 := [(0, .ref (qY 0))]) (by decide) rfl rfl (Nat.le_of_ble_eq_true rfl) rfl ?_
  intro p e s m args below meth c A C
  unfold wpX10_may at h
  refine SW.aload_n C dX10_may_0 rfl 0 rfl ?_
  refine SW.get (v := .int (oY 0 0)) (T := TX10) (N := 25) C inX10_may_X10 0 rfl rfl 0 (by decide) lkX10_may_7 rfl dX10_may_1 ?_
  refine SW.iconst (v := (2 : Int32)) C dX10_may_4 (by decide) ?_
  refine SW.icmp_ne (tgt := 12) C dX10_may_5 (by decide) (fun hc => ?_) (fun hc => ?_)
  · replace h := h.2 hc
    refine SW.aload_n C dX10_may_12 rfl 0 rfl ?_
    refine SW.get (v := .int (oY 0 0)) (T := TX10) (N := 25) C inX10_may_X10 0 rfl rfl 0 (by decide) lkX10_may_7 rfl dX10_may_13 ?_
    refine SW.iconst (v := (2 : Int32)) C dX10_may_16 (by decide) ?_
    refine SW.isub C dX10_may_17 ?_
    exact SW.iret C () rfl h dX10_may_18
  · replace h := h.1 hc
    refine SW.iconst (v := (1 : Int32)) C dX10_may_8 (by decide) ?_
    refine SW.goto (tgt := 18) C dX10_may_9 (by decide) ?_
    exact SW.iret C () rfl h dX10_may_18
def wpX10_windows (oY : Ob) (v1 : Int32) (post : Int32 → Ob → Prop) : Prop := wpX10_in v1 (2 : Int32) (10 : Int32) (fun (r4 : Int32) => ((r4 = 0) → post (-2 : Int32) oY) ∧ (¬ (r4 = 0) → wpX10_clear (pf oY 0 v1) (fun (oY_24 : Ob) => post (oY 0 0) oY_24)))
theorem pdX10_windows : yX10_windows.cls = RX10 ∧ yX10_windows.cls ≠ "java/lang/invoke/MethodHandle" ∧ yX10_windows.cls ≠ "java/lang/invoke/VarHandle" ∧ (parseMethodDescriptor yX10_windows.desc).map (fun d => d.parameters.length) = some 1 := by decide +kernel
theorem lkX10_windows_7 : Cond.fieldLink RX10 7 (TX10 0).1 (TX10 0).2.1 (TX10 0).2.2.1 ∈ wsX10_windows := by decide +kernel
theorem inX10_windows_X10 : ∀ w ∈ u_ws RX10 TX10 25, w ∈ wsX10_windows := by decide +kernel
set_option maxHeartbeats 4000000 in
set_option maxRecDepth 100000 in
theorem ctX10_windows (l : Launch) (D : va_G) (cI cZ : ClassId) (qY : Nat → Nat) (oY : Ob) (v1 : Int32) (post : Int32 → Ob → Prop) (h : wpX10_windows oY v1 post) : CTi l yX10_windows wsX10_windows { frames := 1, cells := 0, slots := 0, locals := 22 } D [(cI, .int), (cZ, .boolean)] [.ref (qY 0), .int v1] (w10 cI cZ qY oY) (fun u : Ob => w10 cI cZ qY u) (fun (r : Int32) (u : Ob) => post r u) := by
  refine CTi.of (cc := cX10_windows) (own := RX10) (maxL := 3) (ret := (some .int)) (lv0 := [(0, .ref (qY 0)), (1, .int v1)]) (by decide) rfl rfl (Nat.le_of_ble_eq_true rfl) rfl ?_
  intro p e s m args below meth c A C
  unfold wpX10_windows at h
  refine SW.iload_n C dX10_windows_0 rfl 1 rfl ?_
  refine SW.iconst (v := (2 : Int32)) C dX10_windows_1 (by decide) ?_
  refine SW.bipush (v := (10 : Int32)) C dX10_windows_2 (by decide) ?_
  refine SW.callSi_pure C (ctX10_in l D cI cZ v1 (2 : Int32) (10 : Int32) _ h) gX10_windows_X10_in rfl rfl rfl pdX10_in ⟨by decide, by decide⟩ rfl rfl (Nat.le_of_ble_eq_true rfl) dX10_windows_4 (by decide) (fun r4 u h => ?_)
  try dsimp only at h
  refine SW.if_ne (tgt := 13) C dX10_windows_7 (by decide) (fun hc => ?_) (fun hc => ?_)
  · replace h := h.2 hc
    refine SW.aload_n C dX10_windows_13 rfl 0 rfl ?_
    refine SW.get (v := .int (oY 0 0)) (T := TX10) (N := 25) C inX10_windows_X10 0 rfl rfl 0 (by decide) lkX10_windows_7 rfl dX10_windows_14 ?_
    refine SW.istore_n (lv' := [(2, .int (oY 0 0)), (0, .ref (qY 0)), (1, .int v1)]) C dX10_windows_17 rfl (by decide) rfl ?_
    refine SW.aload_n C dX10_windows_18 rfl 1 rfl ?_
    refine SW.iload_n C dX10_windows_19 rfl 2 rfl ?_
    refine SW.put (ws' := w10 cI cZ qY (pf oY 0 v1)) (T := TX10) (N := 25) C inX10_windows_X10 tyX10 tyX10_ok nmX10 0 rfl rfl 0 (by decide) lkX10_windows_7 rfl rfl rfl (Nat.le_of_ble_eq_true rfl) rfl dX10_windows_20 ?_
    refine SW.aload_n C dX10_windows_23 rfl 1 rfl ?_
    refine SW.callVv_same C (ctX10_clear l D cI cZ qY (pf oY 0 v1) _ h) gX10_windows_X10_clear rfl rfl rfl pdX10_clear ⟨by decide, by decide⟩ 0 rfl rfl rfl rfl rfl (Nat.le_of_ble_eq_true rfl) dX10_windows_24 (by decide) (fun u h => ?_)
    obtain ⟨oY_24, rfl⟩ : ∃ z, z = u := ⟨_, rfl⟩
    try dsimp only at h
    refine SW.iload_n C dX10_windows_27 rfl 0 rfl ?_
    exact SW.iret C oY_24 rfl h dX10_windows_28
  · replace h := h.1 hc
    refine SW.bipush (v := (-2 : Int32)) C dX10_windows_10 (by decide) ?_
    exact SW.iret C oY rfl h dX10_windows_12
def wpX10_gap (oY : Ob) (v1 : Int32) (v2 : Int32) (post : Int32 → Ob → Prop) : Prop := wpX10_isWindow oY v1 (fun (r2 : Int32) => ((r2 = 0) → post (-1 : Int32) oY) ∧ (¬ (r2 = 0) → wpX10_in v2 (1 : Int32) (9 : Int32) (fun (r14 : Int32) => ((r14 = 0) → post (-2 : Int32) oY) ∧ (¬ (r14 = 0) → (vp_in v1 10) ∧ ((vp_in v1 10) ∧ (post (jld (oY 1) v1) (pa oY 1 (nC v1) v2)))))))
theorem pdX10_gap : yX10_gap.cls = RX10 ∧ yX10_gap.cls ≠ "java/lang/invoke/MethodHandle" ∧ yX10_gap.cls ≠ "java/lang/invoke/VarHandle" ∧ (parseMethodDescriptor yX10_gap.desc).map (fun d => d.parameters.length) = some 2 := by decide +kernel
theorem lkX10_gap_13 : Cond.fieldLink RX10 13 (TX10 1).1 (TX10 1).2.1 (TX10 1).2.2.1 ∈ wsX10_gap := by decide +kernel
theorem inX10_gap_X10 : ∀ w ∈ u_ws RX10 TX10 25, w ∈ wsX10_gap := by decide +kernel
set_option maxHeartbeats 4000000 in
set_option maxRecDepth 100000 in
theorem ctX10_gap (l : Launch) (D : va_G) (cI cZ : ClassId) (qY : Nat → Nat) (oY : Ob) (v1 : Int32) (v2 : Int32) (post : Int32 → Ob → Prop) (h : wpX10_gap oY v1 v2 post) : CTi l yX10_gap wsX10_gap { frames := 2, cells := 0, slots := 0, locals := 43 } D [(cI, .int), (cZ, .boolean)] [.ref (qY 0), .int v1, .int v2] (w10 cI cZ qY oY) (fun u : Ob => w10 cI cZ qY u) (fun (r : Int32) (u : Ob) => post r u) := by
  refine CTi.of (cc := cX10_gap) (own := RX10) (maxL := 4) (ret := (some .int)) (lv0 := [(0, .ref (qY 0)), (1, .int v1), (2, .int v2)]) (by decide) rfl rfl (Nat.le_of_ble_eq_true rfl) rfl ?_
  intro p e s m args below meth c A C
  unfold wpX10_gap at h
  refine SW.aload_n C dX10_gap_0 rfl 0 rfl ?_
  refine SW.iload_n C dX10_gap_1 rfl 1 rfl ?_
  refine SW.callVi_same C (ctX10_isWindow l D cI cZ qY oY v1 _ h) gX10_gap_X10_isWindow rfl rfl rfl pdX10_isWindow ⟨by decide, by decide⟩ 0 rfl rfl rfl rfl rfl (Nat.le_of_ble_eq_true rfl) dX10_gap_2 (by decide) (fun r2 u h => ?_)
  try dsimp only at h
  refine SW.if_ne (tgt := 10) C dX10_gap_5 (by decide) (fun hc => ?_) (fun hc => ?_)
  · replace h := h.2 hc
    refine SW.iload_n C dX10_gap_10 rfl 2 rfl ?_
    refine SW.iconst (v := (1 : Int32)) C dX10_gap_11 (by decide) ?_
    refine SW.bipush (v := (9 : Int32)) C dX10_gap_12 (by decide) ?_
    refine SW.callSi_pure C (ctX10_in l D cI cZ v2 (1 : Int32) (9 : Int32) _ h) gX10_gap_X10_in rfl rfl rfl pdX10_in ⟨by decide, by decide⟩ rfl rfl (Nat.le_of_ble_eq_true rfl) dX10_gap_14 (by decide) (fun r14 u h => ?_)
    try dsimp only at h
    refine SW.if_ne (tgt := 23) C dX10_gap_17 (by decide) (fun hc => ?_) (fun hc => ?_)
    · replace h := h.2 hc
      refine SW.aload_n C dX10_gap_23 rfl 0 rfl ?_
      refine SW.get (v := .ref (qY 1)) (T := TX10) (N := 25) C inX10_gap_X10 0 rfl rfl 1 (by decide) lkX10_gap_13 rfl dX10_gap_24 ?_
      refine SW.iload_n C dX10_gap_27 rfl 1 rfl ?_
      refine SW.iald C 1 0 rfl rfl h.1 dX10_gap_28 ?_
      replace h := h.2
      refine SW.istore_n (lv' := [(3, .int (jld (oY 1) v1)), (0, .ref (qY 0)), (1, .int v1), (2, .int v2)]) C dX10_gap_29 rfl (by decide) rfl ?_
      refine SW.aload_n C dX10_gap_30 rfl 1 rfl ?_
      refine SW.get (v := .ref (qY 1)) (T := TX10) (N := 25) C inX10_gap_X10 0 rfl rfl 1 (by decide) lkX10_gap_13 rfl dX10_gap_31 ?_
      refine SW.iload_n C dX10_gap_34 rfl 2 rfl ?_
      refine SW.iload_n C dX10_gap_35 rfl 3 rfl ?_
      refine SW.iast (ws' := w10 cI cZ qY (pa oY 1 (nC v1) v2)) C 1 0 rfl rfl h.1 rfl dX10_gap_36 ?_
      replace h := h.2
      refine SW.iload_n C dX10_gap_37 rfl 0 rfl ?_
      exact SW.iret C (pa oY 1 (nC v1) v2) rfl h dX10_gap_38
    · replace h := h.1 hc
      refine SW.bipush (v := (-2 : Int32)) C dX10_gap_20 (by decide) ?_
      exact SW.iret C oY rfl h dX10_gap_22
  · replace h := h.1 hc
    refine SW.iconst (v := (-1 : Int32)) C dX10_gap_8 (by decide) ?_
    exact SW.iret C oY rfl h dX10_gap_9
def wpX10_set (oY : Ob) (v1 : Int32) (v2 : Int32) (post : Int32 → Ob → Prop) : Prop := jn1 (fun (p0_49 : Int32) => ((p0_49 = 0) → post (-2 : Int32) oY) ∧ (¬ (p0_49 = 0) → jn1 (fun (p0_84 : Int32) => jn1 (fun (p0_99 : Int32) => jn1 (fun (p0_116 : Int32) => jn1 (fun (p0_133 : Int32) => post p0_84 (pf (pf (pf oY 2 p0_99) 3 p0_116) 4 p0_133)) (fun J133 => ((v1 = (2 : Int32)) → J133 v2) ∧ (¬ (v1 = (2 : Int32)) → J133 (oY 0 4)))) (fun J116 => ((v1 = (1 : Int32)) → J116 v2) ∧ (¬ (v1 = (1 : Int32)) → J116 (oY 0 3)))) (fun J99 => ((v1 = 0) → J99 v2) ∧ (¬ (v1 = 0) → J99 (oY 0 2)))) (fun J84 => ((v1 = 0) → J84 (oY 0 2)) ∧ (¬ (v1 = 0) → ((v1 = (1 : Int32)) → J84 (oY 0 3)) ∧ (¬ (v1 = (1 : Int32)) → J84 (oY 0 4)))))) (fun J49 => ((v1 = 0) → wpX10_in v2 (1 : Int32) (9 : Int32) (fun (r8 : Int32) => J49 r8)) ∧ (¬ (v1 = 0) → ((v1 = (1 : Int32)) → wpX10_in v2 (1 : Int32) (99 : Int32) (fun (r23 : Int32) => J49 r23)) ∧ (¬ (v1 = (1 : Int32)) → jn0 (J49 (0 : Int32)) (fun J48 => ((v1 = (2 : Int32)) → wpX10_in v2 (0 : Int32) (9 : Int32) (fun (r38 : Int32) => ((r38 = 0) → J48) ∧ (¬ (r38 = 0) → J49 (1 : Int32)))) ∧ (¬ (v1 = (2 : Int32)) → J48)))))
theorem pdX10_set : yX10_set.cls = RX10 ∧ yX10_set.cls ≠ "java/lang/invoke/MethodHandle" ∧ yX10_set.cls ≠ "java/lang/invoke/VarHandle" ∧ (parseMethodDescriptor yX10_set.desc).map (fun d => d.parameters.length) = some 2 := by decide +kernel
theorem lkX10_set_17 : Cond.fieldLink RX10 17 (TX10 2).1 (TX10 2).2.1 (TX10 2).2.2.1 ∈ wsX10_set := by decide +kernel
theorem inX10_set_X10 : ∀ w ∈ u_ws RX10 TX10 25, w ∈ wsX10_set := by decide +kernel
theorem lkX10_set_20 : Cond.fieldLink RX10 20 (TX10 3).1 (TX10 3).2.1 (TX10 3).2.2.1 ∈ wsX10_set := by decide +kernel
theorem lkX10_set_23 : Cond.fieldLink RX10 23 (TX10 4).1 (TX10 4).2.1 (TX10 4).2.2.1 ∈ wsX10_set := by decide +kernel
set_option maxHeartbeats 4000000 in
set_option maxRecDepth 100000 in
theorem ctX10_set (l : Launch) (D : va_G) (cI cZ : ClassId) (qY : Nat → Nat) (oY : Ob) (v1 : Int32) (v2 : Int32) (post : Int32 → Ob → Prop) (h : wpX10_set oY v1 v2 post) : CTi l yX10_set wsX10_set { frames := 1, cells := 0, slots := 0, locals := 22 } D [(cI, .int), (cZ, .boolean)] [.ref (qY 0), .int v1, .int v2] (w10 cI cZ qY oY) (fun u : Ob => w10 cI cZ qY u) (fun (r : Int32) (u : Ob) => post r u) := by
  refine CTi.of (cc := cX10_set) (own := RX10) (maxL := 5) (ret := (some .int)) (lv0 := [(0, .ref (qY 0)), (1, .int v1), (2, .int v2)]) (by decide) rfl rfl (Nat.le_of_ble_eq_true rfl) rfl ?_
  intro p e s m args below meth c A C
  unfold wpX10_set at h
  refine SW.iload_n C dX10_set_0 rfl 1 rfl ?_
  refine jn1_elim (G := fun p0_49 => SW p l e { frames := 1, cells := 0, slots := 0, locals := 22 } s m args below meth c A D 5 0 0 (MQ below (va_Qi (fun (r : Int32) (u : Ob) => post r u) (ctB D A (fun u : Ob => w10 cI cZ qY u)) A) args s 0 0 A) (w10 cI cZ qY oY) 49 [(0, .ref (qY 0)), (1, .int v1), (2, .int v2)] [.int p0_49]) h (fun p0_49 h => ?_) (fun J49 hJ49 h => ?_)
  · refine SW.istore_n (lv' := [(3, .int p0_49), (0, .ref (qY 0)), (1, .int v1), (2, .int v2)]) C dX10_set_49 rfl (by decide) rfl ?_
    refine SW.iload_n C dX10_set_50 rfl 0 rfl ?_
    refine SW.if_ne (tgt := 57) C dX10_set_51 (by decide) (fun hc => ?_) (fun hc => ?_)
    · replace h := h.2 hc
      refine SW.iload_n C dX10_set_57 rfl 2 rfl ?_
      refine jn1_elim (G := fun p0_84 => SW p l e { frames := 1, cells := 0, slots := 0, locals := 22 } s m args below meth c A D 5 0 0 (MQ below (va_Qi (fun (r : Int32) (u : Ob) => post r u) (ctB D A (fun u : Ob => w10 cI cZ qY u)) A) args s 0 0 A) (w10 cI cZ qY oY) 84 [(0, .ref (qY 0)), (1, .int v1), (2, .int v2)] [.int p0_84]) h (fun p0_84 h => ?_) (fun J84 hJ84 h => ?_)
      · refine SW.istore (lv' := [(4, .int p0_84), (0, .ref (qY 0)), (1, .int v1), (2, .int v2)]) C dX10_set_84 (by decide) rfl ?_
        refine SW.aload_n C dX10_set_86 rfl 1 rfl ?_
        refine SW.iload_n C dX10_set_87 rfl 2 rfl ?_
        refine jn1_elim (G := fun p0_99 => SW p l e { frames := 1, cells := 0, slots := 0, locals := 22 } s m args below meth c A D 5 0 0 (MQ below (va_Qi (fun (r : Int32) (u : Ob) => post r u) (ctB D A (fun u : Ob => w10 cI cZ qY u)) A) args s 0 0 A) (w10 cI cZ qY oY) 99 [(0, .ref (qY 0)), (1, .int v1), (2, .int v2), (4, .int p0_84)] [.int p0_99, .ref (qY 0)]) h (fun p0_99 h => ?_) (fun J99 hJ99 h => ?_)
        · refine SW.put (ws' := w10 cI cZ qY (pf oY 2 p0_99)) (T := TX10) (N := 25) C inX10_set_X10 tyX10 tyX10_ok nmX10 0 rfl rfl 2 (by decide) lkX10_set_17 rfl rfl rfl (Nat.le_of_ble_eq_true rfl) rfl dX10_set_99 ?_
          refine SW.aload_n C dX10_set_102 rfl 0 rfl ?_
          refine SW.iload_n C dX10_set_103 rfl 1 rfl ?_
          refine SW.iconst (v := (1 : Int32)) C dX10_set_104 (by decide) ?_
          refine jn1_elim (G := fun p0_116 => SW p l e { frames := 1, cells := 0, slots := 0, locals := 22 } s m args below meth c A D 5 0 0 (MQ below (va_Qi (fun (r : Int32) (u : Ob) => post r u) (ctB D A (fun u : Ob => w10 cI cZ qY u)) A) args s 0 0 A) (w10 cI cZ qY (pf oY 2 p0_99)) 116 [(0, .ref (qY 0)), (1, .int v1), (2, .int v2), (4, .int p0_84)] [.int p0_116, .ref (qY 0)]) h (fun p0_116 h => ?_) (fun J116 hJ116 h => ?_)
          · refine SW.put (ws' := w10 cI cZ qY (pf (pf oY 2 p0_99) 3 p0_116)) (T := TX10) (N := 25) C inX10_set_X10 tyX10 tyX10_ok nmX10 0 rfl rfl 3 (by decide) lkX10_set_20 rfl rfl rfl (Nat.le_of_ble_eq_true rfl) rfl dX10_set_116 ?_
            refine SW.aload_n C dX10_set_119 rfl 0 rfl ?_
            refine SW.iload_n C dX10_set_120 rfl 1 rfl ?_
            refine SW.iconst (v := (2 : Int32)) C dX10_set_121 (by decide) ?_
            refine jn1_elim (G := fun p0_133 => SW p l e { frames := 1, cells := 0, slots := 0, locals := 22 } s m args below meth c A D 5 0 0 (MQ below (va_Qi (fun (r : Int32) (u : Ob) => post r u) (ctB D A (fun u : Ob => w10 cI cZ qY u)) A) args s 0 0 A) (w10 cI cZ qY (pf (pf oY 2 p0_99) 3 p0_116)) 133 [(4, .int p0_84)] [.int p0_133, .ref (qY 0)]) h (fun p0_133 h => ?_) (fun J133 hJ133 h => ?_)
            · refine SW.put (ws' := w10 cI cZ qY (pf (pf (pf oY 2 p0_99) 3 p0_116) 4 p0_133)) (T := TX10) (N := 25) C inX10_set_X10 tyX10 tyX10_ok nmX10 0 rfl rfl 4 (by decide) lkX10_set_23 rfl rfl rfl (Nat.le_of_ble_eq_true rfl) rfl dX10_set_133 ?_
              refine SW.iload C dX10_set_136 0 rfl ?_
              exact SW.iret C (pf (pf (pf oY 2 p0_99) 3 p0_116) 4 p0_133) rfl h dX10_set_138
            · refine SW.icmp_ne (tgt := 129) C dX10_set_122 (by decide) (fun hc => ?_) (fun hc => ?_)
              · replace h := h.2 hc
                refine SW.aload_n C dX10_set_129 rfl 0 rfl ?_
                refine SW.get (v := .int (oY 0 4)) (T := TX10) (N := 25) C inX10_set_X10 0 rfl rfl 4 (by decide) lkX10_set_23 rfl dX10_set_130 ?_
                refine SW.sub [3] rfl ?_
                exact hJ133 _ h
              · replace h := h.1 hc
                refine SW.iload_n C dX10_set_125 rfl 2 rfl ?_
                refine SW.goto (tgt := 133) C dX10_set_126 (by decide) ?_
                refine SW.sub [3] rfl ?_
                exact hJ133 _ h
          · refine SW.icmp_ne (tgt := 112) C dX10_set_105 (by decide) (fun hc => ?_) (fun hc => ?_)
            · replace h := h.2 hc
              refine SW.aload_n C dX10_set_112 rfl 0 rfl ?_
              refine SW.get (v := .int (oY 0 3)) (T := TX10) (N := 25) C inX10_set_X10 0 rfl rfl 3 (by decide) lkX10_set_20 rfl dX10_set_113 ?_
              exact hJ116 _ h
            · replace h := h.1 hc
              refine SW.iload_n C dX10_set_108 rfl 2 rfl ?_
              refine SW.goto (tgt := 116) C dX10_set_109 (by decide) ?_
              exact hJ116 _ h
        · refine SW.if_ne (tgt := 95) C dX10_set_88 (by decide) (fun hc => ?_) (fun hc => ?_)
          · replace h := h.2 hc
            refine SW.aload_n C dX10_set_95 rfl 1 rfl ?_
            refine SW.get (v := .int (oY 0 2)) (T := TX10) (N := 25) C inX10_set_X10 0 rfl rfl 2 (by decide) lkX10_set_17 rfl dX10_set_96 ?_
            refine SW.sub [1, 2, 3, 0] rfl ?_
            exact hJ99 _ h
          · replace h := h.1 hc
            refine SW.iload_n C dX10_set_91 rfl 3 rfl ?_
            refine SW.goto (tgt := 99) C dX10_set_92 (by decide) ?_
            refine SW.sub [1, 2, 3, 0] rfl ?_
            exact hJ99 _ h
      · refine SW.if_ne (tgt := 68) C dX10_set_58 (by decide) (fun hc => ?_) (fun hc => ?_)
        · replace h := h.2 hc
          refine SW.iload_n C dX10_set_68 rfl 2 rfl ?_
          refine SW.iconst (v := (1 : Int32)) C dX10_set_69 (by decide) ?_
          refine SW.icmp_ne (tgt := 80) C dX10_set_70 (by decide) (fun hc => ?_) (fun hc => ?_)
          · replace h := h.2 hc
            refine SW.aload_n C dX10_set_80 rfl 1 rfl ?_
            refine SW.get (v := .int (oY 0 4)) (T := TX10) (N := 25) C inX10_set_X10 0 rfl rfl 4 (by decide) lkX10_set_23 rfl dX10_set_81 ?_
            refine SW.sub [1, 2, 3] rfl ?_
            exact hJ84 _ h
          · replace h := h.1 hc
            refine SW.aload_n C dX10_set_73 rfl 1 rfl ?_
            refine SW.get (v := .int (oY 0 3)) (T := TX10) (N := 25) C inX10_set_X10 0 rfl rfl 3 (by decide) lkX10_set_20 rfl dX10_set_74 ?_
            refine SW.goto (tgt := 84) C dX10_set_77 (by decide) ?_
            refine SW.sub [1, 2, 3] rfl ?_
            exact hJ84 _ h
        · replace h := h.1 hc
          refine SW.aload_n C dX10_set_61 rfl 1 rfl ?_
          refine SW.get (v := .int (oY 0 2)) (T := TX10) (N := 25) C inX10_set_X10 0 rfl rfl 2 (by decide) lkX10_set_17 rfl dX10_set_62 ?_
          refine SW.goto (tgt := 84) C dX10_set_65 (by decide) ?_
          refine SW.sub [1, 2, 3] rfl ?_
          exact hJ84 _ h
    · replace h := h.1 hc
      refine SW.bipush (v := (-2 : Int32)) C dX10_set_54 (by decide) ?_
      exact SW.iret C oY rfl h dX10_set_56
  · refine SW.if_ne (tgt := 14) C dX10_set_1 (by decide) (fun hc => ?_) (fun hc => ?_)
    · replace h := h.2 hc
      refine SW.iload_n C dX10_set_14 rfl 1 rfl ?_
      refine SW.iconst (v := (1 : Int32)) C dX10_set_15 (by decide) ?_
      refine SW.icmp_ne (tgt := 29) C dX10_set_16 (by decide) (fun hc => ?_) (fun hc => ?_)
      · replace h := h.2 hc
        refine SW.iload_n C dX10_set_29 rfl 1 rfl ?_
        refine SW.iconst (v := (2 : Int32)) C dX10_set_30 (by decide) ?_
        refine jn0_elim (G := SW p l e { frames := 1, cells := 0, slots := 0, locals := 22 } s m args below meth c A D 5 0 0 (MQ below (va_Qi (fun (r : Int32) (u : Ob) => post r u) (ctB D A (fun u : Ob => w10 cI cZ qY u)) A) args s 0 0 A) (w10 cI cZ qY oY) 48 [(0, .ref (qY 0)), (1, .int v1), (2, .int v2)] []) h (fun h => ?_) (fun J48 hJ48 h => ?_)
        · refine SW.iconst (v := (0 : Int32)) C dX10_set_48 (by decide) ?_
          exact hJ49 _ h
        · refine SW.icmp_ne (tgt := 48) C dX10_set_31 (by decide) (fun hc => ?_) (fun hc => ?_)
          · replace h := h.2 hc
            exact hJ48 h
          · replace h := h.1 hc
            refine SW.iload_n C dX10_set_34 rfl 2 rfl ?_
            refine SW.iconst (v := (0 : Int32)) C dX10_set_35 (by decide) ?_
            refine SW.bipush (v := (9 : Int32)) C dX10_set_36 (by decide) ?_
            refine SW.callSi_pure C (ctX10_in l D cI cZ v2 (0 : Int32) (9 : Int32) _ h) gX10_set_X10_in rfl rfl rfl pdX10_in ⟨by decide, by decide⟩ rfl rfl (Nat.le_of_ble_eq_true rfl) dX10_set_38 (by decide) (fun r38 u h => ?_)
            try dsimp only at h
            refine SW.if_eq (tgt := 48) C dX10_set_41 (by decide) (fun hc => ?_) (fun hc => ?_)
            · replace h := h.1 hc
              exact hJ48 h
            · replace h := h.2 hc
              refine SW.iconst (v := (1 : Int32)) C dX10_set_44 (by decide) ?_
              refine SW.goto (tgt := 49) C dX10_set_45 (by decide) ?_
              exact hJ49 _ h
      · replace h := h.1 hc
        refine SW.iload_n C dX10_set_19 rfl 2 rfl ?_
        refine SW.iconst (v := (1 : Int32)) C dX10_set_20 (by decide) ?_
        refine SW.bipush (v := (99 : Int32)) C dX10_set_21 (by decide) ?_
        refine SW.callSi_pure C (ctX10_in l D cI cZ v2 (1 : Int32) (99 : Int32) _ h) gX10_set_X10_in rfl rfl rfl pdX10_in ⟨by decide, by decide⟩ rfl rfl (Nat.le_of_ble_eq_true rfl) dX10_set_23 (by decide) (fun r23 u h => ?_)
        try dsimp only at h
        refine SW.goto (tgt := 49) C dX10_set_26 (by decide) ?_
        exact hJ49 _ h
    · replace h := h.1 hc
      refine SW.iload_n C dX10_set_4 rfl 2 rfl ?_
      refine SW.iconst (v := (1 : Int32)) C dX10_set_5 (by decide) ?_
      refine SW.bipush (v := (9 : Int32)) C dX10_set_6 (by decide) ?_
      refine SW.callSi_pure C (ctX10_in l D cI cZ v2 (1 : Int32) (9 : Int32) _ h) gX10_set_X10_in rfl rfl rfl pdX10_in ⟨by decide, by decide⟩ rfl rfl (Nat.le_of_ble_eq_true rfl) dX10_set_8 (by decide) (fun r8 u h => ?_)
      try dsimp only at h
      refine SW.goto (tgt := 49) C dX10_set_11 (by decide) ?_
      exact hJ49 _ h
def wpX10_say (oY : Ob) (v1 : Int32) (post : Int32 → Ob → Prop) : Prop := wpX10_in v1 (33 : Int32) (126 : Int32) (fun (r5 : Int32) => ((r5 = 0) → post (-2 : Int32) oY) ∧ (¬ (r5 = 0) → (((oY 0 10) = (60 : Int32)) → post (-4 : Int32) oY) ∧ (¬ ((oY 0 10) = (60 : Int32)) → (vp_in (oY 0 10) 60) ∧ (∀ oY_43n : Ob, oY_43n = (pa oY 4 (nC (oY 0 10)) v1) → (post ((oY 0 10) + (1 : Int32)) (pf oY_43n 10 ((oY 0 10) + (1 : Int32))))))))
theorem pdX10_say : yX10_say.cls = RX10 ∧ yX10_say.cls ≠ "java/lang/invoke/MethodHandle" ∧ yX10_say.cls ≠ "java/lang/invoke/VarHandle" ∧ (parseMethodDescriptor yX10_say.desc).map (fun d => d.parameters.length) = some 1 := by decide +kernel
theorem lkX10_say_77 : Cond.fieldLink RX10 77 (TX10 10).1 (TX10 10).2.1 (TX10 10).2.2.1 ∈ wsX10_say := by decide +kernel
theorem inX10_say_X10 : ∀ w ∈ u_ws RX10 TX10 25, w ∈ wsX10_say := by decide +kernel
theorem lkX10_say_32 : Cond.fieldLink RX10 32 (TX10 11).1 (TX10 11).2.1 (TX10 11).2.2.1 ∈ wsX10_say := by decide +kernel
set_option maxHeartbeats 4000000 in
set_option maxRecDepth 100000 in
theorem ctX10_say (l : Launch) (D : va_G) (cI cZ : ClassId) (qY : Nat → Nat) (oY : Ob) (v1 : Int32) (post : Int32 → Ob → Prop) (h : wpX10_say oY v1 post) : CTi l yX10_say wsX10_say { frames := 1, cells := 0, slots := 0, locals := 22 } D [(cI, .int), (cZ, .boolean)] [.ref (qY 0), .int v1] (w10 cI cZ qY oY) (fun u : Ob => w10 cI cZ qY u) (fun (r : Int32) (u : Ob) => post r u) := by
  refine CTi.of (cc := cX10_say) (own := RX10) (maxL := 2) (ret := (some .int)) (lv0 := [(0, .ref (qY 0)), (1, .int v1)]) (by decide) rfl rfl (Nat.le_of_ble_eq_true rfl) rfl ?_
  intro p e s m args below meth c A C
  unfold wpX10_say at h
  refine SW.iload_n C dX10_say_0 rfl 1 rfl ?_
  refine SW.bipush (v := (33 : Int32)) C dX10_say_1 (by decide) ?_
  refine SW.bipush (v := (126 : Int32)) C dX10_say_3 (by decide) ?_
  refine SW.callSi_pure C (ctX10_in l D cI cZ v1 (33 : Int32) (126 : Int32) _ h) gX10_say_X10_in rfl rfl rfl pdX10_in ⟨by decide, by decide⟩ rfl rfl (Nat.le_of_ble_eq_true rfl) dX10_say_5 (by decide) (fun r5 u h => ?_)
  try dsimp only at h
  refine SW.if_ne (tgt := 14) C dX10_say_8 (by decide) (fun hc => ?_) (fun hc => ?_)
  · replace h := h.2 hc
    refine SW.aload_n C dX10_say_14 rfl 0 rfl ?_
    refine SW.get (v := .int (oY 0 10)) (T := TX10) (N := 25) C inX10_say_X10 0 rfl rfl 10 (by decide) lkX10_say_77 rfl dX10_say_15 ?_
    refine SW.bipush (v := (60 : Int32)) C dX10_say_18 (by decide) ?_
    refine SW.icmp_ne (tgt := 26) C dX10_say_20 (by decide) (fun hc => ?_) (fun hc => ?_)
    · replace h := h.2 hc
      refine SW.aload_n C dX10_say_26 rfl 0 rfl ?_
      refine SW.get (v := .ref (qY 4)) (T := TX10) (N := 25) C inX10_say_X10 0 rfl rfl 11 (by decide) lkX10_say_32 rfl dX10_say_27 ?_
      refine SW.aload_n C dX10_say_30 rfl 0 rfl ?_
      refine SW.get (v := .int (oY 0 10)) (T := TX10) (N := 25) C inX10_say_X10 0 rfl rfl 10 (by decide) lkX10_say_77 rfl dX10_say_31 ?_
      refine SW.iload_n C dX10_say_34 rfl 1 rfl ?_
      refine SW.iast (ws' := w10 cI cZ qY (pa oY 4 (nC (oY 0 10)) v1)) C 4 0 rfl rfl h.1 rfl dX10_say_35 ?_
      replace h := h.2
      refine SW.aload_n C dX10_say_36 rfl 0 rfl ?_
      refine SW.dup C dX10_say_37 rfl ?_
      refine SW.get (v := .int (oY 0 10)) (T := TX10) (N := 25) C inX10_say_X10 0 rfl rfl 10 (by decide) lkX10_say_77 rfl dX10_say_38 ?_
      refine SW.iconst (v := (1 : Int32)) C dX10_say_41 (by decide) ?_
      refine SW.iadd C dX10_say_42 ?_
      refine SW.nameOb (wz := fun z => w10 cI cZ qY z) (o := (pa oY 4 (nC (oY 0 10)) v1)) (fun oY_43n he => ?_)
      replace h := h oY_43n he
      refine SW.put (ws' := w10 cI cZ qY (pf oY_43n 10 ((oY 0 10) + (1 : Int32)))) (T := TX10) (N := 25) C inX10_say_X10 tyX10 tyX10_ok nmX10 0 rfl rfl 10 (by decide) lkX10_say_77 rfl rfl rfl (Nat.le_of_ble_eq_true rfl) rfl dX10_say_43 ?_
      refine SW.aload_n C dX10_say_46 rfl 0 rfl ?_
      refine SW.get (v := .int ((oY 0 10) + (1 : Int32))) (T := TX10) (N := 25) C inX10_say_X10 0 rfl rfl 10 (by decide) lkX10_say_77 rfl dX10_say_47 ?_
      exact SW.iret C (pf oY_43n 10 ((oY 0 10) + (1 : Int32))) rfl h dX10_say_50
    · replace h := h.1 hc
      refine SW.bipush (v := (-4 : Int32)) C dX10_say_23 (by decide) ?_
      exact SW.iret C oY rfl h dX10_say_25
  · replace h := h.1 hc
    refine SW.bipush (v := (-2 : Int32)) C dX10_say_11 (by decide) ?_
    exact SW.iret C oY rfl h dX10_say_13
def wpX10_wipe (oY : Ob) (post : Int32 → Ob → Prop) : Prop := post (oY 0 10) (pf oY 10 (0 : Int32))
theorem pdX10_wipe : yX10_wipe.cls = RX10 ∧ yX10_wipe.cls ≠ "java/lang/invoke/MethodHandle" ∧ yX10_wipe.cls ≠ "java/lang/invoke/VarHandle" ∧ (parseMethodDescriptor yX10_wipe.desc).map (fun d => d.parameters.length) = some 0 := by decide +kernel
theorem lkX10_wipe_77 : Cond.fieldLink RX10 77 (TX10 10).1 (TX10 10).2.1 (TX10 10).2.2.1 ∈ wsX10_wipe := by decide +kernel
theorem inX10_wipe_X10 : ∀ w ∈ u_ws RX10 TX10 25, w ∈ wsX10_wipe := by decide +kernel
set_option maxHeartbeats 4000000 in
set_option maxRecDepth 100000 in
theorem ctX10_wipe (l : Launch) (D : va_G) (cI cZ : ClassId) (qY : Nat → Nat) (oY : Ob) (post : Int32 → Ob → Prop) (h : wpX10_wipe oY post) : CTi l yX10_wipe wsX10_wipe { frames := 0, cells := 0, slots := 0, locals := 0 } D [(cI, .int), (cZ, .boolean)] [.ref (qY 0)] (w10 cI cZ qY oY) (fun u : Ob => w10 cI cZ qY u) (fun (r : Int32) (u : Ob) => post r u) := by
  refine CTi.of (cc := cX10_wipe) (own := RX10) (maxL := 2) (ret := (some .int)) (lv0 := [(0, .ref (qY 0))]) (by decide) rfl rfl (Nat.le_of_ble_eq_true rfl) rfl ?_
  intro p e s m args below meth c A C
  unfold wpX10_wipe at h
  refine SW.aload_n C dX10_wipe_0 rfl 0 rfl ?_
  refine SW.get (v := .int (oY 0 10)) (T := TX10) (N := 25) C inX10_wipe_X10 0 rfl rfl 10 (by decide) lkX10_wipe_77 rfl dX10_wipe_1 ?_
  refine SW.istore_n (lv' := [(1, .int (oY 0 10)), (0, .ref (qY 0))]) C dX10_wipe_4 rfl (by decide) rfl ?_
  refine SW.aload_n C dX10_wipe_5 rfl 1 rfl ?_
  refine SW.iconst (v := (0 : Int32)) C dX10_wipe_6 (by decide) ?_
  refine SW.put (ws' := w10 cI cZ qY (pf oY 10 (0 : Int32))) (T := TX10) (N := 25) C inX10_wipe_X10 tyX10 tyX10_ok nmX10 0 rfl rfl 10 (by decide) lkX10_wipe_77 rfl rfl rfl (Nat.le_of_ble_eq_true rfl) rfl dX10_wipe_7 ?_
  refine SW.iload_n C dX10_wipe_10 rfl 0 rfl ?_
  exact SW.iret C (pf oY 10 (0 : Int32)) rfl h dX10_wipe_11
def wpX10_eveningFault_L2 (oYc_2 : Ob) (post : Int32 → Prop) (K54 : Prop) : Nat → Int32 → Prop
  | 0, _ => False
  | fu2 + 1, v1_2 => (((oYc_2 0 10) ≤ v1_2) → K54) ∧ (¬ ((oYc_2 0 10) ≤ v1_2) → (vp_in v1_2 60) ∧ (wpX10_isWindow oYc_2 ((jld (oYc_2 4) v1_2) - (97 : Int32)) (fun (r22 : Int32) => jn0 (wpX10_eveningFault_L2 oYc_2 post K54 fu2 (v1_2 + (1 : Int32))) (fun J48 => ((r22 = 0) → (((jld (oYc_2 4) v1_2) = (43 : Int32)) → J48) ∧ (¬ ((jld (oYc_2 4) v1_2) = (43 : Int32)) → (((jld (oYc_2 4) v1_2) = (45 : Int32)) → J48) ∧ (¬ ((jld (oYc_2 4) v1_2) = (45 : Int32)) → (((jld (oYc_2 4) v1_2) = (46 : Int32)) → J48) ∧ (¬ ((jld (oYc_2 4) v1_2) = (46 : Int32)) → post v1_2)))) ∧ (¬ (r22 = 0) → J48)))))
def wpX10_eveningFault (oY : Ob) (post : Int32 → Prop) : Prop := ∃ fu2 : Nat, wpX10_eveningFault_L2 oY post (post (-6 : Int32)) fu2 (0 : Int32)
theorem pdX10_eveningFault : yX10_eveningFault.cls = RX10 ∧ yX10_eveningFault.cls ≠ "java/lang/invoke/MethodHandle" ∧ yX10_eveningFault.cls ≠ "java/lang/invoke/VarHandle" ∧ (parseMethodDescriptor yX10_eveningFault.desc).map (fun d => d.parameters.length) = some 0 := by decide +kernel
theorem lkX10_eveningFault_77 : Cond.fieldLink RX10 77 (TX10 10).1 (TX10 10).2.1 (TX10 10).2.2.1 ∈ wsX10_eveningFault := by decide +kernel
theorem inX10_eveningFault_X10 : ∀ w ∈ u_ws RX10 TX10 25, w ∈ wsX10_eveningFault := by decide +kernel
theorem lkX10_eveningFault_32 : Cond.fieldLink RX10 32 (TX10 11).1 (TX10 11).2.1 (TX10 11).2.2.1 ∈ wsX10_eveningFault := by decide +kernel
set_option maxHeartbeats 4000000 in
set_option maxRecDepth 100000 in
theorem ctX10_eveningFault (l : Launch) (D : va_G) (cI cZ : ClassId) (qY : Nat → Nat) (oY : Ob) (post : Int32 → Prop) (h : wpX10_eveningFault oY post) : CTi l yX10_eveningFault wsX10_eveningFault { frames := 2, cells := 0, slots := 0, locals := 43 } D [(cI, .int), (cZ, .boolean)] [.ref (qY 0)] (w10 cI cZ qY oY) (fun _ : Unit => w10 cI cZ qY oY) (fun (r : Int32) (_ : Unit) => post r) := by
  refine CTi.of (cc := cX10_eveningFault) (own := RX10) (maxL := 3) (ret := (some .int)) (lv0 := [(0, .ref (qY 0))]) (by decide) rfl rfl (Nat.le_of_ble_eq_true rfl) rfl ?_
  intro p e s m args below meth c A C
  unfold wpX10_eveningFault at h
  refine SW.iconst (v := (0 : Int32)) C dX10_eveningFault_0 (by decide) ?_
  refine SW.istore_n (lv' := [(1, .int (0 : Int32)), (0, .ref (qY 0))]) C dX10_eveningFault_1 rfl (by decide) rfl ?_
  have L2 : ∀ (K54 : Prop) (hK54 : K54 → SW p l e { frames := 2, cells := 0, slots := 0, locals := 43 } s m args below meth c A D 3 0 0 (MQ below (va_Qi (fun (r : Int32) (_ : Unit) => post r) (ctB D A (fun _ : Unit => w10 cI cZ qY oY)) A) args s 0 0 A) (w10 cI cZ qY oY) 54 [] []) (fu : Nat) (v1_2 : Int32), wpX10_eveningFault_L2 oY post K54 fu v1_2 → SW p l e { frames := 2, cells := 0, slots := 0, locals := 43 } s m args below meth c A D 3 0 0 (MQ below (va_Qi (fun (r : Int32) (_ : Unit) => post r) (ctB D A (fun _ : Unit => w10 cI cZ qY oY)) A) args s 0 0 A) (w10 cI cZ qY oY) 2 [(0, .ref (qY 0)), (1, .int v1_2)] [] := by
    intro K54 hK54 fu
    induction fu with
    | zero =>
      intro v1_2 h
      exact False.elim h
    | succ fu ih =>
      intro v1_2 h
      unfold wpX10_eveningFault_L2 at h
      refine SW.iload_n C dX10_eveningFault_2 rfl 1 rfl ?_
      refine SW.aload_n C dX10_eveningFault_3 rfl 0 rfl ?_
      refine SW.get (v := .int (oY 0 10)) (T := TX10) (N := 25) C inX10_eveningFault_X10 0 rfl rfl 10 (by decide) lkX10_eveningFault_77 rfl dX10_eveningFault_4 ?_
      refine SW.icmp_ge (tgt := 54) C dX10_eveningFault_7 (by decide) (fun hc => ?_) (fun hc => ?_)
      · replace h := h.1 hc
        refine SW.sub [] rfl ?_
        exact hK54 h
      · replace h := h.2 hc
        refine SW.aload_n C dX10_eveningFault_10 rfl 0 rfl ?_
        refine SW.get (v := .ref (qY 4)) (T := TX10) (N := 25) C inX10_eveningFault_X10 0 rfl rfl 11 (by decide) lkX10_eveningFault_32 rfl dX10_eveningFault_11 ?_
        refine SW.iload_n C dX10_eveningFault_14 rfl 1 rfl ?_
        refine SW.iald C 4 0 rfl rfl h.1 dX10_eveningFault_15 ?_
        replace h := h.2
        refine SW.istore_n (lv' := [(2, .int (jld (oY 4) v1_2)), (0, .ref (qY 0)), (1, .int v1_2)]) C dX10_eveningFault_16 rfl (by decide) rfl ?_
        refine SW.aload_n C dX10_eveningFault_17 rfl 1 rfl ?_
        refine SW.iload_n C dX10_eveningFault_18 rfl 0 rfl ?_
        refine SW.bipush (v := (97 : Int32)) C dX10_eveningFault_19 (by decide) ?_
        refine SW.isub C dX10_eveningFault_21 ?_
        refine SW.callVi_same C (ctX10_isWindow l D cI cZ qY oY ((jld (oY 4) v1_2) - (97 : Int32)) _ h) gX10_eveningFault_X10_isWindow rfl rfl rfl pdX10_isWindow ⟨by decide, by decide⟩ 0 rfl rfl rfl rfl rfl (Nat.le_of_ble_eq_true rfl) dX10_eveningFault_22 (by decide) (fun r22 u h => ?_)
        try dsimp only at h
        refine jn0_elim (G := SW p l e { frames := 2, cells := 0, slots := 0, locals := 43 } s m args below meth c A D 3 0 0 (MQ below (va_Qi (fun (r : Int32) (_ : Unit) => post r) (ctB D A (fun _ : Unit => w10 cI cZ qY oY)) A) args s 0 0 A) (w10 cI cZ qY oY) 48 [(0, .ref (qY 0)), (1, .int v1_2)] []) h (fun h => ?_) (fun J48 hJ48 h => ?_)
        · refine SW.iinc (q := 1) (v := (v1_2 + (1 : Int32))) (lv' := [(1, .int (v1_2 + (1 : Int32))), (0, .ref (qY 0))]) C dX10_eveningFault_48 rfl rfl (by decide) rfl ?_
          refine SW.goto (tgt := 2) C dX10_eveningFault_51 (by decide) ?_
          refine SW.sub [1, 0] rfl ?_
          exact ih _ h
        · refine SW.if_ne (tgt := 48) C dX10_eveningFault_25 (by decide) (fun hc => ?_) (fun hc => ?_)
          · replace h := h.2 hc
            refine SW.sub [1, 2] rfl ?_
            exact hJ48 h
          · replace h := h.1 hc
            refine SW.iload_n C dX10_eveningFault_28 rfl 0 rfl ?_
            refine SW.bipush (v := (43 : Int32)) C dX10_eveningFault_29 (by decide) ?_
            refine SW.icmp_eq (tgt := 48) C dX10_eveningFault_31 (by decide) (fun hc => ?_) (fun hc => ?_)
            · replace h := h.1 hc
              refine SW.sub [1, 2] rfl ?_
              exact hJ48 h
            · replace h := h.2 hc
              refine SW.iload_n C dX10_eveningFault_34 rfl 0 rfl ?_
              refine SW.bipush (v := (45 : Int32)) C dX10_eveningFault_35 (by decide) ?_
              refine SW.icmp_eq (tgt := 48) C dX10_eveningFault_37 (by decide) (fun hc => ?_) (fun hc => ?_)
              · replace h := h.1 hc
                refine SW.sub [1, 2] rfl ?_
                exact hJ48 h
              · replace h := h.2 hc
                refine SW.iload_n C dX10_eveningFault_40 rfl 0 rfl ?_
                refine SW.bipush (v := (46 : Int32)) C dX10_eveningFault_41 (by decide) ?_
                refine SW.icmp_eq (tgt := 48) C dX10_eveningFault_43 (by decide) (fun hc => ?_) (fun hc => ?_)
                · replace h := h.1 hc
                  refine SW.sub [1, 2] rfl ?_
                  exact hJ48 h
                · replace h := h.2 hc
                  refine SW.iload_n C dX10_eveningFault_46 rfl 2 rfl ?_
                  exact SW.iret C () rfl h dX10_eveningFault_47
  obtain ⟨fu, h⟩ := h
  refine SW.sub [1, 0] rfl ?_
  refine L2 _ (fun h => ?_) fu _ h
  · refine SW.bipush (v := (-6 : Int32)) C dX10_eveningFault_54 (by decide) ?_
    exact SW.iret C () rfl h dX10_eveningFault_56
def wpX10_tuneFault_L2 (oYc_2 : Ob) (post : Int32 → Prop) (K104 : Prop) : Nat → Int32 → Prop
  | 0, _ => False
  | fu2 + 1, v1_2 => (((oYc_2 0 10) ≤ v1_2) → K104) ∧ (¬ ((oYc_2 0 10) ≤ v1_2) → jn1 (fun (p0_21 : Int32) => jn1 (fun (p0_91 : Int32) => ((p0_91 = 0) → post v1_2) ∧ (¬ (p0_91 = 0) → wpX10_tuneFault_L2 oYc_2 post K104 fu2 (v1_2 + (1 : Int32)))) (fun J91 => ((p0_21 = 0) → (vp_in v1_2 60) ∧ ((vp_in (v1_2 - (1 : Int32)) 60) ∧ (jn2 (fun (p0_68 : Int32) (p1_68 : Int32) => (vp_in (v1_2 - (1 : Int32)) 60) ∧ (jn3 (fun (p0_88 : Int32) (p1_88 : Int32) (p2_88 : Int32) => wpX10_in p2_88 p1_88 p0_88 (fun (r88 : Int32) => J91 r88)) (fun J88 => (((jld (oYc_2 4) (v1_2 - (1 : Int32))) = (50 : Int32)) → J88 (48 : Int32) p0_68 p1_68) ∧ (¬ ((jld (oYc_2 4) (v1_2 - (1 : Int32))) = (50 : Int32)) → J88 (57 : Int32) p0_68 p1_68)))) (fun J68 => (((jld (oYc_2 4) (v1_2 - (1 : Int32))) = (48 : Int32)) → J68 (49 : Int32) (jld (oYc_2 4) v1_2)) ∧ (¬ ((jld (oYc_2 4) (v1_2 - (1 : Int32))) = (48 : Int32)) → J68 (48 : Int32) (jld (oYc_2 4) v1_2)))))) ∧ (¬ (p0_21 = 0) → (vp_in v1_2 60) ∧ (wpX10_in (jld (oYc_2 4) v1_2) (48 : Int32) (50 : Int32) (fun (r36 : Int32) => J91 r36))))) (fun J21 => (((jrem v1_2 (2 : Int32)) = 0) → J21 (1 : Int32)) ∧ (¬ ((jrem v1_2 (2 : Int32)) = 0) → J21 (0 : Int32))))
def wpX10_tuneFault (oY : Ob) (post : Int32 → Prop) : Prop := ∃ fu2 : Nat, wpX10_tuneFault_L2 oY post (jn0 (post (oY 0 10)) (fun J121 => (((oY 0 10) = 0) → J121) ∧ (¬ ((oY 0 10) = 0) → (((jrem (oY 0 10) (2 : Int32)) = (1 : Int32)) → J121) ∧ (¬ ((jrem (oY 0 10) (2 : Int32)) = (1 : Int32)) → post (-6 : Int32))))) fu2 (0 : Int32)
theorem pdX10_tuneFault : yX10_tuneFault.cls = RX10 ∧ yX10_tuneFault.cls ≠ "java/lang/invoke/MethodHandle" ∧ yX10_tuneFault.cls ≠ "java/lang/invoke/VarHandle" ∧ (parseMethodDescriptor yX10_tuneFault.desc).map (fun d => d.parameters.length) = some 0 := by decide +kernel
theorem lkX10_tuneFault_77 : Cond.fieldLink RX10 77 (TX10 10).1 (TX10 10).2.1 (TX10 10).2.2.1 ∈ wsX10_tuneFault := by decide +kernel
theorem inX10_tuneFault_X10 : ∀ w ∈ u_ws RX10 TX10 25, w ∈ wsX10_tuneFault := by decide +kernel
theorem lkX10_tuneFault_32 : Cond.fieldLink RX10 32 (TX10 11).1 (TX10 11).2.1 (TX10 11).2.2.1 ∈ wsX10_tuneFault := by decide +kernel
set_option maxHeartbeats 4000000 in
set_option maxRecDepth 100000 in
theorem ctX10_tuneFault (l : Launch) (D : va_G) (cI cZ : ClassId) (qY : Nat → Nat) (oY : Ob) (post : Int32 → Prop) (h : wpX10_tuneFault oY post) : CTi l yX10_tuneFault wsX10_tuneFault { frames := 1, cells := 0, slots := 0, locals := 22 } D [(cI, .int), (cZ, .boolean)] [.ref (qY 0)] (w10 cI cZ qY oY) (fun _ : Unit => w10 cI cZ qY oY) (fun (r : Int32) (_ : Unit) => post r) := by
  refine CTi.of (cc := cX10_tuneFault) (own := RX10) (maxL := 4) (ret := (some .int)) (lv0 := [(0, .ref (qY 0))]) (by decide) rfl rfl (Nat.le_of_ble_eq_true rfl) rfl ?_
  intro p e s m args below meth c A C
  unfold wpX10_tuneFault at h
  refine SW.iconst (v := (0 : Int32)) C dX10_tuneFault_0 (by decide) ?_
  refine SW.istore_n (lv' := [(1, .int (0 : Int32)), (0, .ref (qY 0))]) C dX10_tuneFault_1 rfl (by decide) rfl ?_
  have L2 : ∀ (K104 : Prop) (hK104 : K104 → SW p l e { frames := 1, cells := 0, slots := 0, locals := 22 } s m args below meth c A D 4 0 0 (MQ below (va_Qi (fun (r : Int32) (_ : Unit) => post r) (ctB D A (fun _ : Unit => w10 cI cZ qY oY)) A) args s 0 0 A) (w10 cI cZ qY oY) 104 [(0, .ref (qY 0))] []) (fu : Nat) (v1_2 : Int32), wpX10_tuneFault_L2 oY post K104 fu v1_2 → SW p l e { frames := 1, cells := 0, slots := 0, locals := 22 } s m args below meth c A D 4 0 0 (MQ below (va_Qi (fun (r : Int32) (_ : Unit) => post r) (ctB D A (fun _ : Unit => w10 cI cZ qY oY)) A) args s 0 0 A) (w10 cI cZ qY oY) 2 [(0, .ref (qY 0)), (1, .int v1_2)] [] := by
    intro K104 hK104 fu
    induction fu with
    | zero =>
      intro v1_2 h
      exact False.elim h
    | succ fu ih =>
      intro v1_2 h
      unfold wpX10_tuneFault_L2 at h
      refine SW.iload_n C dX10_tuneFault_2 rfl 1 rfl ?_
      refine SW.aload_n C dX10_tuneFault_3 rfl 0 rfl ?_
      refine SW.get (v := .int (oY 0 10)) (T := TX10) (N := 25) C inX10_tuneFault_X10 0 rfl rfl 10 (by decide) lkX10_tuneFault_77 rfl dX10_tuneFault_4 ?_
      refine SW.icmp_ge (tgt := 104) C dX10_tuneFault_7 (by decide) (fun hc => ?_) (fun hc => ?_)
      · replace h := h.1 hc
        refine SW.sub [0] rfl ?_
        exact hK104 h
      · replace h := h.2 hc
        refine SW.iload_n C dX10_tuneFault_10 rfl 1 rfl ?_
        refine SW.iconst (v := (2 : Int32)) C dX10_tuneFault_11 (by decide) ?_
        refine SW.irem C dX10_tuneFault_12 (by decide) ?_
        refine jn1_elim (G := fun p0_21 => SW p l e { frames := 1, cells := 0, slots := 0, locals := 22 } s m args below meth c A D 4 0 0 (MQ below (va_Qi (fun (r : Int32) (_ : Unit) => post r) (ctB D A (fun _ : Unit => w10 cI cZ qY oY)) A) args s 0 0 A) (w10 cI cZ qY oY) 21 [(0, .ref (qY 0)), (1, .int v1_2)] [.int p0_21]) h (fun p0_21 h => ?_) (fun J21 hJ21 h => ?_)
        · refine SW.istore_n (lv' := [(2, .int p0_21), (0, .ref (qY 0)), (1, .int v1_2)]) C dX10_tuneFault_21 rfl (by decide) rfl ?_
          refine SW.iload_n C dX10_tuneFault_22 rfl 0 rfl ?_
          refine jn1_elim (G := fun p0_91 => SW p l e { frames := 1, cells := 0, slots := 0, locals := 22 } s m args below meth c A D 4 0 0 (MQ below (va_Qi (fun (r : Int32) (_ : Unit) => post r) (ctB D A (fun _ : Unit => w10 cI cZ qY oY)) A) args s 0 0 A) (w10 cI cZ qY oY) 91 [(0, .ref (qY 0)), (1, .int v1_2)] [.int p0_91]) h (fun p0_91 h => ?_) (fun J91 hJ91 h => ?_)
          · refine SW.istore_n (lv' := [(3, .int p0_91), (0, .ref (qY 0)), (1, .int v1_2)]) C dX10_tuneFault_91 rfl (by decide) rfl ?_
            refine SW.iload_n C dX10_tuneFault_92 rfl 0 rfl ?_
            refine SW.if_ne (tgt := 98) C dX10_tuneFault_93 (by decide) (fun hc => ?_) (fun hc => ?_)
            · replace h := h.2 hc
              refine SW.iinc (q := 2) (v := (v1_2 + (1 : Int32))) (lv' := [(1, .int (v1_2 + (1 : Int32))), (3, .int p0_91), (0, .ref (qY 0))]) C dX10_tuneFault_98 rfl rfl (by decide) rfl ?_
              refine SW.goto (tgt := 2) C dX10_tuneFault_101 (by decide) ?_
              refine SW.sub [2, 0] rfl ?_
              exact ih _ h
            · replace h := h.1 hc
              refine SW.iload_n C dX10_tuneFault_96 rfl 2 rfl ?_
              exact SW.iret C () rfl h dX10_tuneFault_97
          · refine SW.if_eq (tgt := 42) C dX10_tuneFault_23 (by decide) (fun hc => ?_) (fun hc => ?_)
            · replace h := h.1 hc
              refine SW.aload_n C dX10_tuneFault_42 rfl 1 rfl ?_
              refine SW.get (v := .ref (qY 4)) (T := TX10) (N := 25) C inX10_tuneFault_X10 0 rfl rfl 11 (by decide) lkX10_tuneFault_32 rfl dX10_tuneFault_43 ?_
              refine SW.iload_n C dX10_tuneFault_46 rfl 2 rfl ?_
              refine SW.iald C 4 0 rfl rfl h.1 dX10_tuneFault_47 ?_
              replace h := h.2
              refine SW.aload_n C dX10_tuneFault_48 rfl 1 rfl ?_
              refine SW.get (v := .ref (qY 4)) (T := TX10) (N := 25) C inX10_tuneFault_X10 0 rfl rfl 11 (by decide) lkX10_tuneFault_32 rfl dX10_tuneFault_49 ?_
              refine SW.iload_n C dX10_tuneFault_52 rfl 2 rfl ?_
              refine SW.iconst (v := (1 : Int32)) C dX10_tuneFault_53 (by decide) ?_
              refine SW.isub C dX10_tuneFault_54 ?_
              refine SW.iald C 4 0 rfl rfl h.1 dX10_tuneFault_55 ?_
              replace h := h.2
              refine SW.bipush (v := (48 : Int32)) C dX10_tuneFault_56 (by decide) ?_
              refine jn2_elim (G := fun p0_68 p1_68 => SW p l e { frames := 1, cells := 0, slots := 0, locals := 22 } s m args below meth c A D 4 0 0 (MQ below (va_Qi (fun (r : Int32) (_ : Unit) => post r) (ctB D A (fun _ : Unit => w10 cI cZ qY oY)) A) args s 0 0 A) (w10 cI cZ qY oY) 68 [(0, .ref (qY 0)), (1, .int v1_2)] [.int p0_68, .int p1_68]) h (fun p0_68 p1_68 h => ?_) (fun J68 hJ68 h => ?_)
              · refine SW.aload_n C dX10_tuneFault_68 rfl 0 rfl ?_
                refine SW.get (v := .ref (qY 4)) (T := TX10) (N := 25) C inX10_tuneFault_X10 0 rfl rfl 11 (by decide) lkX10_tuneFault_32 rfl dX10_tuneFault_69 ?_
                refine SW.iload_n C dX10_tuneFault_72 rfl 1 rfl ?_
                refine SW.iconst (v := (1 : Int32)) C dX10_tuneFault_73 (by decide) ?_
                refine SW.isub C dX10_tuneFault_74 ?_
                refine SW.iald C 4 0 rfl rfl h.1 dX10_tuneFault_75 ?_
                replace h := h.2
                refine SW.bipush (v := (50 : Int32)) C dX10_tuneFault_76 (by decide) ?_
                refine jn3_elim (G := fun p0_88 p1_88 p2_88 => SW p l e { frames := 1, cells := 0, slots := 0, locals := 22 } s m args below meth c A D 4 0 0 (MQ below (va_Qi (fun (r : Int32) (_ : Unit) => post r) (ctB D A (fun _ : Unit => w10 cI cZ qY oY)) A) args s 0 0 A) (w10 cI cZ qY oY) 88 [(0, .ref (qY 0)), (1, .int v1_2)] [.int p0_88, .int p1_88, .int p2_88]) h (fun p0_88 p1_88 p2_88 h => ?_) (fun J88 hJ88 h => ?_)
                · refine SW.callSi_pure C (ctX10_in l D cI cZ p2_88 p1_88 p0_88 _ h) gX10_tuneFault_X10_in rfl rfl rfl pdX10_in ⟨by decide, by decide⟩ rfl rfl (Nat.le_of_ble_eq_true rfl) dX10_tuneFault_88 (by decide) (fun r88 u h => ?_)
                  try dsimp only at h
                  exact hJ91 _ h
                · refine SW.icmp_ne (tgt := 86) C dX10_tuneFault_78 (by decide) (fun hc => ?_) (fun hc => ?_)
                  · replace h := h.2 hc
                    refine SW.bipush (v := (57 : Int32)) C dX10_tuneFault_86 (by decide) ?_
                    exact hJ88 _ _ _ h
                  · replace h := h.1 hc
                    refine SW.bipush (v := (48 : Int32)) C dX10_tuneFault_81 (by decide) ?_
                    refine SW.goto (tgt := 88) C dX10_tuneFault_83 (by decide) ?_
                    exact hJ88 _ _ _ h
              · refine SW.icmp_ne (tgt := 66) C dX10_tuneFault_58 (by decide) (fun hc => ?_) (fun hc => ?_)
                · replace h := h.2 hc
                  refine SW.bipush (v := (48 : Int32)) C dX10_tuneFault_66 (by decide) ?_
                  refine SW.sub [1, 2] rfl ?_
                  exact hJ68 _ _ h
                · replace h := h.1 hc
                  refine SW.bipush (v := (49 : Int32)) C dX10_tuneFault_61 (by decide) ?_
                  refine SW.goto (tgt := 68) C dX10_tuneFault_63 (by decide) ?_
                  refine SW.sub [1, 2] rfl ?_
                  exact hJ68 _ _ h
            · replace h := h.2 hc
              refine SW.aload_n C dX10_tuneFault_26 rfl 1 rfl ?_
              refine SW.get (v := .ref (qY 4)) (T := TX10) (N := 25) C inX10_tuneFault_X10 0 rfl rfl 11 (by decide) lkX10_tuneFault_32 rfl dX10_tuneFault_27 ?_
              refine SW.iload_n C dX10_tuneFault_30 rfl 2 rfl ?_
              refine SW.iald C 4 0 rfl rfl h.1 dX10_tuneFault_31 ?_
              replace h := h.2
              refine SW.bipush (v := (48 : Int32)) C dX10_tuneFault_32 (by decide) ?_
              refine SW.bipush (v := (50 : Int32)) C dX10_tuneFault_34 (by decide) ?_
              refine SW.callSi_pure C (ctX10_in l D cI cZ (jld (oY 4) v1_2) (48 : Int32) (50 : Int32) _ h) gX10_tuneFault_X10_in rfl rfl rfl pdX10_in ⟨by decide, by decide⟩ rfl rfl (Nat.le_of_ble_eq_true rfl) dX10_tuneFault_36 (by decide) (fun r36 u h => ?_)
              try dsimp only at h
              refine SW.goto (tgt := 91) C dX10_tuneFault_39 (by decide) ?_
              refine SW.sub [1, 2] rfl ?_
              exact hJ91 _ h
        · refine SW.if_ne (tgt := 20) C dX10_tuneFault_13 (by decide) (fun hc => ?_) (fun hc => ?_)
          · replace h := h.2 hc
            refine SW.iconst (v := (0 : Int32)) C dX10_tuneFault_20 (by decide) ?_
            exact hJ21 _ h
          · replace h := h.1 hc
            refine SW.iconst (v := (1 : Int32)) C dX10_tuneFault_16 (by decide) ?_
            refine SW.goto (tgt := 21) C dX10_tuneFault_17 (by decide) ?_
            exact hJ21 _ h
  obtain ⟨fu, h⟩ := h
  refine SW.sub [1, 0] rfl ?_
  refine L2 _ (fun h => ?_) fu _ h
  · refine SW.aload_n C dX10_tuneFault_104 rfl 0 rfl ?_
    refine SW.get (v := .int (oY 0 10)) (T := TX10) (N := 25) C inX10_tuneFault_X10 0 rfl rfl 10 (by decide) lkX10_tuneFault_77 rfl dX10_tuneFault_105 ?_
    refine jn0_elim (G := SW p l e { frames := 1, cells := 0, slots := 0, locals := 22 } s m args below meth c A D 4 0 0 (MQ below (va_Qi (fun (r : Int32) (_ : Unit) => post r) (ctB D A (fun _ : Unit => w10 cI cZ qY oY)) A) args s 0 0 A) (w10 cI cZ qY oY) 121 [(0, .ref (qY 0))] []) h (fun h => ?_) (fun J121 hJ121 h => ?_)
    · refine SW.aload_n C dX10_tuneFault_121 rfl 0 rfl ?_
      refine SW.get (v := .int (oY 0 10)) (T := TX10) (N := 25) C inX10_tuneFault_X10 0 rfl rfl 10 (by decide) lkX10_tuneFault_77 rfl dX10_tuneFault_122 ?_
      refine SW.goto (tgt := 130) C dX10_tuneFault_125 (by decide) ?_
      exact SW.iret C () rfl h dX10_tuneFault_130
    · refine SW.if_eq (tgt := 121) C dX10_tuneFault_108 (by decide) (fun hc => ?_) (fun hc => ?_)
      · replace h := h.1 hc
        exact hJ121 h
      · replace h := h.2 hc
        refine SW.aload_n C dX10_tuneFault_111 rfl 0 rfl ?_
        refine SW.get (v := .int (oY 0 10)) (T := TX10) (N := 25) C inX10_tuneFault_X10 0 rfl rfl 10 (by decide) lkX10_tuneFault_77 rfl dX10_tuneFault_112 ?_
        refine SW.iconst (v := (2 : Int32)) C dX10_tuneFault_115 (by decide) ?_
        refine SW.irem C dX10_tuneFault_116 (by decide) ?_
        refine SW.iconst (v := (1 : Int32)) C dX10_tuneFault_117 (by decide) ?_
        refine SW.icmp_ne (tgt := 128) C dX10_tuneFault_118 (by decide) (fun hc => ?_) (fun hc => ?_)
        · replace h := h.2 hc
          refine SW.bipush (v := (-6 : Int32)) C dX10_tuneFault_128 (by decide) ?_
          exact SW.iret C () rfl h dX10_tuneFault_130
        · replace h := h.1 hc
          exact hJ121 h
def wpX10_fault (oY : Ob) (v1 : Int32) (post : Int32 → Prop) : Prop := ((v1 = 0) → wpX10_eveningFault oY (fun (r5 : Int32) => post r5)) ∧ (¬ (v1 = 0) → ((v1 = (1 : Int32)) → wpX10_tuneFault oY (fun (r17 : Int32) => post r17)) ∧ (¬ (v1 = (1 : Int32)) → post (-2 : Int32)))
theorem pdX10_fault : yX10_fault.cls = RX10 ∧ yX10_fault.cls ≠ "java/lang/invoke/MethodHandle" ∧ yX10_fault.cls ≠ "java/lang/invoke/VarHandle" ∧ (parseMethodDescriptor yX10_fault.desc).map (fun d => d.parameters.length) = some 1 := by decide +kernel
set_option maxHeartbeats 4000000 in
set_option maxRecDepth 100000 in
theorem ctX10_fault (l : Launch) (D : va_G) (cI cZ : ClassId) (qY : Nat → Nat) (oY : Ob) (v1 : Int32) (post : Int32 → Prop) (h : wpX10_fault oY v1 post) : CTi l yX10_fault wsX10_fault { frames := 3, cells := 0, slots := 0, locals := 65 } D [(cI, .int), (cZ, .boolean)] [.ref (qY 0), .int v1] (w10 cI cZ qY oY) (fun _ : Unit => w10 cI cZ qY oY) (fun (r : Int32) (_ : Unit) => post r) := by
  refine CTi.of (cc := cX10_fault) (own := RX10) (maxL := 2) (ret := (some .int)) (lv0 := [(0, .ref (qY 0)), (1, .int v1)]) (by decide) rfl rfl (Nat.le_of_ble_eq_true rfl) rfl ?_
  intro p e s m args below meth c A C
  unfold wpX10_fault at h
  refine SW.iload_n C dX10_fault_0 rfl 1 rfl ?_
  refine SW.if_ne (tgt := 11) C dX10_fault_1 (by decide) (fun hc => ?_) (fun hc => ?_)
  · replace h := h.2 hc
    refine SW.iload_n C dX10_fault_11 rfl 1 rfl ?_
    refine SW.iconst (v := (1 : Int32)) C dX10_fault_12 (by decide) ?_
    refine SW.icmp_ne (tgt := 23) C dX10_fault_13 (by decide) (fun hc => ?_) (fun hc => ?_)
    · replace h := h.2 hc
      refine SW.bipush (v := (-2 : Int32)) C dX10_fault_23 (by decide) ?_
      exact SW.iret C () rfl h dX10_fault_25
    · replace h := h.1 hc
      refine SW.aload_n C dX10_fault_16 rfl 0 rfl ?_
      refine SW.callVi_same C (ctX10_tuneFault l D cI cZ qY oY _ h) gX10_fault_X10_tuneFault rfl rfl rfl pdX10_tuneFault ⟨by decide, by decide⟩ 0 rfl rfl rfl rfl rfl (Nat.le_of_ble_eq_true rfl) dX10_fault_17 (by decide) (fun r17 u h => ?_)
      try dsimp only at h
      refine SW.goto (tgt := 25) C dX10_fault_20 (by decide) ?_
      exact SW.iret C () rfl h dX10_fault_25
  · replace h := h.1 hc
    refine SW.aload_n C dX10_fault_4 rfl 0 rfl ?_
    refine SW.callVi_same C (ctX10_eveningFault l D cI cZ qY oY _ h) gX10_fault_X10_eveningFault rfl rfl rfl pdX10_eveningFault ⟨by decide, by decide⟩ 0 rfl rfl rfl rfl rfl (Nat.le_of_ble_eq_true rfl) dX10_fault_5 (by decide) (fun r5 u h => ?_)
    try dsimp only at h
    refine SW.goto (tgt := 25) C dX10_fault_8 (by decide) ?_
    exact SW.iret C () rfl h dX10_fault_25
def wpX10_at_L4 (c1_4 : Int32) (oYc_4 : Ob) (K24 : Int32 → Prop) : Nat → Int32 → Int32 → Prop
  | 0, _, _ => False
  | fu4 + 1, v2_4, v3_4 => ((c1_4 < v3_4) → K24 v2_4) ∧ (¬ (c1_4 < v3_4) → (vp_in v3_4 10) ∧ (wpX10_at_L4 c1_4 oYc_4 K24 fu4 (v2_4 + (jld (oYc_4 1) v3_4)) (v3_4 + (1 : Int32))))
def wpX10_at (oY : Ob) (v1 : Int32) (post : Int32 → Prop) : Prop := ∃ fu4 : Nat, wpX10_at_L4 v1 oY (fun (v2_24 : Int32) => post v2_24) fu4 (0 : Int32) (0 : Int32)
theorem pdX10_at : yX10_at.cls = RX10 ∧ yX10_at.cls ≠ "java/lang/invoke/MethodHandle" ∧ yX10_at.cls ≠ "java/lang/invoke/VarHandle" ∧ (parseMethodDescriptor yX10_at.desc).map (fun d => d.parameters.length) = some 1 := by decide +kernel
theorem lkX10_at_13 : Cond.fieldLink RX10 13 (TX10 1).1 (TX10 1).2.1 (TX10 1).2.2.1 ∈ wsX10_at := by decide +kernel
theorem inX10_at_X10 : ∀ w ∈ u_ws RX10 TX10 25, w ∈ wsX10_at := by decide +kernel
set_option maxHeartbeats 4000000 in
set_option maxRecDepth 100000 in
theorem ctX10_at (l : Launch) (D : va_G) (cI cZ : ClassId) (qY : Nat → Nat) (oY : Ob) (v1 : Int32) (post : Int32 → Prop) (h : wpX10_at oY v1 post) : CTi l yX10_at wsX10_at { frames := 0, cells := 0, slots := 0, locals := 0 } D [(cI, .int), (cZ, .boolean)] [.ref (qY 0), .int v1] (w10 cI cZ qY oY) (fun _ : Unit => w10 cI cZ qY oY) (fun (r : Int32) (_ : Unit) => post r) := by
  refine CTi.of (cc := cX10_at) (own := RX10) (maxL := 4) (ret := (some .int)) (lv0 := [(0, .ref (qY 0)), (1, .int v1)]) (by decide) rfl rfl (Nat.le_of_ble_eq_true rfl) rfl ?_
  intro p e s m args below meth c A C
  unfold wpX10_at at h
  refine SW.iconst (v := (0 : Int32)) C dX10_at_0 (by decide) ?_
  refine SW.istore_n (lv' := [(2, .int (0 : Int32)), (0, .ref (qY 0)), (1, .int v1)]) C dX10_at_1 rfl (by decide) rfl ?_
  refine SW.iconst (v := (0 : Int32)) C dX10_at_2 (by decide) ?_
  refine SW.istore_n (lv' := [(3, .int (0 : Int32)), (2, .int (0 : Int32)), (0, .ref (qY 0)), (1, .int v1)]) C dX10_at_3 rfl (by decide) rfl ?_
  have L4 : ∀ (K24 : Int32 → Prop) (hK24 : ∀ (v2_24 : Int32), K24 v2_24 → SW p l e { frames := 0, cells := 0, slots := 0, locals := 0 } s m args below meth c A D 4 0 0 (MQ below (va_Qi (fun (r : Int32) (_ : Unit) => post r) (ctB D A (fun _ : Unit => w10 cI cZ qY oY)) A) args s 0 0 A) (w10 cI cZ qY oY) 24 [(2, .int v2_24)] []) (fu : Nat) (v2_4 : Int32) (v3_4 : Int32), wpX10_at_L4 v1 oY K24 fu v2_4 v3_4 → SW p l e { frames := 0, cells := 0, slots := 0, locals := 0 } s m args below meth c A D 4 0 0 (MQ below (va_Qi (fun (r : Int32) (_ : Unit) => post r) (ctB D A (fun _ : Unit => w10 cI cZ qY oY)) A) args s 0 0 A) (w10 cI cZ qY oY) 4 [(0, .ref (qY 0)), (1, .int v1), (2, .int v2_4), (3, .int v3_4)] [] := by
    intro K24 hK24 fu
    induction fu with
    | zero =>
      intro v2_4 v3_4 h
      exact False.elim h
    | succ fu ih =>
      intro v2_4 v3_4 h
      unfold wpX10_at_L4 at h
      refine SW.iload_n C dX10_at_4 rfl 3 rfl ?_
      refine SW.iload_n C dX10_at_5 rfl 1 rfl ?_
      refine SW.icmp_gt (tgt := 24) C dX10_at_6 (by decide) (fun hc => ?_) (fun hc => ?_)
      · replace h := h.1 hc
        refine SW.sub [2] rfl ?_
        exact hK24 _ h
      · replace h := h.2 hc
        refine SW.iload_n C dX10_at_9 rfl 2 rfl ?_
        refine SW.aload_n C dX10_at_10 rfl 0 rfl ?_
        refine SW.get (v := .ref (qY 1)) (T := TX10) (N := 25) C inX10_at_X10 0 rfl rfl 1 (by decide) lkX10_at_13 rfl dX10_at_11 ?_
        refine SW.iload_n C dX10_at_14 rfl 3 rfl ?_
        refine SW.iald C 1 0 rfl rfl h.1 dX10_at_15 ?_
        replace h := h.2
        refine SW.iadd C dX10_at_16 ?_
        refine SW.istore_n (lv' := [(2, .int (v2_4 + (jld (oY 1) v3_4))), (0, .ref (qY 0)), (1, .int v1), (3, .int v3_4)]) C dX10_at_17 rfl (by decide) rfl ?_
        refine SW.iinc (q := 3) (v := (v3_4 + (1 : Int32))) (lv' := [(3, .int (v3_4 + (1 : Int32))), (2, .int (v2_4 + (jld (oY 1) v3_4))), (0, .ref (qY 0)), (1, .int v1)]) C dX10_at_18 rfl rfl (by decide) rfl ?_
        refine SW.goto (tgt := 4) C dX10_at_21 (by decide) ?_
        refine SW.sub [2, 3, 1, 0] rfl ?_
        exact ih _ _ h
  obtain ⟨fu, h⟩ := h
  refine SW.sub [2, 3, 1, 0] rfl ?_
  refine L4 _ (fun v2_24 h => ?_) fu _ _ h
  · refine SW.iload_n C dX10_at_24 rfl 0 rfl ?_
    exact SW.iret C () rfl h dX10_at_25
def wpX10_lengthOf_L25 (c1_25 : Int32) (c2_25 : Int32) (oYc_25 : Ob) (K68 : Int32 → Prop) : Nat → Int32 → Int32 → Prop
  | 0, _, _ => False
  | fu25 + 1, v4_25, v6_25 => (((oYc_25 0 0) ≤ v6_25) → K68 v4_25) ∧ (¬ ((oYc_25 0 0) ≤ v6_25) → wpX10_has c2_25 v6_25 (fun (r37 : Int32) => jn1 (fun (p0_60 : Int32) => wpX10_lengthOf_L25 c1_25 c2_25 oYc_25 K68 fu25 p0_60 (v6_25 + (1 : Int32))) (fun J60 => jn0 (J60 v4_25) (fun J58 => ((r37 = 0) → J58) ∧ (¬ (r37 = 0) → ((c1_25 < v6_25) → J58) ∧ (¬ (c1_25 < v6_25) → wpX10_at oYc_25 v6_25 (fun (r52 : Int32) => J60 r52)))))))
def wpX10_lengthOf_L76 (c1_76 : Int32) (c2_76 : Int32) (oYc_76 : Ob) (K110 : Int32 → Prop) : Nat → Int32 → Int32 → Prop
  | 0, _, _ => False
  | fu76 + 1, v5_76, v6_76 => ((v6_76 ≤ c1_76) → K110 v5_76) ∧ (¬ (v6_76 ≤ c1_76) → wpX10_has c2_76 v6_76 (fun (r85 : Int32) => jn1 (fun (p0_102 : Int32) => wpX10_lengthOf_L76 c1_76 c2_76 oYc_76 K110 fu76 p0_102 (v6_76 + (-1 : Int32))) (fun J102 => ((r85 = 0) → J102 v5_76) ∧ (¬ (r85 = 0) → wpX10_at oYc_76 v6_76 (fun (r94 : Int32) => J102 r94)))))
def wpX10_lengthOf (oY : Ob) (v1 : Int32) (v2 : Int32) (v3 : Int32) (post : Int32 → Prop) : Prop := wpX10_at oY ((oY 0 0) - (1 : Int32)) (fun (r10 : Int32) => ∃ fu25 : Nat, wpX10_lengthOf_L25 v1 v2 oY (fun (v4_68 : Int32) => ∃ fu76 : Nat, wpX10_lengthOf_L76 v1 v2 oY (fun (v5_110 : Int32) => post (v5_110 - v4_68)) fu76 ((r10 + (oY 0 2)) + v3) ((oY 0 0) - (1 : Int32))) fu25 (0 : Int32) (0 : Int32))
theorem pdX10_lengthOf : yX10_lengthOf.cls = RX10 ∧ yX10_lengthOf.cls ≠ "java/lang/invoke/MethodHandle" ∧ yX10_lengthOf.cls ≠ "java/lang/invoke/VarHandle" ∧ (parseMethodDescriptor yX10_lengthOf.desc).map (fun d => d.parameters.length) = some 3 := by decide +kernel
theorem lkX10_lengthOf_7 : Cond.fieldLink RX10 7 (TX10 0).1 (TX10 0).2.1 (TX10 0).2.2.1 ∈ wsX10_lengthOf := by decide +kernel
theorem inX10_lengthOf_X10 : ∀ w ∈ u_ws RX10 TX10 25, w ∈ wsX10_lengthOf := by decide +kernel
theorem lkX10_lengthOf_17 : Cond.fieldLink RX10 17 (TX10 2).1 (TX10 2).2.1 (TX10 2).2.2.1 ∈ wsX10_lengthOf := by decide +kernel
set_option maxHeartbeats 4000000 in
set_option maxRecDepth 100000 in
theorem ctX10_lengthOf (l : Launch) (D : va_G) (cI cZ : ClassId) (qY : Nat → Nat) (oY : Ob) (v1 : Int32) (v2 : Int32) (v3 : Int32) (post : Int32 → Prop) (h : wpX10_lengthOf oY v1 v2 v3 post) : CTi l yX10_lengthOf wsX10_lengthOf { frames := 1, cells := 0, slots := 0, locals := 23 } D [(cI, .int), (cZ, .boolean)] [.ref (qY 0), .int v1, .int v2, .int v3] (w10 cI cZ qY oY) (fun _ : Unit => w10 cI cZ qY oY) (fun (r : Int32) (_ : Unit) => post r) := by
  refine CTi.of (cc := cX10_lengthOf) (own := RX10) (maxL := 7) (ret := (some .int)) (lv0 := [(0, .ref (qY 0)), (1, .int v1), (2, .int v2), (3, .int v3)]) (by decide) rfl rfl (Nat.le_of_ble_eq_true rfl) rfl ?_
  intro p e s m args below meth c A C
  unfold wpX10_lengthOf at h
  refine SW.iconst (v := (0 : Int32)) C dX10_lengthOf_0 (by decide) ?_
  refine SW.istore (lv' := [(4, .int (0 : Int32)), (0, .ref (qY 0)), (1, .int v1), (2, .int v2), (3, .int v3)]) C dX10_lengthOf_1 (by decide) rfl ?_
  refine SW.aload_n C dX10_lengthOf_3 rfl 1 rfl ?_
  refine SW.aload_n C dX10_lengthOf_4 rfl 1 rfl ?_
  refine SW.get (v := .int (oY 0 0)) (T := TX10) (N := 25) C inX10_lengthOf_X10 0 rfl rfl 0 (by decide) lkX10_lengthOf_7 rfl dX10_lengthOf_5 ?_
  refine SW.iconst (v := (1 : Int32)) C dX10_lengthOf_8 (by decide) ?_
  refine SW.isub C dX10_lengthOf_9 ?_
  refine SW.callVi_same C (ctX10_at l D cI cZ qY oY ((oY 0 0) - (1 : Int32)) _ h) gX10_lengthOf_X10_at rfl rfl rfl pdX10_at ⟨by decide, by decide⟩ 0 rfl rfl rfl rfl rfl (Nat.le_of_ble_eq_true rfl) dX10_lengthOf_10 (by decide) (fun r10 u h => ?_)
  try dsimp only at h
  refine SW.aload_n C dX10_lengthOf_13 rfl 1 rfl ?_
  refine SW.get (v := .int (oY 0 2)) (T := TX10) (N := 25) C inX10_lengthOf_X10 0 rfl rfl 2 (by decide) lkX10_lengthOf_17 rfl dX10_lengthOf_14 ?_
  refine SW.iadd C dX10_lengthOf_17 ?_
  refine SW.iload_n C dX10_lengthOf_18 rfl 4 rfl ?_
  refine SW.iadd C dX10_lengthOf_19 ?_
  refine SW.istore (lv' := [(5, .int ((r10 + (oY 0 2)) + v3)), (4, .int (0 : Int32)), (0, .ref (qY 0)), (1, .int v1), (2, .int v2), (3, .int v3)]) C dX10_lengthOf_20 (by decide) rfl ?_
  refine SW.iconst (v := (0 : Int32)) C dX10_lengthOf_22 (by decide) ?_
  refine SW.istore (lv' := [(6, .int (0 : Int32)), (5, .int ((r10 + (oY 0 2)) + v3)), (4, .int (0 : Int32)), (0, .ref (qY 0)), (1, .int v1), (2, .int v2), (3, .int v3)]) C dX10_lengthOf_23 (by decide) rfl ?_
  have L25 : ∀ (K68 : Int32 → Prop) (hK68 : ∀ (v4_68 : Int32), K68 v4_68 → SW p l e { frames := 1, cells := 0, slots := 0, locals := 23 } s m args below meth c A D 7 0 0 (MQ below (va_Qi (fun (r : Int32) (_ : Unit) => post r) (ctB D A (fun _ : Unit => w10 cI cZ qY oY)) A) args s 0 0 A) (w10 cI cZ qY oY) 68 [(0, .ref (qY 0)), (1, .int v1), (2, .int v2), (4, .int v4_68), (5, .int ((r10 + (oY 0 2)) + v3))] []) (fu : Nat) (v4_25 : Int32) (v6_25 : Int32), wpX10_lengthOf_L25 v1 v2 oY K68 fu v4_25 v6_25 → SW p l e { frames := 1, cells := 0, slots := 0, locals := 23 } s m args below meth c A D 7 0 0 (MQ below (va_Qi (fun (r : Int32) (_ : Unit) => post r) (ctB D A (fun _ : Unit => w10 cI cZ qY oY)) A) args s 0 0 A) (w10 cI cZ qY oY) 25 [(0, .ref (qY 0)), (1, .int v1), (2, .int v2), (4, .int v4_25), (5, .int ((r10 + (oY 0 2)) + v3)), (6, .int v6_25)] [] := by
    intro K68 hK68 fu
    induction fu with
    | zero =>
      intro v4_25 v6_25 h
      exact False.elim h
    | succ fu ih =>
      intro v4_25 v6_25 h
      unfold wpX10_lengthOf_L25 at h
      refine SW.iload C dX10_lengthOf_25 5 rfl ?_
      refine SW.aload_n C dX10_lengthOf_27 rfl 0 rfl ?_
      refine SW.get (v := .int (oY 0 0)) (T := TX10) (N := 25) C inX10_lengthOf_X10 0 rfl rfl 0 (by decide) lkX10_lengthOf_7 rfl dX10_lengthOf_28 ?_
      refine SW.icmp_ge (tgt := 68) C dX10_lengthOf_31 (by decide) (fun hc => ?_) (fun hc => ?_)
      · replace h := h.1 hc
        refine SW.sub [0, 1, 2, 3, 4] rfl ?_
        exact hK68 _ h
      · replace h := h.2 hc
        refine SW.iload_n C dX10_lengthOf_34 rfl 2 rfl ?_
        refine SW.iload C dX10_lengthOf_35 5 rfl ?_
        refine SW.callSi_pure C (ctX10_has l D cI cZ v2 v6_25 _ h) gX10_lengthOf_X10_has rfl rfl rfl pdX10_has ⟨by decide, by decide⟩ rfl rfl (Nat.le_of_ble_eq_true rfl) dX10_lengthOf_37 (by decide) (fun r37 u h => ?_)
        try dsimp only at h
        refine jn1_elim (G := fun p0_60 => SW p l e { frames := 1, cells := 0, slots := 0, locals := 23 } s m args below meth c A D 7 0 0 (MQ below (va_Qi (fun (r : Int32) (_ : Unit) => post r) (ctB D A (fun _ : Unit => w10 cI cZ qY oY)) A) args s 0 0 A) (w10 cI cZ qY oY) 60 [(0, .ref (qY 0)), (1, .int v1), (2, .int v2), (5, .int ((r10 + (oY 0 2)) + v3)), (6, .int v6_25)] [.int p0_60]) h (fun p0_60 h => ?_) (fun J60 hJ60 h => ?_)
        · refine SW.istore (lv' := [(4, .int p0_60), (0, .ref (qY 0)), (1, .int v1), (2, .int v2), (5, .int ((r10 + (oY 0 2)) + v3)), (6, .int v6_25)]) C dX10_lengthOf_60 (by decide) rfl ?_
          refine SW.iinc (q := 5) (v := (v6_25 + (1 : Int32))) (lv' := [(6, .int (v6_25 + (1 : Int32))), (4, .int p0_60), (0, .ref (qY 0)), (1, .int v1), (2, .int v2), (5, .int ((r10 + (oY 0 2)) + v3))]) C dX10_lengthOf_62 rfl rfl (by decide) rfl ?_
          refine SW.goto (tgt := 25) C dX10_lengthOf_65 (by decide) ?_
          refine SW.sub [2, 3, 4, 1, 5, 0] rfl ?_
          exact ih _ _ h
        · refine jn0_elim (G := SW p l e { frames := 1, cells := 0, slots := 0, locals := 23 } s m args below meth c A D 7 0 0 (MQ below (va_Qi (fun (r : Int32) (_ : Unit) => post r) (ctB D A (fun _ : Unit => w10 cI cZ qY oY)) A) args s 0 0 A) (w10 cI cZ qY oY) 58 [(0, .ref (qY 0)), (1, .int v1), (2, .int v2), (4, .int v4_25), (5, .int ((r10 + (oY 0 2)) + v3)), (6, .int v6_25)] []) h (fun h => ?_) (fun J58 hJ58 h => ?_)
          · refine SW.iload C dX10_lengthOf_58 3 rfl ?_
            refine SW.sub [0, 1, 2, 4, 5] rfl ?_
            exact hJ60 _ h
          · refine SW.if_eq (tgt := 58) C dX10_lengthOf_40 (by decide) (fun hc => ?_) (fun hc => ?_)
            · replace h := h.1 hc
              exact hJ58 h
            · replace h := h.2 hc
              refine SW.iload C dX10_lengthOf_43 5 rfl ?_
              refine SW.iload_n C dX10_lengthOf_45 rfl 1 rfl ?_
              refine SW.icmp_gt (tgt := 58) C dX10_lengthOf_46 (by decide) (fun hc => ?_) (fun hc => ?_)
              · replace h := h.1 hc
                exact hJ58 h
              · replace h := h.2 hc
                refine SW.aload_n C dX10_lengthOf_49 rfl 0 rfl ?_
                refine SW.iload C dX10_lengthOf_50 5 rfl ?_
                refine SW.callVi_same C (ctX10_at l D cI cZ qY oY v6_25 _ h) gX10_lengthOf_X10_at rfl rfl rfl pdX10_at ⟨by decide, by decide⟩ 0 rfl rfl rfl rfl rfl (Nat.le_of_ble_eq_true rfl) dX10_lengthOf_52 (by decide) (fun r52 u h => ?_)
                try dsimp only at h
                refine SW.goto (tgt := 60) C dX10_lengthOf_55 (by decide) ?_
                refine SW.sub [0, 1, 2, 4, 5] rfl ?_
                exact hJ60 _ h
  obtain ⟨fu, h⟩ := h
  refine SW.sub [3, 4, 5, 2, 1, 0] rfl ?_
  refine L25 _ (fun v4_68 h => ?_) fu _ _ h
  · refine SW.aload_n C dX10_lengthOf_68 rfl 0 rfl ?_
    refine SW.get (v := .int (oY 0 0)) (T := TX10) (N := 25) C inX10_lengthOf_X10 0 rfl rfl 0 (by decide) lkX10_lengthOf_7 rfl dX10_lengthOf_69 ?_
    refine SW.iconst (v := (1 : Int32)) C dX10_lengthOf_72 (by decide) ?_
    refine SW.isub C dX10_lengthOf_73 ?_
    refine SW.istore (lv' := [(6, .int ((oY 0 0) - (1 : Int32))), (0, .ref (qY 0)), (1, .int v1), (2, .int v2), (4, .int v4_68), (5, .int ((r10 + (oY 0 2)) + v3))]) C dX10_lengthOf_74 (by decide) rfl ?_
    have L76 : ∀ (K110 : Int32 → Prop) (hK110 : ∀ (v5_110 : Int32), K110 v5_110 → SW p l e { frames := 1, cells := 0, slots := 0, locals := 23 } s m args below meth c A D 7 0 0 (MQ below (va_Qi (fun (r : Int32) (_ : Unit) => post r) (ctB D A (fun _ : Unit => w10 cI cZ qY oY)) A) args s 0 0 A) (w10 cI cZ qY oY) 110 [(4, .int v4_68), (5, .int v5_110)] []) (fu : Nat) (v5_76 : Int32) (v6_76 : Int32), wpX10_lengthOf_L76 v1 v2 oY K110 fu v5_76 v6_76 → SW p l e { frames := 1, cells := 0, slots := 0, locals := 23 } s m args below meth c A D 7 0 0 (MQ below (va_Qi (fun (r : Int32) (_ : Unit) => post r) (ctB D A (fun _ : Unit => w10 cI cZ qY oY)) A) args s 0 0 A) (w10 cI cZ qY oY) 76 [(0, .ref (qY 0)), (1, .int v1), (2, .int v2), (4, .int v4_68), (5, .int v5_76), (6, .int v6_76)] [] := by
      intro K110 hK110 fu
      induction fu with
      | zero =>
        intro v5_76 v6_76 h
        exact False.elim h
      | succ fu ih =>
        intro v5_76 v6_76 h
        unfold wpX10_lengthOf_L76 at h
        refine SW.iload C dX10_lengthOf_76 5 rfl ?_
        refine SW.iload_n C dX10_lengthOf_78 rfl 1 rfl ?_
        refine SW.icmp_le (tgt := 110) C dX10_lengthOf_79 (by decide) (fun hc => ?_) (fun hc => ?_)
        · replace h := h.1 hc
          refine SW.sub [3, 4] rfl ?_
          exact hK110 _ h
        · replace h := h.2 hc
          refine SW.iload_n C dX10_lengthOf_82 rfl 2 rfl ?_
          refine SW.iload C dX10_lengthOf_83 5 rfl ?_
          refine SW.callSi_pure C (ctX10_has l D cI cZ v2 v6_76 _ h) gX10_lengthOf_X10_has rfl rfl rfl pdX10_has ⟨by decide, by decide⟩ rfl rfl (Nat.le_of_ble_eq_true rfl) dX10_lengthOf_85 (by decide) (fun r85 u h => ?_)
          try dsimp only at h
          refine jn1_elim (G := fun p0_102 => SW p l e { frames := 1, cells := 0, slots := 0, locals := 23 } s m args below meth c A D 7 0 0 (MQ below (va_Qi (fun (r : Int32) (_ : Unit) => post r) (ctB D A (fun _ : Unit => w10 cI cZ qY oY)) A) args s 0 0 A) (w10 cI cZ qY oY) 102 [(0, .ref (qY 0)), (1, .int v1), (2, .int v2), (4, .int v4_68), (6, .int v6_76)] [.int p0_102]) h (fun p0_102 h => ?_) (fun J102 hJ102 h => ?_)
          · refine SW.istore (lv' := [(5, .int p0_102), (0, .ref (qY 0)), (1, .int v1), (2, .int v2), (4, .int v4_68), (6, .int v6_76)]) C dX10_lengthOf_102 (by decide) rfl ?_
            refine SW.iinc (q := 5) (v := (v6_76 + (-1 : Int32))) (lv' := [(6, .int (v6_76 + (-1 : Int32))), (5, .int p0_102), (0, .ref (qY 0)), (1, .int v1), (2, .int v2), (4, .int v4_68)]) C dX10_lengthOf_104 rfl rfl (by decide) rfl ?_
            refine SW.goto (tgt := 76) C dX10_lengthOf_107 (by decide) ?_
            refine SW.sub [2, 3, 4, 5, 1, 0] rfl ?_
            exact ih _ _ h
          · refine SW.if_eq (tgt := 100) C dX10_lengthOf_88 (by decide) (fun hc => ?_) (fun hc => ?_)
            · replace h := h.1 hc
              refine SW.iload C dX10_lengthOf_100 4 rfl ?_
              refine SW.sub [0, 1, 2, 3, 5] rfl ?_
              exact hJ102 _ h
            · replace h := h.2 hc
              refine SW.aload_n C dX10_lengthOf_91 rfl 0 rfl ?_
              refine SW.iload C dX10_lengthOf_92 5 rfl ?_
              refine SW.callVi_same C (ctX10_at l D cI cZ qY oY v6_76 _ h) gX10_lengthOf_X10_at rfl rfl rfl pdX10_at ⟨by decide, by decide⟩ 0 rfl rfl rfl rfl rfl (Nat.le_of_ble_eq_true rfl) dX10_lengthOf_94 (by decide) (fun r94 u h => ?_)
              try dsimp only at h
              refine SW.goto (tgt := 102) C dX10_lengthOf_97 (by decide) ?_
              refine SW.sub [0, 1, 2, 3, 5] rfl ?_
              exact hJ102 _ h
    obtain ⟨fu, h⟩ := h
    refine SW.sub [1, 2, 3, 4, 5, 0] rfl ?_
    refine L76 _ (fun v5_110 h => ?_) fu _ _ h
    · refine SW.iload C dX10_lengthOf_110 1 rfl ?_
      refine SW.iload C dX10_lengthOf_112 0 rfl ?_
      refine SW.isub C dX10_lengthOf_114 ?_
      exact SW.iret C () rfl h dX10_lengthOf_115
def wpX10_divisor_L4 (K21 : Int32 → Prop) : Nat → Int32 → Int32 → Prop
  | 0, _, _ => False
  | fu4 + 1, v2_4, v3_4 => ((v3_4 = 0) → K21 v2_4) ∧ (¬ (v3_4 = 0) → (¬ v3_4 = 0) ∧ (wpX10_divisor_L4 K21 fu4 v3_4 (jrem v2_4 v3_4)))
def wpX10_divisor (v0 : Int32) (v1 : Int32) (post : Int32 → Prop) : Prop := ∃ fu4 : Nat, wpX10_divisor_L4 (fun (v2_21 : Int32) => post v2_21) fu4 v0 v1
theorem pdX10_divisor : yX10_divisor.cls ≠ "java/lang/invoke/MethodHandle" ∧ yX10_divisor.cls ≠ "java/lang/invoke/VarHandle" ∧ (parseMethodDescriptor yX10_divisor.desc).map (fun d => d.parameters.length) = some 2 := by decide +kernel
set_option maxHeartbeats 4000000 in
set_option maxRecDepth 100000 in
theorem ctX10_divisor (l : Launch) (D : va_G) (cI cZ : ClassId) (v0 : Int32) (v1 : Int32) (post : Int32 → Prop) (h : wpX10_divisor v0 v1 post) : CTi l yX10_divisor wsX10_divisor { frames := 0, cells := 0, slots := 0, locals := 0 } D [(cI, .int), (cZ, .boolean)] [.int v0, .int v1] (([] : va_W)) (fun _ : Unit => ([] : va_W)) (fun (r : Int32) (_ : Unit) => post r) := by
  refine CTi.of (cc := cX10_divisor) (own := RX10) (maxL := 5) (ret := (some .int)) (lv0 := [(0, .int v0), (1, .int v1)]) (by decide) rfl rfl (Nat.le_of_ble_eq_true rfl) rfl ?_
  intro p e s m args below meth c A C
  unfold wpX10_divisor at h
  refine SW.iload_n C dX10_divisor_0 rfl 0 rfl ?_
  refine SW.istore_n (lv' := [(2, .int v0), (0, .int v0), (1, .int v1)]) C dX10_divisor_1 rfl (by decide) rfl ?_
  refine SW.iload_n C dX10_divisor_2 rfl 2 rfl ?_
  refine SW.istore_n (lv' := [(3, .int v1), (2, .int v0), (0, .int v0), (1, .int v1)]) C dX10_divisor_3 rfl (by decide) rfl ?_
  have L4 : ∀ (K21 : Int32 → Prop) (hK21 : ∀ (v2_21 : Int32), K21 v2_21 → SW p l e { frames := 0, cells := 0, slots := 0, locals := 0 } s m args below meth c A D 5 0 0 (MQ below (va_Qi (fun (r : Int32) (_ : Unit) => post r) (ctB D A (fun _ : Unit => ([] : va_W))) A) args s 0 0 A) (([] : va_W)) 21 [(2, .int v2_21)] []) (fu : Nat) (v2_4 : Int32) (v3_4 : Int32), wpX10_divisor_L4 K21 fu v2_4 v3_4 → SW p l e { frames := 0, cells := 0, slots := 0, locals := 0 } s m args below meth c A D 5 0 0 (MQ below (va_Qi (fun (r : Int32) (_ : Unit) => post r) (ctB D A (fun _ : Unit => ([] : va_W))) A) args s 0 0 A) (([] : va_W)) 4 [(2, .int v2_4), (3, .int v3_4)] [] := by
    intro K21 hK21 fu
    induction fu with
    | zero =>
      intro v2_4 v3_4 h
      exact False.elim h
    | succ fu ih =>
      intro v2_4 v3_4 h
      unfold wpX10_divisor_L4 at h
      refine SW.iload_n C dX10_divisor_4 rfl 1 rfl ?_
      refine SW.if_eq (tgt := 21) C dX10_divisor_5 (by decide) (fun hc => ?_) (fun hc => ?_)
      · replace h := h.1 hc
        refine SW.sub [0] rfl ?_
        exact hK21 _ h
      · replace h := h.2 hc
        refine SW.iload_n C dX10_divisor_8 rfl 0 rfl ?_
        refine SW.iload_n C dX10_divisor_9 rfl 1 rfl ?_
        refine SW.irem C dX10_divisor_10 h.1 ?_
        replace h := h.2
        refine SW.istore (lv' := [(4, .int (jrem v2_4 v3_4)), (2, .int v2_4), (3, .int v3_4)]) C dX10_divisor_11 (by decide) rfl ?_
        refine SW.iload_n C dX10_divisor_13 rfl 2 rfl ?_
        refine SW.istore_n (lv' := [(2, .int v3_4), (4, .int (jrem v2_4 v3_4)), (3, .int v3_4)]) C dX10_divisor_14 rfl (by decide) rfl ?_
        refine SW.iload C dX10_divisor_15 1 rfl ?_
        refine SW.istore_n (lv' := [(3, .int (jrem v2_4 v3_4)), (2, .int v3_4), (4, .int (jrem v2_4 v3_4))]) C dX10_divisor_17 rfl (by decide) rfl ?_
        refine SW.goto (tgt := 4) C dX10_divisor_18 (by decide) ?_
        refine SW.sub [1, 0] rfl ?_
        exact ih _ _ h
  obtain ⟨fu, h⟩ := h
  refine SW.sub [1, 0] rfl ?_
  refine L4 _ (fun v2_21 h => ?_) fu _ _ h
  · refine SW.iload_n C dX10_divisor_21 rfl 0 rfl ?_
    exact SW.iret C () rfl h dX10_divisor_22
def wpX10_doClash (oY : Ob) (v1 : Int32) (v2 : Int32) (post : Int32 → Prop) : Prop := jn1 (fun (p0_10 : Int32) => wpX10_divisor v1 v2 (fun (r14 : Int32) => (¬ r14 = 0) ∧ ((((p0_10 / r14) ≤ (oY 0 3)) → post (0 : Int32)) ∧ (¬ ((p0_10 / r14) ≤ (oY 0 3)) → post (1 : Int32))))) (fun J10 => ((v1 ≤ v2) → J10 v2) ∧ (¬ (v1 ≤ v2) → J10 v1))
theorem pdX10_doClash : yX10_doClash.cls = RX10 ∧ yX10_doClash.cls ≠ "java/lang/invoke/MethodHandle" ∧ yX10_doClash.cls ≠ "java/lang/invoke/VarHandle" ∧ (parseMethodDescriptor yX10_doClash.desc).map (fun d => d.parameters.length) = some 2 := by decide +kernel
theorem lkX10_doClash_20 : Cond.fieldLink RX10 20 (TX10 3).1 (TX10 3).2.1 (TX10 3).2.2.1 ∈ wsX10_doClash := by decide +kernel
theorem inX10_doClash_X10 : ∀ w ∈ u_ws RX10 TX10 25, w ∈ wsX10_doClash := by decide +kernel
set_option maxHeartbeats 4000000 in
set_option maxRecDepth 100000 in
theorem ctX10_doClash (l : Launch) (D : va_G) (cI cZ : ClassId) (qY : Nat → Nat) (oY : Ob) (v1 : Int32) (v2 : Int32) (post : Int32 → Prop) (h : wpX10_doClash oY v1 v2 post) : CTi l yX10_doClash wsX10_doClash { frames := 1, cells := 0, slots := 0, locals := 24 } D [(cI, .int), (cZ, .boolean)] [.ref (qY 0), .int v1, .int v2] (w10 cI cZ qY oY) (fun _ : Unit => w10 cI cZ qY oY) (fun (r : Int32) (_ : Unit) => post r) := by
  refine CTi.of (cc := cX10_doClash) (own := RX10) (maxL := 4) (ret := (some .boolean)) (lv0 := [(0, .ref (qY 0)), (1, .int v1), (2, .int v2)]) (by decide) rfl rfl (Nat.le_of_ble_eq_true rfl) rfl ?_
  intro p e s m args below meth c A C
  unfold wpX10_doClash at h
  refine SW.iload_n C dX10_doClash_0 rfl 1 rfl ?_
  refine SW.iload_n C dX10_doClash_1 rfl 2 rfl ?_
  refine jn1_elim (G := fun p0_10 => SW p l e { frames := 1, cells := 0, slots := 0, locals := 24 } s m args below meth c A D 4 0 0 (MQ below (va_Qi (fun (r : Int32) (_ : Unit) => post r) (ctB D A (fun _ : Unit => w10 cI cZ qY oY)) A) args s 0 0 A) (w10 cI cZ qY oY) 10 [(0, .ref (qY 0)), (1, .int v1), (2, .int v2)] [.int p0_10]) h (fun p0_10 h => ?_) (fun J10 hJ10 h => ?_)
  · refine SW.istore_n (lv' := [(3, .int p0_10), (0, .ref (qY 0)), (1, .int v1), (2, .int v2)]) C dX10_doClash_10 rfl (by decide) rfl ?_
    refine SW.iload_n C dX10_doClash_11 rfl 0 rfl ?_
    refine SW.iload_n C dX10_doClash_12 rfl 2 rfl ?_
    refine SW.iload_n C dX10_doClash_13 rfl 3 rfl ?_
    refine SW.callSi_pure C (ctX10_divisor l D cI cZ v1 v2 _ h) gX10_doClash_X10_divisor rfl rfl rfl pdX10_divisor ⟨by decide, by decide⟩ rfl rfl (Nat.le_of_ble_eq_true rfl) dX10_doClash_14 (by decide) (fun r14 u h => ?_)
    try dsimp only at h
    refine SW.idiv C dX10_doClash_17 h.1 ?_
    replace h := h.2
    refine SW.aload_n C dX10_doClash_18 rfl 1 rfl ?_
    refine SW.get (v := .int (oY 0 3)) (T := TX10) (N := 25) C inX10_doClash_X10 0 rfl rfl 3 (by decide) lkX10_doClash_20 rfl dX10_doClash_19 ?_
    refine SW.icmp_le (tgt := 29) C dX10_doClash_22 (by decide) (fun hc => ?_) (fun hc => ?_)
    · replace h := h.1 hc
      refine SW.iconst (v := (0 : Int32)) C dX10_doClash_29 (by decide) ?_
      exact SW.zret C () (by decide) rfl h dX10_doClash_30
    · replace h := h.2 hc
      refine SW.iconst (v := (1 : Int32)) C dX10_doClash_25 (by decide) ?_
      refine SW.goto (tgt := 30) C dX10_doClash_26 (by decide) ?_
      exact SW.zret C () (by decide) rfl h dX10_doClash_30
  · refine SW.icmp_le (tgt := 9) C dX10_doClash_2 (by decide) (fun hc => ?_) (fun hc => ?_)
    · replace h := h.1 hc
      refine SW.iload_n C dX10_doClash_9 rfl 2 rfl ?_
      exact hJ10 _ h
    · replace h := h.2 hc
      refine SW.iload_n C dX10_doClash_5 rfl 1 rfl ?_
      refine SW.goto (tgt := 10) C dX10_doClash_6 (by decide) ?_
      exact hJ10 _ h
def wpX10_clashes_L20 (c1_20 : Int32) (c2_20 : Int32) (c4_20 : Int32) (oYc_20 : Ob) (K68 : Int32 → Prop) : Nat → Int32 → Int32 → Prop
  | 0, _, _ => False
  | fu20 + 1, v3_20, v5_20 => (((oYc_20 0 0) ≤ v5_20) → K68 v3_20) ∧ (¬ ((oYc_20 0 0) ≤ v5_20) → jn1 (fun (p0_61 : Int32) => wpX10_clashes_L20 c1_20 c2_20 c4_20 oYc_20 K68 fu20 p0_61 (v5_20 + (1 : Int32))) (fun J61 => jn0 (J61 (1 : Int32)) (fun J56 => ((v3_20 = 0) → wpX10_lengthOf oYc_20 c4_20 c1_20 c2_20 (fun (r39 : Int32) => wpX10_lengthOf oYc_20 v5_20 c1_20 c2_20 (fun (r47 : Int32) => wpX10_doClash oYc_20 r39 r47 (fun (r50 : Int32) => ((r50 = 0) → J61 (0 : Int32)) ∧ (¬ (r50 = 0) → J56))))) ∧ (¬ (v3_20 = 0) → J56))))
def wpX10_clashes_L5 (c1_5 : Int32) (c2_5 : Int32) (oYc_5 : Ob) (K74 : Int32 → Prop) : Nat → Int32 → Int32 → Prop
  | 0, _, _ => False
  | fu5 + 1, v3_5, v4_5 => (((oYc_5 0 0) ≤ v4_5) → K74 v3_5) ∧ (¬ ((oYc_5 0 0) ≤ v4_5) → ∃ fu20 : Nat, wpX10_clashes_L20 c1_5 c2_5 v4_5 oYc_5 (fun (v3_68 : Int32) => wpX10_clashes_L5 c1_5 c2_5 oYc_5 K74 fu5 v3_68 (v4_5 + (1 : Int32))) fu20 v3_5 (v4_5 + (1 : Int32)))
def wpX10_clashes (oY : Ob) (v1 : Int32) (v2 : Int32) (post : Int32 → Prop) : Prop := ∃ fu5 : Nat, wpX10_clashes_L5 v1 v2 oY (fun (v3_74 : Int32) => isB v3_74 ∧ post v3_74) fu5 (0 : Int32) (0 : Int32)
theorem pdX10_clashes : yX10_clashes.cls = RX10 ∧ yX10_clashes.cls ≠ "java/lang/invoke/MethodHandle" ∧ yX10_clashes.cls ≠ "java/lang/invoke/VarHandle" ∧ (parseMethodDescriptor yX10_clashes.desc).map (fun d => d.parameters.length) = some 2 := by decide +kernel
theorem lkX10_clashes_7 : Cond.fieldLink RX10 7 (TX10 0).1 (TX10 0).2.1 (TX10 0).2.2.1 ∈ wsX10_clashes := by decide +kernel
theorem inX10_clashes_X10 : ∀ w ∈ u_ws RX10 TX10 25, w ∈ wsX10_clashes := by decide +kernel
set_option maxHeartbeats 4000000 in
set_option maxRecDepth 100000 in
theorem ctX10_clashes (l : Launch) (D : va_G) (cI cZ : ClassId) (qY : Nat → Nat) (oY : Ob) (v1 : Int32) (v2 : Int32) (post : Int32 → Prop) (h : wpX10_clashes oY v1 v2 post) : CTi l yX10_clashes wsX10_clashes { frames := 2, cells := 0, slots := 0, locals := 49 } D [(cI, .int), (cZ, .boolean)] [.ref (qY 0), .int v1, .int v2] (w10 cI cZ qY oY) (fun _ : Unit => w10 cI cZ qY oY) (fun (r : Int32) (_ : Unit) => post r) := by
  refine CTi.of (cc := cX10_clashes) (own := RX10) (maxL := 6) (ret := (some .boolean)) (lv0 := [(0, .ref (qY 0)), (1, .int v1), (2, .int v2)]) (by decide) rfl rfl (Nat.le_of_ble_eq_true rfl) rfl ?_
  intro p e s m args below meth c A C
  unfold wpX10_clashes at h
  refine SW.iconst (v := (0 : Int32)) C dX10_clashes_0 (by decide) ?_
  refine SW.istore_n (lv' := [(3, .int (0 : Int32)), (0, .ref (qY 0)), (1, .int v1), (2, .int v2)]) C dX10_clashes_1 rfl (by decide) rfl ?_
  refine SW.iconst (v := (0 : Int32)) C dX10_clashes_2 (by decide) ?_
  refine SW.istore (lv' := [(4, .int (0 : Int32)), (3, .int (0 : Int32)), (0, .ref (qY 0)), (1, .int v1), (2, .int v2)]) C dX10_clashes_3 (by decide) rfl ?_
  have L5 : ∀ (K74 : Int32 → Prop) (hK74 : ∀ (v3_74 : Int32), K74 v3_74 → SW p l e { frames := 2, cells := 0, slots := 0, locals := 49 } s m args below meth c A D 6 0 0 (MQ below (va_Qi (fun (r : Int32) (_ : Unit) => post r) (ctB D A (fun _ : Unit => w10 cI cZ qY oY)) A) args s 0 0 A) (w10 cI cZ qY oY) 74 [(3, .int v3_74)] []) (fu : Nat) (v3_5 : Int32) (v4_5 : Int32), wpX10_clashes_L5 v1 v2 oY K74 fu v3_5 v4_5 → SW p l e { frames := 2, cells := 0, slots := 0, locals := 49 } s m args below meth c A D 6 0 0 (MQ below (va_Qi (fun (r : Int32) (_ : Unit) => post r) (ctB D A (fun _ : Unit => w10 cI cZ qY oY)) A) args s 0 0 A) (w10 cI cZ qY oY) 5 [(0, .ref (qY 0)), (1, .int v1), (2, .int v2), (3, .int v3_5), (4, .int v4_5)] [] := by
    intro K74 hK74 fu
    induction fu with
    | zero =>
      intro v3_5 v4_5 h
      exact False.elim h
    | succ fu ih =>
      intro v3_5 v4_5 h
      unfold wpX10_clashes_L5 at h
      refine SW.iload C dX10_clashes_5 4 rfl ?_
      refine SW.aload_n C dX10_clashes_7 rfl 0 rfl ?_
      refine SW.get (v := .int (oY 0 0)) (T := TX10) (N := 25) C inX10_clashes_X10 0 rfl rfl 0 (by decide) lkX10_clashes_7 rfl dX10_clashes_8 ?_
      refine SW.icmp_ge (tgt := 74) C dX10_clashes_11 (by decide) (fun hc => ?_) (fun hc => ?_)
      · replace h := h.1 hc
        refine SW.sub [3] rfl ?_
        exact hK74 _ h
      · replace h := h.2 hc
        refine SW.iload C dX10_clashes_14 4 rfl ?_
        refine SW.iconst (v := (1 : Int32)) C dX10_clashes_16 (by decide) ?_
        refine SW.iadd C dX10_clashes_17 ?_
        refine SW.istore (lv' := [(5, .int (v4_5 + (1 : Int32))), (0, .ref (qY 0)), (1, .int v1), (2, .int v2), (3, .int v3_5), (4, .int v4_5)]) C dX10_clashes_18 (by decide) rfl ?_
        have L20 : ∀ (K68 : Int32 → Prop) (hK68 : ∀ (v3_68 : Int32), K68 v3_68 → SW p l e { frames := 2, cells := 0, slots := 0, locals := 49 } s m args below meth c A D 6 0 0 (MQ below (va_Qi (fun (r : Int32) (_ : Unit) => post r) (ctB D A (fun _ : Unit => w10 cI cZ qY oY)) A) args s 0 0 A) (w10 cI cZ qY oY) 68 [(0, .ref (qY 0)), (1, .int v1), (2, .int v2), (3, .int v3_68), (4, .int v4_5)] []) (fu : Nat) (v3_20 : Int32) (v5_20 : Int32), wpX10_clashes_L20 v1 v2 v4_5 oY K68 fu v3_20 v5_20 → SW p l e { frames := 2, cells := 0, slots := 0, locals := 49 } s m args below meth c A D 6 0 0 (MQ below (va_Qi (fun (r : Int32) (_ : Unit) => post r) (ctB D A (fun _ : Unit => w10 cI cZ qY oY)) A) args s 0 0 A) (w10 cI cZ qY oY) 20 [(0, .ref (qY 0)), (1, .int v1), (2, .int v2), (3, .int v3_20), (4, .int v4_5), (5, .int v5_20)] [] := by
          intro K68 hK68 fu
          induction fu with
          | zero =>
            intro v3_20 v5_20 h
            exact False.elim h
          | succ fu ih =>
            intro v3_20 v5_20 h
            unfold wpX10_clashes_L20 at h
            refine SW.iload C dX10_clashes_20 5 rfl ?_
            refine SW.aload_n C dX10_clashes_22 rfl 0 rfl ?_
            refine SW.get (v := .int (oY 0 0)) (T := TX10) (N := 25) C inX10_clashes_X10 0 rfl rfl 0 (by decide) lkX10_clashes_7 rfl dX10_clashes_23 ?_
            refine SW.icmp_ge (tgt := 68) C dX10_clashes_26 (by decide) (fun hc => ?_) (fun hc => ?_)
            · replace h := h.1 hc
              refine SW.sub [0, 1, 2, 3, 4] rfl ?_
              exact hK68 _ h
            · replace h := h.2 hc
              refine SW.iload_n C dX10_clashes_29 rfl 3 rfl ?_
              refine jn1_elim (G := fun p0_61 => SW p l e { frames := 2, cells := 0, slots := 0, locals := 49 } s m args below meth c A D 6 0 0 (MQ below (va_Qi (fun (r : Int32) (_ : Unit) => post r) (ctB D A (fun _ : Unit => w10 cI cZ qY oY)) A) args s 0 0 A) (w10 cI cZ qY oY) 61 [(0, .ref (qY 0)), (1, .int v1), (2, .int v2), (4, .int v4_5), (5, .int v5_20)] [.int p0_61]) h (fun p0_61 h => ?_) (fun J61 hJ61 h => ?_)
              · refine SW.istore_n (lv' := [(3, .int p0_61), (0, .ref (qY 0)), (1, .int v1), (2, .int v2), (4, .int v4_5), (5, .int v5_20)]) C dX10_clashes_61 rfl (by decide) rfl ?_
                refine SW.iinc (q := 5) (v := (v5_20 + (1 : Int32))) (lv' := [(5, .int (v5_20 + (1 : Int32))), (3, .int p0_61), (0, .ref (qY 0)), (1, .int v1), (2, .int v2), (4, .int v4_5)]) C dX10_clashes_62 rfl rfl (by decide) rfl ?_
                refine SW.goto (tgt := 20) C dX10_clashes_65 (by decide) ?_
                refine SW.sub [2, 3, 4, 1, 5, 0] rfl ?_
                exact ih _ _ h
              · refine jn0_elim (G := SW p l e { frames := 2, cells := 0, slots := 0, locals := 49 } s m args below meth c A D 6 0 0 (MQ below (va_Qi (fun (r : Int32) (_ : Unit) => post r) (ctB D A (fun _ : Unit => w10 cI cZ qY oY)) A) args s 0 0 A) (w10 cI cZ qY oY) 56 [(0, .ref (qY 0)), (1, .int v1), (2, .int v2), (4, .int v4_5), (5, .int v5_20)] []) h (fun h => ?_) (fun J56 hJ56 h => ?_)
                · refine SW.iconst (v := (1 : Int32)) C dX10_clashes_56 (by decide) ?_
                  refine SW.goto (tgt := 61) C dX10_clashes_57 (by decide) ?_
                  exact hJ61 _ h
                · refine SW.if_ne (tgt := 56) C dX10_clashes_30 (by decide) (fun hc => ?_) (fun hc => ?_)
                  · replace h := h.2 hc
                    refine SW.sub [0, 1, 2, 4, 5] rfl ?_
                    exact hJ56 h
                  · replace h := h.1 hc
                    refine SW.aload_n C dX10_clashes_33 rfl 0 rfl ?_
                    refine SW.aload_n C dX10_clashes_34 rfl 0 rfl ?_
                    refine SW.iload C dX10_clashes_35 4 rfl ?_
                    refine SW.iload_n C dX10_clashes_37 rfl 1 rfl ?_
                    refine SW.iload_n C dX10_clashes_38 rfl 2 rfl ?_
                    refine SW.callVi_same C (ctX10_lengthOf l D cI cZ qY oY v4_5 v1 v2 _ h) gX10_clashes_X10_lengthOf rfl rfl rfl pdX10_lengthOf ⟨by decide, by decide⟩ 0 rfl rfl rfl rfl rfl (Nat.le_of_ble_eq_true rfl) dX10_clashes_39 (by decide) (fun r39 u h => ?_)
                    try dsimp only at h
                    refine SW.aload_n C dX10_clashes_42 rfl 0 rfl ?_
                    refine SW.iload C dX10_clashes_43 5 rfl ?_
                    refine SW.iload_n C dX10_clashes_45 rfl 1 rfl ?_
                    refine SW.iload_n C dX10_clashes_46 rfl 2 rfl ?_
                    refine SW.callVi_same C (ctX10_lengthOf l D cI cZ qY oY v5_20 v1 v2 _ h) gX10_clashes_X10_lengthOf rfl rfl rfl pdX10_lengthOf ⟨by decide, by decide⟩ 0 rfl rfl rfl rfl rfl (Nat.le_of_ble_eq_true rfl) dX10_clashes_47 (by decide) (fun r47 u h => ?_)
                    try dsimp only at h
                    refine SW.callVi_same C (ctX10_doClash l D cI cZ qY oY r39 r47 _ h) gX10_clashes_X10_doClash rfl rfl rfl pdX10_doClash ⟨by decide, by decide⟩ 0 rfl rfl rfl rfl rfl (Nat.le_of_ble_eq_true rfl) dX10_clashes_50 (by decide) (fun r50 u h => ?_)
                    try dsimp only at h
                    refine SW.if_eq (tgt := 60) C dX10_clashes_53 (by decide) (fun hc => ?_) (fun hc => ?_)
                    · replace h := h.1 hc
                      refine SW.iconst (v := (0 : Int32)) C dX10_clashes_60 (by decide) ?_
                      refine SW.sub [0, 1, 2, 4, 5] rfl ?_
                      exact hJ61 _ h
                    · replace h := h.2 hc
                      refine SW.sub [0, 1, 2, 4, 5] rfl ?_
                      exact hJ56 h
        obtain ⟨fu, h⟩ := h
        refine SW.sub [1, 2, 3, 4, 5, 0] rfl ?_
        refine L20 _ (fun v3_68 h => ?_) fu _ _ h
        · refine SW.iinc (q := 4) (v := (v4_5 + (1 : Int32))) (lv' := [(4, .int (v4_5 + (1 : Int32))), (0, .ref (qY 0)), (1, .int v1), (2, .int v2), (3, .int v3_68)]) C dX10_clashes_68 rfl rfl (by decide) rfl ?_
          refine SW.goto (tgt := 5) C dX10_clashes_71 (by decide) ?_
          refine SW.sub [1, 2, 3, 4, 0] rfl ?_
          exact ih _ _ h
  obtain ⟨fu, h⟩ := h
  refine SW.sub [2, 3, 4, 1, 0] rfl ?_
  refine L5 _ (fun v3_74 h => ?_) fu _ _ h
  · refine SW.iload_n C dX10_clashes_74 rfl 0 rfl ?_
    exact SW.zret C () (isB_nar h.1) rfl h.2 dX10_clashes_75
def wpX10_whyNot (oY : Ob) (v1 : Int32) (post : Int32 → Prop) : Prop := ((v1 = (43 : Int32)) → (((oY 0 13) = (9 : Int32)) → post (1 : Int32)) ∧ (¬ ((oY 0 13) = (9 : Int32)) → post (0 : Int32))) ∧ (¬ (v1 = (43 : Int32)) → ((v1 = (45 : Int32)) → (((oY 0 13) = 0) → post (2 : Int32)) ∧ (¬ ((oY 0 13) = 0) → post (0 : Int32))) ∧ (¬ (v1 = (45 : Int32)) → wpX10_has (oY 0 12) (v1 - (97 : Int32)) (fun (r52 : Int32) => jn0 (post (0 : Int32)) (fun J76 => ((r52 = 0) → wpX10_bits (oY 0 12) (fun (r62 : Int32) => wpX10_may oY (fun (r66 : Int32) => ((r62 < r66) → J76) ∧ (¬ (r62 < r66) → post (3 : Int32))))) ∧ (¬ (r52 = 0) → J76)))))
theorem pdX10_whyNot : yX10_whyNot.cls = RX10 ∧ yX10_whyNot.cls ≠ "java/lang/invoke/MethodHandle" ∧ yX10_whyNot.cls ≠ "java/lang/invoke/VarHandle" ∧ (parseMethodDescriptor yX10_whyNot.desc).map (fun d => d.parameters.length) = some 1 := by decide +kernel
theorem lkX10_whyNot_109 : Cond.fieldLink RX10 109 (TX10 12).1 (TX10 12).2.1 (TX10 12).2.2.1 ∈ wsX10_whyNot := by decide +kernel
theorem inX10_whyNot_X10 : ∀ w ∈ u_ws RX10 TX10 25, w ∈ wsX10_whyNot := by decide +kernel
theorem lkX10_whyNot_106 : Cond.fieldLink RX10 106 (TX10 13).1 (TX10 13).2.1 (TX10 13).2.2.1 ∈ wsX10_whyNot := by decide +kernel
set_option maxHeartbeats 4000000 in
set_option maxRecDepth 100000 in
theorem ctX10_whyNot (l : Launch) (D : va_G) (cI cZ : ClassId) (qY : Nat → Nat) (oY : Ob) (v1 : Int32) (post : Int32 → Prop) (h : wpX10_whyNot oY v1 post) : CTi l yX10_whyNot wsX10_whyNot { frames := 1, cells := 0, slots := 0, locals := 22 } D [(cI, .int), (cZ, .boolean)] [.ref (qY 0), .int v1] (w10 cI cZ qY oY) (fun _ : Unit => w10 cI cZ qY oY) (fun (r : Int32) (_ : Unit) => post r) := by
  refine CTi.of (cc := cX10_whyNot) (own := RX10) (maxL := 2) (ret := (some .int)) (lv0 := [(0, .ref (qY 0)), (1, .int v1)]) (by decide) rfl rfl (Nat.le_of_ble_eq_true rfl) rfl ?_
  intro p e s m args below meth c A C
  unfold wpX10_whyNot at h
  refine SW.iload_n C dX10_whyNot_0 rfl 1 rfl ?_
  refine SW.bipush (v := (43 : Int32)) C dX10_whyNot_1 (by decide) ?_
  refine SW.icmp_ne (tgt := 23) C dX10_whyNot_3 (by decide) (fun hc => ?_) (fun hc => ?_)
  · replace h := h.2 hc
    refine SW.iload_n C dX10_whyNot_23 rfl 1 rfl ?_
    refine SW.bipush (v := (45 : Int32)) C dX10_whyNot_24 (by decide) ?_
    refine SW.icmp_ne (tgt := 44) C dX10_whyNot_26 (by decide) (fun hc => ?_) (fun hc => ?_)
    · replace h := h.2 hc
      refine SW.aload_n C dX10_whyNot_44 rfl 0 rfl ?_
      refine SW.get (v := .int (oY 0 12)) (T := TX10) (N := 25) C inX10_whyNot_X10 0 rfl rfl 12 (by decide) lkX10_whyNot_109 rfl dX10_whyNot_45 ?_
      refine SW.iload_n C dX10_whyNot_48 rfl 1 rfl ?_
      refine SW.bipush (v := (97 : Int32)) C dX10_whyNot_49 (by decide) ?_
      refine SW.isub C dX10_whyNot_51 ?_
      refine SW.callSi_pure C (ctX10_has l D cI cZ (oY 0 12) (v1 - (97 : Int32)) _ h) gX10_whyNot_X10_has rfl rfl rfl pdX10_has ⟨by decide, by decide⟩ rfl rfl (Nat.le_of_ble_eq_true rfl) dX10_whyNot_52 (by decide) (fun r52 u h => ?_)
      try dsimp only at h
      refine jn0_elim (G := SW p l e { frames := 1, cells := 0, slots := 0, locals := 22 } s m args below meth c A D 2 0 0 (MQ below (va_Qi (fun (r : Int32) (_ : Unit) => post r) (ctB D A (fun _ : Unit => w10 cI cZ qY oY)) A) args s 0 0 A) (w10 cI cZ qY oY) 76 [] []) h (fun h => ?_) (fun J76 hJ76 h => ?_)
      · refine SW.iconst (v := (0 : Int32)) C dX10_whyNot_76 (by decide) ?_
        exact SW.iret C () rfl h dX10_whyNot_77
      · refine SW.if_ne (tgt := 76) C dX10_whyNot_55 (by decide) (fun hc => ?_) (fun hc => ?_)
        · replace h := h.2 hc
          refine SW.sub [] rfl ?_
          exact hJ76 h
        · replace h := h.1 hc
          refine SW.aload_n C dX10_whyNot_58 rfl 0 rfl ?_
          refine SW.get (v := .int (oY 0 12)) (T := TX10) (N := 25) C inX10_whyNot_X10 0 rfl rfl 12 (by decide) lkX10_whyNot_109 rfl dX10_whyNot_59 ?_
          refine SW.callSi_pure C (ctX10_bits l D cI cZ (oY 0 12) _ h) gX10_whyNot_X10_bits rfl rfl rfl pdX10_bits ⟨by decide, by decide⟩ rfl rfl (Nat.le_of_ble_eq_true rfl) dX10_whyNot_62 (by decide) (fun r62 u h => ?_)
          try dsimp only at h
          refine SW.aload_n C dX10_whyNot_65 rfl 0 rfl ?_
          refine SW.callVi_same C (ctX10_may l D cI cZ qY oY _ h) gX10_whyNot_X10_may rfl rfl rfl pdX10_may ⟨by decide, by decide⟩ 0 rfl rfl rfl rfl rfl (Nat.le_of_ble_eq_true rfl) dX10_whyNot_66 (by decide) (fun r66 u h => ?_)
          try dsimp only at h
          refine SW.icmp_lt (tgt := 76) C dX10_whyNot_69 (by decide) (fun hc => ?_) (fun hc => ?_)
          · replace h := h.1 hc
            refine SW.sub [] rfl ?_
            exact hJ76 h
          · replace h := h.2 hc
            refine SW.iconst (v := (3 : Int32)) C dX10_whyNot_72 (by decide) ?_
            refine SW.goto (tgt := 77) C dX10_whyNot_73 (by decide) ?_
            exact SW.iret C () rfl h dX10_whyNot_77
    · replace h := h.1 hc
      refine SW.aload_n C dX10_whyNot_29 rfl 0 rfl ?_
      refine SW.get (v := .int (oY 0 13)) (T := TX10) (N := 25) C inX10_whyNot_X10 0 rfl rfl 13 (by decide) lkX10_whyNot_106 rfl dX10_whyNot_30 ?_
      refine SW.if_ne (tgt := 40) C dX10_whyNot_33 (by decide) (fun hc => ?_) (fun hc => ?_)
      · replace h := h.2 hc
        refine SW.iconst (v := (0 : Int32)) C dX10_whyNot_40 (by decide) ?_
        refine SW.goto (tgt := 77) C dX10_whyNot_41 (by decide) ?_
        exact SW.iret C () rfl h dX10_whyNot_77
      · replace h := h.1 hc
        refine SW.iconst (v := (2 : Int32)) C dX10_whyNot_36 (by decide) ?_
        refine SW.goto (tgt := 77) C dX10_whyNot_37 (by decide) ?_
        exact SW.iret C () rfl h dX10_whyNot_77
  · replace h := h.1 hc
    refine SW.aload_n C dX10_whyNot_6 rfl 0 rfl ?_
    refine SW.get (v := .int (oY 0 13)) (T := TX10) (N := 25) C inX10_whyNot_X10 0 rfl rfl 13 (by decide) lkX10_whyNot_106 rfl dX10_whyNot_7 ?_
    refine SW.bipush (v := (9 : Int32)) C dX10_whyNot_10 (by decide) ?_
    refine SW.icmp_ne (tgt := 19) C dX10_whyNot_12 (by decide) (fun hc => ?_) (fun hc => ?_)
    · replace h := h.2 hc
      refine SW.iconst (v := (0 : Int32)) C dX10_whyNot_19 (by decide) ?_
      refine SW.goto (tgt := 77) C dX10_whyNot_20 (by decide) ?_
      exact SW.iret C () rfl h dX10_whyNot_77
    · replace h := h.1 hc
      refine SW.iconst (v := (1 : Int32)) C dX10_whyNot_15 (by decide) ?_
      refine SW.goto (tgt := 77) C dX10_whyNot_16 (by decide) ?_
      exact SW.iret C () rfl h dX10_whyNot_77
def wpX10_act (oY : Ob) (v1 : Int32) (post : Ob → Prop) : Prop := jn0 (jn2 (fun (p0_28 : Int32) (p1_28 : Int32) => post (pf oY 13 (p1_28 + p0_28))) (fun J28 => ((v1 = (43 : Int32)) → J28 (1 : Int32) (oY 0 13)) ∧ (¬ (v1 = (43 : Int32)) → J28 (-1 : Int32) (oY 0 13)))) (fun J12 => ((v1 = (43 : Int32)) → J12) ∧ (¬ (v1 = (43 : Int32)) → ((v1 = (45 : Int32)) → J12) ∧ (¬ (v1 = (45 : Int32)) → post (pf oY 12 ((oY 0 12) ^^^ (jshl (1 : Int32) (v1 - (97 : Int32))))))))
theorem pdX10_act : yX10_act.cls = RX10 ∧ yX10_act.cls ≠ "java/lang/invoke/MethodHandle" ∧ yX10_act.cls ≠ "java/lang/invoke/VarHandle" ∧ (parseMethodDescriptor yX10_act.desc).map (fun d => d.parameters.length) = some 1 := by decide +kernel
theorem lkX10_act_106 : Cond.fieldLink RX10 106 (TX10 13).1 (TX10 13).2.1 (TX10 13).2.2.1 ∈ wsX10_act := by decide +kernel
theorem inX10_act_X10 : ∀ w ∈ u_ws RX10 TX10 25, w ∈ wsX10_act := by decide +kernel
theorem lkX10_act_109 : Cond.fieldLink RX10 109 (TX10 12).1 (TX10 12).2.1 (TX10 12).2.2.1 ∈ wsX10_act := by decide +kernel
set_option maxHeartbeats 4000000 in
set_option maxRecDepth 100000 in
theorem ctX10_act (l : Launch) (D : va_G) (cI cZ : ClassId) (qY : Nat → Nat) (oY : Ob) (v1 : Int32) (post : Ob → Prop) (h : wpX10_act oY v1 post) : CTv l yX10_act wsX10_act { frames := 0, cells := 0, slots := 0, locals := 0 } D [(cI, .int), (cZ, .boolean)] [.ref (qY 0), .int v1] (w10 cI cZ qY oY) (fun u : Ob => w10 cI cZ qY u) (fun (u : Ob) => post u) := by
  refine CTv.of (cc := cX10_act) (own := RX10) (maxL := 2) (ret := none) (lv0 := [(0, .ref (qY 0)), (1, .int v1)]) (by decide) rfl rfl (Nat.le_of_ble_eq_true rfl) rfl ?_
  intro p e s m args below meth c A C
  unfold wpX10_act at h
  refine SW.iload_n C dX10_act_0 rfl 1 rfl ?_
  refine SW.bipush (v := (43 : Int32)) C dX10_act_1 (by decide) ?_
  refine jn0_elim (G := SW p l e { frames := 0, cells := 0, slots := 0, locals := 0 } s m args below meth c A D 2 0 0 (MQ below (va_Qv (fun (u : Ob) => post u) (ctB D A (fun u : Ob => w10 cI cZ qY u)) A) args s 0 0 A) (w10 cI cZ qY oY) 12 [(0, .ref (qY 0)), (1, .int v1)] []) h (fun h => ?_) (fun J12 hJ12 h => ?_)
  · refine SW.aload_n C dX10_act_12 rfl 0 rfl ?_
    refine SW.dup C dX10_act_13 rfl ?_
    refine SW.get (v := .int (oY 0 13)) (T := TX10) (N := 25) C inX10_act_X10 0 rfl rfl 13 (by decide) lkX10_act_106 rfl dX10_act_14 ?_
    refine SW.iload_n C dX10_act_17 rfl 1 rfl ?_
    refine SW.bipush (v := (43 : Int32)) C dX10_act_18 (by decide) ?_
    refine jn2_elim (G := fun p0_28 p1_28 => SW p l e { frames := 0, cells := 0, slots := 0, locals := 0 } s m args below meth c A D 2 0 0 (MQ below (va_Qv (fun (u : Ob) => post u) (ctB D A (fun u : Ob => w10 cI cZ qY u)) A) args s 0 0 A) (w10 cI cZ qY oY) 28 [] [.int p0_28, .int p1_28, .ref (qY 0)]) h (fun p0_28 p1_28 h => ?_) (fun J28 hJ28 h => ?_)
    · refine SW.iadd C dX10_act_28 ?_
      refine SW.put (ws' := w10 cI cZ qY (pf oY 13 (p1_28 + p0_28))) (T := TX10) (N := 25) C inX10_act_X10 tyX10 tyX10_ok nmX10 0 rfl rfl 13 (by decide) lkX10_act_106 rfl rfl rfl (Nat.le_of_ble_eq_true rfl) rfl dX10_act_29 ?_
      refine SW.goto (tgt := 50) C dX10_act_32 (by decide) ?_
      exact SW.vret C (pf oY 13 (p1_28 + p0_28)) rfl h dX10_act_50
    · refine SW.icmp_ne (tgt := 27) C dX10_act_20 (by decide) (fun hc => ?_) (fun hc => ?_)
      · replace h := h.2 hc
        refine SW.iconst (v := (-1 : Int32)) C dX10_act_27 (by decide) ?_
        refine SW.sub [] rfl ?_
        exact hJ28 _ _ h
      · replace h := h.1 hc
        refine SW.iconst (v := (1 : Int32)) C dX10_act_23 (by decide) ?_
        refine SW.goto (tgt := 28) C dX10_act_24 (by decide) ?_
        refine SW.sub [] rfl ?_
        exact hJ28 _ _ h
  · refine SW.icmp_eq (tgt := 12) C dX10_act_3 (by decide) (fun hc => ?_) (fun hc => ?_)
    · replace h := h.1 hc
      exact hJ12 h
    · replace h := h.2 hc
      refine SW.iload_n C dX10_act_6 rfl 1 rfl ?_
      refine SW.bipush (v := (45 : Int32)) C dX10_act_7 (by decide) ?_
      refine SW.icmp_ne (tgt := 35) C dX10_act_9 (by decide) (fun hc => ?_) (fun hc => ?_)
      · replace h := h.2 hc
        refine SW.aload_n C dX10_act_35 rfl 0 rfl ?_
        refine SW.dup C dX10_act_36 rfl ?_
        refine SW.get (v := .int (oY 0 12)) (T := TX10) (N := 25) C inX10_act_X10 0 rfl rfl 12 (by decide) lkX10_act_109 rfl dX10_act_37 ?_
        refine SW.iconst (v := (1 : Int32)) C dX10_act_40 (by decide) ?_
        refine SW.iload_n C dX10_act_41 rfl 1 rfl ?_
        refine SW.bipush (v := (97 : Int32)) C dX10_act_42 (by decide) ?_
        refine SW.isub C dX10_act_44 ?_
        refine SW.ishl C dX10_act_45 ?_
        refine SW.ixor C dX10_act_46 ?_
        refine SW.put (ws' := w10 cI cZ qY (pf oY 12 ((oY 0 12) ^^^ (jshl (1 : Int32) (v1 - (97 : Int32)))))) (T := TX10) (N := 25) C inX10_act_X10 tyX10 tyX10_ok nmX10 0 rfl rfl 12 (by decide) lkX10_act_109 rfl rfl rfl (Nat.le_of_ble_eq_true rfl) rfl dX10_act_47 ?_
        exact SW.vret C (pf oY 12 ((oY 0 12) ^^^ (jshl (1 : Int32) (v1 - (97 : Int32))))) rfl h dX10_act_50
      · replace h := h.1 hc
        exact hJ12 h
def wpX10_goEvening_L32 (post : Int32 → Ob → Prop) (K158 : Ob → Prop) : Nat → Ob → Prop
  | 0, _ => False
  | fu32 + 1, oY_32 => (((oY_32 0 10) ≤ (oY_32 0 15)) → K158 oY_32) ∧ (¬ ((oY_32 0 10) ≤ (oY_32 0 15)) → (vp_in (oY_32 0 15) 60) ∧ (jn1 (fun (p0_69 : Int32) => ((p0_69 ≤ 0) → jn1 (fun (oY_145 : Ob) => wpX10_goEvening_L32 post K158 fu32 (pf oY_145 15 ((oY_145 0 15) + (1 : Int32)))) (fun J145 => (((jld (oY_32 4) (oY_32 0 15)) = (46 : Int32)) → wpX10_clashes (pf oY_32 14 p0_69) (oY_32 0 12) (oY_32 0 13) (fun (r107 : Int32) => ((r107 = 0) → J145 (pf oY_32 14 p0_69)) ∧ (¬ (r107 = 0) → jn1 (fun (p0_132 : Int32) => J145 (pf (pf (pf oY_32 14 p0_69) 17 p0_132) 16 ((oY_32 0 16) + (1 : Int32)))) (fun J132 => (((oY_32 0 16) = 0) → J132 (oY_32 0 15)) ∧ (¬ ((oY_32 0 16) = 0) → J132 (oY_32 0 17)))))) ∧ (¬ ((jld (oY_32 4) (oY_32 0 15)) = (46 : Int32)) → wpX10_act (pf oY_32 14 p0_69) (jld (oY_32 4) (oY_32 0 15)) (fun (oY_92 : Ob) => J145 oY_92)))) ∧ (¬ (p0_69 ≤ 0) → post (oY_32 0 15) (pf oY_32 14 p0_69))) (fun J69 => (((jld (oY_32 4) (oY_32 0 15)) = (46 : Int32)) → J69 (0 : Int32)) ∧ (¬ ((jld (oY_32 4) (oY_32 0 15)) = (46 : Int32)) → wpX10_whyNot oY_32 (jld (oY_32 4) (oY_32 0 15)) (fun (r66 : Int32) => J69 r66)))))
def wpX10_goEvening (oY : Ob) (post : Int32 → Ob → Prop) : Prop := ∃ fu32 : Nat, wpX10_goEvening_L32 post (fun (oY_158 : Ob) => post (-6 : Int32) oY_158) fu32 (pf (pf (pf (pf (pf oY 12 (oY 0 6)) 13 (oY 0 5)) 16 (0 : Int32)) 17 (-6 : Int32)) 15 (0 : Int32))
theorem pdX10_goEvening : yX10_goEvening.cls = RX10 ∧ yX10_goEvening.cls ≠ "java/lang/invoke/MethodHandle" ∧ yX10_goEvening.cls ≠ "java/lang/invoke/VarHandle" ∧ (parseMethodDescriptor yX10_goEvening.desc).map (fun d => d.parameters.length) = some 0 := by decide +kernel
theorem lkX10_goEvening_63 : Cond.fieldLink RX10 63 (TX10 6).1 (TX10 6).2.1 (TX10 6).2.2.1 ∈ wsX10_goEvening := by decide +kernel
theorem inX10_goEvening_X10 : ∀ w ∈ u_ws RX10 TX10 25, w ∈ wsX10_goEvening := by decide +kernel
theorem lkX10_goEvening_109 : Cond.fieldLink RX10 109 (TX10 12).1 (TX10 12).2.1 (TX10 12).2.2.1 ∈ wsX10_goEvening := by decide +kernel
theorem lkX10_goEvening_60 : Cond.fieldLink RX10 60 (TX10 5).1 (TX10 5).2.1 (TX10 5).2.2.1 ∈ wsX10_goEvening := by decide +kernel
theorem lkX10_goEvening_106 : Cond.fieldLink RX10 106 (TX10 13).1 (TX10 13).2.1 (TX10 13).2.2.1 ∈ wsX10_goEvening := by decide +kernel
theorem lkX10_goEvening_118 : Cond.fieldLink RX10 118 (TX10 16).1 (TX10 16).2.1 (TX10 16).2.2.1 ∈ wsX10_goEvening := by decide +kernel
theorem lkX10_goEvening_121 : Cond.fieldLink RX10 121 (TX10 17).1 (TX10 17).2.1 (TX10 17).2.2.1 ∈ wsX10_goEvening := by decide +kernel
theorem lkX10_goEvening_124 : Cond.fieldLink RX10 124 (TX10 15).1 (TX10 15).2.1 (TX10 15).2.2.1 ∈ wsX10_goEvening := by decide +kernel
theorem lkX10_goEvening_77 : Cond.fieldLink RX10 77 (TX10 10).1 (TX10 10).2.1 (TX10 10).2.2.1 ∈ wsX10_goEvening := by decide +kernel
theorem lkX10_goEvening_32 : Cond.fieldLink RX10 32 (TX10 11).1 (TX10 11).2.1 (TX10 11).2.2.1 ∈ wsX10_goEvening := by decide +kernel
theorem lkX10_goEvening_130 : Cond.fieldLink RX10 130 (TX10 14).1 (TX10 14).2.1 (TX10 14).2.2.1 ∈ wsX10_goEvening := by decide +kernel
set_option maxHeartbeats 4000000 in
set_option maxRecDepth 100000 in
theorem ctX10_goEvening (l : Launch) (D : va_G) (cI cZ : ClassId) (qY : Nat → Nat) (oY : Ob) (post : Int32 → Ob → Prop) (h : wpX10_goEvening oY post) : CTi l yX10_goEvening wsX10_goEvening { frames := 3, cells := 0, slots := 0, locals := 74 } D [(cI, .int), (cZ, .boolean)] [.ref (qY 0)] (w10 cI cZ qY oY) (fun u : Ob => w10 cI cZ qY u) (fun (r : Int32) (u : Ob) => post r u) := by
  refine CTi.of (cc := cX10_goEvening) (own := RX10) (maxL := 2) (ret := (some .int)) (lv0 := [(0, .ref (qY 0))]) (by decide) rfl rfl (Nat.le_of_ble_eq_true rfl) rfl ?_
  intro p e s m args below meth c A C
  unfold wpX10_goEvening at h
  refine SW.aload_n C dX10_goEvening_0 rfl 0 rfl ?_
  refine SW.aload_n C dX10_goEvening_1 rfl 0 rfl ?_
  refine SW.get (v := .int (oY 0 6)) (T := TX10) (N := 25) C inX10_goEvening_X10 0 rfl rfl 6 (by decide) lkX10_goEvening_63 rfl dX10_goEvening_2 ?_
  refine SW.put (ws' := w10 cI cZ qY (pf oY 12 (oY 0 6))) (T := TX10) (N := 25) C inX10_goEvening_X10 tyX10 tyX10_ok nmX10 0 rfl rfl 12 (by decide) lkX10_goEvening_109 rfl rfl rfl (Nat.le_of_ble_eq_true rfl) rfl dX10_goEvening_5 ?_
  refine SW.aload_n C dX10_goEvening_8 rfl 0 rfl ?_
  refine SW.aload_n C dX10_goEvening_9 rfl 0 rfl ?_
  refine SW.get (v := .int (oY 0 5)) (T := TX10) (N := 25) C inX10_goEvening_X10 0 rfl rfl 5 (by decide) lkX10_goEvening_60 rfl dX10_goEvening_10 ?_
  refine SW.put (ws' := w10 cI cZ qY (pf (pf oY 12 (oY 0 6)) 13 (oY 0 5))) (T := TX10) (N := 25) C inX10_goEvening_X10 tyX10 tyX10_ok nmX10 0 rfl rfl 13 (by decide) lkX10_goEvening_106 rfl rfl rfl (Nat.le_of_ble_eq_true rfl) rfl dX10_goEvening_13 ?_
  refine SW.aload_n C dX10_goEvening_16 rfl 0 rfl ?_
  refine SW.iconst (v := (0 : Int32)) C dX10_goEvening_17 (by decide) ?_
  refine SW.put (ws' := w10 cI cZ qY (pf (pf (pf oY 12 (oY 0 6)) 13 (oY 0 5)) 16 (0 : Int32))) (T := TX10) (N := 25) C inX10_goEvening_X10 tyX10 tyX10_ok nmX10 0 rfl rfl 16 (by decide) lkX10_goEvening_118 rfl rfl rfl (Nat.le_of_ble_eq_true rfl) rfl dX10_goEvening_18 ?_
  refine SW.aload_n C dX10_goEvening_21 rfl 0 rfl ?_
  refine SW.bipush (v := (-6 : Int32)) C dX10_goEvening_22 (by decide) ?_
  refine SW.put (ws' := w10 cI cZ qY (pf (pf (pf (pf oY 12 (oY 0 6)) 13 (oY 0 5)) 16 (0 : Int32)) 17 (-6 : Int32))) (T := TX10) (N := 25) C inX10_goEvening_X10 tyX10 tyX10_ok nmX10 0 rfl rfl 17 (by decide) lkX10_goEvening_121 rfl rfl rfl (Nat.le_of_ble_eq_true rfl) rfl dX10_goEvening_24 ?_
  refine SW.aload_n C dX10_goEvening_27 rfl 0 rfl ?_
  refine SW.iconst (v := (0 : Int32)) C dX10_goEvening_28 (by decide) ?_
  refine SW.put (ws' := w10 cI cZ qY (pf (pf (pf (pf (pf oY 12 (oY 0 6)) 13 (oY 0 5)) 16 (0 : Int32)) 17 (-6 : Int32)) 15 (0 : Int32))) (T := TX10) (N := 25) C inX10_goEvening_X10 tyX10 tyX10_ok nmX10 0 rfl rfl 15 (by decide) lkX10_goEvening_124 rfl rfl rfl (Nat.le_of_ble_eq_true rfl) rfl dX10_goEvening_29 ?_
  have L32 : ∀ (K158 : Ob → Prop) (hK158 : ∀ (oY_158 : Ob), K158 oY_158 → SW p l e { frames := 3, cells := 0, slots := 0, locals := 74 } s m args below meth c A D 2 0 0 (MQ below (va_Qi (fun (r : Int32) (u : Ob) => post r u) (ctB D A (fun u : Ob => w10 cI cZ qY u)) A) args s 0 0 A) (w10 cI cZ qY oY_158) 158 [] []) (fu : Nat) (oY_32 : Ob), wpX10_goEvening_L32 post K158 fu oY_32 → SW p l e { frames := 3, cells := 0, slots := 0, locals := 74 } s m args below meth c A D 2 0 0 (MQ below (va_Qi (fun (r : Int32) (u : Ob) => post r u) (ctB D A (fun u : Ob => w10 cI cZ qY u)) A) args s 0 0 A) (w10 cI cZ qY oY_32) 32 [(0, .ref (qY 0))] [] := by
    intro K158 hK158 fu
    induction fu with
    | zero =>
      intro oY_32 h
      exact False.elim h
    | succ fu ih =>
      intro oY_32 h
      unfold wpX10_goEvening_L32 at h
      refine SW.aload_n C dX10_goEvening_32 rfl 0 rfl ?_
      refine SW.get (v := .int (oY_32 0 15)) (T := TX10) (N := 25) C inX10_goEvening_X10 0 rfl rfl 15 (by decide) lkX10_goEvening_124 rfl dX10_goEvening_33 ?_
      refine SW.aload_n C dX10_goEvening_36 rfl 0 rfl ?_
      refine SW.get (v := .int (oY_32 0 10)) (T := TX10) (N := 25) C inX10_goEvening_X10 0 rfl rfl 10 (by decide) lkX10_goEvening_77 rfl dX10_goEvening_37 ?_
      refine SW.icmp_ge (tgt := 158) C dX10_goEvening_40 (by decide) (fun hc => ?_) (fun hc => ?_)
      · replace h := h.1 hc
        refine SW.sub [] rfl ?_
        exact hK158 _ h
      · replace h := h.2 hc
        refine SW.aload_n C dX10_goEvening_43 rfl 0 rfl ?_
        refine SW.get (v := .ref (qY 4)) (T := TX10) (N := 25) C inX10_goEvening_X10 0 rfl rfl 11 (by decide) lkX10_goEvening_32 rfl dX10_goEvening_44 ?_
        refine SW.aload_n C dX10_goEvening_47 rfl 0 rfl ?_
        refine SW.get (v := .int (oY_32 0 15)) (T := TX10) (N := 25) C inX10_goEvening_X10 0 rfl rfl 15 (by decide) lkX10_goEvening_124 rfl dX10_goEvening_48 ?_
        refine SW.iald C 4 0 rfl rfl h.1 dX10_goEvening_51 ?_
        replace h := h.2
        refine SW.istore_n (lv' := [(1, .int (jld (oY_32 4) (oY_32 0 15))), (0, .ref (qY 0))]) C dX10_goEvening_52 rfl (by decide) rfl ?_
        refine SW.aload_n C dX10_goEvening_53 rfl 1 rfl ?_
        refine SW.iload_n C dX10_goEvening_54 rfl 0 rfl ?_
        refine SW.bipush (v := (46 : Int32)) C dX10_goEvening_55 (by decide) ?_
        refine jn1_elim (G := fun p0_69 => SW p l e { frames := 3, cells := 0, slots := 0, locals := 74 } s m args below meth c A D 2 0 0 (MQ below (va_Qi (fun (r : Int32) (u : Ob) => post r u) (ctB D A (fun u : Ob => w10 cI cZ qY u)) A) args s 0 0 A) (w10 cI cZ qY oY_32) 69 [(0, .ref (qY 0)), (1, .int (jld (oY_32 4) (oY_32 0 15)))] [.int p0_69, .ref (qY 0)]) h (fun p0_69 h => ?_) (fun J69 hJ69 h => ?_)
        · refine SW.put (ws' := w10 cI cZ qY (pf oY_32 14 p0_69)) (T := TX10) (N := 25) C inX10_goEvening_X10 tyX10 tyX10_ok nmX10 0 rfl rfl 14 (by decide) lkX10_goEvening_130 rfl rfl rfl (Nat.le_of_ble_eq_true rfl) rfl dX10_goEvening_69 ?_
          refine SW.aload_n C dX10_goEvening_72 rfl 0 rfl ?_
          refine SW.get (v := .int p0_69) (T := TX10) (N := 25) C inX10_goEvening_X10 0 rfl rfl 14 (by decide) lkX10_goEvening_130 rfl dX10_goEvening_73 ?_
          refine SW.if_le (tgt := 84) C dX10_goEvening_76 (by decide) (fun hc => ?_) (fun hc => ?_)
          · replace h := h.1 hc
            refine SW.iload_n C dX10_goEvening_84 rfl 1 rfl ?_
            refine SW.bipush (v := (46 : Int32)) C dX10_goEvening_85 (by decide) ?_
            refine jn1_elim (G := fun oY_145 => SW p l e { frames := 3, cells := 0, slots := 0, locals := 74 } s m args below meth c A D 2 0 0 (MQ below (va_Qi (fun (r : Int32) (u : Ob) => post r u) (ctB D A (fun u : Ob => w10 cI cZ qY u)) A) args s 0 0 A) (w10 cI cZ qY oY_145) 145 [(0, .ref (qY 0))] []) h (fun oY_145 h => ?_) (fun J145 hJ145 h => ?_)
            · refine SW.aload_n C dX10_goEvening_145 rfl 0 rfl ?_
              refine SW.dup C dX10_goEvening_146 rfl ?_
              refine SW.get (v := .int (oY_145 0 15)) (T := TX10) (N := 25) C inX10_goEvening_X10 0 rfl rfl 15 (by decide) lkX10_goEvening_124 rfl dX10_goEvening_147 ?_
              refine SW.iconst (v := (1 : Int32)) C dX10_goEvening_150 (by decide) ?_
              refine SW.iadd C dX10_goEvening_151 ?_
              refine SW.put (ws' := w10 cI cZ qY (pf oY_145 15 ((oY_145 0 15) + (1 : Int32)))) (T := TX10) (N := 25) C inX10_goEvening_X10 tyX10 tyX10_ok nmX10 0 rfl rfl 15 (by decide) lkX10_goEvening_124 rfl rfl rfl (Nat.le_of_ble_eq_true rfl) rfl dX10_goEvening_152 ?_
              refine SW.goto (tgt := 32) C dX10_goEvening_155 (by decide) ?_
              exact ih _ h
            · refine SW.icmp_eq (tgt := 98) C dX10_goEvening_87 (by decide) (fun hc => ?_) (fun hc => ?_)
              · replace h := h.1 hc
                refine SW.aload_n C dX10_goEvening_98 rfl 0 rfl ?_
                refine SW.aload_n C dX10_goEvening_99 rfl 0 rfl ?_
                refine SW.get (v := .int (oY_32 0 12)) (T := TX10) (N := 25) C inX10_goEvening_X10 0 rfl rfl 12 (by decide) lkX10_goEvening_109 rfl dX10_goEvening_100 ?_
                refine SW.aload_n C dX10_goEvening_103 rfl 0 rfl ?_
                refine SW.get (v := .int (oY_32 0 13)) (T := TX10) (N := 25) C inX10_goEvening_X10 0 rfl rfl 13 (by decide) lkX10_goEvening_106 rfl dX10_goEvening_104 ?_
                refine SW.callVi_same C (ctX10_clashes l D cI cZ qY (pf oY_32 14 p0_69) (oY_32 0 12) (oY_32 0 13) _ h) gX10_goEvening_X10_clashes rfl rfl rfl pdX10_clashes ⟨by decide, by decide⟩ 0 rfl rfl rfl rfl rfl (Nat.le_of_ble_eq_true rfl) dX10_goEvening_107 (by decide) (fun r107 u h => ?_)
                try dsimp only at h
                refine SW.if_eq (tgt := 145) C dX10_goEvening_110 (by decide) (fun hc => ?_) (fun hc => ?_)
                · replace h := h.1 hc
                  refine SW.sub [0] rfl ?_
                  exact hJ145 _ h
                · replace h := h.2 hc
                  refine SW.aload_n C dX10_goEvening_113 rfl 0 rfl ?_
                  refine SW.aload_n C dX10_goEvening_114 rfl 0 rfl ?_
                  refine SW.get (v := .int (oY_32 0 16)) (T := TX10) (N := 25) C inX10_goEvening_X10 0 rfl rfl 16 (by decide) lkX10_goEvening_118 rfl dX10_goEvening_115 ?_
                  refine jn1_elim (G := fun p0_132 => SW p l e { frames := 3, cells := 0, slots := 0, locals := 74 } s m args below meth c A D 2 0 0 (MQ below (va_Qi (fun (r : Int32) (u : Ob) => post r u) (ctB D A (fun u : Ob => w10 cI cZ qY u)) A) args s 0 0 A) (w10 cI cZ qY (pf oY_32 14 p0_69)) 132 [(0, .ref (qY 0))] [.int p0_132, .ref (qY 0)]) h (fun p0_132 h => ?_) (fun J132 hJ132 h => ?_)
                  · refine SW.put (ws' := w10 cI cZ qY (pf (pf oY_32 14 p0_69) 17 p0_132)) (T := TX10) (N := 25) C inX10_goEvening_X10 tyX10 tyX10_ok nmX10 0 rfl rfl 17 (by decide) lkX10_goEvening_121 rfl rfl rfl (Nat.le_of_ble_eq_true rfl) rfl dX10_goEvening_132 ?_
                    refine SW.aload_n C dX10_goEvening_135 rfl 0 rfl ?_
                    refine SW.dup C dX10_goEvening_136 rfl ?_
                    refine SW.get (v := .int (oY_32 0 16)) (T := TX10) (N := 25) C inX10_goEvening_X10 0 rfl rfl 16 (by decide) lkX10_goEvening_118 rfl dX10_goEvening_137 ?_
                    refine SW.iconst (v := (1 : Int32)) C dX10_goEvening_140 (by decide) ?_
                    refine SW.iadd C dX10_goEvening_141 ?_
                    refine SW.put (ws' := w10 cI cZ qY (pf (pf (pf oY_32 14 p0_69) 17 p0_132) 16 ((oY_32 0 16) + (1 : Int32)))) (T := TX10) (N := 25) C inX10_goEvening_X10 tyX10 tyX10_ok nmX10 0 rfl rfl 16 (by decide) lkX10_goEvening_118 rfl rfl rfl (Nat.le_of_ble_eq_true rfl) rfl dX10_goEvening_142 ?_
                    exact hJ145 _ h
                  · refine SW.if_ne (tgt := 128) C dX10_goEvening_118 (by decide) (fun hc => ?_) (fun hc => ?_)
                    · replace h := h.2 hc
                      refine SW.aload_n C dX10_goEvening_128 rfl 0 rfl ?_
                      refine SW.get (v := .int (oY_32 0 17)) (T := TX10) (N := 25) C inX10_goEvening_X10 0 rfl rfl 17 (by decide) lkX10_goEvening_121 rfl dX10_goEvening_129 ?_
                      refine SW.sub [0] rfl ?_
                      exact hJ132 _ h
                    · replace h := h.1 hc
                      refine SW.aload_n C dX10_goEvening_121 rfl 0 rfl ?_
                      refine SW.get (v := .int (oY_32 0 15)) (T := TX10) (N := 25) C inX10_goEvening_X10 0 rfl rfl 15 (by decide) lkX10_goEvening_124 rfl dX10_goEvening_122 ?_
                      refine SW.goto (tgt := 132) C dX10_goEvening_125 (by decide) ?_
                      refine SW.sub [0] rfl ?_
                      exact hJ132 _ h
              · replace h := h.2 hc
                refine SW.aload_n C dX10_goEvening_90 rfl 0 rfl ?_
                refine SW.iload_n C dX10_goEvening_91 rfl 1 rfl ?_
                refine SW.callVv_same C (ctX10_act l D cI cZ qY (pf oY_32 14 p0_69) (jld (oY_32 4) (oY_32 0 15)) _ h) gX10_goEvening_X10_act rfl rfl rfl pdX10_act ⟨by decide, by decide⟩ 0 rfl rfl rfl rfl rfl (Nat.le_of_ble_eq_true rfl) dX10_goEvening_92 (by decide) (fun u h => ?_)
                obtain ⟨oY_92, rfl⟩ : ∃ z, z = u := ⟨_, rfl⟩
                try dsimp only at h
                refine SW.goto (tgt := 145) C dX10_goEvening_95 (by decide) ?_
                refine SW.sub [0] rfl ?_
                exact hJ145 _ h
          · replace h := h.2 hc
            refine SW.aload_n C dX10_goEvening_79 rfl 0 rfl ?_
            refine SW.get (v := .int (oY_32 0 15)) (T := TX10) (N := 25) C inX10_goEvening_X10 0 rfl rfl 15 (by decide) lkX10_goEvening_124 rfl dX10_goEvening_80 ?_
            exact SW.iret C (pf oY_32 14 p0_69) rfl h dX10_goEvening_83
        · refine SW.icmp_ne (tgt := 64) C dX10_goEvening_57 (by decide) (fun hc => ?_) (fun hc => ?_)
          · replace h := h.2 hc
            refine SW.aload_n C dX10_goEvening_64 rfl 1 rfl ?_
            refine SW.iload_n C dX10_goEvening_65 rfl 0 rfl ?_
            refine SW.callVi_same C (ctX10_whyNot l D cI cZ qY oY_32 (jld (oY_32 4) (oY_32 0 15)) _ h) gX10_goEvening_X10_whyNot rfl rfl rfl pdX10_whyNot ⟨by decide, by decide⟩ 0 rfl rfl rfl rfl rfl (Nat.le_of_ble_eq_true rfl) dX10_goEvening_66 (by decide) (fun r66 u h => ?_)
            try dsimp only at h
            refine SW.sub [1, 0] rfl ?_
            exact hJ69 _ h
          · replace h := h.1 hc
            refine SW.iconst (v := (0 : Int32)) C dX10_goEvening_60 (by decide) ?_
            refine SW.goto (tgt := 69) C dX10_goEvening_61 (by decide) ?_
            refine SW.sub [1, 0] rfl ?_
            exact hJ69 _ h
  obtain ⟨fu, h⟩ := h
  refine L32 _ (fun oY_158 h => ?_) fu _ h
  · refine SW.bipush (v := (-6 : Int32)) C dX10_goEvening_158 (by decide) ?_
    exact SW.iret C oY_158 rfl h dX10_goEvening_160
def wpX10_judge (oY : Ob) (v1 : Int32) (post : Int32 → Ob → Prop) : Prop := wpX10_in v1 (0 : Int32) (1 : Int32) (fun (r3 : Int32) => ((r3 = 0) → post (-2 : Int32) oY) ∧ (¬ (r3 = 0) → wpX10_eveningFault oY (fun (r13 : Int32) => ((r13 < 0) → wpX10_goEvening oY (fun (r23 : Int32) (oY_23 : Ob) => jn0 (post r23 oY_23) (fun J35 => ((r23 < 0) → J35) ∧ (¬ (r23 < 0) → ((v1 = 0) → J35) ∧ (¬ (v1 = 0) → post (oY_23 0 14) oY_23))))) ∧ (¬ (r13 < 0) → post (-5 : Int32) oY))))
theorem pdX10_judge : yX10_judge.cls = RX10 ∧ yX10_judge.cls ≠ "java/lang/invoke/MethodHandle" ∧ yX10_judge.cls ≠ "java/lang/invoke/VarHandle" ∧ (parseMethodDescriptor yX10_judge.desc).map (fun d => d.parameters.length) = some 1 := by decide +kernel
theorem lkX10_judge_130 : Cond.fieldLink RX10 130 (TX10 14).1 (TX10 14).2.1 (TX10 14).2.2.1 ∈ wsX10_judge := by decide +kernel
theorem inX10_judge_X10 : ∀ w ∈ u_ws RX10 TX10 25, w ∈ wsX10_judge := by decide +kernel
set_option maxHeartbeats 4000000 in
set_option maxRecDepth 100000 in
theorem ctX10_judge (l : Launch) (D : va_G) (cI cZ : ClassId) (qY : Nat → Nat) (oY : Ob) (v1 : Int32) (post : Int32 → Ob → Prop) (h : wpX10_judge oY v1 post) : CTi l yX10_judge wsX10_judge { frames := 4, cells := 0, slots := 0, locals := 95 } D [(cI, .int), (cZ, .boolean)] [.ref (qY 0), .int v1] (w10 cI cZ qY oY) (fun u : Ob => w10 cI cZ qY u) (fun (r : Int32) (u : Ob) => post r u) := by
  refine CTi.of (cc := cX10_judge) (own := RX10) (maxL := 3) (ret := (some .int)) (lv0 := [(0, .ref (qY 0)), (1, .int v1)]) (by decide) rfl rfl (Nat.le_of_ble_eq_true rfl) rfl ?_
  intro p e s m args below meth c A C
  unfold wpX10_judge at h
  refine SW.iload_n C dX10_judge_0 rfl 1 rfl ?_
  refine SW.iconst (v := (0 : Int32)) C dX10_judge_1 (by decide) ?_
  refine SW.iconst (v := (1 : Int32)) C dX10_judge_2 (by decide) ?_
  refine SW.callSi_pure C (ctX10_in l D cI cZ v1 (0 : Int32) (1 : Int32) _ h) gX10_judge_X10_in rfl rfl rfl pdX10_in ⟨by decide, by decide⟩ rfl rfl (Nat.le_of_ble_eq_true rfl) dX10_judge_3 (by decide) (fun r3 u h => ?_)
  try dsimp only at h
  refine SW.if_ne (tgt := 12) C dX10_judge_6 (by decide) (fun hc => ?_) (fun hc => ?_)
  · replace h := h.2 hc
    refine SW.aload_n C dX10_judge_12 rfl 0 rfl ?_
    refine SW.callVi_same C (ctX10_eveningFault l D cI cZ qY oY _ h) gX10_judge_X10_eveningFault rfl rfl rfl pdX10_eveningFault ⟨by decide, by decide⟩ 0 rfl rfl rfl rfl rfl (Nat.le_of_ble_eq_true rfl) dX10_judge_13 (by decide) (fun r13 u h => ?_)
    try dsimp only at h
    refine SW.if_lt (tgt := 22) C dX10_judge_16 (by decide) (fun hc => ?_) (fun hc => ?_)
    · replace h := h.1 hc
      refine SW.aload_n C dX10_judge_22 rfl 0 rfl ?_
      refine SW.callVi_same C (ctX10_goEvening l D cI cZ qY oY _ h) gX10_judge_X10_goEvening rfl rfl rfl pdX10_goEvening ⟨by decide, by decide⟩ 0 rfl rfl rfl rfl rfl (Nat.le_of_ble_eq_true rfl) dX10_judge_23 (by decide) (fun r23 u h => ?_)
      obtain ⟨oY_23, rfl⟩ : ∃ z, z = u := ⟨_, rfl⟩
      try dsimp only at h
      refine SW.istore_n (lv' := [(2, .int r23), (0, .ref (qY 0)), (1, .int v1)]) C dX10_judge_26 rfl (by decide) rfl ?_
      refine SW.iload_n C dX10_judge_27 rfl 0 rfl ?_
      refine jn0_elim (G := SW p l e { frames := 4, cells := 0, slots := 0, locals := 95 } s m args below meth c A D 3 0 0 (MQ below (va_Qi (fun (r : Int32) (u : Ob) => post r u) (ctB D A (fun u : Ob => w10 cI cZ qY u)) A) args s 0 0 A) (w10 cI cZ qY oY_23) 35 [(2, .int r23)] []) h (fun h => ?_) (fun J35 hJ35 h => ?_)
      · refine SW.iload_n C dX10_judge_35 rfl 0 rfl ?_
        refine SW.goto (tgt := 43) C dX10_judge_36 (by decide) ?_
        exact SW.iret C oY_23 rfl h dX10_judge_43
      · refine SW.if_lt (tgt := 35) C dX10_judge_28 (by decide) (fun hc => ?_) (fun hc => ?_)
        · replace h := h.1 hc
          refine SW.sub [0] rfl ?_
          exact hJ35 h
        · replace h := h.2 hc
          refine SW.iload_n C dX10_judge_31 rfl 2 rfl ?_
          refine SW.if_ne (tgt := 39) C dX10_judge_32 (by decide) (fun hc => ?_) (fun hc => ?_)
          · replace h := h.2 hc
            refine SW.aload_n C dX10_judge_39 rfl 1 rfl ?_
            refine SW.get (v := .int (oY_23 0 14)) (T := TX10) (N := 25) C inX10_judge_X10 0 rfl rfl 14 (by decide) lkX10_judge_130 rfl dX10_judge_40 ?_
            exact SW.iret C oY_23 rfl h dX10_judge_43
          · replace h := h.1 hc
            refine SW.sub [0] rfl ?_
            exact hJ35 h
    · replace h := h.2 hc
      refine SW.bipush (v := (-5 : Int32)) C dX10_judge_19 (by decide) ?_
      exact SW.iret C oY rfl h dX10_judge_21
  · replace h := h.1 hc
    refine SW.bipush (v := (-2 : Int32)) C dX10_judge_9 (by decide) ?_
    exact SW.iret C oY rfl h dX10_judge_11
def wpX10_barOfEvening (oY : Ob) (post : Int32 → Ob → Prop) : Prop := wpX10_eveningFault oY (fun (r1 : Int32) => jn1 (fun (oY_14 : Ob) => post (-5 : Int32) oY_14) (fun J14 => ((0 ≤ r1) → J14 oY) ∧ (¬ (0 ≤ r1) → wpX10_goEvening oY (fun (r8 : Int32) (oY_8 : Ob) => ((r8 < 0) → post (0 : Int32) oY_8) ∧ (¬ (r8 < 0) → J14 oY_8)))))
theorem pdX10_barOfEvening : yX10_barOfEvening.cls = RX10 ∧ yX10_barOfEvening.cls ≠ "java/lang/invoke/MethodHandle" ∧ yX10_barOfEvening.cls ≠ "java/lang/invoke/VarHandle" ∧ (parseMethodDescriptor yX10_barOfEvening.desc).map (fun d => d.parameters.length) = some 0 := by decide +kernel
set_option maxHeartbeats 4000000 in
set_option maxRecDepth 100000 in
theorem ctX10_barOfEvening (l : Launch) (D : va_G) (cI cZ : ClassId) (qY : Nat → Nat) (oY : Ob) (post : Int32 → Ob → Prop) (h : wpX10_barOfEvening oY post) : CTi l yX10_barOfEvening wsX10_barOfEvening { frames := 4, cells := 0, slots := 0, locals := 95 } D [(cI, .int), (cZ, .boolean)] [.ref (qY 0)] (w10 cI cZ qY oY) (fun u : Ob => w10 cI cZ qY u) (fun (r : Int32) (u : Ob) => post r u) := by
  refine CTi.of (cc := cX10_barOfEvening) (own := RX10) (maxL := 1) (ret := (some .int)) (lv0 := [(0, .ref (qY 0))]) (by decide) rfl rfl (Nat.le_of_ble_eq_true rfl) rfl ?_
  intro p e s m args below meth c A C
  unfold wpX10_barOfEvening at h
  refine SW.aload_n C dX10_barOfEvening_0 rfl 0 rfl ?_
  refine SW.callVi_same C (ctX10_eveningFault l D cI cZ qY oY _ h) gX10_barOfEvening_X10_eveningFault rfl rfl rfl pdX10_eveningFault ⟨by decide, by decide⟩ 0 rfl rfl rfl rfl rfl (Nat.le_of_ble_eq_true rfl) dX10_barOfEvening_1 (by decide) (fun r1 u h => ?_)
  try dsimp only at h
  refine jn1_elim (G := fun oY_14 => SW p l e { frames := 4, cells := 0, slots := 0, locals := 95 } s m args below meth c A D 1 0 0 (MQ below (va_Qi (fun (r : Int32) (u : Ob) => post r u) (ctB D A (fun u : Ob => w10 cI cZ qY u)) A) args s 0 0 A) (w10 cI cZ qY oY_14) 14 [] []) h (fun oY_14 h => ?_) (fun J14 hJ14 h => ?_)
  · refine SW.bipush (v := (-5 : Int32)) C dX10_barOfEvening_14 (by decide) ?_
    refine SW.goto (tgt := 20) C dX10_barOfEvening_16 (by decide) ?_
    exact SW.iret C oY_14 rfl h dX10_barOfEvening_20
  · refine SW.if_ge (tgt := 14) C dX10_barOfEvening_4 (by decide) (fun hc => ?_) (fun hc => ?_)
    · replace h := h.1 hc
      refine SW.sub [] rfl ?_
      exact hJ14 _ h
    · replace h := h.2 hc
      refine SW.aload_n C dX10_barOfEvening_7 rfl 0 rfl ?_
      refine SW.callVi_same C (ctX10_goEvening l D cI cZ qY oY _ h) gX10_barOfEvening_X10_goEvening rfl rfl rfl pdX10_goEvening ⟨by decide, by decide⟩ 0 rfl rfl rfl rfl rfl (Nat.le_of_ble_eq_true rfl) dX10_barOfEvening_8 (by decide) (fun r8 u h => ?_)
      obtain ⟨oY_8, rfl⟩ : ∃ z, z = u := ⟨_, rfl⟩
      try dsimp only at h
      refine SW.if_lt (tgt := 19) C dX10_barOfEvening_11 (by decide) (fun hc => ?_) (fun hc => ?_)
      · replace h := h.1 hc
        refine SW.iconst (v := (0 : Int32)) C dX10_barOfEvening_19 (by decide) ?_
        exact SW.iret C oY_8 rfl h dX10_barOfEvening_20
      · replace h := h.2 hc
        refine SW.sub [] rfl ?_
        exact hJ14 _ h
def wpX10_done (oY : Ob) (post : Int32 → Ob → Prop) : Prop := wpX10_barOfEvening oY (fun (r1 : Int32) (oY_1 : Ob) => ((0 ≤ r1) → post (oY_1 0 15) (pf (pf (pf oY_1 6 (oY_1 0 12)) 5 (oY_1 0 13)) 10 (0 : Int32))) ∧ (¬ (0 ≤ r1) → post (-5 : Int32) oY_1))
theorem pdX10_done : yX10_done.cls = RX10 ∧ yX10_done.cls ≠ "java/lang/invoke/MethodHandle" ∧ yX10_done.cls ≠ "java/lang/invoke/VarHandle" ∧ (parseMethodDescriptor yX10_done.desc).map (fun d => d.parameters.length) = some 0 := by decide +kernel
theorem lkX10_done_109 : Cond.fieldLink RX10 109 (TX10 12).1 (TX10 12).2.1 (TX10 12).2.2.1 ∈ wsX10_done := by decide +kernel
theorem inX10_done_X10 : ∀ w ∈ u_ws RX10 TX10 25, w ∈ wsX10_done := by decide +kernel
theorem lkX10_done_63 : Cond.fieldLink RX10 63 (TX10 6).1 (TX10 6).2.1 (TX10 6).2.2.1 ∈ wsX10_done := by decide +kernel
theorem lkX10_done_106 : Cond.fieldLink RX10 106 (TX10 13).1 (TX10 13).2.1 (TX10 13).2.2.1 ∈ wsX10_done := by decide +kernel
theorem lkX10_done_60 : Cond.fieldLink RX10 60 (TX10 5).1 (TX10 5).2.1 (TX10 5).2.2.1 ∈ wsX10_done := by decide +kernel
theorem lkX10_done_77 : Cond.fieldLink RX10 77 (TX10 10).1 (TX10 10).2.1 (TX10 10).2.2.1 ∈ wsX10_done := by decide +kernel
theorem lkX10_done_124 : Cond.fieldLink RX10 124 (TX10 15).1 (TX10 15).2.1 (TX10 15).2.2.1 ∈ wsX10_done := by decide +kernel
set_option maxHeartbeats 4000000 in
set_option maxRecDepth 100000 in
theorem ctX10_done (l : Launch) (D : va_G) (cI cZ : ClassId) (qY : Nat → Nat) (oY : Ob) (post : Int32 → Ob → Prop) (h : wpX10_done oY post) : CTi l yX10_done wsX10_done { frames := 5, cells := 0, slots := 0, locals := 115 } D [(cI, .int), (cZ, .boolean)] [.ref (qY 0)] (w10 cI cZ qY oY) (fun u : Ob => w10 cI cZ qY u) (fun (r : Int32) (u : Ob) => post r u) := by
  refine CTi.of (cc := cX10_done) (own := RX10) (maxL := 1) (ret := (some .int)) (lv0 := [(0, .ref (qY 0))]) (by decide) rfl rfl (Nat.le_of_ble_eq_true rfl) rfl ?_
  intro p e s m args below meth c A C
  unfold wpX10_done at h
  refine SW.aload_n C dX10_done_0 rfl 0 rfl ?_
  refine SW.callVi_same C (ctX10_barOfEvening l D cI cZ qY oY _ h) gX10_done_X10_barOfEvening rfl rfl rfl pdX10_barOfEvening ⟨by decide, by decide⟩ 0 rfl rfl rfl rfl rfl (Nat.le_of_ble_eq_true rfl) dX10_done_1 (by decide) (fun r1 u h => ?_)
  obtain ⟨oY_1, rfl⟩ : ∃ z, z = u := ⟨_, rfl⟩
  try dsimp only at h
  refine SW.if_ge (tgt := 10) C dX10_done_4 (by decide) (fun hc => ?_) (fun hc => ?_)
  · replace h := h.1 hc
    refine SW.aload_n C dX10_done_10 rfl 0 rfl ?_
    refine SW.aload_n C dX10_done_11 rfl 0 rfl ?_
    refine SW.get (v := .int (oY_1 0 12)) (T := TX10) (N := 25) C inX10_done_X10 0 rfl rfl 12 (by decide) lkX10_done_109 rfl dX10_done_12 ?_
    refine SW.put (ws' := w10 cI cZ qY (pf oY_1 6 (oY_1 0 12))) (T := TX10) (N := 25) C inX10_done_X10 tyX10 tyX10_ok nmX10 0 rfl rfl 6 (by decide) lkX10_done_63 rfl rfl rfl (Nat.le_of_ble_eq_true rfl) rfl dX10_done_15 ?_
    refine SW.aload_n C dX10_done_18 rfl 0 rfl ?_
    refine SW.aload_n C dX10_done_19 rfl 0 rfl ?_
    refine SW.get (v := .int (oY_1 0 13)) (T := TX10) (N := 25) C inX10_done_X10 0 rfl rfl 13 (by decide) lkX10_done_106 rfl dX10_done_20 ?_
    refine SW.put (ws' := w10 cI cZ qY (pf (pf oY_1 6 (oY_1 0 12)) 5 (oY_1 0 13))) (T := TX10) (N := 25) C inX10_done_X10 tyX10 tyX10_ok nmX10 0 rfl rfl 5 (by decide) lkX10_done_60 rfl rfl rfl (Nat.le_of_ble_eq_true rfl) rfl dX10_done_23 ?_
    refine SW.aload_n C dX10_done_26 rfl 0 rfl ?_
    refine SW.iconst (v := (0 : Int32)) C dX10_done_27 (by decide) ?_
    refine SW.put (ws' := w10 cI cZ qY (pf (pf (pf oY_1 6 (oY_1 0 12)) 5 (oY_1 0 13)) 10 (0 : Int32))) (T := TX10) (N := 25) C inX10_done_X10 tyX10 tyX10_ok nmX10 0 rfl rfl 10 (by decide) lkX10_done_77 rfl rfl rfl (Nat.le_of_ble_eq_true rfl) rfl dX10_done_28 ?_
    refine SW.aload_n C dX10_done_31 rfl 0 rfl ?_
    refine SW.get (v := .int (oY_1 0 15)) (T := TX10) (N := 25) C inX10_done_X10 0 rfl rfl 15 (by decide) lkX10_done_124 rfl dX10_done_32 ?_
    exact SW.iret C (pf (pf (pf oY_1 6 (oY_1 0 12)) 5 (oY_1 0 13)) 10 (0 : Int32)) rfl h dX10_done_35
  · replace h := h.2 hc
    refine SW.bipush (v := (-5 : Int32)) C dX10_done_7 (by decide) ?_
    exact SW.iret C oY_1 rfl h dX10_done_9
def wpX10_hears (oY : Ob) (v1 : Int32) (post : Int32 → Prop) : Prop := wpX10_isWindow oY v1 (fun (r2 : Int32) => ((r2 = 0) → post (-1 : Int32)) ∧ (¬ (r2 = 0) → wpX10_lengthOf oY v1 (oY 0 6) (oY 0 5) (fun (r18 : Int32) => post r18)))
theorem pdX10_hears : yX10_hears.cls = RX10 ∧ yX10_hears.cls ≠ "java/lang/invoke/MethodHandle" ∧ yX10_hears.cls ≠ "java/lang/invoke/VarHandle" ∧ (parseMethodDescriptor yX10_hears.desc).map (fun d => d.parameters.length) = some 1 := by decide +kernel
theorem lkX10_hears_63 : Cond.fieldLink RX10 63 (TX10 6).1 (TX10 6).2.1 (TX10 6).2.2.1 ∈ wsX10_hears := by decide +kernel
theorem inX10_hears_X10 : ∀ w ∈ u_ws RX10 TX10 25, w ∈ wsX10_hears := by decide +kernel
theorem lkX10_hears_60 : Cond.fieldLink RX10 60 (TX10 5).1 (TX10 5).2.1 (TX10 5).2.2.1 ∈ wsX10_hears := by decide +kernel
set_option maxHeartbeats 4000000 in
set_option maxRecDepth 100000 in
theorem ctX10_hears (l : Launch) (D : va_G) (cI cZ : ClassId) (qY : Nat → Nat) (oY : Ob) (v1 : Int32) (post : Int32 → Prop) (h : wpX10_hears oY v1 post) : CTi l yX10_hears wsX10_hears { frames := 2, cells := 0, slots := 0, locals := 49 } D [(cI, .int), (cZ, .boolean)] [.ref (qY 0), .int v1] (w10 cI cZ qY oY) (fun _ : Unit => w10 cI cZ qY oY) (fun (r : Int32) (_ : Unit) => post r) := by
  refine CTi.of (cc := cX10_hears) (own := RX10) (maxL := 2) (ret := (some .int)) (lv0 := [(0, .ref (qY 0)), (1, .int v1)]) (by decide) rfl rfl (Nat.le_of_ble_eq_true rfl) rfl ?_
  intro p e s m args below meth c A C
  unfold wpX10_hears at h
  refine SW.aload_n C dX10_hears_0 rfl 0 rfl ?_
  refine SW.iload_n C dX10_hears_1 rfl 1 rfl ?_
  refine SW.callVi_same C (ctX10_isWindow l D cI cZ qY oY v1 _ h) gX10_hears_X10_isWindow rfl rfl rfl pdX10_isWindow ⟨by decide, by decide⟩ 0 rfl rfl rfl rfl rfl (Nat.le_of_ble_eq_true rfl) dX10_hears_2 (by decide) (fun r2 u h => ?_)
  try dsimp only at h
  refine SW.if_eq (tgt := 24) C dX10_hears_5 (by decide) (fun hc => ?_) (fun hc => ?_)
  · replace h := h.1 hc
    refine SW.iconst (v := (-1 : Int32)) C dX10_hears_24 (by decide) ?_
    exact SW.iret C () rfl h dX10_hears_25
  · replace h := h.2 hc
    refine SW.aload_n C dX10_hears_8 rfl 0 rfl ?_
    refine SW.iload_n C dX10_hears_9 rfl 1 rfl ?_
    refine SW.aload_n C dX10_hears_10 rfl 0 rfl ?_
    refine SW.get (v := .int (oY 0 6)) (T := TX10) (N := 25) C inX10_hears_X10 0 rfl rfl 6 (by decide) lkX10_hears_63 rfl dX10_hears_11 ?_
    refine SW.aload_n C dX10_hears_14 rfl 0 rfl ?_
    refine SW.get (v := .int (oY 0 5)) (T := TX10) (N := 25) C inX10_hears_X10 0 rfl rfl 5 (by decide) lkX10_hears_60 rfl dX10_hears_15 ?_
    refine SW.callVi_same C (ctX10_lengthOf l D cI cZ qY oY v1 (oY 0 6) (oY 0 5) _ h) gX10_hears_X10_lengthOf rfl rfl rfl pdX10_lengthOf ⟨by decide, by decide⟩ 0 rfl rfl rfl rfl rfl (Nat.le_of_ble_eq_true rfl) dX10_hears_18 (by decide) (fun r18 u h => ?_)
    try dsimp only at h
    refine SW.goto (tgt := 25) C dX10_hears_21 (by decide) ?_
    exact SW.iret C () rfl h dX10_hears_25
def wpX10_behind (oY : Ob) (v1 : Int32) (post : Int32 → Ob → Prop) : Prop := wpX10_isWindow oY v1 (fun (r2 : Int32) => ((r2 = 0) → post (-1 : Int32) oY) ∧ (¬ (r2 = 0) → wpX10_barOfEvening oY (fun (r11 : Int32) (oY_11 : Ob) => ((0 ≤ r11) → wpX10_lengthOf oY_11 v1 (oY_11 0 12) (oY_11 0 13) (fun (r32 : Int32) => post r32 oY_11)) ∧ (¬ (0 ≤ r11) → post (-5 : Int32) oY_11))))
theorem pdX10_behind : yX10_behind.cls = RX10 ∧ yX10_behind.cls ≠ "java/lang/invoke/MethodHandle" ∧ yX10_behind.cls ≠ "java/lang/invoke/VarHandle" ∧ (parseMethodDescriptor yX10_behind.desc).map (fun d => d.parameters.length) = some 1 := by decide +kernel
theorem lkX10_behind_109 : Cond.fieldLink RX10 109 (TX10 12).1 (TX10 12).2.1 (TX10 12).2.2.1 ∈ wsX10_behind := by decide +kernel
theorem inX10_behind_X10 : ∀ w ∈ u_ws RX10 TX10 25, w ∈ wsX10_behind := by decide +kernel
theorem lkX10_behind_106 : Cond.fieldLink RX10 106 (TX10 13).1 (TX10 13).2.1 (TX10 13).2.2.1 ∈ wsX10_behind := by decide +kernel
set_option maxHeartbeats 4000000 in
set_option maxRecDepth 100000 in
theorem ctX10_behind (l : Launch) (D : va_G) (cI cZ : ClassId) (qY : Nat → Nat) (oY : Ob) (v1 : Int32) (post : Int32 → Ob → Prop) (h : wpX10_behind oY v1 post) : CTi l yX10_behind wsX10_behind { frames := 5, cells := 0, slots := 0, locals := 115 } D [(cI, .int), (cZ, .boolean)] [.ref (qY 0), .int v1] (w10 cI cZ qY oY) (fun u : Ob => w10 cI cZ qY u) (fun (r : Int32) (u : Ob) => post r u) := by
  refine CTi.of (cc := cX10_behind) (own := RX10) (maxL := 2) (ret := (some .int)) (lv0 := [(0, .ref (qY 0)), (1, .int v1)]) (by decide) rfl rfl (Nat.le_of_ble_eq_true rfl) rfl ?_
  intro p e s m args below meth c A C
  unfold wpX10_behind at h
  refine SW.aload_n C dX10_behind_0 rfl 0 rfl ?_
  refine SW.iload_n C dX10_behind_1 rfl 1 rfl ?_
  refine SW.callVi_same C (ctX10_isWindow l D cI cZ qY oY v1 _ h) gX10_behind_X10_isWindow rfl rfl rfl pdX10_isWindow ⟨by decide, by decide⟩ 0 rfl rfl rfl rfl rfl (Nat.le_of_ble_eq_true rfl) dX10_behind_2 (by decide) (fun r2 u h => ?_)
  try dsimp only at h
  refine SW.if_ne (tgt := 10) C dX10_behind_5 (by decide) (fun hc => ?_) (fun hc => ?_)
  · replace h := h.2 hc
    refine SW.aload_n C dX10_behind_10 rfl 0 rfl ?_
    refine SW.callVi_same C (ctX10_barOfEvening l D cI cZ qY oY _ h) gX10_behind_X10_barOfEvening rfl rfl rfl pdX10_barOfEvening ⟨by decide, by decide⟩ 0 rfl rfl rfl rfl rfl (Nat.le_of_ble_eq_true rfl) dX10_behind_11 (by decide) (fun r11 u h => ?_)
    obtain ⟨oY_11, rfl⟩ : ∃ z, z = u := ⟨_, rfl⟩
    try dsimp only at h
    refine SW.if_ge (tgt := 22) C dX10_behind_14 (by decide) (fun hc => ?_) (fun hc => ?_)
    · replace h := h.1 hc
      refine SW.aload_n C dX10_behind_22 rfl 0 rfl ?_
      refine SW.iload_n C dX10_behind_23 rfl 1 rfl ?_
      refine SW.aload_n C dX10_behind_24 rfl 0 rfl ?_
      refine SW.get (v := .int (oY_11 0 12)) (T := TX10) (N := 25) C inX10_behind_X10 0 rfl rfl 12 (by decide) lkX10_behind_109 rfl dX10_behind_25 ?_
      refine SW.aload_n C dX10_behind_28 rfl 0 rfl ?_
      refine SW.get (v := .int (oY_11 0 13)) (T := TX10) (N := 25) C inX10_behind_X10 0 rfl rfl 13 (by decide) lkX10_behind_106 rfl dX10_behind_29 ?_
      refine SW.callVi_same C (ctX10_lengthOf l D cI cZ qY oY_11 v1 (oY_11 0 12) (oY_11 0 13) _ h) gX10_behind_X10_lengthOf rfl rfl rfl pdX10_lengthOf ⟨by decide, by decide⟩ 0 rfl rfl rfl rfl rfl (Nat.le_of_ble_eq_true rfl) dX10_behind_32 (by decide) (fun r32 u h => ?_)
      try dsimp only at h
      exact SW.iret C oY_11 rfl h dX10_behind_35
    · replace h := h.2 hc
      refine SW.bipush (v := (-5 : Int32)) C dX10_behind_17 (by decide) ?_
      refine SW.goto (tgt := 35) C dX10_behind_19 (by decide) ?_
      exact SW.iret C oY_11 rfl h dX10_behind_35
  · replace h := h.1 hc
    refine SW.iconst (v := (-1 : Int32)) C dX10_behind_8 (by decide) ?_
    exact SW.iret C oY rfl h dX10_behind_9
def wpX10_clashed (oY : Ob) (v1 : Int32) (post : Int32 → Ob → Prop) : Prop := wpX10_in v1 (0 : Int32) (1 : Int32) (fun (r3 : Int32) => ((r3 = 0) → post (-2 : Int32) oY) ∧ (¬ (r3 = 0) → wpX10_barOfEvening oY (fun (r13 : Int32) (oY_13 : Ob) => ((0 ≤ r13) → ((v1 = 0) → post (oY_13 0 17) oY_13) ∧ (¬ (v1 = 0) → post (oY_13 0 16) oY_13)) ∧ (¬ (0 ≤ r13) → post (-5 : Int32) oY_13))))
theorem pdX10_clashed : yX10_clashed.cls = RX10 ∧ yX10_clashed.cls ≠ "java/lang/invoke/MethodHandle" ∧ yX10_clashed.cls ≠ "java/lang/invoke/VarHandle" ∧ (parseMethodDescriptor yX10_clashed.desc).map (fun d => d.parameters.length) = some 1 := by decide +kernel
theorem lkX10_clashed_118 : Cond.fieldLink RX10 118 (TX10 16).1 (TX10 16).2.1 (TX10 16).2.2.1 ∈ wsX10_clashed := by decide +kernel
theorem inX10_clashed_X10 : ∀ w ∈ u_ws RX10 TX10 25, w ∈ wsX10_clashed := by decide +kernel
theorem lkX10_clashed_121 : Cond.fieldLink RX10 121 (TX10 17).1 (TX10 17).2.1 (TX10 17).2.2.1 ∈ wsX10_clashed := by decide +kernel
set_option maxHeartbeats 4000000 in
set_option maxRecDepth 100000 in
theorem ctX10_clashed (l : Launch) (D : va_G) (cI cZ : ClassId) (qY : Nat → Nat) (oY : Ob) (v1 : Int32) (post : Int32 → Ob → Prop) (h : wpX10_clashed oY v1 post) : CTi l yX10_clashed wsX10_clashed { frames := 5, cells := 0, slots := 0, locals := 115 } D [(cI, .int), (cZ, .boolean)] [.ref (qY 0), .int v1] (w10 cI cZ qY oY) (fun u : Ob => w10 cI cZ qY u) (fun (r : Int32) (u : Ob) => post r u) := by
  refine CTi.of (cc := cX10_clashed) (own := RX10) (maxL := 2) (ret := (some .int)) (lv0 := [(0, .ref (qY 0)), (1, .int v1)]) (by decide) rfl rfl (Nat.le_of_ble_eq_true rfl) rfl ?_
  intro p e s m args below meth c A C
  unfold wpX10_clashed at h
  refine SW.iload_n C dX10_clashed_0 rfl 1 rfl ?_
  refine SW.iconst (v := (0 : Int32)) C dX10_clashed_1 (by decide) ?_
  refine SW.iconst (v := (1 : Int32)) C dX10_clashed_2 (by decide) ?_
  refine SW.callSi_pure C (ctX10_in l D cI cZ v1 (0 : Int32) (1 : Int32) _ h) gX10_clashed_X10_in rfl rfl rfl pdX10_in ⟨by decide, by decide⟩ rfl rfl (Nat.le_of_ble_eq_true rfl) dX10_clashed_3 (by decide) (fun r3 u h => ?_)
  try dsimp only at h
  refine SW.if_ne (tgt := 12) C dX10_clashed_6 (by decide) (fun hc => ?_) (fun hc => ?_)
  · replace h := h.2 hc
    refine SW.aload_n C dX10_clashed_12 rfl 0 rfl ?_
    refine SW.callVi_same C (ctX10_barOfEvening l D cI cZ qY oY _ h) gX10_clashed_X10_barOfEvening rfl rfl rfl pdX10_barOfEvening ⟨by decide, by decide⟩ 0 rfl rfl rfl rfl rfl (Nat.le_of_ble_eq_true rfl) dX10_clashed_13 (by decide) (fun r13 u h => ?_)
    obtain ⟨oY_13, rfl⟩ : ∃ z, z = u := ⟨_, rfl⟩
    try dsimp only at h
    refine SW.if_ge (tgt := 22) C dX10_clashed_16 (by decide) (fun hc => ?_) (fun hc => ?_)
    · replace h := h.1 hc
      refine SW.iload_n C dX10_clashed_22 rfl 1 rfl ?_
      refine SW.if_ne (tgt := 33) C dX10_clashed_23 (by decide) (fun hc => ?_) (fun hc => ?_)
      · replace h := h.2 hc
        refine SW.aload_n C dX10_clashed_33 rfl 0 rfl ?_
        refine SW.get (v := .int (oY_13 0 16)) (T := TX10) (N := 25) C inX10_clashed_X10 0 rfl rfl 16 (by decide) lkX10_clashed_118 rfl dX10_clashed_34 ?_
        exact SW.iret C oY_13 rfl h dX10_clashed_37
      · replace h := h.1 hc
        refine SW.aload_n C dX10_clashed_26 rfl 0 rfl ?_
        refine SW.get (v := .int (oY_13 0 17)) (T := TX10) (N := 25) C inX10_clashed_X10 0 rfl rfl 17 (by decide) lkX10_clashed_121 rfl dX10_clashed_27 ?_
        refine SW.goto (tgt := 37) C dX10_clashed_30 (by decide) ?_
        exact SW.iret C oY_13 rfl h dX10_clashed_37
    · replace h := h.2 hc
      refine SW.bipush (v := (-5 : Int32)) C dX10_clashed_19 (by decide) ?_
      exact SW.iret C oY_13 rfl h dX10_clashed_21
  · replace h := h.1 hc
    refine SW.bipush (v := (-2 : Int32)) C dX10_clashed_9 (by decide) ?_
    exact SW.iret C oY rfl h dX10_clashed_11
def wpX10_areTwo (oY : Ob) (v1 : Int32) (v2 : Int32) (post : Int32 → Prop) : Prop := wpX10_isWindow oY v1 (fun (r2 : Int32) => jn0 (post (0 : Int32)) (fun J25 => ((r2 = 0) → J25) ∧ (¬ (r2 = 0) → wpX10_isWindow oY v2 (fun (r10 : Int32) => ((r10 = 0) → J25) ∧ (¬ (r10 = 0) → ((v1 = v2) → J25) ∧ (¬ (v1 = v2) → post (1 : Int32)))))))
theorem pdX10_areTwo : yX10_areTwo.cls = RX10 ∧ yX10_areTwo.cls ≠ "java/lang/invoke/MethodHandle" ∧ yX10_areTwo.cls ≠ "java/lang/invoke/VarHandle" ∧ (parseMethodDescriptor yX10_areTwo.desc).map (fun d => d.parameters.length) = some 2 := by decide +kernel
set_option maxHeartbeats 4000000 in
set_option maxRecDepth 100000 in
theorem ctX10_areTwo (l : Launch) (D : va_G) (cI cZ : ClassId) (qY : Nat → Nat) (oY : Ob) (v1 : Int32) (v2 : Int32) (post : Int32 → Prop) (h : wpX10_areTwo oY v1 v2 post) : CTi l yX10_areTwo wsX10_areTwo { frames := 2, cells := 0, slots := 0, locals := 43 } D [(cI, .int), (cZ, .boolean)] [.ref (qY 0), .int v1, .int v2] (w10 cI cZ qY oY) (fun _ : Unit => w10 cI cZ qY oY) (fun (r : Int32) (_ : Unit) => post r) := by
  refine CTi.of (cc := cX10_areTwo) (own := RX10) (maxL := 3) (ret := (some .boolean)) (lv0 := [(0, .ref (qY 0)), (1, .int v1), (2, .int v2)]) (by decide) rfl rfl (Nat.le_of_ble_eq_true rfl) rfl ?_
  intro p e s m args below meth c A C
  unfold wpX10_areTwo at h
  refine SW.aload_n C dX10_areTwo_0 rfl 0 rfl ?_
  refine SW.iload_n C dX10_areTwo_1 rfl 1 rfl ?_
  refine SW.callVi_same C (ctX10_isWindow l D cI cZ qY oY v1 _ h) gX10_areTwo_X10_isWindow rfl rfl rfl pdX10_isWindow ⟨by decide, by decide⟩ 0 rfl rfl rfl rfl rfl (Nat.le_of_ble_eq_true rfl) dX10_areTwo_2 (by decide) (fun r2 u h => ?_)
  try dsimp only at h
  refine jn0_elim (G := SW p l e { frames := 2, cells := 0, slots := 0, locals := 43 } s m args below meth c A D 3 0 0 (MQ below (va_Qi (fun (r : Int32) (_ : Unit) => post r) (ctB D A (fun _ : Unit => w10 cI cZ qY oY)) A) args s 0 0 A) (w10 cI cZ qY oY) 25 [] []) h (fun h => ?_) (fun J25 hJ25 h => ?_)
  · refine SW.iconst (v := (0 : Int32)) C dX10_areTwo_25 (by decide) ?_
    exact SW.zret C () (by decide) rfl h dX10_areTwo_26
  · refine SW.if_eq (tgt := 25) C dX10_areTwo_5 (by decide) (fun hc => ?_) (fun hc => ?_)
    · replace h := h.1 hc
      refine SW.sub [] rfl ?_
      exact hJ25 h
    · replace h := h.2 hc
      refine SW.aload_n C dX10_areTwo_8 rfl 0 rfl ?_
      refine SW.iload_n C dX10_areTwo_9 rfl 2 rfl ?_
      refine SW.callVi_same C (ctX10_isWindow l D cI cZ qY oY v2 _ h) gX10_areTwo_X10_isWindow rfl rfl rfl pdX10_isWindow ⟨by decide, by decide⟩ 0 rfl rfl rfl rfl rfl (Nat.le_of_ble_eq_true rfl) dX10_areTwo_10 (by decide) (fun r10 u h => ?_)
      try dsimp only at h
      refine SW.if_eq (tgt := 25) C dX10_areTwo_13 (by decide) (fun hc => ?_) (fun hc => ?_)
      · replace h := h.1 hc
        refine SW.sub [] rfl ?_
        exact hJ25 h
      · replace h := h.2 hc
        refine SW.iload_n C dX10_areTwo_16 rfl 1 rfl ?_
        refine SW.iload_n C dX10_areTwo_17 rfl 2 rfl ?_
        refine SW.icmp_eq (tgt := 25) C dX10_areTwo_18 (by decide) (fun hc => ?_) (fun hc => ?_)
        · replace h := h.1 hc
          refine SW.sub [] rfl ?_
          exact hJ25 h
        · replace h := h.2 hc
          refine SW.iconst (v := (1 : Int32)) C dX10_areTwo_21 (by decide) ?_
          refine SW.goto (tgt := 26) C dX10_areTwo_22 (by decide) ?_
          exact SW.zret C () (by decide) rfl h dX10_areTwo_26
def wpX10_interval (oY : Ob) (v1 : Int32) (v2 : Int32) (v3 : Int32) (post : Int64 → Prop) : Prop := wpX10_areTwo oY v1 v2 (fun (r3 : Int32) => ((r3 = 0) → post (-1000000000000000001 : Int64)) ∧ (¬ (r3 = 0) → wpX10_in v3 (0 : Int32) (1 : Int32) (fun (r16 : Int32) => ((r16 = 0) → post (-1000000000000000002 : Int64)) ∧ (¬ (r16 = 0) → wpX10_lengthOf oY v1 (oY 0 6) (oY 0 5) (fun (r36 : Int32) => wpX10_lengthOf oY v2 (oY 0 6) (oY 0 5) (fun (r51 : Int32) => wpX10_divisor r36 r51 (fun (r60 : Int32) => jn1 (fun (p0_79 : Int32) => ((v3 = 0) → (¬ r60 = 0) ∧ (post (Int32.toInt64 (p0_79 / r60)))) ∧ (¬ (v3 = 0) → (¬ r60 = 0) ∧ (post (Int32.toInt64 (((r36 + r51) - p0_79) / r60))))) (fun J79 => ((r36 ≤ r51) → J79 r51) ∧ (¬ (r36 ≤ r51) → J79 r36)))))))))
theorem pdX10_interval : yX10_interval.cls = RX10 ∧ yX10_interval.cls ≠ "java/lang/invoke/MethodHandle" ∧ yX10_interval.cls ≠ "java/lang/invoke/VarHandle" ∧ (parseMethodDescriptor yX10_interval.desc).map (fun d => d.parameters.length) = some 3 := by decide +kernel
theorem lkX10_interval_63 : Cond.fieldLink RX10 63 (TX10 6).1 (TX10 6).2.1 (TX10 6).2.2.1 ∈ wsX10_interval := by decide +kernel
theorem inX10_interval_X10 : ∀ w ∈ u_ws RX10 TX10 25, w ∈ wsX10_interval := by decide +kernel
theorem lkX10_interval_60 : Cond.fieldLink RX10 60 (TX10 5).1 (TX10 5).2.1 (TX10 5).2.2.1 ∈ wsX10_interval := by decide +kernel
set_option maxHeartbeats 4000000 in
set_option maxRecDepth 100000 in
theorem ctX10_interval (l : Launch) (D : va_G) (cI cZ : ClassId) (qY : Nat → Nat) (oY : Ob) (v1 : Int32) (v2 : Int32) (v3 : Int32) (post : Int64 → Prop) (h : wpX10_interval oY v1 v2 v3 post) : CTl l yX10_interval wsX10_interval { frames := 3, cells := 0, slots := 0, locals := 65 } D [(cI, .int), (cZ, .boolean)] [.ref (qY 0), .int v1, .int v2, .int v3] (w10 cI cZ qY oY) (fun _ : Unit => w10 cI cZ qY oY) (fun (r : Int64) (_ : Unit) => post r) := by
  refine CTl.of (cc := cX10_interval) (own := RX10) (maxL := 8) (ret := (some .long)) (lv0 := [(0, .ref (qY 0)), (1, .int v1), (2, .int v2), (3, .int v3)]) (by decide) rfl rfl (Nat.le_of_ble_eq_true rfl) rfl ?_
  intro p e s m args below meth c A C
  unfold wpX10_interval at h
  refine SW.aload_n C dX10_interval_0 rfl 0 rfl ?_
  refine SW.iload_n C dX10_interval_1 rfl 1 rfl ?_
  refine SW.iload_n C dX10_interval_2 rfl 2 rfl ?_
  refine SW.callVi_same C (ctX10_areTwo l D cI cZ qY oY v1 v2 _ h) gX10_interval_X10_areTwo rfl rfl rfl pdX10_areTwo ⟨by decide, by decide⟩ 0 rfl rfl rfl rfl rfl (Nat.le_of_ble_eq_true rfl) dX10_interval_3 (by decide) (fun r3 u h => ?_)
  try dsimp only at h
  refine SW.if_ne (tgt := 13) C dX10_interval_6 (by decide) (fun hc => ?_) (fun hc => ?_)
  · replace h := h.2 hc
    refine SW.iload_n C dX10_interval_13 rfl 3 rfl ?_
    refine SW.iconst (v := (0 : Int32)) C dX10_interval_14 (by decide) ?_
    refine SW.iconst (v := (1 : Int32)) C dX10_interval_15 (by decide) ?_
    refine SW.callSi_pure C (ctX10_in l D cI cZ v3 (0 : Int32) (1 : Int32) _ h) gX10_interval_X10_in rfl rfl rfl pdX10_in ⟨by decide, by decide⟩ rfl rfl (Nat.le_of_ble_eq_true rfl) dX10_interval_16 (by decide) (fun r16 u h => ?_)
    try dsimp only at h
    refine SW.if_ne (tgt := 26) C dX10_interval_19 (by decide) (fun hc => ?_) (fun hc => ?_)
    · replace h := h.2 hc
      refine SW.aload_n C dX10_interval_26 rfl 0 rfl ?_
      refine SW.iload_n C dX10_interval_27 rfl 1 rfl ?_
      refine SW.aload_n C dX10_interval_28 rfl 0 rfl ?_
      refine SW.get (v := .int (oY 0 6)) (T := TX10) (N := 25) C inX10_interval_X10 0 rfl rfl 6 (by decide) lkX10_interval_63 rfl dX10_interval_29 ?_
      refine SW.aload_n C dX10_interval_32 rfl 0 rfl ?_
      refine SW.get (v := .int (oY 0 5)) (T := TX10) (N := 25) C inX10_interval_X10 0 rfl rfl 5 (by decide) lkX10_interval_60 rfl dX10_interval_33 ?_
      refine SW.callVi_same C (ctX10_lengthOf l D cI cZ qY oY v1 (oY 0 6) (oY 0 5) _ h) gX10_interval_X10_lengthOf rfl rfl rfl pdX10_lengthOf ⟨by decide, by decide⟩ 0 rfl rfl rfl rfl rfl (Nat.le_of_ble_eq_true rfl) dX10_interval_36 (by decide) (fun r36 u h => ?_)
      try dsimp only at h
      refine SW.istore (lv' := [(4, .int r36), (0, .ref (qY 0)), (1, .int v1), (2, .int v2), (3, .int v3)]) C dX10_interval_39 (by decide) rfl ?_
      refine SW.aload_n C dX10_interval_41 rfl 1 rfl ?_
      refine SW.iload_n C dX10_interval_42 rfl 3 rfl ?_
      refine SW.aload_n C dX10_interval_43 rfl 1 rfl ?_
      refine SW.get (v := .int (oY 0 6)) (T := TX10) (N := 25) C inX10_interval_X10 0 rfl rfl 6 (by decide) lkX10_interval_63 rfl dX10_interval_44 ?_
      refine SW.aload_n C dX10_interval_47 rfl 1 rfl ?_
      refine SW.get (v := .int (oY 0 5)) (T := TX10) (N := 25) C inX10_interval_X10 0 rfl rfl 5 (by decide) lkX10_interval_60 rfl dX10_interval_48 ?_
      refine SW.callVi_same C (ctX10_lengthOf l D cI cZ qY oY v2 (oY 0 6) (oY 0 5) _ h) gX10_interval_X10_lengthOf rfl rfl rfl pdX10_lengthOf ⟨by decide, by decide⟩ 0 rfl rfl rfl rfl rfl (Nat.le_of_ble_eq_true rfl) dX10_interval_51 (by decide) (fun r51 u h => ?_)
      try dsimp only at h
      refine SW.istore (lv' := [(5, .int r51), (4, .int r36), (0, .ref (qY 0)), (1, .int v1), (2, .int v2), (3, .int v3)]) C dX10_interval_54 (by decide) rfl ?_
      refine SW.iload C dX10_interval_56 1 rfl ?_
      refine SW.iload C dX10_interval_58 0 rfl ?_
      refine SW.callSi_pure C (ctX10_divisor l D cI cZ r36 r51 _ h) gX10_interval_X10_divisor rfl rfl rfl pdX10_divisor ⟨by decide, by decide⟩ rfl rfl (Nat.le_of_ble_eq_true rfl) dX10_interval_60 (by decide) (fun r60 u h => ?_)
      try dsimp only at h
      refine SW.istore (lv' := [(6, .int r60), (5, .int r51), (4, .int r36), (0, .ref (qY 0)), (1, .int v1), (2, .int v2), (3, .int v3)]) C dX10_interval_63 (by decide) rfl ?_
      refine SW.iload C dX10_interval_65 2 rfl ?_
      refine SW.iload C dX10_interval_67 1 rfl ?_
      refine jn1_elim (G := fun p0_79 => SW p l e { frames := 3, cells := 0, slots := 0, locals := 65 } s m args below meth c A D 8 0 0 (MQ below (va_Ql (fun (r : Int64) (_ : Unit) => post r) (ctB D A (fun _ : Unit => w10 cI cZ qY oY)) A) args s 0 0 A) (w10 cI cZ qY oY) 79 [(3, .int v3), (4, .int r36), (5, .int r51), (6, .int r60)] [.int p0_79]) h (fun p0_79 h => ?_) (fun J79 hJ79 h => ?_)
      · refine SW.istore (lv' := [(7, .int p0_79), (3, .int v3), (4, .int r36), (5, .int r51), (6, .int r60)]) C dX10_interval_79 (by decide) rfl ?_
        refine SW.iload_n C dX10_interval_81 rfl 1 rfl ?_
        refine SW.if_ne (tgt := 94) C dX10_interval_82 (by decide) (fun hc => ?_) (fun hc => ?_)
        · replace h := h.2 hc
          refine SW.iload C dX10_interval_94 2 rfl ?_
          refine SW.iload C dX10_interval_96 3 rfl ?_
          refine SW.iadd C dX10_interval_98 ?_
          refine SW.iload C dX10_interval_99 0 rfl ?_
          refine SW.isub C dX10_interval_101 ?_
          refine SW.iload C dX10_interval_102 4 rfl ?_
          refine SW.idiv C dX10_interval_104 h.1 ?_
          replace h := h.2
          refine SW.i2l C dX10_interval_105 ?_
          exact SW.lret C () rfl h dX10_interval_106
        · replace h := h.1 hc
          refine SW.iload C dX10_interval_85 0 rfl ?_
          refine SW.iload C dX10_interval_87 4 rfl ?_
          refine SW.idiv C dX10_interval_89 h.1 ?_
          replace h := h.2
          refine SW.i2l C dX10_interval_90 ?_
          refine SW.goto (tgt := 106) C dX10_interval_91 (by decide) ?_
          exact SW.lret C () rfl h dX10_interval_106
      · refine SW.icmp_le (tgt := 77) C dX10_interval_69 (by decide) (fun hc => ?_) (fun hc => ?_)
        · replace h := h.1 hc
          refine SW.iload C dX10_interval_77 1 rfl ?_
          refine SW.sub [6, 2, 1, 0] rfl ?_
          exact hJ79 _ h
        · replace h := h.2 hc
          refine SW.iload C dX10_interval_72 2 rfl ?_
          refine SW.goto (tgt := 79) C dX10_interval_74 (by decide) ?_
          refine SW.sub [6, 2, 1, 0] rfl ?_
          exact hJ79 _ h
    · replace h := h.1 hc
      refine SW.ldc2 (v := (-1000000000000000002 : Int64)) C (by decide +kernel) dX10_interval_22 ?_
      exact SW.lret C () rfl h dX10_interval_25
  · replace h := h.1 hc
    refine SW.ldc2 (v := (-1000000000000000001 : Int64)) C (by decide +kernel) dX10_interval_9 ?_
    exact SW.lret C () rfl h dX10_interval_12
def wpX10_heard_L53 (c5_53 : Int32) (c6_53 : Int32) (oYc_53 : Ob) (K97 : Int32 → Prop) : Nat → Int32 → Int32 → Prop
  | 0, _, _ => False
  | fu53 + 1, v7_53, v8_53 => ((c5_53 ≤ v8_53) → K97 v7_53) ∧ (¬ (c5_53 ≤ v8_53) → jn1 (fun (p0_89 : Int32) => wpX10_heard_L53 c5_53 c6_53 oYc_53 K97 fu53 p0_89 (v8_53 + (1 : Int32))) (fun J89 => jn0 (J89 (0 : Int32)) (fun J88 => ((v7_53 = 0) → J88) ∧ (¬ (v7_53 = 0) → wpX10_lengthOf oYc_53 v8_53 (oYc_53 0 6) (oYc_53 0 5) (fun (r76 : Int32) => ((r76 = c6_53) → J88) ∧ (¬ (r76 = c6_53) → J89 (1 : Int32)))))))
def wpX10_heard_L22 (oYc_22 : Ob) (K156 : Int32 → Int32 → Prop) : Nat → Int32 → Int32 → Int32 → Int32 → Prop
  | 0, _, _, _, _ => False
  | fu22 + 1, v2_22, v3_22, v4_22, v5_22 => (((oYc_22 0 0) ≤ v5_22) → K156 v2_22 v4_22) ∧ (¬ ((oYc_22 0 0) ≤ v5_22) → wpX10_lengthOf oYc_22 v5_22 (oYc_22 0 6) (oYc_22 0 5) (fun (r42 : Int32) => ∃ fu53 : Nat, wpX10_heard_L53 v5_22 r42 oYc_22 (fun (v7_97 : Int32) => jn2 (fun (p0_108 : Int32) (p1_108 : Int32) => jn1 (fun (p0_135 : Int32) => jn1 (fun (p0_149 : Int32) => wpX10_heard_L22 oYc_22 K156 fu22 (p1_108 + p0_108) p0_149 p0_135 (v5_22 + (1 : Int32))) (fun J149 => ((r42 ≤ v3_22) → J149 v3_22) ∧ (¬ (r42 ≤ v3_22) → J149 r42))) (fun J135 => ((r42 ≤ v3_22) → ((r42 = v3_22) → J135 (v4_22 + (1 : Int32))) ∧ (¬ (r42 = v3_22) → J135 v4_22)) ∧ (¬ (r42 ≤ v3_22) → J135 (1 : Int32)))) (fun J108 => ((v7_97 = 0) → J108 (0 : Int32) v2_22) ∧ (¬ (v7_97 = 0) → J108 (1 : Int32) v2_22))) fu53 (1 : Int32) (0 : Int32)))
def wpX10_heard (oY : Ob) (v1 : Int32) (post : Int32 → Prop) : Prop := wpX10_in v1 (0 : Int32) (1 : Int32) (fun (r3 : Int32) => ((r3 = 0) → post (-2 : Int32)) ∧ (¬ (r3 = 0) → ∃ fu22 : Nat, wpX10_heard_L22 oY (fun (v2_156 : Int32) (v4_156 : Int32) => ((v1 = 0) → post v2_156) ∧ (¬ (v1 = 0) → post v4_156)) fu22 (0 : Int32) (0 : Int32) (0 : Int32) (0 : Int32)))
theorem pdX10_heard : yX10_heard.cls = RX10 ∧ yX10_heard.cls ≠ "java/lang/invoke/MethodHandle" ∧ yX10_heard.cls ≠ "java/lang/invoke/VarHandle" ∧ (parseMethodDescriptor yX10_heard.desc).map (fun d => d.parameters.length) = some 1 := by decide +kernel
theorem lkX10_heard_7 : Cond.fieldLink RX10 7 (TX10 0).1 (TX10 0).2.1 (TX10 0).2.2.1 ∈ wsX10_heard := by decide +kernel
theorem inX10_heard_X10 : ∀ w ∈ u_ws RX10 TX10 25, w ∈ wsX10_heard := by decide +kernel
theorem lkX10_heard_63 : Cond.fieldLink RX10 63 (TX10 6).1 (TX10 6).2.1 (TX10 6).2.2.1 ∈ wsX10_heard := by decide +kernel
theorem lkX10_heard_60 : Cond.fieldLink RX10 60 (TX10 5).1 (TX10 5).2.1 (TX10 5).2.2.1 ∈ wsX10_heard := by decide +kernel
set_option maxHeartbeats 4000000 in
set_option maxRecDepth 100000 in
theorem ctX10_heard (l : Launch) (D : va_G) (cI cZ : ClassId) (qY : Nat → Nat) (oY : Ob) (v1 : Int32) (post : Int32 → Prop) (h : wpX10_heard oY v1 post) : CTi l yX10_heard wsX10_heard { frames := 2, cells := 0, slots := 0, locals := 49 } D [(cI, .int), (cZ, .boolean)] [.ref (qY 0), .int v1] (w10 cI cZ qY oY) (fun _ : Unit => w10 cI cZ qY oY) (fun (r : Int32) (_ : Unit) => post r) := by
  refine CTi.of (cc := cX10_heard) (own := RX10) (maxL := 9) (ret := (some .int)) (lv0 := [(0, .ref (qY 0)), (1, .int v1)]) (by decide) rfl rfl (Nat.le_of_ble_eq_true rfl) rfl ?_
  intro p e s m args below meth c A C
  unfold wpX10_heard at h
  refine SW.iload_n C dX10_heard_0 rfl 1 rfl ?_
  refine SW.iconst (v := (0 : Int32)) C dX10_heard_1 (by decide) ?_
  refine SW.iconst (v := (1 : Int32)) C dX10_heard_2 (by decide) ?_
  refine SW.callSi_pure C (ctX10_in l D cI cZ v1 (0 : Int32) (1 : Int32) _ h) gX10_heard_X10_in rfl rfl rfl pdX10_in ⟨by decide, by decide⟩ rfl rfl (Nat.le_of_ble_eq_true rfl) dX10_heard_3 (by decide) (fun r3 u h => ?_)
  try dsimp only at h
  refine SW.if_ne (tgt := 12) C dX10_heard_6 (by decide) (fun hc => ?_) (fun hc => ?_)
  · replace h := h.2 hc
    refine SW.iconst (v := (0 : Int32)) C dX10_heard_12 (by decide) ?_
    refine SW.istore_n (lv' := [(2, .int (0 : Int32)), (0, .ref (qY 0)), (1, .int v1)]) C dX10_heard_13 rfl (by decide) rfl ?_
    refine SW.iconst (v := (0 : Int32)) C dX10_heard_14 (by decide) ?_
    refine SW.istore_n (lv' := [(3, .int (0 : Int32)), (2, .int (0 : Int32)), (0, .ref (qY 0)), (1, .int v1)]) C dX10_heard_15 rfl (by decide) rfl ?_
    refine SW.iconst (v := (0 : Int32)) C dX10_heard_16 (by decide) ?_
    refine SW.istore (lv' := [(4, .int (0 : Int32)), (3, .int (0 : Int32)), (2, .int (0 : Int32)), (0, .ref (qY 0)), (1, .int v1)]) C dX10_heard_17 (by decide) rfl ?_
    refine SW.iconst (v := (0 : Int32)) C dX10_heard_19 (by decide) ?_
    refine SW.istore (lv' := [(5, .int (0 : Int32)), (4, .int (0 : Int32)), (3, .int (0 : Int32)), (2, .int (0 : Int32)), (0, .ref (qY 0)), (1, .int v1)]) C dX10_heard_20 (by decide) rfl ?_
    have L22 : ∀ (K156 : Int32 → Int32 → Prop) (hK156 : ∀ (v2_156 : Int32) (v4_156 : Int32), K156 v2_156 v4_156 → SW p l e { frames := 2, cells := 0, slots := 0, locals := 49 } s m args below meth c A D 9 0 0 (MQ below (va_Qi (fun (r : Int32) (_ : Unit) => post r) (ctB D A (fun _ : Unit => w10 cI cZ qY oY)) A) args s 0 0 A) (w10 cI cZ qY oY) 156 [(1, .int v1), (2, .int v2_156), (4, .int v4_156)] []) (fu : Nat) (v2_22 : Int32) (v3_22 : Int32) (v4_22 : Int32) (v5_22 : Int32), wpX10_heard_L22 oY K156 fu v2_22 v3_22 v4_22 v5_22 → SW p l e { frames := 2, cells := 0, slots := 0, locals := 49 } s m args below meth c A D 9 0 0 (MQ below (va_Qi (fun (r : Int32) (_ : Unit) => post r) (ctB D A (fun _ : Unit => w10 cI cZ qY oY)) A) args s 0 0 A) (w10 cI cZ qY oY) 22 [(0, .ref (qY 0)), (1, .int v1), (2, .int v2_22), (3, .int v3_22), (4, .int v4_22), (5, .int v5_22)] [] := by
      intro K156 hK156 fu
      induction fu with
      | zero =>
        intro v2_22 v3_22 v4_22 v5_22 h
        exact False.elim h
      | succ fu ih =>
        intro v2_22 v3_22 v4_22 v5_22 h
        unfold wpX10_heard_L22 at h
        refine SW.iload C dX10_heard_22 5 rfl ?_
        refine SW.aload_n C dX10_heard_24 rfl 0 rfl ?_
        refine SW.get (v := .int (oY 0 0)) (T := TX10) (N := 25) C inX10_heard_X10 0 rfl rfl 0 (by decide) lkX10_heard_7 rfl dX10_heard_25 ?_
        refine SW.icmp_ge (tgt := 156) C dX10_heard_28 (by decide) (fun hc => ?_) (fun hc => ?_)
        · replace h := h.1 hc
          refine SW.sub [1, 2, 4] rfl ?_
          exact hK156 _ _ h
        · replace h := h.2 hc
          refine SW.aload_n C dX10_heard_31 rfl 0 rfl ?_
          refine SW.iload C dX10_heard_32 5 rfl ?_
          refine SW.aload_n C dX10_heard_34 rfl 0 rfl ?_
          refine SW.get (v := .int (oY 0 6)) (T := TX10) (N := 25) C inX10_heard_X10 0 rfl rfl 6 (by decide) lkX10_heard_63 rfl dX10_heard_35 ?_
          refine SW.aload_n C dX10_heard_38 rfl 0 rfl ?_
          refine SW.get (v := .int (oY 0 5)) (T := TX10) (N := 25) C inX10_heard_X10 0 rfl rfl 5 (by decide) lkX10_heard_60 rfl dX10_heard_39 ?_
          refine SW.callVi_same C (ctX10_lengthOf l D cI cZ qY oY v5_22 (oY 0 6) (oY 0 5) _ h) gX10_heard_X10_lengthOf rfl rfl rfl pdX10_lengthOf ⟨by decide, by decide⟩ 0 rfl rfl rfl rfl rfl (Nat.le_of_ble_eq_true rfl) dX10_heard_42 (by decide) (fun r42 u h => ?_)
          try dsimp only at h
          refine SW.istore (lv' := [(6, .int r42), (0, .ref (qY 0)), (1, .int v1), (2, .int v2_22), (3, .int v3_22), (4, .int v4_22), (5, .int v5_22)]) C dX10_heard_45 (by decide) rfl ?_
          refine SW.iconst (v := (1 : Int32)) C dX10_heard_47 (by decide) ?_
          refine SW.istore (lv' := [(7, .int (1 : Int32)), (6, .int r42), (0, .ref (qY 0)), (1, .int v1), (2, .int v2_22), (3, .int v3_22), (4, .int v4_22), (5, .int v5_22)]) C dX10_heard_48 (by decide) rfl ?_
          refine SW.iconst (v := (0 : Int32)) C dX10_heard_50 (by decide) ?_
          refine SW.istore (lv' := [(8, .int (0 : Int32)), (7, .int (1 : Int32)), (6, .int r42), (0, .ref (qY 0)), (1, .int v1), (2, .int v2_22), (3, .int v3_22), (4, .int v4_22), (5, .int v5_22)]) C dX10_heard_51 (by decide) rfl ?_
          have L53 : ∀ (K97 : Int32 → Prop) (hK97 : ∀ (v7_97 : Int32), K97 v7_97 → SW p l e { frames := 2, cells := 0, slots := 0, locals := 49 } s m args below meth c A D 9 0 0 (MQ below (va_Qi (fun (r : Int32) (_ : Unit) => post r) (ctB D A (fun _ : Unit => w10 cI cZ qY oY)) A) args s 0 0 A) (w10 cI cZ qY oY) 97 [(0, .ref (qY 0)), (1, .int v1), (2, .int v2_22), (3, .int v3_22), (4, .int v4_22), (5, .int v5_22), (6, .int r42), (7, .int v7_97)] []) (fu : Nat) (v7_53 : Int32) (v8_53 : Int32), wpX10_heard_L53 v5_22 r42 oY K97 fu v7_53 v8_53 → SW p l e { frames := 2, cells := 0, slots := 0, locals := 49 } s m args below meth c A D 9 0 0 (MQ below (va_Qi (fun (r : Int32) (_ : Unit) => post r) (ctB D A (fun _ : Unit => w10 cI cZ qY oY)) A) args s 0 0 A) (w10 cI cZ qY oY) 53 [(0, .ref (qY 0)), (1, .int v1), (2, .int v2_22), (3, .int v3_22), (4, .int v4_22), (5, .int v5_22), (6, .int r42), (7, .int v7_53), (8, .int v8_53)] [] := by
            intro K97 hK97 fu
            induction fu with
            | zero =>
              intro v7_53 v8_53 h
              exact False.elim h
            | succ fu ih =>
              intro v7_53 v8_53 h
              unfold wpX10_heard_L53 at h
              refine SW.iload C dX10_heard_53 8 rfl ?_
              refine SW.iload C dX10_heard_55 5 rfl ?_
              refine SW.icmp_ge (tgt := 97) C dX10_heard_57 (by decide) (fun hc => ?_) (fun hc => ?_)
              · replace h := h.1 hc
                refine SW.sub [0, 1, 2, 3, 4, 5, 6, 7] rfl ?_
                exact hK97 _ h
              · replace h := h.2 hc
                refine SW.iload C dX10_heard_60 7 rfl ?_
                refine jn1_elim (G := fun p0_89 => SW p l e { frames := 2, cells := 0, slots := 0, locals := 49 } s m args below meth c A D 9 0 0 (MQ below (va_Qi (fun (r : Int32) (_ : Unit) => post r) (ctB D A (fun _ : Unit => w10 cI cZ qY oY)) A) args s 0 0 A) (w10 cI cZ qY oY) 89 [(0, .ref (qY 0)), (1, .int v1), (2, .int v2_22), (3, .int v3_22), (4, .int v4_22), (5, .int v5_22), (6, .int r42), (8, .int v8_53)] [.int p0_89]) h (fun p0_89 h => ?_) (fun J89 hJ89 h => ?_)
                · refine SW.istore (lv' := [(7, .int p0_89), (0, .ref (qY 0)), (1, .int v1), (2, .int v2_22), (3, .int v3_22), (4, .int v4_22), (5, .int v5_22), (6, .int r42), (8, .int v8_53)]) C dX10_heard_89 (by decide) rfl ?_
                  refine SW.iinc (q := 8) (v := (v8_53 + (1 : Int32))) (lv' := [(8, .int (v8_53 + (1 : Int32))), (7, .int p0_89), (0, .ref (qY 0)), (1, .int v1), (2, .int v2_22), (3, .int v3_22), (4, .int v4_22), (5, .int v5_22), (6, .int r42)]) C dX10_heard_91 rfl rfl (by decide) rfl ?_
                  refine SW.goto (tgt := 53) C dX10_heard_94 (by decide) ?_
                  refine SW.sub [2, 3, 4, 5, 6, 7, 8, 1, 0] rfl ?_
                  exact ih _ _ h
                · refine jn0_elim (G := SW p l e { frames := 2, cells := 0, slots := 0, locals := 49 } s m args below meth c A D 9 0 0 (MQ below (va_Qi (fun (r : Int32) (_ : Unit) => post r) (ctB D A (fun _ : Unit => w10 cI cZ qY oY)) A) args s 0 0 A) (w10 cI cZ qY oY) 88 [(0, .ref (qY 0)), (1, .int v1), (2, .int v2_22), (3, .int v3_22), (4, .int v4_22), (5, .int v5_22), (6, .int r42), (8, .int v8_53)] []) h (fun h => ?_) (fun J88 hJ88 h => ?_)
                  · refine SW.iconst (v := (0 : Int32)) C dX10_heard_88 (by decide) ?_
                    exact hJ89 _ h
                  · refine SW.if_eq (tgt := 88) C dX10_heard_62 (by decide) (fun hc => ?_) (fun hc => ?_)
                    · replace h := h.1 hc
                      refine SW.sub [0, 1, 2, 3, 4, 5, 6, 8] rfl ?_
                      exact hJ88 h
                    · replace h := h.2 hc
                      refine SW.aload_n C dX10_heard_65 rfl 0 rfl ?_
                      refine SW.iload C dX10_heard_66 8 rfl ?_
                      refine SW.aload_n C dX10_heard_68 rfl 0 rfl ?_
                      refine SW.get (v := .int (oY 0 6)) (T := TX10) (N := 25) C inX10_heard_X10 0 rfl rfl 6 (by decide) lkX10_heard_63 rfl dX10_heard_69 ?_
                      refine SW.aload_n C dX10_heard_72 rfl 0 rfl ?_
                      refine SW.get (v := .int (oY 0 5)) (T := TX10) (N := 25) C inX10_heard_X10 0 rfl rfl 5 (by decide) lkX10_heard_60 rfl dX10_heard_73 ?_
                      refine SW.callVi_same C (ctX10_lengthOf l D cI cZ qY oY v8_53 (oY 0 6) (oY 0 5) _ h) gX10_heard_X10_lengthOf rfl rfl rfl pdX10_lengthOf ⟨by decide, by decide⟩ 0 rfl rfl rfl rfl rfl (Nat.le_of_ble_eq_true rfl) dX10_heard_76 (by decide) (fun r76 u h => ?_)
                      try dsimp only at h
                      refine SW.iload C dX10_heard_79 6 rfl ?_
                      refine SW.icmp_eq (tgt := 88) C dX10_heard_81 (by decide) (fun hc => ?_) (fun hc => ?_)
                      · replace h := h.1 hc
                        refine SW.sub [0, 1, 2, 3, 4, 5, 6, 8] rfl ?_
                        exact hJ88 h
                      · replace h := h.2 hc
                        refine SW.iconst (v := (1 : Int32)) C dX10_heard_84 (by decide) ?_
                        refine SW.goto (tgt := 89) C dX10_heard_85 (by decide) ?_
                        refine SW.sub [0, 1, 2, 3, 4, 5, 6, 8] rfl ?_
                        exact hJ89 _ h
          obtain ⟨fu, h⟩ := h
          refine SW.sub [3, 4, 5, 6, 7, 8, 2, 1, 0] rfl ?_
          refine L53 _ (fun v7_97 h => ?_) fu _ _ h
          · refine SW.iload_n C dX10_heard_97 rfl 2 rfl ?_
            refine SW.iload C dX10_heard_98 7 rfl ?_
            refine jn2_elim (G := fun p0_108 p1_108 => SW p l e { frames := 2, cells := 0, slots := 0, locals := 49 } s m args below meth c A D 9 0 0 (MQ below (va_Qi (fun (r : Int32) (_ : Unit) => post r) (ctB D A (fun _ : Unit => w10 cI cZ qY oY)) A) args s 0 0 A) (w10 cI cZ qY oY) 108 [(0, .ref (qY 0)), (1, .int v1), (3, .int v3_22), (4, .int v4_22), (5, .int v5_22), (6, .int r42)] [.int p0_108, .int p1_108]) h (fun p0_108 p1_108 h => ?_) (fun J108 hJ108 h => ?_)
            · refine SW.iadd C dX10_heard_108 ?_
              refine SW.istore_n (lv' := [(2, .int (p1_108 + p0_108)), (0, .ref (qY 0)), (1, .int v1), (3, .int v3_22), (4, .int v4_22), (5, .int v5_22), (6, .int r42)]) C dX10_heard_109 rfl (by decide) rfl ?_
              refine SW.iload C dX10_heard_110 6 rfl ?_
              refine SW.iload_n C dX10_heard_112 rfl 3 rfl ?_
              refine jn1_elim (G := fun p0_135 => SW p l e { frames := 2, cells := 0, slots := 0, locals := 49 } s m args below meth c A D 9 0 0 (MQ below (va_Qi (fun (r : Int32) (_ : Unit) => post r) (ctB D A (fun _ : Unit => w10 cI cZ qY oY)) A) args s 0 0 A) (w10 cI cZ qY oY) 135 [(0, .ref (qY 0)), (1, .int v1), (2, .int (p1_108 + p0_108)), (3, .int v3_22), (5, .int v5_22), (6, .int r42)] [.int p0_135]) h (fun p0_135 h => ?_) (fun J135 hJ135 h => ?_)
              · refine SW.istore (lv' := [(4, .int p0_135), (0, .ref (qY 0)), (1, .int v1), (2, .int (p1_108 + p0_108)), (3, .int v3_22), (5, .int v5_22), (6, .int r42)]) C dX10_heard_135 (by decide) rfl ?_
                refine SW.iload C dX10_heard_137 6 rfl ?_
                refine SW.iload_n C dX10_heard_139 rfl 4 rfl ?_
                refine jn1_elim (G := fun p0_149 => SW p l e { frames := 2, cells := 0, slots := 0, locals := 49 } s m args below meth c A D 9 0 0 (MQ below (va_Qi (fun (r : Int32) (_ : Unit) => post r) (ctB D A (fun _ : Unit => w10 cI cZ qY oY)) A) args s 0 0 A) (w10 cI cZ qY oY) 149 [(0, .ref (qY 0)), (1, .int v1), (2, .int (p1_108 + p0_108)), (4, .int p0_135), (5, .int v5_22)] [.int p0_149]) h (fun p0_149 h => ?_) (fun J149 hJ149 h => ?_)
                · refine SW.istore_n (lv' := [(3, .int p0_149), (0, .ref (qY 0)), (1, .int v1), (2, .int (p1_108 + p0_108)), (4, .int p0_135), (5, .int v5_22)]) C dX10_heard_149 rfl (by decide) rfl ?_
                  refine SW.iinc (q := 5) (v := (v5_22 + (1 : Int32))) (lv' := [(5, .int (v5_22 + (1 : Int32))), (3, .int p0_149), (0, .ref (qY 0)), (1, .int v1), (2, .int (p1_108 + p0_108)), (4, .int p0_135)]) C dX10_heard_150 rfl rfl (by decide) rfl ?_
                  refine SW.goto (tgt := 22) C dX10_heard_153 (by decide) ?_
                  refine SW.sub [2, 3, 4, 1, 5, 0] rfl ?_
                  exact ih _ _ _ _ h
                · refine SW.icmp_le (tgt := 148) C dX10_heard_140 (by decide) (fun hc => ?_) (fun hc => ?_)
                  · replace h := h.1 hc
                    refine SW.iload_n C dX10_heard_148 rfl 4 rfl ?_
                    refine SW.sub [1, 2, 3, 0, 5] rfl ?_
                    exact hJ149 _ h
                  · replace h := h.2 hc
                    refine SW.iload C dX10_heard_143 6 rfl ?_
                    refine SW.goto (tgt := 149) C dX10_heard_145 (by decide) ?_
                    refine SW.sub [1, 2, 3, 0, 5] rfl ?_
                    exact hJ149 _ h
              · refine SW.icmp_le (tgt := 120) C dX10_heard_113 (by decide) (fun hc => ?_) (fun hc => ?_)
                · replace h := h.1 hc
                  refine SW.iload C dX10_heard_120 6 rfl ?_
                  refine SW.iload_n C dX10_heard_122 rfl 3 rfl ?_
                  refine SW.icmp_ne (tgt := 133) C dX10_heard_123 (by decide) (fun hc => ?_) (fun hc => ?_)
                  · replace h := h.2 hc
                    refine SW.iload C dX10_heard_133 4 rfl ?_
                    refine SW.sub [1, 2, 0, 3, 5, 6] rfl ?_
                    exact hJ135 _ h
                  · replace h := h.1 hc
                    refine SW.iload C dX10_heard_126 4 rfl ?_
                    refine SW.iconst (v := (1 : Int32)) C dX10_heard_128 (by decide) ?_
                    refine SW.iadd C dX10_heard_129 ?_
                    refine SW.goto (tgt := 135) C dX10_heard_130 (by decide) ?_
                    refine SW.sub [1, 2, 0, 3, 5, 6] rfl ?_
                    exact hJ135 _ h
                · replace h := h.2 hc
                  refine SW.iconst (v := (1 : Int32)) C dX10_heard_116 (by decide) ?_
                  refine SW.goto (tgt := 135) C dX10_heard_117 (by decide) ?_
                  refine SW.sub [1, 2, 0, 3, 5, 6] rfl ?_
                  exact hJ135 _ h
            · refine SW.if_eq (tgt := 107) C dX10_heard_100 (by decide) (fun hc => ?_) (fun hc => ?_)
              · replace h := h.1 hc
                refine SW.iconst (v := (0 : Int32)) C dX10_heard_107 (by decide) ?_
                refine SW.sub [0, 1, 3, 4, 5, 6] rfl ?_
                exact hJ108 _ _ h
              · replace h := h.2 hc
                refine SW.iconst (v := (1 : Int32)) C dX10_heard_103 (by decide) ?_
                refine SW.goto (tgt := 108) C dX10_heard_104 (by decide) ?_
                refine SW.sub [0, 1, 3, 4, 5, 6] rfl ?_
                exact hJ108 _ _ h
    obtain ⟨fu, h⟩ := h
    refine SW.sub [4, 5, 3, 2, 1, 0] rfl ?_
    refine L22 _ (fun v2_156 v4_156 h => ?_) fu _ _ _ _ h
    · refine SW.iload_n C dX10_heard_156 rfl 0 rfl ?_
      refine SW.if_ne (tgt := 164) C dX10_heard_157 (by decide) (fun hc => ?_) (fun hc => ?_)
      · replace h := h.2 hc
        refine SW.iload C dX10_heard_164 2 rfl ?_
        exact SW.iret C () rfl h dX10_heard_166
      · replace h := h.1 hc
        refine SW.iload_n C dX10_heard_160 rfl 1 rfl ?_
        refine SW.goto (tgt := 166) C dX10_heard_161 (by decide) ?_
        exact SW.iret C () rfl h dX10_heard_166
  · replace h := h.1 hc
    refine SW.bipush (v := (-2 : Int32)) C dX10_heard_9 (by decide) ?_
    exact SW.iret C () rfl h dX10_heard_11
def wpX10_canBe (oY : Ob) (v1 : Int32) (post : Int32 → Prop) : Prop := wpX10_bits v1 (fun (r1 : Int32) => wpX10_may oY (fun (r5 : Int32) => ((r5 < r1) → post (0 : Int32)) ∧ (¬ (r5 < r1) → post (1 : Int32))))
theorem pdX10_canBe : yX10_canBe.cls = RX10 ∧ yX10_canBe.cls ≠ "java/lang/invoke/MethodHandle" ∧ yX10_canBe.cls ≠ "java/lang/invoke/VarHandle" ∧ (parseMethodDescriptor yX10_canBe.desc).map (fun d => d.parameters.length) = some 1 := by decide +kernel
set_option maxHeartbeats 4000000 in
set_option maxRecDepth 100000 in
theorem ctX10_canBe (l : Launch) (D : va_G) (cI cZ : ClassId) (qY : Nat → Nat) (oY : Ob) (v1 : Int32) (post : Int32 → Prop) (h : wpX10_canBe oY v1 post) : CTi l yX10_canBe wsX10_canBe { frames := 1, cells := 0, slots := 0, locals := 22 } D [(cI, .int), (cZ, .boolean)] [.ref (qY 0), .int v1] (w10 cI cZ qY oY) (fun _ : Unit => w10 cI cZ qY oY) (fun (r : Int32) (_ : Unit) => post r) := by
  refine CTi.of (cc := cX10_canBe) (own := RX10) (maxL := 2) (ret := (some .boolean)) (lv0 := [(0, .ref (qY 0)), (1, .int v1)]) (by decide) rfl rfl (Nat.le_of_ble_eq_true rfl) rfl ?_
  intro p e s m args below meth c A C
  unfold wpX10_canBe at h
  refine SW.iload_n C dX10_canBe_0 rfl 1 rfl ?_
  refine SW.callSi_pure C (ctX10_bits l D cI cZ v1 _ h) gX10_canBe_X10_bits rfl rfl rfl pdX10_bits ⟨by decide, by decide⟩ rfl rfl (Nat.le_of_ble_eq_true rfl) dX10_canBe_1 (by decide) (fun r1 u h => ?_)
  try dsimp only at h
  refine SW.aload_n C dX10_canBe_4 rfl 0 rfl ?_
  refine SW.callVi_same C (ctX10_may l D cI cZ qY oY _ h) gX10_canBe_X10_may rfl rfl rfl pdX10_may ⟨by decide, by decide⟩ 0 rfl rfl rfl rfl rfl (Nat.le_of_ble_eq_true rfl) dX10_canBe_5 (by decide) (fun r5 u h => ?_)
  try dsimp only at h
  refine SW.icmp_gt (tgt := 15) C dX10_canBe_8 (by decide) (fun hc => ?_) (fun hc => ?_)
  · replace h := h.1 hc
    refine SW.iconst (v := (0 : Int32)) C dX10_canBe_15 (by decide) ?_
    exact SW.zret C () (by decide) rfl h dX10_canBe_16
  · replace h := h.2 hc
    refine SW.iconst (v := (1 : Int32)) C dX10_canBe_11 (by decide) ?_
    refine SW.goto (tgt := 16) C dX10_canBe_12 (by decide) ?_
    exact SW.zret C () (by decide) rfl h dX10_canBe_16
def wpX10_fewestFor_L7 (c1_7 : Int32) (c2_7 : Int32) (c3_7 : Int32) (c4_7 : Int32) (oYc_7 : Ob) (K119 : Int32 → Prop) : Nat → Int32 → Int32 → Prop
  | 0, _, _ => False
  | fu7 + 1, v5_7, v6_7 => (((jshl (1 : Int32) (oYc_7 0 0)) ≤ v6_7) → K119 v5_7) ∧ (¬ ((jshl (1 : Int32) (oYc_7 0 0)) ≤ v6_7) → wpX10_canBe oYc_7 v6_7 (fun (r21 : Int32) => jn1 (fun (p0_50 : Int32) => jn1 (fun (p0_97 : Int32) => jn1 (fun (p0_111 : Int32) => wpX10_fewestFor_L7 c1_7 c2_7 c3_7 c4_7 oYc_7 K119 fu7 p0_111 (v6_7 + (1 : Int32))) (fun J111 => ((p0_97 = 0) → J111 v5_7) ∧ (¬ (p0_97 = 0) → J111 v6_7))) (fun J97 => jn0 (J97 (0 : Int32)) (fun J96 => ((p0_50 = 0) → J96) ∧ (¬ (p0_50 = 0) → wpX10_lengthOf oYc_7 c1_7 v6_7 (oYc_7 0 5) (fun (r65 : Int32) => ((r65 = c2_7) → jn0 (J97 (1 : Int32)) (fun J92 => ((c3_7 < 0) → J92) ∧ (¬ (c3_7 < 0) → wpX10_lengthOf oYc_7 c3_7 v6_7 (oYc_7 0 5) (fun (r84 : Int32) => ((r84 = c4_7) → J92) ∧ (¬ (r84 = c4_7) → J96))))) ∧ (¬ (r65 = c2_7) → J96)))))) (fun J50 => jn0 (J50 (0 : Int32)) (fun J49 => ((r21 = 0) → J49) ∧ (¬ (r21 = 0) → jn0 (J50 (1 : Int32)) (fun J45 => ((v5_7 < 0) → J45) ∧ (¬ (v5_7 < 0) → wpX10_bits v6_7 (fun (r34 : Int32) => wpX10_bits v5_7 (fun (r39 : Int32) => ((r39 ≤ r34) → J49) ∧ (¬ (r39 ≤ r34) → J45))))))))))
def wpX10_fewestFor (oY : Ob) (v1 : Int32) (v2 : Int32) (v3 : Int32) (v4 : Int32) (post : Int32 → Prop) : Prop := ∃ fu7 : Nat, wpX10_fewestFor_L7 v1 v2 v3 v4 oY (fun (v5_119 : Int32) => post v5_119) fu7 (-6 : Int32) (0 : Int32)
theorem pdX10_fewestFor : yX10_fewestFor.cls = RX10 ∧ yX10_fewestFor.cls ≠ "java/lang/invoke/MethodHandle" ∧ yX10_fewestFor.cls ≠ "java/lang/invoke/VarHandle" ∧ (parseMethodDescriptor yX10_fewestFor.desc).map (fun d => d.parameters.length) = some 4 := by decide +kernel
theorem lkX10_fewestFor_7 : Cond.fieldLink RX10 7 (TX10 0).1 (TX10 0).2.1 (TX10 0).2.2.1 ∈ wsX10_fewestFor := by decide +kernel
theorem inX10_fewestFor_X10 : ∀ w ∈ u_ws RX10 TX10 25, w ∈ wsX10_fewestFor := by decide +kernel
theorem lkX10_fewestFor_60 : Cond.fieldLink RX10 60 (TX10 5).1 (TX10 5).2.1 (TX10 5).2.2.1 ∈ wsX10_fewestFor := by decide +kernel
set_option maxHeartbeats 4000000 in
set_option maxRecDepth 100000 in
theorem ctX10_fewestFor (l : Launch) (D : va_G) (cI cZ : ClassId) (qY : Nat → Nat) (oY : Ob) (v1 : Int32) (v2 : Int32) (v3 : Int32) (v4 : Int32) (post : Int32 → Prop) (h : wpX10_fewestFor oY v1 v2 v3 v4 post) : CTi l yX10_fewestFor wsX10_fewestFor { frames := 2, cells := 0, slots := 0, locals := 49 } D [(cI, .int), (cZ, .boolean)] [.ref (qY 0), .int v1, .int v2, .int v3, .int v4] (w10 cI cZ qY oY) (fun _ : Unit => w10 cI cZ qY oY) (fun (r : Int32) (_ : Unit) => post r) := by
  refine CTi.of (cc := cX10_fewestFor) (own := RX10) (maxL := 9) (ret := (some .int)) (lv0 := [(0, .ref (qY 0)), (1, .int v1), (2, .int v2), (3, .int v3), (4, .int v4)]) (by decide) rfl rfl (Nat.le_of_ble_eq_true rfl) rfl ?_
  intro p e s m args below meth c A C
  unfold wpX10_fewestFor at h
  refine SW.bipush (v := (-6 : Int32)) C dX10_fewestFor_0 (by decide) ?_
  refine SW.istore (lv' := [(5, .int (-6 : Int32)), (0, .ref (qY 0)), (1, .int v1), (2, .int v2), (3, .int v3), (4, .int v4)]) C dX10_fewestFor_2 (by decide) rfl ?_
  refine SW.iconst (v := (0 : Int32)) C dX10_fewestFor_4 (by decide) ?_
  refine SW.istore (lv' := [(6, .int (0 : Int32)), (5, .int (-6 : Int32)), (0, .ref (qY 0)), (1, .int v1), (2, .int v2), (3, .int v3), (4, .int v4)]) C dX10_fewestFor_5 (by decide) rfl ?_
  have L7 : ∀ (K119 : Int32 → Prop) (hK119 : ∀ (v5_119 : Int32), K119 v5_119 → SW p l e { frames := 2, cells := 0, slots := 0, locals := 49 } s m args below meth c A D 9 0 0 (MQ below (va_Qi (fun (r : Int32) (_ : Unit) => post r) (ctB D A (fun _ : Unit => w10 cI cZ qY oY)) A) args s 0 0 A) (w10 cI cZ qY oY) 119 [(5, .int v5_119)] []) (fu : Nat) (v5_7 : Int32) (v6_7 : Int32), wpX10_fewestFor_L7 v1 v2 v3 v4 oY K119 fu v5_7 v6_7 → SW p l e { frames := 2, cells := 0, slots := 0, locals := 49 } s m args below meth c A D 9 0 0 (MQ below (va_Qi (fun (r : Int32) (_ : Unit) => post r) (ctB D A (fun _ : Unit => w10 cI cZ qY oY)) A) args s 0 0 A) (w10 cI cZ qY oY) 7 [(0, .ref (qY 0)), (1, .int v1), (2, .int v2), (3, .int v3), (4, .int v4), (5, .int v5_7), (6, .int v6_7)] [] := by
    intro K119 hK119 fu
    induction fu with
    | zero =>
      intro v5_7 v6_7 h
      exact False.elim h
    | succ fu ih =>
      intro v5_7 v6_7 h
      unfold wpX10_fewestFor_L7 at h
      refine SW.iload C dX10_fewestFor_7 6 rfl ?_
      refine SW.iconst (v := (1 : Int32)) C dX10_fewestFor_9 (by decide) ?_
      refine SW.aload_n C dX10_fewestFor_10 rfl 0 rfl ?_
      refine SW.get (v := .int (oY 0 0)) (T := TX10) (N := 25) C inX10_fewestFor_X10 0 rfl rfl 0 (by decide) lkX10_fewestFor_7 rfl dX10_fewestFor_11 ?_
      refine SW.ishl C dX10_fewestFor_14 ?_
      refine SW.icmp_ge (tgt := 119) C dX10_fewestFor_15 (by decide) (fun hc => ?_) (fun hc => ?_)
      · replace h := h.1 hc
        refine SW.sub [5] rfl ?_
        exact hK119 _ h
      · replace h := h.2 hc
        refine SW.aload_n C dX10_fewestFor_18 rfl 0 rfl ?_
        refine SW.iload C dX10_fewestFor_19 6 rfl ?_
        refine SW.callVi_same C (ctX10_canBe l D cI cZ qY oY v6_7 _ h) gX10_fewestFor_X10_canBe rfl rfl rfl pdX10_canBe ⟨by decide, by decide⟩ 0 rfl rfl rfl rfl rfl (Nat.le_of_ble_eq_true rfl) dX10_fewestFor_21 (by decide) (fun r21 u h => ?_)
        try dsimp only at h
        refine jn1_elim (G := fun p0_50 => SW p l e { frames := 2, cells := 0, slots := 0, locals := 49 } s m args below meth c A D 9 0 0 (MQ below (va_Qi (fun (r : Int32) (_ : Unit) => post r) (ctB D A (fun _ : Unit => w10 cI cZ qY oY)) A) args s 0 0 A) (w10 cI cZ qY oY) 50 [(0, .ref (qY 0)), (1, .int v1), (2, .int v2), (3, .int v3), (4, .int v4), (5, .int v5_7), (6, .int v6_7)] [.int p0_50]) h (fun p0_50 h => ?_) (fun J50 hJ50 h => ?_)
        · refine SW.istore (lv' := [(7, .int p0_50), (0, .ref (qY 0)), (1, .int v1), (2, .int v2), (3, .int v3), (4, .int v4), (5, .int v5_7), (6, .int v6_7)]) C dX10_fewestFor_50 (by decide) rfl ?_
          refine SW.iload C dX10_fewestFor_52 0 rfl ?_
          refine jn1_elim (G := fun p0_97 => SW p l e { frames := 2, cells := 0, slots := 0, locals := 49 } s m args below meth c A D 9 0 0 (MQ below (va_Qi (fun (r : Int32) (_ : Unit) => post r) (ctB D A (fun _ : Unit => w10 cI cZ qY oY)) A) args s 0 0 A) (w10 cI cZ qY oY) 97 [(0, .ref (qY 0)), (1, .int v1), (2, .int v2), (3, .int v3), (4, .int v4), (5, .int v5_7), (6, .int v6_7)] [.int p0_97]) h (fun p0_97 h => ?_) (fun J97 hJ97 h => ?_)
          · refine SW.istore (lv' := [(8, .int p0_97), (0, .ref (qY 0)), (1, .int v1), (2, .int v2), (3, .int v3), (4, .int v4), (5, .int v5_7), (6, .int v6_7)]) C dX10_fewestFor_97 (by decide) rfl ?_
            refine SW.iload C dX10_fewestFor_99 0 rfl ?_
            refine jn1_elim (G := fun p0_111 => SW p l e { frames := 2, cells := 0, slots := 0, locals := 49 } s m args below meth c A D 9 0 0 (MQ below (va_Qi (fun (r : Int32) (_ : Unit) => post r) (ctB D A (fun _ : Unit => w10 cI cZ qY oY)) A) args s 0 0 A) (w10 cI cZ qY oY) 111 [(0, .ref (qY 0)), (1, .int v1), (2, .int v2), (3, .int v3), (4, .int v4), (6, .int v6_7)] [.int p0_111]) h (fun p0_111 h => ?_) (fun J111 hJ111 h => ?_)
            · refine SW.istore (lv' := [(5, .int p0_111), (0, .ref (qY 0)), (1, .int v1), (2, .int v2), (3, .int v3), (4, .int v4), (6, .int v6_7)]) C dX10_fewestFor_111 (by decide) rfl ?_
              refine SW.iinc (q := 6) (v := (v6_7 + (1 : Int32))) (lv' := [(6, .int (v6_7 + (1 : Int32))), (5, .int p0_111), (0, .ref (qY 0)), (1, .int v1), (2, .int v2), (3, .int v3), (4, .int v4)]) C dX10_fewestFor_113 rfl rfl (by decide) rfl ?_
              refine SW.goto (tgt := 7) C dX10_fewestFor_116 (by decide) ?_
              refine SW.sub [2, 3, 4, 5, 6, 1, 0] rfl ?_
              exact ih _ _ h
            · refine SW.if_eq (tgt := 109) C dX10_fewestFor_101 (by decide) (fun hc => ?_) (fun hc => ?_)
              · replace h := h.1 hc
                refine SW.iload C dX10_fewestFor_109 6 rfl ?_
                refine SW.sub [1, 2, 3, 4, 5, 7] rfl ?_
                exact hJ111 _ h
              · replace h := h.2 hc
                refine SW.iload C dX10_fewestFor_104 7 rfl ?_
                refine SW.goto (tgt := 111) C dX10_fewestFor_106 (by decide) ?_
                refine SW.sub [1, 2, 3, 4, 5, 7] rfl ?_
                exact hJ111 _ h
          · refine jn0_elim (G := SW p l e { frames := 2, cells := 0, slots := 0, locals := 49 } s m args below meth c A D 9 0 0 (MQ below (va_Qi (fun (r : Int32) (_ : Unit) => post r) (ctB D A (fun _ : Unit => w10 cI cZ qY oY)) A) args s 0 0 A) (w10 cI cZ qY oY) 96 [(0, .ref (qY 0)), (1, .int v1), (2, .int v2), (3, .int v3), (4, .int v4), (5, .int v5_7), (6, .int v6_7)] []) h (fun h => ?_) (fun J96 hJ96 h => ?_)
            · refine SW.iconst (v := (0 : Int32)) C dX10_fewestFor_96 (by decide) ?_
              exact hJ97 _ h
            · refine SW.if_eq (tgt := 96) C dX10_fewestFor_54 (by decide) (fun hc => ?_) (fun hc => ?_)
              · replace h := h.1 hc
                refine SW.sub [1, 2, 3, 4, 5, 6, 7] rfl ?_
                exact hJ96 h
              · replace h := h.2 hc
                refine SW.aload_n C dX10_fewestFor_57 rfl 1 rfl ?_
                refine SW.iload_n C dX10_fewestFor_58 rfl 2 rfl ?_
                refine SW.iload C dX10_fewestFor_59 7 rfl ?_
                refine SW.aload_n C dX10_fewestFor_61 rfl 1 rfl ?_
                refine SW.get (v := .int (oY 0 5)) (T := TX10) (N := 25) C inX10_fewestFor_X10 0 rfl rfl 5 (by decide) lkX10_fewestFor_60 rfl dX10_fewestFor_62 ?_
                refine SW.callVi_same C (ctX10_lengthOf l D cI cZ qY oY v1 v6_7 (oY 0 5) _ h) gX10_fewestFor_X10_lengthOf rfl rfl rfl pdX10_lengthOf ⟨by decide, by decide⟩ 0 rfl rfl rfl rfl rfl (Nat.le_of_ble_eq_true rfl) dX10_fewestFor_65 (by decide) (fun r65 u h => ?_)
                try dsimp only at h
                refine SW.iload_n C dX10_fewestFor_68 rfl 3 rfl ?_
                refine SW.icmp_ne (tgt := 96) C dX10_fewestFor_69 (by decide) (fun hc => ?_) (fun hc => ?_)
                · replace h := h.2 hc
                  refine SW.sub [1, 2, 3, 4, 5, 6, 7] rfl ?_
                  exact hJ96 h
                · replace h := h.1 hc
                  refine SW.iload_n C dX10_fewestFor_72 rfl 4 rfl ?_
                  refine jn0_elim (G := SW p l e { frames := 2, cells := 0, slots := 0, locals := 49 } s m args below meth c A D 9 0 0 (MQ below (va_Qi (fun (r : Int32) (_ : Unit) => post r) (ctB D A (fun _ : Unit => w10 cI cZ qY oY)) A) args s 0 0 A) (w10 cI cZ qY oY) 92 [(0, .ref (qY 0)), (1, .int v1), (2, .int v2), (3, .int v3), (4, .int v4), (5, .int v5_7), (6, .int v6_7)] []) h (fun h => ?_) (fun J92 hJ92 h => ?_)
                  · refine SW.iconst (v := (1 : Int32)) C dX10_fewestFor_92 (by decide) ?_
                    refine SW.goto (tgt := 97) C dX10_fewestFor_93 (by decide) ?_
                    exact hJ97 _ h
                  · refine SW.if_lt (tgt := 92) C dX10_fewestFor_73 (by decide) (fun hc => ?_) (fun hc => ?_)
                    · replace h := h.1 hc
                      refine SW.sub [1, 2, 3, 4, 5, 6, 7] rfl ?_
                      exact hJ92 h
                    · replace h := h.2 hc
                      refine SW.aload_n C dX10_fewestFor_76 rfl 1 rfl ?_
                      refine SW.iload_n C dX10_fewestFor_77 rfl 4 rfl ?_
                      refine SW.iload C dX10_fewestFor_78 7 rfl ?_
                      refine SW.aload_n C dX10_fewestFor_80 rfl 1 rfl ?_
                      refine SW.get (v := .int (oY 0 5)) (T := TX10) (N := 25) C inX10_fewestFor_X10 0 rfl rfl 5 (by decide) lkX10_fewestFor_60 rfl dX10_fewestFor_81 ?_
                      refine SW.callVi_same C (ctX10_lengthOf l D cI cZ qY oY v3 v6_7 (oY 0 5) _ h) gX10_fewestFor_X10_lengthOf rfl rfl rfl pdX10_lengthOf ⟨by decide, by decide⟩ 0 rfl rfl rfl rfl rfl (Nat.le_of_ble_eq_true rfl) dX10_fewestFor_84 (by decide) (fun r84 u h => ?_)
                      try dsimp only at h
                      refine SW.iload C dX10_fewestFor_87 5 rfl ?_
                      refine SW.icmp_ne (tgt := 96) C dX10_fewestFor_89 (by decide) (fun hc => ?_) (fun hc => ?_)
                      · replace h := h.2 hc
                        refine SW.sub [1, 2, 3, 4, 5, 6, 7] rfl ?_
                        exact hJ96 h
                      · replace h := h.1 hc
                        refine SW.sub [1, 2, 3, 4, 5, 6, 7] rfl ?_
                        exact hJ92 h
        · refine jn0_elim (G := SW p l e { frames := 2, cells := 0, slots := 0, locals := 49 } s m args below meth c A D 9 0 0 (MQ below (va_Qi (fun (r : Int32) (_ : Unit) => post r) (ctB D A (fun _ : Unit => w10 cI cZ qY oY)) A) args s 0 0 A) (w10 cI cZ qY oY) 49 [(0, .ref (qY 0)), (1, .int v1), (2, .int v2), (3, .int v3), (4, .int v4), (5, .int v5_7), (6, .int v6_7)] []) h (fun h => ?_) (fun J49 hJ49 h => ?_)
          · refine SW.iconst (v := (0 : Int32)) C dX10_fewestFor_49 (by decide) ?_
            exact hJ50 _ h
          · refine SW.if_eq (tgt := 49) C dX10_fewestFor_24 (by decide) (fun hc => ?_) (fun hc => ?_)
            · replace h := h.1 hc
              exact hJ49 h
            · replace h := h.2 hc
              refine SW.iload C dX10_fewestFor_27 5 rfl ?_
              refine jn0_elim (G := SW p l e { frames := 2, cells := 0, slots := 0, locals := 49 } s m args below meth c A D 9 0 0 (MQ below (va_Qi (fun (r : Int32) (_ : Unit) => post r) (ctB D A (fun _ : Unit => w10 cI cZ qY oY)) A) args s 0 0 A) (w10 cI cZ qY oY) 45 [(0, .ref (qY 0)), (1, .int v1), (2, .int v2), (3, .int v3), (4, .int v4), (5, .int v5_7), (6, .int v6_7)] []) h (fun h => ?_) (fun J45 hJ45 h => ?_)
              · refine SW.iconst (v := (1 : Int32)) C dX10_fewestFor_45 (by decide) ?_
                refine SW.goto (tgt := 50) C dX10_fewestFor_46 (by decide) ?_
                exact hJ50 _ h
              · refine SW.if_lt (tgt := 45) C dX10_fewestFor_29 (by decide) (fun hc => ?_) (fun hc => ?_)
                · replace h := h.1 hc
                  exact hJ45 h
                · replace h := h.2 hc
                  refine SW.iload C dX10_fewestFor_32 6 rfl ?_
                  refine SW.callSi_pure C (ctX10_bits l D cI cZ v6_7 _ h) gX10_fewestFor_X10_bits rfl rfl rfl pdX10_bits ⟨by decide, by decide⟩ rfl rfl (Nat.le_of_ble_eq_true rfl) dX10_fewestFor_34 (by decide) (fun r34 u h => ?_)
                  try dsimp only at h
                  refine SW.iload C dX10_fewestFor_37 5 rfl ?_
                  refine SW.callSi_pure C (ctX10_bits l D cI cZ v5_7 _ h) gX10_fewestFor_X10_bits rfl rfl rfl pdX10_bits ⟨by decide, by decide⟩ rfl rfl (Nat.le_of_ble_eq_true rfl) dX10_fewestFor_39 (by decide) (fun r39 u h => ?_)
                  try dsimp only at h
                  refine SW.icmp_ge (tgt := 49) C dX10_fewestFor_42 (by decide) (fun hc => ?_) (fun hc => ?_)
                  · replace h := h.1 hc
                    exact hJ49 h
                  · replace h := h.2 hc
                    exact hJ45 h
  obtain ⟨fu, h⟩ := h
  refine SW.sub [2, 3, 4, 5, 6, 1, 0] rfl ?_
  refine L7 _ (fun v5_119 h => ?_) fu _ _ h
  · refine SW.iload C dX10_fewestFor_119 0 rfl ?_
    exact SW.iret C () rfl h dX10_fewestFor_121
def wpX10_stopped (oY : Ob) (v1 : Int32) (v2 : Int32) (v3 : Int32) (post : Int32 → Prop) : Prop := wpX10_isWindow oY v1 (fun (r2 : Int32) => ((r2 = 0) → post (-1 : Int32)) ∧ (¬ (r2 = 0) → wpX10_in v2 (1 : Int32) (200 : Int32) (fun (r15 : Int32) => ((r15 = 0) → post (-2 : Int32)) ∧ (¬ (r15 = 0) → wpX10_in v3 (0 : Int32) (1 : Int32) (fun (r24 : Int32) => ((r24 = 0) → post (-2 : Int32)) ∧ (¬ (r24 = 0) → wpX10_fewestFor oY v1 v2 (-6 : Int32) (0 : Int32) (fun (r39 : Int32) => jn0 (post r39) (fun J54 => ((r39 < 0) → J54) ∧ (¬ (r39 < 0) → ((v3 = (1 : Int32)) → J54) ∧ (¬ (v3 = (1 : Int32)) → wpX10_bits r39 (fun (r61 : Int32) => post r61)))))))))))
theorem pdX10_stopped : yX10_stopped.cls = RX10 ∧ yX10_stopped.cls ≠ "java/lang/invoke/MethodHandle" ∧ yX10_stopped.cls ≠ "java/lang/invoke/VarHandle" ∧ (parseMethodDescriptor yX10_stopped.desc).map (fun d => d.parameters.length) = some 3 := by decide +kernel
set_option maxHeartbeats 4000000 in
set_option maxRecDepth 100000 in
theorem ctX10_stopped (l : Launch) (D : va_G) (cI cZ : ClassId) (qY : Nat → Nat) (oY : Ob) (v1 : Int32) (v2 : Int32) (v3 : Int32) (post : Int32 → Prop) (h : wpX10_stopped oY v1 v2 v3 post) : CTi l yX10_stopped wsX10_stopped { frames := 3, cells := 0, slots := 0, locals := 77 } D [(cI, .int), (cZ, .boolean)] [.ref (qY 0), .int v1, .int v2, .int v3] (w10 cI cZ qY oY) (fun _ : Unit => w10 cI cZ qY oY) (fun (r : Int32) (_ : Unit) => post r) := by
  refine CTi.of (cc := cX10_stopped) (own := RX10) (maxL := 5) (ret := (some .int)) (lv0 := [(0, .ref (qY 0)), (1, .int v1), (2, .int v2), (3, .int v3)]) (by decide) rfl rfl (Nat.le_of_ble_eq_true rfl) rfl ?_
  intro p e s m args below meth c A C
  unfold wpX10_stopped at h
  refine SW.aload_n C dX10_stopped_0 rfl 0 rfl ?_
  refine SW.iload_n C dX10_stopped_1 rfl 1 rfl ?_
  refine SW.callVi_same C (ctX10_isWindow l D cI cZ qY oY v1 _ h) gX10_stopped_X10_isWindow rfl rfl rfl pdX10_isWindow ⟨by decide, by decide⟩ 0 rfl rfl rfl rfl rfl (Nat.le_of_ble_eq_true rfl) dX10_stopped_2 (by decide) (fun r2 u h => ?_)
  try dsimp only at h
  refine SW.if_ne (tgt := 10) C dX10_stopped_5 (by decide) (fun hc => ?_) (fun hc => ?_)
  · replace h := h.2 hc
    refine SW.iload_n C dX10_stopped_10 rfl 2 rfl ?_
    refine SW.iconst (v := (1 : Int32)) C dX10_stopped_11 (by decide) ?_
    refine SW.sipush (v := (200 : Int32)) C dX10_stopped_12 (by decide) ?_
    refine SW.callSi_pure C (ctX10_in l D cI cZ v2 (1 : Int32) (200 : Int32) _ h) gX10_stopped_X10_in rfl rfl rfl pdX10_in ⟨by decide, by decide⟩ rfl rfl (Nat.le_of_ble_eq_true rfl) dX10_stopped_15 (by decide) (fun r15 u h => ?_)
    try dsimp only at h
    refine SW.if_eq (tgt := 30) C dX10_stopped_18 (by decide) (fun hc => ?_) (fun hc => ?_)
    · replace h := h.1 hc
      refine SW.bipush (v := (-2 : Int32)) C dX10_stopped_30 (by decide) ?_
      exact SW.iret C () rfl h dX10_stopped_32
    · replace h := h.2 hc
      refine SW.iload_n C dX10_stopped_21 rfl 3 rfl ?_
      refine SW.iconst (v := (0 : Int32)) C dX10_stopped_22 (by decide) ?_
      refine SW.iconst (v := (1 : Int32)) C dX10_stopped_23 (by decide) ?_
      refine SW.callSi_pure C (ctX10_in l D cI cZ v3 (0 : Int32) (1 : Int32) _ h) gX10_stopped_X10_in rfl rfl rfl pdX10_in ⟨by decide, by decide⟩ rfl rfl (Nat.le_of_ble_eq_true rfl) dX10_stopped_24 (by decide) (fun r24 u h => ?_)
      try dsimp only at h
      refine SW.if_ne (tgt := 33) C dX10_stopped_27 (by decide) (fun hc => ?_) (fun hc => ?_)
      · replace h := h.2 hc
        refine SW.aload_n C dX10_stopped_33 rfl 0 rfl ?_
        refine SW.iload_n C dX10_stopped_34 rfl 1 rfl ?_
        refine SW.iload_n C dX10_stopped_35 rfl 2 rfl ?_
        refine SW.bipush (v := (-6 : Int32)) C dX10_stopped_36 (by decide) ?_
        refine SW.iconst (v := (0 : Int32)) C dX10_stopped_38 (by decide) ?_
        refine SW.callVi_same C (ctX10_fewestFor l D cI cZ qY oY v1 v2 (-6 : Int32) (0 : Int32) _ h) gX10_stopped_X10_fewestFor rfl rfl rfl pdX10_fewestFor ⟨by decide, by decide⟩ 0 rfl rfl rfl rfl rfl (Nat.le_of_ble_eq_true rfl) dX10_stopped_39 (by decide) (fun r39 u h => ?_)
        try dsimp only at h
        refine SW.istore (lv' := [(4, .int r39), (0, .ref (qY 0)), (1, .int v1), (2, .int v2), (3, .int v3)]) C dX10_stopped_42 (by decide) rfl ?_
        refine SW.iload C dX10_stopped_44 0 rfl ?_
        refine jn0_elim (G := SW p l e { frames := 3, cells := 0, slots := 0, locals := 77 } s m args below meth c A D 5 0 0 (MQ below (va_Qi (fun (r : Int32) (_ : Unit) => post r) (ctB D A (fun _ : Unit => w10 cI cZ qY oY)) A) args s 0 0 A) (w10 cI cZ qY oY) 54 [(4, .int r39)] []) h (fun h => ?_) (fun J54 hJ54 h => ?_)
        · refine SW.iload C dX10_stopped_54 0 rfl ?_
          refine SW.goto (tgt := 64) C dX10_stopped_56 (by decide) ?_
          exact SW.iret C () rfl h dX10_stopped_64
        · refine SW.if_lt (tgt := 54) C dX10_stopped_46 (by decide) (fun hc => ?_) (fun hc => ?_)
          · replace h := h.1 hc
            refine SW.sub [0] rfl ?_
            exact hJ54 h
          · replace h := h.2 hc
            refine SW.iload_n C dX10_stopped_49 rfl 4 rfl ?_
            refine SW.iconst (v := (1 : Int32)) C dX10_stopped_50 (by decide) ?_
            refine SW.icmp_ne (tgt := 59) C dX10_stopped_51 (by decide) (fun hc => ?_) (fun hc => ?_)
            · replace h := h.2 hc
              refine SW.iload C dX10_stopped_59 0 rfl ?_
              refine SW.callSi_pure C (ctX10_bits l D cI cZ r39 _ h) gX10_stopped_X10_bits rfl rfl rfl pdX10_bits ⟨by decide, by decide⟩ rfl rfl (Nat.le_of_ble_eq_true rfl) dX10_stopped_61 (by decide) (fun r61 u h => ?_)
              try dsimp only at h
              exact SW.iret C () rfl h dX10_stopped_64
            · replace h := h.1 hc
              refine SW.sub [0] rfl ?_
              exact hJ54 h
      · replace h := h.1 hc
        refine SW.bipush (v := (-2 : Int32)) C dX10_stopped_30 (by decide) ?_
        exact SW.iret C () rfl h dX10_stopped_32
  · replace h := h.1 hc
    refine SW.iconst (v := (-1 : Int32)) C dX10_stopped_8 (by decide) ?_
    exact SW.iret C () rfl h dX10_stopped_9
def wpX10_friends (oY : Ob) (v1 : Int32) (v2 : Int32) (v3 : Int32) (v4 : Int32) (v5 : Int32) (post : Int32 → Prop) : Prop := wpX10_areTwo oY v1 v3 (fun (r3 : Int32) => ((r3 = 0) → post (-1 : Int32)) ∧ (¬ (r3 = 0) → wpX10_in v2 (1 : Int32) (200 : Int32) (fun (r16 : Int32) => ((r16 = 0) → post (-2 : Int32)) ∧ (¬ (r16 = 0) → wpX10_in v4 (1 : Int32) (200 : Int32) (fun (r28 : Int32) => ((r28 = 0) → post (-2 : Int32)) ∧ (¬ (r28 = 0) → wpX10_in v5 (0 : Int32) (1 : Int32) (fun (r38 : Int32) => ((r38 = 0) → post (-2 : Int32)) ∧ (¬ (r38 = 0) → wpX10_fewestFor oY v1 v2 v3 v4 (fun (r53 : Int32) => jn0 (post r53) (fun J69 => ((r53 < 0) → J69) ∧ (¬ (r53 < 0) → ((v5 = (1 : Int32)) → J69) ∧ (¬ (v5 = (1 : Int32)) → wpX10_bits r53 (fun (r76 : Int32) => post r76)))))))))))))
theorem pdX10_friends : yX10_friends.cls = RX10 ∧ yX10_friends.cls ≠ "java/lang/invoke/MethodHandle" ∧ yX10_friends.cls ≠ "java/lang/invoke/VarHandle" ∧ (parseMethodDescriptor yX10_friends.desc).map (fun d => d.parameters.length) = some 5 := by decide +kernel
set_option maxHeartbeats 4000000 in
set_option maxRecDepth 100000 in
theorem ctX10_friends (l : Launch) (D : va_G) (cI cZ : ClassId) (qY : Nat → Nat) (oY : Ob) (v1 : Int32) (v2 : Int32) (v3 : Int32) (v4 : Int32) (v5 : Int32) (post : Int32 → Prop) (h : wpX10_friends oY v1 v2 v3 v4 v5 post) : CTi l yX10_friends wsX10_friends { frames := 3, cells := 0, slots := 0, locals := 77 } D [(cI, .int), (cZ, .boolean)] [.ref (qY 0), .int v1, .int v2, .int v3, .int v4, .int v5] (w10 cI cZ qY oY) (fun _ : Unit => w10 cI cZ qY oY) (fun (r : Int32) (_ : Unit) => post r) := by
  refine CTi.of (cc := cX10_friends) (own := RX10) (maxL := 7) (ret := (some .int)) (lv0 := [(0, .ref (qY 0)), (1, .int v1), (2, .int v2), (3, .int v3), (4, .int v4), (5, .int v5)]) (by decide) rfl rfl (Nat.le_of_ble_eq_true rfl) rfl ?_
  intro p e s m args below meth c A C
  unfold wpX10_friends at h
  refine SW.aload_n C dX10_friends_0 rfl 0 rfl ?_
  refine SW.iload_n C dX10_friends_1 rfl 1 rfl ?_
  refine SW.iload_n C dX10_friends_2 rfl 3 rfl ?_
  refine SW.callVi_same C (ctX10_areTwo l D cI cZ qY oY v1 v3 _ h) gX10_friends_X10_areTwo rfl rfl rfl pdX10_areTwo ⟨by decide, by decide⟩ 0 rfl rfl rfl rfl rfl (Nat.le_of_ble_eq_true rfl) dX10_friends_3 (by decide) (fun r3 u h => ?_)
  try dsimp only at h
  refine SW.if_ne (tgt := 11) C dX10_friends_6 (by decide) (fun hc => ?_) (fun hc => ?_)
  · replace h := h.2 hc
    refine SW.iload_n C dX10_friends_11 rfl 2 rfl ?_
    refine SW.iconst (v := (1 : Int32)) C dX10_friends_12 (by decide) ?_
    refine SW.sipush (v := (200 : Int32)) C dX10_friends_13 (by decide) ?_
    refine SW.callSi_pure C (ctX10_in l D cI cZ v2 (1 : Int32) (200 : Int32) _ h) gX10_friends_X10_in rfl rfl rfl pdX10_in ⟨by decide, by decide⟩ rfl rfl (Nat.le_of_ble_eq_true rfl) dX10_friends_16 (by decide) (fun r16 u h => ?_)
    try dsimp only at h
    refine SW.if_eq (tgt := 44) C dX10_friends_19 (by decide) (fun hc => ?_) (fun hc => ?_)
    · replace h := h.1 hc
      refine SW.bipush (v := (-2 : Int32)) C dX10_friends_44 (by decide) ?_
      exact SW.iret C () rfl h dX10_friends_46
    · replace h := h.2 hc
      refine SW.iload C dX10_friends_22 4 rfl ?_
      refine SW.iconst (v := (1 : Int32)) C dX10_friends_24 (by decide) ?_
      refine SW.sipush (v := (200 : Int32)) C dX10_friends_25 (by decide) ?_
      refine SW.callSi_pure C (ctX10_in l D cI cZ v4 (1 : Int32) (200 : Int32) _ h) gX10_friends_X10_in rfl rfl rfl pdX10_in ⟨by decide, by decide⟩ rfl rfl (Nat.le_of_ble_eq_true rfl) dX10_friends_28 (by decide) (fun r28 u h => ?_)
      try dsimp only at h
      refine SW.if_eq (tgt := 44) C dX10_friends_31 (by decide) (fun hc => ?_) (fun hc => ?_)
      · replace h := h.1 hc
        refine SW.bipush (v := (-2 : Int32)) C dX10_friends_44 (by decide) ?_
        exact SW.iret C () rfl h dX10_friends_46
      · replace h := h.2 hc
        refine SW.iload C dX10_friends_34 5 rfl ?_
        refine SW.iconst (v := (0 : Int32)) C dX10_friends_36 (by decide) ?_
        refine SW.iconst (v := (1 : Int32)) C dX10_friends_37 (by decide) ?_
        refine SW.callSi_pure C (ctX10_in l D cI cZ v5 (0 : Int32) (1 : Int32) _ h) gX10_friends_X10_in rfl rfl rfl pdX10_in ⟨by decide, by decide⟩ rfl rfl (Nat.le_of_ble_eq_true rfl) dX10_friends_38 (by decide) (fun r38 u h => ?_)
        try dsimp only at h
        refine SW.if_ne (tgt := 47) C dX10_friends_41 (by decide) (fun hc => ?_) (fun hc => ?_)
        · replace h := h.2 hc
          refine SW.aload_n C dX10_friends_47 rfl 0 rfl ?_
          refine SW.iload_n C dX10_friends_48 rfl 1 rfl ?_
          refine SW.iload_n C dX10_friends_49 rfl 2 rfl ?_
          refine SW.iload_n C dX10_friends_50 rfl 3 rfl ?_
          refine SW.iload C dX10_friends_51 4 rfl ?_
          refine SW.callVi_same C (ctX10_fewestFor l D cI cZ qY oY v1 v2 v3 v4 _ h) gX10_friends_X10_fewestFor rfl rfl rfl pdX10_fewestFor ⟨by decide, by decide⟩ 0 rfl rfl rfl rfl rfl (Nat.le_of_ble_eq_true rfl) dX10_friends_53 (by decide) (fun r53 u h => ?_)
          try dsimp only at h
          refine SW.istore (lv' := [(6, .int r53), (0, .ref (qY 0)), (1, .int v1), (2, .int v2), (3, .int v3), (4, .int v4), (5, .int v5)]) C dX10_friends_56 (by decide) rfl ?_
          refine SW.iload C dX10_friends_58 0 rfl ?_
          refine jn0_elim (G := SW p l e { frames := 3, cells := 0, slots := 0, locals := 77 } s m args below meth c A D 7 0 0 (MQ below (va_Qi (fun (r : Int32) (_ : Unit) => post r) (ctB D A (fun _ : Unit => w10 cI cZ qY oY)) A) args s 0 0 A) (w10 cI cZ qY oY) 69 [(6, .int r53)] []) h (fun h => ?_) (fun J69 hJ69 h => ?_)
          · refine SW.iload C dX10_friends_69 0 rfl ?_
            refine SW.goto (tgt := 79) C dX10_friends_71 (by decide) ?_
            exact SW.iret C () rfl h dX10_friends_79
          · refine SW.if_lt (tgt := 69) C dX10_friends_60 (by decide) (fun hc => ?_) (fun hc => ?_)
            · replace h := h.1 hc
              refine SW.sub [0] rfl ?_
              exact hJ69 h
            · replace h := h.2 hc
              refine SW.iload C dX10_friends_63 6 rfl ?_
              refine SW.iconst (v := (1 : Int32)) C dX10_friends_65 (by decide) ?_
              refine SW.icmp_ne (tgt := 74) C dX10_friends_66 (by decide) (fun hc => ?_) (fun hc => ?_)
              · replace h := h.2 hc
                refine SW.iload C dX10_friends_74 0 rfl ?_
                refine SW.callSi_pure C (ctX10_bits l D cI cZ r53 _ h) gX10_friends_X10_bits rfl rfl rfl pdX10_bits ⟨by decide, by decide⟩ rfl rfl (Nat.le_of_ble_eq_true rfl) dX10_friends_76 (by decide) (fun r76 u h => ?_)
                try dsimp only at h
                exact SW.iret C () rfl h dX10_friends_79
              · replace h := h.1 hc
                refine SW.sub [0] rfl ?_
                exact hJ69 h
        · replace h := h.1 hc
          refine SW.bipush (v := (-2 : Int32)) C dX10_friends_44 (by decide) ?_
          exact SW.iret C () rfl h dX10_friends_46
  · replace h := h.1 hc
    refine SW.iconst (v := (-1 : Int32)) C dX10_friends_9 (by decide) ?_
    exact SW.iret C () rfl h dX10_friends_10
def wpX10_note (oY : Ob) (v1 : Int32) (post : Int32 → Prop) : Prop := (vp_in ((2 : Int32) * v1) 60) ∧ ((vp_in (((2 : Int32) * v1) + (1 : Int32)) 60) ∧ (post ((((10 : Int32) * ((jld (oY 4) ((2 : Int32) * v1)) - (48 : Int32))) + (jld (oY 4) (((2 : Int32) * v1) + (1 : Int32)))) - (48 : Int32))))
theorem pdX10_note : yX10_note.cls = RX10 ∧ yX10_note.cls ≠ "java/lang/invoke/MethodHandle" ∧ yX10_note.cls ≠ "java/lang/invoke/VarHandle" ∧ (parseMethodDescriptor yX10_note.desc).map (fun d => d.parameters.length) = some 1 := by decide +kernel
theorem lkX10_note_32 : Cond.fieldLink RX10 32 (TX10 11).1 (TX10 11).2.1 (TX10 11).2.2.1 ∈ wsX10_note := by decide +kernel
theorem inX10_note_X10 : ∀ w ∈ u_ws RX10 TX10 25, w ∈ wsX10_note := by decide +kernel
set_option maxHeartbeats 4000000 in
set_option maxRecDepth 100000 in
theorem ctX10_note (l : Launch) (D : va_G) (cI cZ : ClassId) (qY : Nat → Nat) (oY : Ob) (v1 : Int32) (post : Int32 → Prop) (h : wpX10_note oY v1 post) : CTi l yX10_note wsX10_note { frames := 0, cells := 0, slots := 0, locals := 0 } D [(cI, .int), (cZ, .boolean)] [.ref (qY 0), .int v1] (w10 cI cZ qY oY) (fun _ : Unit => w10 cI cZ qY oY) (fun (r : Int32) (_ : Unit) => post r) := by
  refine CTi.of (cc := cX10_note) (own := RX10) (maxL := 2) (ret := (some .int)) (lv0 := [(0, .ref (qY 0)), (1, .int v1)]) (by decide) rfl rfl (Nat.le_of_ble_eq_true rfl) rfl ?_
  intro p e s m args below meth c A C
  unfold wpX10_note at h
  refine SW.bipush (v := (10 : Int32)) C dX10_note_0 (by decide) ?_
  refine SW.aload_n C dX10_note_2 rfl 0 rfl ?_
  refine SW.get (v := .ref (qY 4)) (T := TX10) (N := 25) C inX10_note_X10 0 rfl rfl 11 (by decide) lkX10_note_32 rfl dX10_note_3 ?_
  refine SW.iconst (v := (2 : Int32)) C dX10_note_6 (by decide) ?_
  refine SW.iload_n C dX10_note_7 rfl 1 rfl ?_
  refine SW.imul C dX10_note_8 ?_
  refine SW.iald C 4 0 rfl rfl h.1 dX10_note_9 ?_
  replace h := h.2
  refine SW.bipush (v := (48 : Int32)) C dX10_note_10 (by decide) ?_
  refine SW.isub C dX10_note_12 ?_
  refine SW.imul C dX10_note_13 ?_
  refine SW.aload_n C dX10_note_14 rfl 0 rfl ?_
  refine SW.get (v := .ref (qY 4)) (T := TX10) (N := 25) C inX10_note_X10 0 rfl rfl 11 (by decide) lkX10_note_32 rfl dX10_note_15 ?_
  refine SW.iconst (v := (2 : Int32)) C dX10_note_18 (by decide) ?_
  refine SW.iload_n C dX10_note_19 rfl 1 rfl ?_
  refine SW.imul C dX10_note_20 ?_
  refine SW.iconst (v := (1 : Int32)) C dX10_note_21 (by decide) ?_
  refine SW.iadd C dX10_note_22 ?_
  refine SW.iald C 4 0 rfl rfl h.1 dX10_note_23 ?_
  replace h := h.2
  refine SW.iadd C dX10_note_24 ?_
  refine SW.bipush (v := (48 : Int32)) C dX10_note_25 (by decide) ?_
  refine SW.isub C dX10_note_27 ?_
  exact SW.iret C () rfl h dX10_note_28
def wpX10_changes_L42 (c3_42 : Int32) (K76 : Ob → Prop) : Nat → Int32 → Ob → Prop
  | 0, _, _ => False
  | fu42 + 1, v4_42, oY_42 => ((c3_42 ≤ v4_42) → K76 oY_42) ∧ (¬ (c3_42 ≤ v4_42) → jn2 (fun (p0_69 : Int32) (p1_69 : Int32) => (vp_in p1_69 1024) ∧ (wpX10_changes_L42 c3_42 K76 fu42 (v4_42 + (1 : Int32)) (pa oY_42 5 (nC p1_69) p0_69))) (fun J69 => ((v4_42 = (oY_42 0 6)) → J69 (0 : Int32) v4_42) ∧ (¬ (v4_42 = (oY_42 0 6)) → J69 (1000000 : Int32) v4_42)))
def wpX10_changes_L144 (c3_144 : Int32) (c6_144 : Int32) (E222 : Ob → Prop) : Nat → Int32 → Ob → Prop
  | 0, _, _ => False
  | fu144 + 1, v7_144, oY_144 => ((c3_144 ≤ v7_144) → E222 oY_144) ∧ (¬ (c3_144 ≤ v7_144) → (vp_in v7_144 1024) ∧ (jn1 (fun (p0_183 : Int32) => (vp_in c6_144 1024) ∧ (jn2 (fun (p0_215 : Int32) (p1_215 : Int32) => (vp_in p1_215 1024) ∧ (wpX10_changes_L144 c3_144 c6_144 E222 fu144 (v7_144 + (1 : Int32)) (pa oY_144 6 (nC p1_215) p0_215))) (fun J215 => (((jld (oY_144 6) c6_144) ≤ p0_183) → (vp_in c6_144 1024) ∧ (J215 (jld (oY_144 6) c6_144) c6_144)) ∧ (¬ ((jld (oY_144 6) c6_144) ≤ p0_183) → J215 p0_183 c6_144)))) (fun J183 => (((jld (oY_144 5) v7_144) = (1000000 : Int32)) → J183 (1000000 : Int32)) ∧ (¬ ((jld (oY_144 5) v7_144) = (1000000 : Int32)) → (vp_in v7_144 1024) ∧ (wpX10_bits (v7_144 ^^^ c6_144) (fun (r179 : Int32) => J183 ((jld (oY_144 5) v7_144) + r179)))))))
def wpX10_changes_L101 (c1_101 : Int32) (c3_101 : Int32) (c5_101 : Int32) (K228 : Ob → Prop) : Nat → Int32 → Ob → Prop
  | 0, _, _ => False
  | fu101 + 1, v6_101, oY_101 => ((c3_101 ≤ v6_101) → K228 oY_101) ∧ (¬ (c3_101 ≤ v6_101) → (vp_in v6_101 1024) ∧ (wpX10_canBe (pa oY_101 6 (nC v6_101) (1000000 : Int32)) v6_101 (fun (r119 : Int32) => jn1 (fun (oY_222 : Ob) => wpX10_changes_L101 c1_101 c3_101 c5_101 K228 fu101 (v6_101 + (1 : Int32)) oY_222) (fun J222 => ((r119 = 0) → J222 (pa oY_101 6 (nC v6_101) (1000000 : Int32))) ∧ (¬ (r119 = 0) → wpX10_lengthOf (pa oY_101 6 (nC v6_101) (1000000 : Int32)) c1_101 v6_101 (oY_101 0 5) (fun (r133 : Int32) => ((r133 = c5_101) → ∃ fu144 : Nat, wpX10_changes_L144 c3_101 v6_101 J222 fu144 (0 : Int32) (pa oY_101 6 (nC v6_101) (1000000 : Int32))) ∧ (¬ (r133 = c5_101) → J222 (pa oY_101 6 (nC v6_101) (1000000 : Int32)))))))))
def wpX10_changes_L231 (c3_231 : Int32) (K257 : Ob → Prop) : Nat → Int32 → Ob → Prop
  | 0, _, _ => False
  | fu231 + 1, v6_231, oY_231 => ((c3_231 ≤ v6_231) → K257 oY_231) ∧ (¬ (c3_231 ≤ v6_231) → (vp_in v6_231 1024) ∧ ((vp_in v6_231 1024) ∧ (wpX10_changes_L231 c3_231 K257 fu231 (v6_231 + (1 : Int32)) (pa oY_231 5 (nC v6_231) (jld (oY_231 6) v6_231)))))
def wpX10_changes_L79 (c1_79 : Int32) (c3_79 : Int32) (K263 : Ob → Prop) : Nat → Int32 → Ob → Prop
  | 0, _, _ => False
  | fu79 + 1, v4_79, oY_79 => ((((oY_79 0 10) / (2 : Int32)) ≤ v4_79) → K263 oY_79) ∧ (¬ (((oY_79 0 10) / (2 : Int32)) ≤ v4_79) → wpX10_note oY_79 v4_79 (fun (r93 : Int32) => ∃ fu101 : Nat, wpX10_changes_L101 c1_79 c3_79 r93 (fun (oY_228 : Ob) => ∃ fu231 : Nat, wpX10_changes_L231 c3_79 (fun (oY_257 : Ob) => wpX10_changes_L79 c1_79 c3_79 K263 fu79 (v4_79 + (1 : Int32)) oY_257) fu231 (0 : Int32) oY_228) fu101 (0 : Int32) oY_79))
def wpX10_changes_L274 (c3_274 : Int32) (oYc_274 : Ob) (K333 : Int32 → Int32 → Prop) : Nat → Int32 → Int32 → Int32 → Prop
  | 0, _, _, _ => False
  | fu274 + 1, v4_274, v5_274, v6_274 => ((c3_274 ≤ v6_274) → K333 v4_274 v5_274) ∧ (¬ (c3_274 ≤ v6_274) → (vp_in v6_274 1024) ∧ (jn1 (fun (p0_299 : Int32) => (vp_in v6_274 1024) ∧ (jn1 (fun (p0_325 : Int32) => wpX10_changes_L274 c3_274 oYc_274 K333 fu274 p0_299 p0_325 (v6_274 + (1 : Int32))) (fun J325 => ((v5_274 ≤ (jld (oYc_274 5) v6_274)) → J325 v5_274) ∧ (¬ (v5_274 ≤ (jld (oYc_274 5) v6_274)) → (vp_in v6_274 1024) ∧ (J325 (jld (oYc_274 5) v6_274)))))) (fun J299 => ((v5_274 ≤ (jld (oYc_274 5) v6_274)) → J299 v4_274) ∧ (¬ (v5_274 ≤ (jld (oYc_274 5) v6_274)) → J299 v6_274))))
def wpX10_changes (oY : Ob) (v1 : Int32) (v2 : Int32) (post : Int32 → Ob → Prop) : Prop := wpX10_isWindow oY v1 (fun (r2 : Int32) => ((r2 = 0) → post (-1 : Int32) oY) ∧ (¬ (r2 = 0) → wpX10_in v2 (0 : Int32) (1 : Int32) (fun (r13 : Int32) => ((r13 = 0) → post (-2 : Int32) oY) ∧ (¬ (r13 = 0) → wpX10_tuneFault oY (fun (r23 : Int32) => ((r23 < 0) → ∃ fu42 : Nat, wpX10_changes_L42 (jshl (1 : Int32) (oY 0 0)) (fun (oY_76 : Ob) => ∃ fu79 : Nat, wpX10_changes_L79 v1 (jshl (1 : Int32) (oY 0 0)) (fun (oY_263 : Ob) => ∃ fu274 : Nat, wpX10_changes_L274 (jshl (1 : Int32) (oY 0 0)) oY_263 (fun (v4_333 : Int32) (v5_333 : Int32) => jn0 (post v4_333 oY_263) (fun J343 => ((v4_333 < 0) → J343) ∧ (¬ (v4_333 < 0) → ((v2 = (1 : Int32)) → J343) ∧ (¬ (v2 = (1 : Int32)) → post v5_333 oY_263)))) fu274 (-6 : Int32) (1000000 : Int32) (0 : Int32)) fu79 (0 : Int32) oY_76) fu42 (0 : Int32) oY) ∧ (¬ (r23 < 0) → post (-5 : Int32) oY))))))
theorem pdX10_changes : yX10_changes.cls = RX10 ∧ yX10_changes.cls ≠ "java/lang/invoke/MethodHandle" ∧ yX10_changes.cls ≠ "java/lang/invoke/VarHandle" ∧ (parseMethodDescriptor yX10_changes.desc).map (fun d => d.parameters.length) = some 2 := by decide +kernel
theorem lkX10_changes_7 : Cond.fieldLink RX10 7 (TX10 0).1 (TX10 0).2.1 (TX10 0).2.2.1 ∈ wsX10_changes := by decide +kernel
theorem inX10_changes_X10 : ∀ w ∈ u_ws RX10 TX10 25, w ∈ wsX10_changes := by decide +kernel
theorem lkX10_changes_35 : Cond.fieldLink RX10 35 (TX10 18).1 (TX10 18).2.1 (TX10 18).2.2.1 ∈ wsX10_changes := by decide +kernel
theorem lkX10_changes_63 : Cond.fieldLink RX10 63 (TX10 6).1 (TX10 6).2.1 (TX10 6).2.2.1 ∈ wsX10_changes := by decide +kernel
theorem lkX10_changes_77 : Cond.fieldLink RX10 77 (TX10 10).1 (TX10 10).2.1 (TX10 10).2.2.1 ∈ wsX10_changes := by decide +kernel
theorem lkX10_changes_38 : Cond.fieldLink RX10 38 (TX10 19).1 (TX10 19).2.1 (TX10 19).2.2.1 ∈ wsX10_changes := by decide +kernel
theorem lkX10_changes_60 : Cond.fieldLink RX10 60 (TX10 5).1 (TX10 5).2.1 (TX10 5).2.2.1 ∈ wsX10_changes := by decide +kernel
set_option maxHeartbeats 4000000 in
set_option maxRecDepth 100000 in
theorem ctX10_changes (l : Launch) (D : va_G) (cI cZ : ClassId) (qY : Nat → Nat) (oY : Ob) (v1 : Int32) (v2 : Int32) (post : Int32 → Ob → Prop) (h : wpX10_changes oY v1 v2 post) : CTi l yX10_changes wsX10_changes { frames := 2, cells := 0, slots := 0, locals := 49 } D [(cI, .int), (cZ, .boolean)] [.ref (qY 0), .int v1, .int v2] (w10 cI cZ qY oY) (fun u : Ob => w10 cI cZ qY u) (fun (r : Int32) (u : Ob) => post r u) := by
  refine CTi.of (cc := cX10_changes) (own := RX10) (maxL := 9) (ret := (some .int)) (lv0 := [(0, .ref (qY 0)), (1, .int v1), (2, .int v2)]) (by decide) rfl rfl (Nat.le_of_ble_eq_true rfl) rfl ?_
  intro p e s m args below meth c A C
  unfold wpX10_changes at h
  refine SW.aload_n C dX10_changes_0 rfl 0 rfl ?_
  refine SW.iload_n C dX10_changes_1 rfl 1 rfl ?_
  refine SW.callVi_same C (ctX10_isWindow l D cI cZ qY oY v1 _ h) gX10_changes_X10_isWindow rfl rfl rfl pdX10_isWindow ⟨by decide, by decide⟩ 0 rfl rfl rfl rfl rfl (Nat.le_of_ble_eq_true rfl) dX10_changes_2 (by decide) (fun r2 u h => ?_)
  try dsimp only at h
  refine SW.if_ne (tgt := 10) C dX10_changes_5 (by decide) (fun hc => ?_) (fun hc => ?_)
  · replace h := h.2 hc
    refine SW.iload_n C dX10_changes_10 rfl 2 rfl ?_
    refine SW.iconst (v := (0 : Int32)) C dX10_changes_11 (by decide) ?_
    refine SW.iconst (v := (1 : Int32)) C dX10_changes_12 (by decide) ?_
    refine SW.callSi_pure C (ctX10_in l D cI cZ v2 (0 : Int32) (1 : Int32) _ h) gX10_changes_X10_in rfl rfl rfl pdX10_in ⟨by decide, by decide⟩ rfl rfl (Nat.le_of_ble_eq_true rfl) dX10_changes_13 (by decide) (fun r13 u h => ?_)
    try dsimp only at h
    refine SW.if_ne (tgt := 22) C dX10_changes_16 (by decide) (fun hc => ?_) (fun hc => ?_)
    · replace h := h.2 hc
      refine SW.aload_n C dX10_changes_22 rfl 0 rfl ?_
      refine SW.callVi_same C (ctX10_tuneFault l D cI cZ qY oY _ h) gX10_changes_X10_tuneFault rfl rfl rfl pdX10_tuneFault ⟨by decide, by decide⟩ 0 rfl rfl rfl rfl rfl (Nat.le_of_ble_eq_true rfl) dX10_changes_23 (by decide) (fun r23 u h => ?_)
      try dsimp only at h
      refine SW.if_lt (tgt := 32) C dX10_changes_26 (by decide) (fun hc => ?_) (fun hc => ?_)
      · replace h := h.1 hc
        refine SW.iconst (v := (1 : Int32)) C dX10_changes_32 (by decide) ?_
        refine SW.aload_n C dX10_changes_33 rfl 0 rfl ?_
        refine SW.get (v := .int (oY 0 0)) (T := TX10) (N := 25) C inX10_changes_X10 0 rfl rfl 0 (by decide) lkX10_changes_7 rfl dX10_changes_34 ?_
        refine SW.ishl C dX10_changes_37 ?_
        refine SW.istore_n (lv' := [(3, .int (jshl (1 : Int32) (oY 0 0))), (0, .ref (qY 0)), (1, .int v1), (2, .int v2)]) C dX10_changes_38 rfl (by decide) rfl ?_
        refine SW.iconst (v := (0 : Int32)) C dX10_changes_39 (by decide) ?_
        refine SW.istore (lv' := [(4, .int (0 : Int32)), (3, .int (jshl (1 : Int32) (oY 0 0))), (0, .ref (qY 0)), (1, .int v1), (2, .int v2)]) C dX10_changes_40 (by decide) rfl ?_
        have L42 : ∀ (K76 : Ob → Prop) (hK76 : ∀ (oY_76 : Ob), K76 oY_76 → SW p l e { frames := 2, cells := 0, slots := 0, locals := 49 } s m args below meth c A D 9 0 0 (MQ below (va_Qi (fun (r : Int32) (u : Ob) => post r u) (ctB D A (fun u : Ob => w10 cI cZ qY u)) A) args s 0 0 A) (w10 cI cZ qY oY_76) 76 [(0, .ref (qY 0)), (1, .int v1), (2, .int v2), (3, .int (jshl (1 : Int32) (oY 0 0)))] []) (fu : Nat) (v4_42 : Int32) (oY_42 : Ob), wpX10_changes_L42 (jshl (1 : Int32) (oY 0 0)) K76 fu v4_42 oY_42 → SW p l e { frames := 2, cells := 0, slots := 0, locals := 49 } s m args below meth c A D 9 0 0 (MQ below (va_Qi (fun (r : Int32) (u : Ob) => post r u) (ctB D A (fun u : Ob => w10 cI cZ qY u)) A) args s 0 0 A) (w10 cI cZ qY oY_42) 42 [(0, .ref (qY 0)), (1, .int v1), (2, .int v2), (3, .int (jshl (1 : Int32) (oY 0 0))), (4, .int v4_42)] [] := by
          intro K76 hK76 fu
          induction fu with
          | zero =>
            intro v4_42 oY_42 h
            exact False.elim h
          | succ fu ih =>
            intro v4_42 oY_42 h
            unfold wpX10_changes_L42 at h
            refine SW.iload C dX10_changes_42 4 rfl ?_
            refine SW.iload_n C dX10_changes_44 rfl 3 rfl ?_
            refine SW.icmp_ge (tgt := 76) C dX10_changes_45 (by decide) (fun hc => ?_) (fun hc => ?_)
            · replace h := h.1 hc
              refine SW.sub [0, 1, 2, 3] rfl ?_
              exact hK76 _ h
            · replace h := h.2 hc
              refine SW.aload_n C dX10_changes_48 rfl 0 rfl ?_
              refine SW.get (v := .ref (qY 5)) (T := TX10) (N := 25) C inX10_changes_X10 0 rfl rfl 18 (by decide) lkX10_changes_35 rfl dX10_changes_49 ?_
              refine SW.iload C dX10_changes_52 4 rfl ?_
              refine SW.iload C dX10_changes_54 4 rfl ?_
              refine SW.aload_n C dX10_changes_56 rfl 0 rfl ?_
              refine SW.get (v := .int (oY_42 0 6)) (T := TX10) (N := 25) C inX10_changes_X10 0 rfl rfl 6 (by decide) lkX10_changes_63 rfl dX10_changes_57 ?_
              refine jn2_elim (G := fun p0_69 p1_69 => SW p l e { frames := 2, cells := 0, slots := 0, locals := 49 } s m args below meth c A D 9 0 0 (MQ below (va_Qi (fun (r : Int32) (u : Ob) => post r u) (ctB D A (fun u : Ob => w10 cI cZ qY u)) A) args s 0 0 A) (w10 cI cZ qY oY_42) 69 [(0, .ref (qY 0)), (1, .int v1), (2, .int v2), (3, .int (jshl (1 : Int32) (oY 0 0))), (4, .int v4_42)] [.int p0_69, .int p1_69, .ref (qY 5)]) h (fun p0_69 p1_69 h => ?_) (fun J69 hJ69 h => ?_)
              · refine SW.iast (ws' := w10 cI cZ qY (pa oY_42 5 (nC p1_69) p0_69)) C 5 0 rfl rfl h.1 rfl dX10_changes_69 ?_
                replace h := h.2
                refine SW.iinc (q := 4) (v := (v4_42 + (1 : Int32))) (lv' := [(4, .int (v4_42 + (1 : Int32))), (0, .ref (qY 0)), (1, .int v1), (2, .int v2), (3, .int (jshl (1 : Int32) (oY 0 0)))]) C dX10_changes_70 rfl rfl (by decide) rfl ?_
                refine SW.goto (tgt := 42) C dX10_changes_73 (by decide) ?_
                refine SW.sub [1, 2, 3, 4, 0] rfl ?_
                exact ih _ _ h
              · refine SW.icmp_ne (tgt := 67) C dX10_changes_60 (by decide) (fun hc => ?_) (fun hc => ?_)
                · replace h := h.2 hc
                  refine SW.ldc (v := (1000000 : Int32)) C (by decide +kernel) dX10_changes_67 ?_
                  exact hJ69 _ _ h
                · replace h := h.1 hc
                  refine SW.iconst (v := (0 : Int32)) C dX10_changes_63 (by decide) ?_
                  refine SW.goto (tgt := 69) C dX10_changes_64 (by decide) ?_
                  exact hJ69 _ _ h
        obtain ⟨fu, h⟩ := h
        refine SW.sub [2, 3, 4, 1, 0] rfl ?_
        refine L42 _ (fun oY_76 h => ?_) fu _ _ h
        · refine SW.iconst (v := (0 : Int32)) C dX10_changes_76 (by decide) ?_
          refine SW.istore (lv' := [(4, .int (0 : Int32)), (0, .ref (qY 0)), (1, .int v1), (2, .int v2), (3, .int (jshl (1 : Int32) (oY 0 0)))]) C dX10_changes_77 (by decide) rfl ?_
          have L79 : ∀ (K263 : Ob → Prop) (hK263 : ∀ (oY_263 : Ob), K263 oY_263 → SW p l e { frames := 2, cells := 0, slots := 0, locals := 49 } s m args below meth c A D 9 0 0 (MQ below (va_Qi (fun (r : Int32) (u : Ob) => post r u) (ctB D A (fun u : Ob => w10 cI cZ qY u)) A) args s 0 0 A) (w10 cI cZ qY oY_263) 263 [(0, .ref (qY 0)), (2, .int v2), (3, .int (jshl (1 : Int32) (oY 0 0)))] []) (fu : Nat) (v4_79 : Int32) (oY_79 : Ob), wpX10_changes_L79 v1 (jshl (1 : Int32) (oY 0 0)) K263 fu v4_79 oY_79 → SW p l e { frames := 2, cells := 0, slots := 0, locals := 49 } s m args below meth c A D 9 0 0 (MQ below (va_Qi (fun (r : Int32) (u : Ob) => post r u) (ctB D A (fun u : Ob => w10 cI cZ qY u)) A) args s 0 0 A) (w10 cI cZ qY oY_79) 79 [(0, .ref (qY 0)), (1, .int v1), (2, .int v2), (3, .int (jshl (1 : Int32) (oY 0 0))), (4, .int v4_79)] [] := by
            intro K263 hK263 fu
            induction fu with
            | zero =>
              intro v4_79 oY_79 h
              exact False.elim h
            | succ fu ih =>
              intro v4_79 oY_79 h
              unfold wpX10_changes_L79 at h
              refine SW.iload C dX10_changes_79 4 rfl ?_
              refine SW.aload_n C dX10_changes_81 rfl 0 rfl ?_
              refine SW.get (v := .int (oY_79 0 10)) (T := TX10) (N := 25) C inX10_changes_X10 0 rfl rfl 10 (by decide) lkX10_changes_77 rfl dX10_changes_82 ?_
              refine SW.iconst (v := (2 : Int32)) C dX10_changes_85 (by decide) ?_
              refine SW.idiv C dX10_changes_86 (by decide) ?_
              refine SW.icmp_ge (tgt := 263) C dX10_changes_87 (by decide) (fun hc => ?_) (fun hc => ?_)
              · replace h := h.1 hc
                refine SW.sub [0, 2, 3] rfl ?_
                exact hK263 _ h
              · replace h := h.2 hc
                refine SW.aload_n C dX10_changes_90 rfl 0 rfl ?_
                refine SW.iload C dX10_changes_91 4 rfl ?_
                refine SW.callVi_same C (ctX10_note l D cI cZ qY oY_79 v4_79 _ h) gX10_changes_X10_note rfl rfl rfl pdX10_note ⟨by decide, by decide⟩ 0 rfl rfl rfl rfl rfl (Nat.le_of_ble_eq_true rfl) dX10_changes_93 (by decide) (fun r93 u h => ?_)
                try dsimp only at h
                refine SW.istore (lv' := [(5, .int r93), (0, .ref (qY 0)), (1, .int v1), (2, .int v2), (3, .int (jshl (1 : Int32) (oY 0 0))), (4, .int v4_79)]) C dX10_changes_96 (by decide) rfl ?_
                refine SW.iconst (v := (0 : Int32)) C dX10_changes_98 (by decide) ?_
                refine SW.istore (lv' := [(6, .int (0 : Int32)), (5, .int r93), (0, .ref (qY 0)), (1, .int v1), (2, .int v2), (3, .int (jshl (1 : Int32) (oY 0 0))), (4, .int v4_79)]) C dX10_changes_99 (by decide) rfl ?_
                have L101 : ∀ (K228 : Ob → Prop) (hK228 : ∀ (oY_228 : Ob), K228 oY_228 → SW p l e { frames := 2, cells := 0, slots := 0, locals := 49 } s m args below meth c A D 9 0 0 (MQ below (va_Qi (fun (r : Int32) (u : Ob) => post r u) (ctB D A (fun u : Ob => w10 cI cZ qY u)) A) args s 0 0 A) (w10 cI cZ qY oY_228) 228 [(0, .ref (qY 0)), (1, .int v1), (2, .int v2), (3, .int (jshl (1 : Int32) (oY 0 0))), (4, .int v4_79)] []) (fu : Nat) (v6_101 : Int32) (oY_101 : Ob), wpX10_changes_L101 v1 (jshl (1 : Int32) (oY 0 0)) r93 K228 fu v6_101 oY_101 → SW p l e { frames := 2, cells := 0, slots := 0, locals := 49 } s m args below meth c A D 9 0 0 (MQ below (va_Qi (fun (r : Int32) (u : Ob) => post r u) (ctB D A (fun u : Ob => w10 cI cZ qY u)) A) args s 0 0 A) (w10 cI cZ qY oY_101) 101 [(0, .ref (qY 0)), (1, .int v1), (2, .int v2), (3, .int (jshl (1 : Int32) (oY 0 0))), (4, .int v4_79), (5, .int r93), (6, .int v6_101)] [] := by
                  intro K228 hK228 fu
                  induction fu with
                  | zero =>
                    intro v6_101 oY_101 h
                    exact False.elim h
                  | succ fu ih =>
                    intro v6_101 oY_101 h
                    unfold wpX10_changes_L101 at h
                    refine SW.iload C dX10_changes_101 6 rfl ?_
                    refine SW.iload_n C dX10_changes_103 rfl 3 rfl ?_
                    refine SW.icmp_ge (tgt := 228) C dX10_changes_104 (by decide) (fun hc => ?_) (fun hc => ?_)
                    · replace h := h.1 hc
                      refine SW.sub [0, 1, 2, 3, 4] rfl ?_
                      exact hK228 _ h
                    · replace h := h.2 hc
                      refine SW.aload_n C dX10_changes_107 rfl 0 rfl ?_
                      refine SW.get (v := .ref (qY 6)) (T := TX10) (N := 25) C inX10_changes_X10 0 rfl rfl 19 (by decide) lkX10_changes_38 rfl dX10_changes_108 ?_
                      refine SW.iload C dX10_changes_111 6 rfl ?_
                      refine SW.ldc (v := (1000000 : Int32)) C (by decide +kernel) dX10_changes_113 ?_
                      refine SW.iast (ws' := w10 cI cZ qY (pa oY_101 6 (nC v6_101) (1000000 : Int32))) C 6 0 rfl rfl h.1 rfl dX10_changes_115 ?_
                      replace h := h.2
                      refine SW.aload_n C dX10_changes_116 rfl 0 rfl ?_
                      refine SW.iload C dX10_changes_117 6 rfl ?_
                      refine SW.callVi_same C (ctX10_canBe l D cI cZ qY (pa oY_101 6 (nC v6_101) (1000000 : Int32)) v6_101 _ h) gX10_changes_X10_canBe rfl rfl rfl pdX10_canBe ⟨by decide, by decide⟩ 0 rfl rfl rfl rfl rfl (Nat.le_of_ble_eq_true rfl) dX10_changes_119 (by decide) (fun r119 u h => ?_)
                      try dsimp only at h
                      refine jn1_elim (G := fun oY_222 => SW p l e { frames := 2, cells := 0, slots := 0, locals := 49 } s m args below meth c A D 9 0 0 (MQ below (va_Qi (fun (r : Int32) (u : Ob) => post r u) (ctB D A (fun u : Ob => w10 cI cZ qY u)) A) args s 0 0 A) (w10 cI cZ qY oY_222) 222 [(0, .ref (qY 0)), (1, .int v1), (2, .int v2), (3, .int (jshl (1 : Int32) (oY 0 0))), (4, .int v4_79), (5, .int r93), (6, .int v6_101)] []) h (fun oY_222 h => ?_) (fun J222 hJ222 h => ?_)
                      · refine SW.iinc (q := 6) (v := (v6_101 + (1 : Int32))) (lv' := [(6, .int (v6_101 + (1 : Int32))), (0, .ref (qY 0)), (1, .int v1), (2, .int v2), (3, .int (jshl (1 : Int32) (oY 0 0))), (4, .int v4_79), (5, .int r93)]) C dX10_changes_222 rfl rfl (by decide) rfl ?_
                        refine SW.goto (tgt := 101) C dX10_changes_225 (by decide) ?_
                        refine SW.sub [1, 2, 3, 4, 5, 6, 0] rfl ?_
                        exact ih _ _ h
                      · refine SW.if_eq (tgt := 222) C dX10_changes_122 (by decide) (fun hc => ?_) (fun hc => ?_)
                        · replace h := h.1 hc
                          exact hJ222 _ h
                        · replace h := h.2 hc
                          refine SW.aload_n C dX10_changes_125 rfl 0 rfl ?_
                          refine SW.iload_n C dX10_changes_126 rfl 1 rfl ?_
                          refine SW.iload C dX10_changes_127 6 rfl ?_
                          refine SW.aload_n C dX10_changes_129 rfl 0 rfl ?_
                          refine SW.get (v := .int (oY_101 0 5)) (T := TX10) (N := 25) C inX10_changes_X10 0 rfl rfl 5 (by decide) lkX10_changes_60 rfl dX10_changes_130 ?_
                          refine SW.callVi_same C (ctX10_lengthOf l D cI cZ qY (pa oY_101 6 (nC v6_101) (1000000 : Int32)) v1 v6_101 (oY_101 0 5) _ h) gX10_changes_X10_lengthOf rfl rfl rfl pdX10_lengthOf ⟨by decide, by decide⟩ 0 rfl rfl rfl rfl rfl (Nat.le_of_ble_eq_true rfl) dX10_changes_133 (by decide) (fun r133 u h => ?_)
                          try dsimp only at h
                          refine SW.iload C dX10_changes_136 5 rfl ?_
                          refine SW.icmp_ne (tgt := 222) C dX10_changes_138 (by decide) (fun hc => ?_) (fun hc => ?_)
                          · replace h := h.2 hc
                            exact hJ222 _ h
                          · replace h := h.1 hc
                            refine SW.iconst (v := (0 : Int32)) C dX10_changes_141 (by decide) ?_
                            refine SW.istore (lv' := [(7, .int (0 : Int32)), (0, .ref (qY 0)), (1, .int v1), (2, .int v2), (3, .int (jshl (1 : Int32) (oY 0 0))), (4, .int v4_79), (5, .int r93), (6, .int v6_101)]) C dX10_changes_142 (by decide) rfl ?_
                            have L144 : ∀ (fu : Nat) (v7_144 : Int32) (oY_144 : Ob), wpX10_changes_L144 (jshl (1 : Int32) (oY 0 0)) v6_101 J222 fu v7_144 oY_144 → SW p l e { frames := 2, cells := 0, slots := 0, locals := 49 } s m args below meth c A D 9 0 0 (MQ below (va_Qi (fun (r : Int32) (u : Ob) => post r u) (ctB D A (fun u : Ob => w10 cI cZ qY u)) A) args s 0 0 A) (w10 cI cZ qY oY_144) 144 [(0, .ref (qY 0)), (1, .int v1), (2, .int v2), (3, .int (jshl (1 : Int32) (oY 0 0))), (4, .int v4_79), (5, .int r93), (6, .int v6_101), (7, .int v7_144)] [] := by
                              intro fu
                              induction fu with
                              | zero =>
                                intro v7_144 oY_144 h
                                exact False.elim h
                              | succ fu ih =>
                                intro v7_144 oY_144 h
                                unfold wpX10_changes_L144 at h
                                refine SW.iload C dX10_changes_144 7 rfl ?_
                                refine SW.iload_n C dX10_changes_146 rfl 3 rfl ?_
                                refine SW.icmp_ge (tgt := 222) C dX10_changes_147 (by decide) (fun hc => ?_) (fun hc => ?_)
                                · replace h := h.1 hc
                                  refine SW.sub [0, 1, 2, 3, 4, 5, 6] rfl ?_
                                  exact hJ222 _ h
                                · replace h := h.2 hc
                                  refine SW.aload_n C dX10_changes_150 rfl 0 rfl ?_
                                  refine SW.get (v := .ref (qY 5)) (T := TX10) (N := 25) C inX10_changes_X10 0 rfl rfl 18 (by decide) lkX10_changes_35 rfl dX10_changes_151 ?_
                                  refine SW.iload C dX10_changes_154 7 rfl ?_
                                  refine SW.iald C 5 0 rfl rfl h.1 dX10_changes_156 ?_
                                  replace h := h.2
                                  refine SW.ldc (v := (1000000 : Int32)) C (by decide +kernel) dX10_changes_157 ?_
                                  refine jn1_elim (G := fun p0_183 => SW p l e { frames := 2, cells := 0, slots := 0, locals := 49 } s m args below meth c A D 9 0 0 (MQ below (va_Qi (fun (r : Int32) (u : Ob) => post r u) (ctB D A (fun u : Ob => w10 cI cZ qY u)) A) args s 0 0 A) (w10 cI cZ qY oY_144) 183 [(0, .ref (qY 0)), (1, .int v1), (2, .int v2), (3, .int (jshl (1 : Int32) (oY 0 0))), (4, .int v4_79), (5, .int r93), (6, .int v6_101), (7, .int v7_144)] [.int p0_183]) h (fun p0_183 h => ?_) (fun J183 hJ183 h => ?_)
                                  · refine SW.istore (lv' := [(8, .int p0_183), (0, .ref (qY 0)), (1, .int v1), (2, .int v2), (3, .int (jshl (1 : Int32) (oY 0 0))), (4, .int v4_79), (5, .int r93), (6, .int v6_101), (7, .int v7_144)]) C dX10_changes_183 (by decide) rfl ?_
                                    refine SW.aload_n C dX10_changes_185 rfl 1 rfl ?_
                                    refine SW.get (v := .ref (qY 6)) (T := TX10) (N := 25) C inX10_changes_X10 0 rfl rfl 19 (by decide) lkX10_changes_38 rfl dX10_changes_186 ?_
                                    refine SW.iload C dX10_changes_189 7 rfl ?_
                                    refine SW.iload C dX10_changes_191 0 rfl ?_
                                    refine SW.aload_n C dX10_changes_193 rfl 1 rfl ?_
                                    refine SW.get (v := .ref (qY 6)) (T := TX10) (N := 25) C inX10_changes_X10 0 rfl rfl 19 (by decide) lkX10_changes_38 rfl dX10_changes_194 ?_
                                    refine SW.iload C dX10_changes_197 7 rfl ?_
                                    refine SW.iald C 6 0 rfl rfl h.1 dX10_changes_199 ?_
                                    replace h := h.2
                                    refine jn2_elim (G := fun p0_215 p1_215 => SW p l e { frames := 2, cells := 0, slots := 0, locals := 49 } s m args below meth c A D 9 0 0 (MQ below (va_Qi (fun (r : Int32) (u : Ob) => post r u) (ctB D A (fun u : Ob => w10 cI cZ qY u)) A) args s 0 0 A) (w10 cI cZ qY oY_144) 215 [(0, .ref (qY 0)), (1, .int v1), (2, .int v2), (3, .int (jshl (1 : Int32) (oY 0 0))), (4, .int v4_79), (5, .int r93), (6, .int v6_101), (7, .int v7_144)] [.int p0_215, .int p1_215, .ref (qY 6)]) h (fun p0_215 p1_215 h => ?_) (fun J215 hJ215 h => ?_)
                                    · refine SW.iast (ws' := w10 cI cZ qY (pa oY_144 6 (nC p1_215) p0_215)) C 6 0 rfl rfl h.1 rfl dX10_changes_215 ?_
                                      replace h := h.2
                                      refine SW.iinc (q := 7) (v := (v7_144 + (1 : Int32))) (lv' := [(7, .int (v7_144 + (1 : Int32))), (0, .ref (qY 0)), (1, .int v1), (2, .int v2), (3, .int (jshl (1 : Int32) (oY 0 0))), (4, .int v4_79), (5, .int r93), (6, .int v6_101)]) C dX10_changes_216 rfl rfl (by decide) rfl ?_
                                      refine SW.goto (tgt := 144) C dX10_changes_219 (by decide) ?_
                                      refine SW.sub [1, 2, 3, 4, 5, 6, 7, 0] rfl ?_
                                      exact ih _ _ h
                                    · refine SW.icmp_ge (tgt := 208) C dX10_changes_200 (by decide) (fun hc => ?_) (fun hc => ?_)
                                      · replace h := h.1 hc
                                        refine SW.aload_n C dX10_changes_208 rfl 1 rfl ?_
                                        refine SW.get (v := .ref (qY 6)) (T := TX10) (N := 25) C inX10_changes_X10 0 rfl rfl 19 (by decide) lkX10_changes_38 rfl dX10_changes_209 ?_
                                        refine SW.iload C dX10_changes_212 7 rfl ?_
                                        refine SW.iald C 6 0 rfl rfl h.1 dX10_changes_214 ?_
                                        replace h := h.2
                                        refine SW.sub [1, 2, 3, 4, 5, 6, 7, 8] rfl ?_
                                        exact hJ215 _ _ h
                                      · replace h := h.2 hc
                                        refine SW.iload C dX10_changes_203 0 rfl ?_
                                        refine SW.goto (tgt := 215) C dX10_changes_205 (by decide) ?_
                                        refine SW.sub [1, 2, 3, 4, 5, 6, 7, 8] rfl ?_
                                        exact hJ215 _ _ h
                                  · refine SW.icmp_ne (tgt := 167) C dX10_changes_159 (by decide) (fun hc => ?_) (fun hc => ?_)
                                    · replace h := h.2 hc
                                      refine SW.aload_n C dX10_changes_167 rfl 0 rfl ?_
                                      refine SW.get (v := .ref (qY 5)) (T := TX10) (N := 25) C inX10_changes_X10 0 rfl rfl 18 (by decide) lkX10_changes_35 rfl dX10_changes_168 ?_
                                      refine SW.iload C dX10_changes_171 7 rfl ?_
                                      refine SW.iald C 5 0 rfl rfl h.1 dX10_changes_173 ?_
                                      replace h := h.2
                                      refine SW.iload C dX10_changes_174 7 rfl ?_
                                      refine SW.iload C dX10_changes_176 6 rfl ?_
                                      refine SW.ixor C dX10_changes_178 ?_
                                      refine SW.callSi_pure C (ctX10_bits l D cI cZ (v7_144 ^^^ v6_101) _ h) gX10_changes_X10_bits rfl rfl rfl pdX10_bits ⟨by decide, by decide⟩ rfl rfl (Nat.le_of_ble_eq_true rfl) dX10_changes_179 (by decide) (fun r179 u h => ?_)
                                      try dsimp only at h
                                      refine SW.iadd C dX10_changes_182 ?_
                                      exact hJ183 _ h
                                    · replace h := h.1 hc
                                      refine SW.ldc (v := (1000000 : Int32)) C (by decide +kernel) dX10_changes_162 ?_
                                      refine SW.goto (tgt := 183) C dX10_changes_164 (by decide) ?_
                                      exact hJ183 _ h
                            obtain ⟨fu, h⟩ := h
                            refine SW.sub [1, 2, 3, 4, 5, 6, 7, 0] rfl ?_
                            refine L144 fu _ _ h
                obtain ⟨fu, h⟩ := h
                refine SW.sub [2, 3, 4, 5, 6, 1, 0] rfl ?_
                refine L101 _ (fun oY_228 h => ?_) fu _ _ h
                · refine SW.iconst (v := (0 : Int32)) C dX10_changes_228 (by decide) ?_
                  refine SW.istore (lv' := [(6, .int (0 : Int32)), (0, .ref (qY 0)), (1, .int v1), (2, .int v2), (3, .int (jshl (1 : Int32) (oY 0 0))), (4, .int v4_79)]) C dX10_changes_229 (by decide) rfl ?_
                  have L231 : ∀ (K257 : Ob → Prop) (hK257 : ∀ (oY_257 : Ob), K257 oY_257 → SW p l e { frames := 2, cells := 0, slots := 0, locals := 49 } s m args below meth c A D 9 0 0 (MQ below (va_Qi (fun (r : Int32) (u : Ob) => post r u) (ctB D A (fun u : Ob => w10 cI cZ qY u)) A) args s 0 0 A) (w10 cI cZ qY oY_257) 257 [(0, .ref (qY 0)), (1, .int v1), (2, .int v2), (3, .int (jshl (1 : Int32) (oY 0 0))), (4, .int v4_79)] []) (fu : Nat) (v6_231 : Int32) (oY_231 : Ob), wpX10_changes_L231 (jshl (1 : Int32) (oY 0 0)) K257 fu v6_231 oY_231 → SW p l e { frames := 2, cells := 0, slots := 0, locals := 49 } s m args below meth c A D 9 0 0 (MQ below (va_Qi (fun (r : Int32) (u : Ob) => post r u) (ctB D A (fun u : Ob => w10 cI cZ qY u)) A) args s 0 0 A) (w10 cI cZ qY oY_231) 231 [(0, .ref (qY 0)), (1, .int v1), (2, .int v2), (3, .int (jshl (1 : Int32) (oY 0 0))), (4, .int v4_79), (6, .int v6_231)] [] := by
                    intro K257 hK257 fu
                    induction fu with
                    | zero =>
                      intro v6_231 oY_231 h
                      exact False.elim h
                    | succ fu ih =>
                      intro v6_231 oY_231 h
                      unfold wpX10_changes_L231 at h
                      refine SW.iload C dX10_changes_231 5 rfl ?_
                      refine SW.iload_n C dX10_changes_233 rfl 3 rfl ?_
                      refine SW.icmp_ge (tgt := 257) C dX10_changes_234 (by decide) (fun hc => ?_) (fun hc => ?_)
                      · replace h := h.1 hc
                        refine SW.sub [0, 1, 2, 3, 4] rfl ?_
                        exact hK257 _ h
                      · replace h := h.2 hc
                        refine SW.aload_n C dX10_changes_237 rfl 0 rfl ?_
                        refine SW.get (v := .ref (qY 5)) (T := TX10) (N := 25) C inX10_changes_X10 0 rfl rfl 18 (by decide) lkX10_changes_35 rfl dX10_changes_238 ?_
                        refine SW.iload C dX10_changes_241 5 rfl ?_
                        refine SW.aload_n C dX10_changes_243 rfl 0 rfl ?_
                        refine SW.get (v := .ref (qY 6)) (T := TX10) (N := 25) C inX10_changes_X10 0 rfl rfl 19 (by decide) lkX10_changes_38 rfl dX10_changes_244 ?_
                        refine SW.iload C dX10_changes_247 5 rfl ?_
                        refine SW.iald C 6 0 rfl rfl h.1 dX10_changes_249 ?_
                        replace h := h.2
                        refine SW.iast (ws' := w10 cI cZ qY (pa oY_231 5 (nC v6_231) (jld (oY_231 6) v6_231))) C 5 0 rfl rfl h.1 rfl dX10_changes_250 ?_
                        replace h := h.2
                        refine SW.iinc (q := 5) (v := (v6_231 + (1 : Int32))) (lv' := [(6, .int (v6_231 + (1 : Int32))), (0, .ref (qY 0)), (1, .int v1), (2, .int v2), (3, .int (jshl (1 : Int32) (oY 0 0))), (4, .int v4_79)]) C dX10_changes_251 rfl rfl (by decide) rfl ?_
                        refine SW.goto (tgt := 231) C dX10_changes_254 (by decide) ?_
                        refine SW.sub [1, 2, 3, 4, 5, 0] rfl ?_
                        exact ih _ _ h
                  obtain ⟨fu, h⟩ := h
                  refine SW.sub [1, 2, 3, 4, 5, 0] rfl ?_
                  refine L231 _ (fun oY_257 h => ?_) fu _ _ h
                  · refine SW.iinc (q := 4) (v := (v4_79 + (1 : Int32))) (lv' := [(4, .int (v4_79 + (1 : Int32))), (0, .ref (qY 0)), (1, .int v1), (2, .int v2), (3, .int (jshl (1 : Int32) (oY 0 0)))]) C dX10_changes_257 rfl rfl (by decide) rfl ?_
                    refine SW.goto (tgt := 79) C dX10_changes_260 (by decide) ?_
                    refine SW.sub [1, 2, 3, 4, 0] rfl ?_
                    exact ih _ _ h
          obtain ⟨fu, h⟩ := h
          refine SW.sub [1, 2, 3, 4, 0] rfl ?_
          refine L79 _ (fun oY_263 h => ?_) fu _ _ h
          · refine SW.bipush (v := (-6 : Int32)) C dX10_changes_263 (by decide) ?_
            refine SW.istore (lv' := [(4, .int (-6 : Int32)), (0, .ref (qY 0)), (2, .int v2), (3, .int (jshl (1 : Int32) (oY 0 0)))]) C dX10_changes_265 (by decide) rfl ?_
            refine SW.ldc (v := (1000000 : Int32)) C (by decide +kernel) dX10_changes_267 ?_
            refine SW.istore (lv' := [(5, .int (1000000 : Int32)), (4, .int (-6 : Int32)), (0, .ref (qY 0)), (2, .int v2), (3, .int (jshl (1 : Int32) (oY 0 0)))]) C dX10_changes_269 (by decide) rfl ?_
            refine SW.iconst (v := (0 : Int32)) C dX10_changes_271 (by decide) ?_
            refine SW.istore (lv' := [(6, .int (0 : Int32)), (5, .int (1000000 : Int32)), (4, .int (-6 : Int32)), (0, .ref (qY 0)), (2, .int v2), (3, .int (jshl (1 : Int32) (oY 0 0)))]) C dX10_changes_272 (by decide) rfl ?_
            have L274 : ∀ (K333 : Int32 → Int32 → Prop) (hK333 : ∀ (v4_333 : Int32) (v5_333 : Int32), K333 v4_333 v5_333 → SW p l e { frames := 2, cells := 0, slots := 0, locals := 49 } s m args below meth c A D 9 0 0 (MQ below (va_Qi (fun (r : Int32) (u : Ob) => post r u) (ctB D A (fun u : Ob => w10 cI cZ qY u)) A) args s 0 0 A) (w10 cI cZ qY oY_263) 333 [(2, .int v2), (4, .int v4_333), (5, .int v5_333)] []) (fu : Nat) (v4_274 : Int32) (v5_274 : Int32) (v6_274 : Int32), wpX10_changes_L274 (jshl (1 : Int32) (oY 0 0)) oY_263 K333 fu v4_274 v5_274 v6_274 → SW p l e { frames := 2, cells := 0, slots := 0, locals := 49 } s m args below meth c A D 9 0 0 (MQ below (va_Qi (fun (r : Int32) (u : Ob) => post r u) (ctB D A (fun u : Ob => w10 cI cZ qY u)) A) args s 0 0 A) (w10 cI cZ qY oY_263) 274 [(0, .ref (qY 0)), (2, .int v2), (3, .int (jshl (1 : Int32) (oY 0 0))), (4, .int v4_274), (5, .int v5_274), (6, .int v6_274)] [] := by
              intro K333 hK333 fu
              induction fu with
              | zero =>
                intro v4_274 v5_274 v6_274 h
                exact False.elim h
              | succ fu ih =>
                intro v4_274 v5_274 v6_274 h
                unfold wpX10_changes_L274 at h
                refine SW.iload C dX10_changes_274 5 rfl ?_
                refine SW.iload_n C dX10_changes_276 rfl 2 rfl ?_
                refine SW.icmp_ge (tgt := 333) C dX10_changes_277 (by decide) (fun hc => ?_) (fun hc => ?_)
                · replace h := h.1 hc
                  refine SW.sub [1, 3, 4] rfl ?_
                  exact hK333 _ _ h
                · replace h := h.2 hc
                  refine SW.aload_n C dX10_changes_280 rfl 0 rfl ?_
                  refine SW.get (v := .ref (qY 5)) (T := TX10) (N := 25) C inX10_changes_X10 0 rfl rfl 18 (by decide) lkX10_changes_35 rfl dX10_changes_281 ?_
                  refine SW.iload C dX10_changes_284 5 rfl ?_
                  refine SW.iald C 5 0 rfl rfl h.1 dX10_changes_286 ?_
                  replace h := h.2
                  refine SW.iload C dX10_changes_287 4 rfl ?_
                  refine jn1_elim (G := fun p0_299 => SW p l e { frames := 2, cells := 0, slots := 0, locals := 49 } s m args below meth c A D 9 0 0 (MQ below (va_Qi (fun (r : Int32) (u : Ob) => post r u) (ctB D A (fun u : Ob => w10 cI cZ qY u)) A) args s 0 0 A) (w10 cI cZ qY oY_263) 299 [(0, .ref (qY 0)), (2, .int v2), (3, .int (jshl (1 : Int32) (oY 0 0))), (5, .int v5_274), (6, .int v6_274)] [.int p0_299]) h (fun p0_299 h => ?_) (fun J299 hJ299 h => ?_)
                  · refine SW.istore (lv' := [(4, .int p0_299), (0, .ref (qY 0)), (2, .int v2), (3, .int (jshl (1 : Int32) (oY 0 0))), (5, .int v5_274), (6, .int v6_274)]) C dX10_changes_299 (by decide) rfl ?_
                    refine SW.aload_n C dX10_changes_301 rfl 1 rfl ?_
                    refine SW.get (v := .ref (qY 5)) (T := TX10) (N := 25) C inX10_changes_X10 0 rfl rfl 18 (by decide) lkX10_changes_35 rfl dX10_changes_302 ?_
                    refine SW.iload C dX10_changes_305 5 rfl ?_
                    refine SW.iald C 5 0 rfl rfl h.1 dX10_changes_307 ?_
                    replace h := h.2
                    refine SW.iload C dX10_changes_308 4 rfl ?_
                    refine jn1_elim (G := fun p0_325 => SW p l e { frames := 2, cells := 0, slots := 0, locals := 49 } s m args below meth c A D 9 0 0 (MQ below (va_Qi (fun (r : Int32) (u : Ob) => post r u) (ctB D A (fun u : Ob => w10 cI cZ qY u)) A) args s 0 0 A) (w10 cI cZ qY oY_263) 325 [(0, .ref (qY 0)), (2, .int v2), (3, .int (jshl (1 : Int32) (oY 0 0))), (4, .int p0_299), (6, .int v6_274)] [.int p0_325]) h (fun p0_325 h => ?_) (fun J325 hJ325 h => ?_)
                    · refine SW.istore (lv' := [(5, .int p0_325), (0, .ref (qY 0)), (2, .int v2), (3, .int (jshl (1 : Int32) (oY 0 0))), (4, .int p0_299), (6, .int v6_274)]) C dX10_changes_325 (by decide) rfl ?_
                      refine SW.iinc (q := 5) (v := (v6_274 + (1 : Int32))) (lv' := [(6, .int (v6_274 + (1 : Int32))), (5, .int p0_325), (0, .ref (qY 0)), (2, .int v2), (3, .int (jshl (1 : Int32) (oY 0 0))), (4, .int p0_299)]) C dX10_changes_327 rfl rfl (by decide) rfl ?_
                      refine SW.goto (tgt := 274) C dX10_changes_330 (by decide) ?_
                      refine SW.sub [2, 3, 4, 5, 1, 0] rfl ?_
                      exact ih _ _ _ h
                    · refine SW.icmp_ge (tgt := 323) C dX10_changes_310 (by decide) (fun hc => ?_) (fun hc => ?_)
                      · replace h := h.1 hc
                        refine SW.iload C dX10_changes_323 4 rfl ?_
                        refine SW.sub [1, 2, 3, 0, 5] rfl ?_
                        exact hJ325 _ h
                      · replace h := h.2 hc
                        refine SW.aload_n C dX10_changes_313 rfl 1 rfl ?_
                        refine SW.get (v := .ref (qY 5)) (T := TX10) (N := 25) C inX10_changes_X10 0 rfl rfl 18 (by decide) lkX10_changes_35 rfl dX10_changes_314 ?_
                        refine SW.iload C dX10_changes_317 5 rfl ?_
                        refine SW.iald C 5 0 rfl rfl h.1 dX10_changes_319 ?_
                        replace h := h.2
                        refine SW.goto (tgt := 325) C dX10_changes_320 (by decide) ?_
                        refine SW.sub [1, 2, 3, 0, 5] rfl ?_
                        exact hJ325 _ h
                  · refine SW.icmp_ge (tgt := 297) C dX10_changes_289 (by decide) (fun hc => ?_) (fun hc => ?_)
                    · replace h := h.1 hc
                      refine SW.iload C dX10_changes_297 3 rfl ?_
                      refine SW.sub [0, 1, 2, 4, 5] rfl ?_
                      exact hJ299 _ h
                    · replace h := h.2 hc
                      refine SW.iload C dX10_changes_292 5 rfl ?_
                      refine SW.goto (tgt := 299) C dX10_changes_294 (by decide) ?_
                      refine SW.sub [0, 1, 2, 4, 5] rfl ?_
                      exact hJ299 _ h
            obtain ⟨fu, h⟩ := h
            refine SW.sub [3, 4, 5, 2, 1, 0] rfl ?_
            refine L274 _ (fun v4_333 v5_333 h => ?_) fu _ _ _ h
            · refine SW.iload C dX10_changes_333 1 rfl ?_
              refine jn0_elim (G := SW p l e { frames := 2, cells := 0, slots := 0, locals := 49 } s m args below meth c A D 9 0 0 (MQ below (va_Qi (fun (r : Int32) (u : Ob) => post r u) (ctB D A (fun u : Ob => w10 cI cZ qY u)) A) args s 0 0 A) (w10 cI cZ qY oY_263) 343 [(4, .int v4_333)] []) h (fun h => ?_) (fun J343 hJ343 h => ?_)
              · refine SW.iload C dX10_changes_343 0 rfl ?_
                refine SW.goto (tgt := 350) C dX10_changes_345 (by decide) ?_
                exact SW.iret C oY_263 rfl h dX10_changes_350
              · refine SW.if_lt (tgt := 343) C dX10_changes_335 (by decide) (fun hc => ?_) (fun hc => ?_)
                · replace h := h.1 hc
                  refine SW.sub [1] rfl ?_
                  exact hJ343 h
                · replace h := h.2 hc
                  refine SW.iload_n C dX10_changes_338 rfl 0 rfl ?_
                  refine SW.iconst (v := (1 : Int32)) C dX10_changes_339 (by decide) ?_
                  refine SW.icmp_ne (tgt := 348) C dX10_changes_340 (by decide) (fun hc => ?_) (fun hc => ?_)
                  · replace h := h.2 hc
                    refine SW.iload C dX10_changes_348 2 rfl ?_
                    exact SW.iret C oY_263 rfl h dX10_changes_350
                  · replace h := h.1 hc
                    refine SW.sub [1] rfl ?_
                    exact hJ343 h
      · replace h := h.2 hc
        refine SW.bipush (v := (-5 : Int32)) C dX10_changes_29 (by decide) ?_
        exact SW.iret C oY rfl h dX10_changes_31
    · replace h := h.1 hc
      refine SW.bipush (v := (-2 : Int32)) C dX10_changes_19 (by decide) ?_
      exact SW.iret C oY rfl h dX10_changes_21
  · replace h := h.1 hc
    refine SW.iconst (v := (-1 : Int32)) C dX10_changes_8 (by decide) ?_
    exact SW.iret C oY rfl h dX10_changes_9
def wpX10_shifts_L46 (c1_46 : Int32) (c2_46 : Int32) (c3_46 : Int32) (c5_46 : Int32) (oYc_46 : Ob) (K163 : Int32 → Prop) : Nat → Int32 → Int32 → Prop
  | 0, _, _ => False
  | fu46 + 1, v6_46, v7_46 => (((c3_46 + c5_46) ≤ v7_46) → K163 v6_46) ∧ (¬ ((c3_46 + c5_46) ≤ v7_46) → ((v6_46 = 0) → K163 v6_46) ∧ (¬ (v6_46 = 0) → jn1 (fun (v6_157 : Int32) => wpX10_shifts_L46 c1_46 c2_46 c3_46 c5_46 oYc_46 K163 fu46 v6_157 (v7_46 + (1 : Int32))) (fun J157 => jn0 (jn1 (fun (p0_147 : Int32) => jn1 (fun (p0_155 : Int32) => J157 p0_155) (fun J155 => ((p0_147 < 0) → J155 (0 : Int32)) ∧ (¬ (p0_147 < 0) → J155 (1 : Int32)))) (fun J147 => ((c3_46 ≤ v7_46) → wpX10_note oYc_46 (v7_46 - c5_46) (fun (r138 : Int32) => wpX10_fewestFor oYc_46 c2_46 r138 (-6 : Int32) (0 : Int32) (fun (r144 : Int32) => J147 r144))) ∧ (¬ (c3_46 ≤ v7_46) → wpX10_note oYc_46 v7_46 (fun (r118 : Int32) => wpX10_fewestFor oYc_46 c1_46 r118 (-6 : Int32) (0 : Int32) (fun (r124 : Int32) => J147 r124))))) (fun J107 => ((c3_46 ≤ v7_46) → J107) ∧ (¬ (c3_46 ≤ v7_46) → ((v7_46 < c5_46) → J107) ∧ (¬ (v7_46 < c5_46) → wpX10_note oYc_46 v7_46 (fun (r78 : Int32) => wpX10_note oYc_46 (v7_46 - c5_46) (fun (r88 : Int32) => wpX10_fewestFor oYc_46 c1_46 r78 c2_46 r88 (fun (r91 : Int32) => jn1 (fun (p0_102 : Int32) => J157 p0_102) (fun J102 => ((r91 < 0) → J102 (0 : Int32)) ∧ (¬ (r91 < 0) → J102 (1 : Int32))))))))))))
def wpX10_shifts_L34 (c1_34 : Int32) (c2_34 : Int32) (c3_34 : Int32) (oYc_34 : Ob) (K187 : Int32 → Prop) : Nat → Int32 → Int32 → Prop
  | 0, _, _ => False
  | fu34 + 1, v4_34, v5_34 => ((c3_34 ≤ v5_34) → K187 v4_34) ∧ (¬ (c3_34 ≤ v5_34) → ∃ fu46 : Nat, wpX10_shifts_L46 c1_34 c2_34 c3_34 v5_34 oYc_34 (fun (v6_163 : Int32) => jn2 (fun (p0_178 : Int32) (p1_178 : Int32) => wpX10_shifts_L34 c1_34 c2_34 c3_34 oYc_34 K187 fu34 (p1_178 ||| p0_178) (v5_34 + (1 : Int32))) (fun J178 => ((v6_163 = 0) → J178 (0 : Int32) v4_34) ∧ (¬ (v6_163 = 0) → J178 (jshl (1 : Int32) v5_34) v4_34))) fu46 (1 : Int32) (0 : Int32))
def wpX10_shifts (oY : Ob) (v1 : Int32) (v2 : Int32) (post : Int32 → Prop) : Prop := wpX10_areTwo oY v1 v2 (fun (r3 : Int32) => ((r3 = 0) → post (-1 : Int32)) ∧ (¬ (r3 = 0) → wpX10_tuneFault oY (fun (r12 : Int32) => ((r12 < 0) → ∃ fu34 : Nat, wpX10_shifts_L34 v1 v2 ((oY 0 10) / (2 : Int32)) oY (fun (v4_187 : Int32) => post v4_187) fu34 (0 : Int32) (0 : Int32)) ∧ (¬ (r12 < 0) → post (-5 : Int32)))))
theorem pdX10_shifts : yX10_shifts.cls = RX10 ∧ yX10_shifts.cls ≠ "java/lang/invoke/MethodHandle" ∧ yX10_shifts.cls ≠ "java/lang/invoke/VarHandle" ∧ (parseMethodDescriptor yX10_shifts.desc).map (fun d => d.parameters.length) = some 2 := by decide +kernel
theorem lkX10_shifts_77 : Cond.fieldLink RX10 77 (TX10 10).1 (TX10 10).2.1 (TX10 10).2.2.1 ∈ wsX10_shifts := by decide +kernel
theorem inX10_shifts_X10 : ∀ w ∈ u_ws RX10 TX10 25, w ∈ wsX10_shifts := by decide +kernel
set_option maxHeartbeats 4000000 in
set_option maxRecDepth 100000 in
theorem ctX10_shifts (l : Launch) (D : va_G) (cI cZ : ClassId) (qY : Nat → Nat) (oY : Ob) (v1 : Int32) (v2 : Int32) (post : Int32 → Prop) (h : wpX10_shifts oY v1 v2 post) : CTi l yX10_shifts wsX10_shifts { frames := 3, cells := 0, slots := 0, locals := 77 } D [(cI, .int), (cZ, .boolean)] [.ref (qY 0), .int v1, .int v2] (w10 cI cZ qY oY) (fun _ : Unit => w10 cI cZ qY oY) (fun (r : Int32) (_ : Unit) => post r) := by
  refine CTi.of (cc := cX10_shifts) (own := RX10) (maxL := 8) (ret := (some .int)) (lv0 := [(0, .ref (qY 0)), (1, .int v1), (2, .int v2)]) (by decide) rfl rfl (Nat.le_of_ble_eq_true rfl) rfl ?_
  intro p e s m args below meth c A C
  unfold wpX10_shifts at h
  refine SW.aload_n C dX10_shifts_0 rfl 0 rfl ?_
  refine SW.iload_n C dX10_shifts_1 rfl 1 rfl ?_
  refine SW.iload_n C dX10_shifts_2 rfl 2 rfl ?_
  refine SW.callVi_same C (ctX10_areTwo l D cI cZ qY oY v1 v2 _ h) gX10_shifts_X10_areTwo rfl rfl rfl pdX10_areTwo ⟨by decide, by decide⟩ 0 rfl rfl rfl rfl rfl (Nat.le_of_ble_eq_true rfl) dX10_shifts_3 (by decide) (fun r3 u h => ?_)
  try dsimp only at h
  refine SW.if_ne (tgt := 11) C dX10_shifts_6 (by decide) (fun hc => ?_) (fun hc => ?_)
  · replace h := h.2 hc
    refine SW.aload_n C dX10_shifts_11 rfl 0 rfl ?_
    refine SW.callVi_same C (ctX10_tuneFault l D cI cZ qY oY _ h) gX10_shifts_X10_tuneFault rfl rfl rfl pdX10_tuneFault ⟨by decide, by decide⟩ 0 rfl rfl rfl rfl rfl (Nat.le_of_ble_eq_true rfl) dX10_shifts_12 (by decide) (fun r12 u h => ?_)
    try dsimp only at h
    refine SW.if_lt (tgt := 21) C dX10_shifts_15 (by decide) (fun hc => ?_) (fun hc => ?_)
    · replace h := h.1 hc
      refine SW.aload_n C dX10_shifts_21 rfl 0 rfl ?_
      refine SW.get (v := .int (oY 0 10)) (T := TX10) (N := 25) C inX10_shifts_X10 0 rfl rfl 10 (by decide) lkX10_shifts_77 rfl dX10_shifts_22 ?_
      refine SW.iconst (v := (2 : Int32)) C dX10_shifts_25 (by decide) ?_
      refine SW.idiv C dX10_shifts_26 (by decide) ?_
      refine SW.istore_n (lv' := [(3, .int ((oY 0 10) / (2 : Int32))), (0, .ref (qY 0)), (1, .int v1), (2, .int v2)]) C dX10_shifts_27 rfl (by decide) rfl ?_
      refine SW.iconst (v := (0 : Int32)) C dX10_shifts_28 (by decide) ?_
      refine SW.istore (lv' := [(4, .int (0 : Int32)), (3, .int ((oY 0 10) / (2 : Int32))), (0, .ref (qY 0)), (1, .int v1), (2, .int v2)]) C dX10_shifts_29 (by decide) rfl ?_
      refine SW.iconst (v := (0 : Int32)) C dX10_shifts_31 (by decide) ?_
      refine SW.istore (lv' := [(5, .int (0 : Int32)), (4, .int (0 : Int32)), (3, .int ((oY 0 10) / (2 : Int32))), (0, .ref (qY 0)), (1, .int v1), (2, .int v2)]) C dX10_shifts_32 (by decide) rfl ?_
      have L34 : ∀ (K187 : Int32 → Prop) (hK187 : ∀ (v4_187 : Int32), K187 v4_187 → SW p l e { frames := 3, cells := 0, slots := 0, locals := 77 } s m args below meth c A D 8 0 0 (MQ below (va_Qi (fun (r : Int32) (_ : Unit) => post r) (ctB D A (fun _ : Unit => w10 cI cZ qY oY)) A) args s 0 0 A) (w10 cI cZ qY oY) 187 [(4, .int v4_187)] []) (fu : Nat) (v4_34 : Int32) (v5_34 : Int32), wpX10_shifts_L34 v1 v2 ((oY 0 10) / (2 : Int32)) oY K187 fu v4_34 v5_34 → SW p l e { frames := 3, cells := 0, slots := 0, locals := 77 } s m args below meth c A D 8 0 0 (MQ below (va_Qi (fun (r : Int32) (_ : Unit) => post r) (ctB D A (fun _ : Unit => w10 cI cZ qY oY)) A) args s 0 0 A) (w10 cI cZ qY oY) 34 [(0, .ref (qY 0)), (1, .int v1), (2, .int v2), (3, .int ((oY 0 10) / (2 : Int32))), (4, .int v4_34), (5, .int v5_34)] [] := by
        intro K187 hK187 fu
        induction fu with
        | zero =>
          intro v4_34 v5_34 h
          exact False.elim h
        | succ fu ih =>
          intro v4_34 v5_34 h
          unfold wpX10_shifts_L34 at h
          refine SW.iload C dX10_shifts_34 5 rfl ?_
          refine SW.iload_n C dX10_shifts_36 rfl 3 rfl ?_
          refine SW.icmp_ge (tgt := 187) C dX10_shifts_37 (by decide) (fun hc => ?_) (fun hc => ?_)
          · replace h := h.1 hc
            refine SW.sub [4] rfl ?_
            exact hK187 _ h
          · replace h := h.2 hc
            refine SW.iconst (v := (1 : Int32)) C dX10_shifts_40 (by decide) ?_
            refine SW.istore (lv' := [(6, .int (1 : Int32)), (0, .ref (qY 0)), (1, .int v1), (2, .int v2), (3, .int ((oY 0 10) / (2 : Int32))), (4, .int v4_34), (5, .int v5_34)]) C dX10_shifts_41 (by decide) rfl ?_
            refine SW.iconst (v := (0 : Int32)) C dX10_shifts_43 (by decide) ?_
            refine SW.istore (lv' := [(7, .int (0 : Int32)), (6, .int (1 : Int32)), (0, .ref (qY 0)), (1, .int v1), (2, .int v2), (3, .int ((oY 0 10) / (2 : Int32))), (4, .int v4_34), (5, .int v5_34)]) C dX10_shifts_44 (by decide) rfl ?_
            have L46 : ∀ (K163 : Int32 → Prop) (hK163 : ∀ (v6_163 : Int32), K163 v6_163 → SW p l e { frames := 3, cells := 0, slots := 0, locals := 77 } s m args below meth c A D 8 0 0 (MQ below (va_Qi (fun (r : Int32) (_ : Unit) => post r) (ctB D A (fun _ : Unit => w10 cI cZ qY oY)) A) args s 0 0 A) (w10 cI cZ qY oY) 163 [(0, .ref (qY 0)), (1, .int v1), (2, .int v2), (3, .int ((oY 0 10) / (2 : Int32))), (4, .int v4_34), (5, .int v5_34), (6, .int v6_163)] []) (fu : Nat) (v6_46 : Int32) (v7_46 : Int32), wpX10_shifts_L46 v1 v2 ((oY 0 10) / (2 : Int32)) v5_34 oY K163 fu v6_46 v7_46 → SW p l e { frames := 3, cells := 0, slots := 0, locals := 77 } s m args below meth c A D 8 0 0 (MQ below (va_Qi (fun (r : Int32) (_ : Unit) => post r) (ctB D A (fun _ : Unit => w10 cI cZ qY oY)) A) args s 0 0 A) (w10 cI cZ qY oY) 46 [(0, .ref (qY 0)), (1, .int v1), (2, .int v2), (3, .int ((oY 0 10) / (2 : Int32))), (4, .int v4_34), (5, .int v5_34), (6, .int v6_46), (7, .int v7_46)] [] := by
              intro K163 hK163 fu
              induction fu with
              | zero =>
                intro v6_46 v7_46 h
                exact False.elim h
              | succ fu ih =>
                intro v6_46 v7_46 h
                unfold wpX10_shifts_L46 at h
                refine SW.iload C dX10_shifts_46 7 rfl ?_
                refine SW.iload_n C dX10_shifts_48 rfl 3 rfl ?_
                refine SW.iload C dX10_shifts_49 5 rfl ?_
                refine SW.iadd C dX10_shifts_51 ?_
                refine SW.icmp_ge (tgt := 163) C dX10_shifts_52 (by decide) (fun hc => ?_) (fun hc => ?_)
                · replace h := h.1 hc
                  refine SW.sub [0, 1, 2, 3, 4, 5, 6] rfl ?_
                  exact hK163 _ h
                · replace h := h.2 hc
                  refine SW.iload C dX10_shifts_55 6 rfl ?_
                  refine SW.if_eq (tgt := 163) C dX10_shifts_57 (by decide) (fun hc => ?_) (fun hc => ?_)
                  · replace h := h.1 hc
                    refine SW.sub [0, 1, 2, 3, 4, 5, 6] rfl ?_
                    exact hK163 _ h
                  · replace h := h.2 hc
                    refine SW.iload C dX10_shifts_60 7 rfl ?_
                    refine SW.iload_n C dX10_shifts_62 rfl 3 rfl ?_
                    refine jn1_elim (G := fun v6_157 => SW p l e { frames := 3, cells := 0, slots := 0, locals := 77 } s m args below meth c A D 8 0 0 (MQ below (va_Qi (fun (r : Int32) (_ : Unit) => post r) (ctB D A (fun _ : Unit => w10 cI cZ qY oY)) A) args s 0 0 A) (w10 cI cZ qY oY) 157 [(0, .ref (qY 0)), (1, .int v1), (2, .int v2), (3, .int ((oY 0 10) / (2 : Int32))), (4, .int v4_34), (5, .int v5_34), (6, .int v6_157), (7, .int v7_46)] []) h (fun v6_157 h => ?_) (fun J157 hJ157 h => ?_)
                    · refine SW.iinc (q := 7) (v := (v7_46 + (1 : Int32))) (lv' := [(7, .int (v7_46 + (1 : Int32))), (0, .ref (qY 0)), (1, .int v1), (2, .int v2), (3, .int ((oY 0 10) / (2 : Int32))), (4, .int v4_34), (5, .int v5_34), (6, .int v6_157)]) C dX10_shifts_157 rfl rfl (by decide) rfl ?_
                      refine SW.goto (tgt := 46) C dX10_shifts_160 (by decide) ?_
                      refine SW.sub [1, 2, 3, 4, 5, 6, 7, 0] rfl ?_
                      exact ih _ _ h
                    · refine jn0_elim (G := SW p l e { frames := 3, cells := 0, slots := 0, locals := 77 } s m args below meth c A D 8 0 0 (MQ below (va_Qi (fun (r : Int32) (_ : Unit) => post r) (ctB D A (fun _ : Unit => w10 cI cZ qY oY)) A) args s 0 0 A) (w10 cI cZ qY oY) 107 [(0, .ref (qY 0)), (1, .int v1), (2, .int v2), (3, .int ((oY 0 10) / (2 : Int32))), (4, .int v4_34), (5, .int v5_34), (7, .int v7_46)] []) h (fun h => ?_) (fun J107 hJ107 h => ?_)
                      · refine SW.iload C dX10_shifts_107 6 rfl ?_
                        refine SW.iload_n C dX10_shifts_109 rfl 3 rfl ?_
                        refine jn1_elim (G := fun p0_147 => SW p l e { frames := 3, cells := 0, slots := 0, locals := 77 } s m args below meth c A D 8 0 0 (MQ below (va_Qi (fun (r : Int32) (_ : Unit) => post r) (ctB D A (fun _ : Unit => w10 cI cZ qY oY)) A) args s 0 0 A) (w10 cI cZ qY oY) 147 [(0, .ref (qY 0)), (1, .int v1), (2, .int v2), (3, .int ((oY 0 10) / (2 : Int32))), (4, .int v4_34), (5, .int v5_34), (7, .int v7_46)] [.int p0_147]) h (fun p0_147 h => ?_) (fun J147 hJ147 h => ?_)
                        · refine jn1_elim (G := fun p0_155 => SW p l e { frames := 3, cells := 0, slots := 0, locals := 77 } s m args below meth c A D 8 0 0 (MQ below (va_Qi (fun (r : Int32) (_ : Unit) => post r) (ctB D A (fun _ : Unit => w10 cI cZ qY oY)) A) args s 0 0 A) (w10 cI cZ qY oY) 155 [(0, .ref (qY 0)), (1, .int v1), (2, .int v2), (3, .int ((oY 0 10) / (2 : Int32))), (4, .int v4_34), (5, .int v5_34), (7, .int v7_46)] [.int p0_155]) h (fun p0_155 h => ?_) (fun J155 hJ155 h => ?_)
                          · refine SW.istore (lv' := [(6, .int p0_155), (0, .ref (qY 0)), (1, .int v1), (2, .int v2), (3, .int ((oY 0 10) / (2 : Int32))), (4, .int v4_34), (5, .int v5_34), (7, .int v7_46)]) C dX10_shifts_155 (by decide) rfl ?_
                            refine SW.sub [1, 2, 3, 4, 5, 6, 0, 7] rfl ?_
                            exact hJ157 _ h
                          · refine SW.if_lt (tgt := 154) C dX10_shifts_147 (by decide) (fun hc => ?_) (fun hc => ?_)
                            · replace h := h.1 hc
                              refine SW.iconst (v := (0 : Int32)) C dX10_shifts_154 (by decide) ?_
                              exact hJ155 _ h
                            · replace h := h.2 hc
                              refine SW.iconst (v := (1 : Int32)) C dX10_shifts_150 (by decide) ?_
                              refine SW.goto (tgt := 155) C dX10_shifts_151 (by decide) ?_
                              exact hJ155 _ h
                        · refine SW.icmp_ge (tgt := 130) C dX10_shifts_110 (by decide) (fun hc => ?_) (fun hc => ?_)
                          · replace h := h.1 hc
                            refine SW.aload_n C dX10_shifts_130 rfl 0 rfl ?_
                            refine SW.iload_n C dX10_shifts_131 rfl 2 rfl ?_
                            refine SW.aload_n C dX10_shifts_132 rfl 0 rfl ?_
                            refine SW.iload C dX10_shifts_133 6 rfl ?_
                            refine SW.iload C dX10_shifts_135 5 rfl ?_
                            refine SW.isub C dX10_shifts_137 ?_
                            refine SW.callVi_same C (ctX10_note l D cI cZ qY oY (v7_46 - v5_34) _ h) gX10_shifts_X10_note rfl rfl rfl pdX10_note ⟨by decide, by decide⟩ 0 rfl rfl rfl rfl rfl (Nat.le_of_ble_eq_true rfl) dX10_shifts_138 (by decide) (fun r138 u h => ?_)
                            try dsimp only at h
                            refine SW.bipush (v := (-6 : Int32)) C dX10_shifts_141 (by decide) ?_
                            refine SW.iconst (v := (0 : Int32)) C dX10_shifts_143 (by decide) ?_
                            refine SW.callVi_same C (ctX10_fewestFor l D cI cZ qY oY v2 r138 (-6 : Int32) (0 : Int32) _ h) gX10_shifts_X10_fewestFor rfl rfl rfl pdX10_fewestFor ⟨by decide, by decide⟩ 0 rfl rfl rfl rfl rfl (Nat.le_of_ble_eq_true rfl) dX10_shifts_144 (by decide) (fun r144 u h => ?_)
                            try dsimp only at h
                            exact hJ147 _ h
                          · replace h := h.2 hc
                            refine SW.aload_n C dX10_shifts_113 rfl 0 rfl ?_
                            refine SW.iload_n C dX10_shifts_114 rfl 1 rfl ?_
                            refine SW.aload_n C dX10_shifts_115 rfl 0 rfl ?_
                            refine SW.iload C dX10_shifts_116 6 rfl ?_
                            refine SW.callVi_same C (ctX10_note l D cI cZ qY oY v7_46 _ h) gX10_shifts_X10_note rfl rfl rfl pdX10_note ⟨by decide, by decide⟩ 0 rfl rfl rfl rfl rfl (Nat.le_of_ble_eq_true rfl) dX10_shifts_118 (by decide) (fun r118 u h => ?_)
                            try dsimp only at h
                            refine SW.bipush (v := (-6 : Int32)) C dX10_shifts_121 (by decide) ?_
                            refine SW.iconst (v := (0 : Int32)) C dX10_shifts_123 (by decide) ?_
                            refine SW.callVi_same C (ctX10_fewestFor l D cI cZ qY oY v1 r118 (-6 : Int32) (0 : Int32) _ h) gX10_shifts_X10_fewestFor rfl rfl rfl pdX10_fewestFor ⟨by decide, by decide⟩ 0 rfl rfl rfl rfl rfl (Nat.le_of_ble_eq_true rfl) dX10_shifts_124 (by decide) (fun r124 u h => ?_)
                            try dsimp only at h
                            refine SW.goto (tgt := 147) C dX10_shifts_127 (by decide) ?_
                            exact hJ147 _ h
                      · refine SW.icmp_ge (tgt := 107) C dX10_shifts_63 (by decide) (fun hc => ?_) (fun hc => ?_)
                        · replace h := h.1 hc
                          refine SW.sub [0, 1, 2, 3, 4, 5, 7] rfl ?_
                          exact hJ107 h
                        · replace h := h.2 hc
                          refine SW.iload C dX10_shifts_66 7 rfl ?_
                          refine SW.iload C dX10_shifts_68 5 rfl ?_
                          refine SW.icmp_lt (tgt := 107) C dX10_shifts_70 (by decide) (fun hc => ?_) (fun hc => ?_)
                          · replace h := h.1 hc
                            refine SW.sub [0, 1, 2, 3, 4, 5, 7] rfl ?_
                            exact hJ107 h
                          · replace h := h.2 hc
                            refine SW.aload_n C dX10_shifts_73 rfl 0 rfl ?_
                            refine SW.iload_n C dX10_shifts_74 rfl 1 rfl ?_
                            refine SW.aload_n C dX10_shifts_75 rfl 0 rfl ?_
                            refine SW.iload C dX10_shifts_76 7 rfl ?_
                            refine SW.callVi_same C (ctX10_note l D cI cZ qY oY v7_46 _ h) gX10_shifts_X10_note rfl rfl rfl pdX10_note ⟨by decide, by decide⟩ 0 rfl rfl rfl rfl rfl (Nat.le_of_ble_eq_true rfl) dX10_shifts_78 (by decide) (fun r78 u h => ?_)
                            try dsimp only at h
                            refine SW.iload_n C dX10_shifts_81 rfl 2 rfl ?_
                            refine SW.aload_n C dX10_shifts_82 rfl 0 rfl ?_
                            refine SW.iload C dX10_shifts_83 7 rfl ?_
                            refine SW.iload C dX10_shifts_85 5 rfl ?_
                            refine SW.isub C dX10_shifts_87 ?_
                            refine SW.callVi_same C (ctX10_note l D cI cZ qY oY (v7_46 - v5_34) _ h) gX10_shifts_X10_note rfl rfl rfl pdX10_note ⟨by decide, by decide⟩ 0 rfl rfl rfl rfl rfl (Nat.le_of_ble_eq_true rfl) dX10_shifts_88 (by decide) (fun r88 u h => ?_)
                            try dsimp only at h
                            refine SW.callVi_same C (ctX10_fewestFor l D cI cZ qY oY v1 r78 v2 r88 _ h) gX10_shifts_X10_fewestFor rfl rfl rfl pdX10_fewestFor ⟨by decide, by decide⟩ 0 rfl rfl rfl rfl rfl (Nat.le_of_ble_eq_true rfl) dX10_shifts_91 (by decide) (fun r91 u h => ?_)
                            try dsimp only at h
                            refine jn1_elim (G := fun p0_102 => SW p l e { frames := 3, cells := 0, slots := 0, locals := 77 } s m args below meth c A D 8 0 0 (MQ below (va_Qi (fun (r : Int32) (_ : Unit) => post r) (ctB D A (fun _ : Unit => w10 cI cZ qY oY)) A) args s 0 0 A) (w10 cI cZ qY oY) 102 [(0, .ref (qY 0)), (1, .int v1), (2, .int v2), (3, .int ((oY 0 10) / (2 : Int32))), (4, .int v4_34), (5, .int v5_34), (7, .int v7_46)] [.int p0_102]) h (fun p0_102 h => ?_) (fun J102 hJ102 h => ?_)
                            · refine SW.istore (lv' := [(6, .int p0_102), (0, .ref (qY 0)), (1, .int v1), (2, .int v2), (3, .int ((oY 0 10) / (2 : Int32))), (4, .int v4_34), (5, .int v5_34), (7, .int v7_46)]) C dX10_shifts_102 (by decide) rfl ?_
                              refine SW.goto (tgt := 157) C dX10_shifts_104 (by decide) ?_
                              refine SW.sub [1, 2, 3, 4, 5, 6, 0, 7] rfl ?_
                              exact hJ157 _ h
                            · refine SW.if_lt (tgt := 101) C dX10_shifts_94 (by decide) (fun hc => ?_) (fun hc => ?_)
                              · replace h := h.1 hc
                                refine SW.iconst (v := (0 : Int32)) C dX10_shifts_101 (by decide) ?_
                                refine SW.sub [0, 1, 2, 3, 4, 5, 7] rfl ?_
                                exact hJ102 _ h
                              · replace h := h.2 hc
                                refine SW.iconst (v := (1 : Int32)) C dX10_shifts_97 (by decide) ?_
                                refine SW.goto (tgt := 102) C dX10_shifts_98 (by decide) ?_
                                refine SW.sub [0, 1, 2, 3, 4, 5, 7] rfl ?_
                                exact hJ102 _ h
            obtain ⟨fu, h⟩ := h
            refine SW.sub [2, 3, 4, 5, 6, 7, 1, 0] rfl ?_
            refine L46 _ (fun v6_163 h => ?_) fu _ _ h
            · refine SW.iload C dX10_shifts_163 4 rfl ?_
              refine SW.iload C dX10_shifts_165 6 rfl ?_
              refine jn2_elim (G := fun p0_178 p1_178 => SW p l e { frames := 3, cells := 0, slots := 0, locals := 77 } s m args below meth c A D 8 0 0 (MQ below (va_Qi (fun (r : Int32) (_ : Unit) => post r) (ctB D A (fun _ : Unit => w10 cI cZ qY oY)) A) args s 0 0 A) (w10 cI cZ qY oY) 178 [(0, .ref (qY 0)), (1, .int v1), (2, .int v2), (3, .int ((oY 0 10) / (2 : Int32))), (5, .int v5_34)] [.int p0_178, .int p1_178]) h (fun p0_178 p1_178 h => ?_) (fun J178 hJ178 h => ?_)
              · refine SW.ior C dX10_shifts_178 ?_
                refine SW.istore (lv' := [(4, .int (p1_178 ||| p0_178)), (0, .ref (qY 0)), (1, .int v1), (2, .int v2), (3, .int ((oY 0 10) / (2 : Int32))), (5, .int v5_34)]) C dX10_shifts_179 (by decide) rfl ?_
                refine SW.iinc (q := 5) (v := (v5_34 + (1 : Int32))) (lv' := [(5, .int (v5_34 + (1 : Int32))), (4, .int (p1_178 ||| p0_178)), (0, .ref (qY 0)), (1, .int v1), (2, .int v2), (3, .int ((oY 0 10) / (2 : Int32)))]) C dX10_shifts_181 rfl rfl (by decide) rfl ?_
                refine SW.goto (tgt := 34) C dX10_shifts_184 (by decide) ?_
                refine SW.sub [2, 3, 4, 5, 1, 0] rfl ?_
                exact ih _ _ h
              · refine SW.if_eq (tgt := 177) C dX10_shifts_167 (by decide) (fun hc => ?_) (fun hc => ?_)
                · replace h := h.1 hc
                  refine SW.iconst (v := (0 : Int32)) C dX10_shifts_177 (by decide) ?_
                  refine SW.sub [0, 1, 2, 3, 5] rfl ?_
                  exact hJ178 _ _ h
                · replace h := h.2 hc
                  refine SW.iconst (v := (1 : Int32)) C dX10_shifts_170 (by decide) ?_
                  refine SW.iload C dX10_shifts_171 5 rfl ?_
                  refine SW.ishl C dX10_shifts_173 ?_
                  refine SW.goto (tgt := 178) C dX10_shifts_174 (by decide) ?_
                  refine SW.sub [0, 1, 2, 3, 5] rfl ?_
                  exact hJ178 _ _ h
      obtain ⟨fu, h⟩ := h
      refine SW.sub [3, 4, 5, 2, 1, 0] rfl ?_
      refine L34 _ (fun v4_187 h => ?_) fu _ _ h
      · refine SW.iload C dX10_shifts_187 0 rfl ?_
        exact SW.iret C () rfl h dX10_shifts_189
    · replace h := h.2 hc
      refine SW.bipush (v := (-5 : Int32)) C dX10_shifts_18 (by decide) ?_
      exact SW.iret C () rfl h dX10_shifts_20
  · replace h := h.1 hc
    refine SW.iconst (v := (-1 : Int32)) C dX10_shifts_9 (by decide) ?_
    exact SW.iret C () rfl h dX10_shifts_10
def wpX10_seen (oY : Ob) (v1 : Int32) (v2 : Int32) (post : Int32 → Ob → Prop) : Prop := wpX10_isWindow oY v1 (fun (r2 : Int32) => ((r2 = 0) → post (-1 : Int32) oY) ∧ (¬ (r2 = 0) → wpX10_in v2 (1 : Int32) (200 : Int32) (fun (r15 : Int32) => ((r15 = 0) → post (-2 : Int32) oY) ∧ (¬ (r15 = 0) → (((oY 0 8) = (8 : Int32)) → post (-4 : Int32) oY) ∧ (¬ ((oY 0 8) = (8 : Int32)) → (vp_in ((2 : Int32) * (oY 0 8)) 16) ∧ (∀ oY_61n : Ob, oY_61n = (pa oY 3 (nC ((2 : Int32) * (oY 0 8))) v1) → ((vp_in (((2 : Int32) * (oY 0 8)) + (1 : Int32)) 16) ∧ (∀ oY_69n : Ob, oY_69n = (pa oY_61n 3 (nC (((2 : Int32) * (oY 0 8)) + (1 : Int32))) v2) → (post ((oY_61n 0 8) + (1 : Int32)) (pf oY_69n 8 ((oY_61n 0 8) + (1 : Int32))))))))))))
theorem pdX10_seen : yX10_seen.cls = RX10 ∧ yX10_seen.cls ≠ "java/lang/invoke/MethodHandle" ∧ yX10_seen.cls ≠ "java/lang/invoke/VarHandle" ∧ (parseMethodDescriptor yX10_seen.desc).map (fun d => d.parameters.length) = some 2 := by decide +kernel
theorem lkX10_seen_66 : Cond.fieldLink RX10 66 (TX10 8).1 (TX10 8).2.1 (TX10 8).2.2.1 ∈ wsX10_seen := by decide +kernel
theorem inX10_seen_X10 : ∀ w ∈ u_ws RX10 TX10 25, w ∈ wsX10_seen := by decide +kernel
theorem lkX10_seen_29 : Cond.fieldLink RX10 29 (TX10 9).1 (TX10 9).2.1 (TX10 9).2.2.1 ∈ wsX10_seen := by decide +kernel
set_option maxHeartbeats 4000000 in
set_option maxRecDepth 100000 in
theorem ctX10_seen (l : Launch) (D : va_G) (cI cZ : ClassId) (qY : Nat → Nat) (oY : Ob) (v1 : Int32) (v2 : Int32) (post : Int32 → Ob → Prop) (h : wpX10_seen oY v1 v2 post) : CTi l yX10_seen wsX10_seen { frames := 2, cells := 0, slots := 0, locals := 43 } D [(cI, .int), (cZ, .boolean)] [.ref (qY 0), .int v1, .int v2] (w10 cI cZ qY oY) (fun u : Ob => w10 cI cZ qY u) (fun (r : Int32) (u : Ob) => post r u) := by
  refine CTi.of (cc := cX10_seen) (own := RX10) (maxL := 3) (ret := (some .int)) (lv0 := [(0, .ref (qY 0)), (1, .int v1), (2, .int v2)]) (by decide) rfl rfl (Nat.le_of_ble_eq_true rfl) rfl ?_
  intro p e s m args below meth c A C
  unfold wpX10_seen at h
  refine SW.aload_n C dX10_seen_0 rfl 0 rfl ?_
  refine SW.iload_n C dX10_seen_1 rfl 1 rfl ?_
  refine SW.callVi_same C (ctX10_isWindow l D cI cZ qY oY v1 _ h) gX10_seen_X10_isWindow rfl rfl rfl pdX10_isWindow ⟨by decide, by decide⟩ 0 rfl rfl rfl rfl rfl (Nat.le_of_ble_eq_true rfl) dX10_seen_2 (by decide) (fun r2 u h => ?_)
  try dsimp only at h
  refine SW.if_ne (tgt := 10) C dX10_seen_5 (by decide) (fun hc => ?_) (fun hc => ?_)
  · replace h := h.2 hc
    refine SW.iload_n C dX10_seen_10 rfl 2 rfl ?_
    refine SW.iconst (v := (1 : Int32)) C dX10_seen_11 (by decide) ?_
    refine SW.sipush (v := (200 : Int32)) C dX10_seen_12 (by decide) ?_
    refine SW.callSi_pure C (ctX10_in l D cI cZ v2 (1 : Int32) (200 : Int32) _ h) gX10_seen_X10_in rfl rfl rfl pdX10_in ⟨by decide, by decide⟩ rfl rfl (Nat.le_of_ble_eq_true rfl) dX10_seen_15 (by decide) (fun r15 u h => ?_)
    try dsimp only at h
    refine SW.if_ne (tgt := 24) C dX10_seen_18 (by decide) (fun hc => ?_) (fun hc => ?_)
    · replace h := h.2 hc
      refine SW.aload_n C dX10_seen_24 rfl 0 rfl ?_
      refine SW.get (v := .int (oY 0 8)) (T := TX10) (N := 25) C inX10_seen_X10 0 rfl rfl 8 (by decide) lkX10_seen_66 rfl dX10_seen_25 ?_
      refine SW.bipush (v := (8 : Int32)) C dX10_seen_28 (by decide) ?_
      refine SW.icmp_ne (tgt := 36) C dX10_seen_30 (by decide) (fun hc => ?_) (fun hc => ?_)
      · replace h := h.2 hc
        refine SW.aload_n C dX10_seen_36 rfl 0 rfl ?_
        refine SW.get (v := .ref (qY 3)) (T := TX10) (N := 25) C inX10_seen_X10 0 rfl rfl 9 (by decide) lkX10_seen_29 rfl dX10_seen_37 ?_
        refine SW.iconst (v := (2 : Int32)) C dX10_seen_40 (by decide) ?_
        refine SW.aload_n C dX10_seen_41 rfl 0 rfl ?_
        refine SW.get (v := .int (oY 0 8)) (T := TX10) (N := 25) C inX10_seen_X10 0 rfl rfl 8 (by decide) lkX10_seen_66 rfl dX10_seen_42 ?_
        refine SW.imul C dX10_seen_45 ?_
        refine SW.iload_n C dX10_seen_46 rfl 1 rfl ?_
        refine SW.iast (ws' := w10 cI cZ qY (pa oY 3 (nC ((2 : Int32) * (oY 0 8))) v1)) C 3 0 rfl rfl h.1 rfl dX10_seen_47 ?_
        replace h := h.2
        refine SW.aload_n C dX10_seen_48 rfl 0 rfl ?_
        refine SW.get (v := .ref (qY 3)) (T := TX10) (N := 25) C inX10_seen_X10 0 rfl rfl 9 (by decide) lkX10_seen_29 rfl dX10_seen_49 ?_
        refine SW.iconst (v := (2 : Int32)) C dX10_seen_52 (by decide) ?_
        refine SW.aload_n C dX10_seen_53 rfl 0 rfl ?_
        refine SW.get (v := .int (oY 0 8)) (T := TX10) (N := 25) C inX10_seen_X10 0 rfl rfl 8 (by decide) lkX10_seen_66 rfl dX10_seen_54 ?_
        refine SW.imul C dX10_seen_57 ?_
        refine SW.iconst (v := (1 : Int32)) C dX10_seen_58 (by decide) ?_
        refine SW.iadd C dX10_seen_59 ?_
        refine SW.iload_n C dX10_seen_60 rfl 2 rfl ?_
        refine SW.nameOb (wz := fun z => w10 cI cZ qY z) (o := (pa oY 3 (nC ((2 : Int32) * (oY 0 8))) v1)) (fun oY_61n he => ?_)
        replace h := h oY_61n he
        refine SW.iast (ws' := w10 cI cZ qY (pa oY_61n 3 (nC (((2 : Int32) * (oY 0 8)) + (1 : Int32))) v2)) C 3 0 rfl rfl h.1 rfl dX10_seen_61 ?_
        replace h := h.2
        refine SW.aload_n C dX10_seen_62 rfl 0 rfl ?_
        refine SW.dup C dX10_seen_63 rfl ?_
        refine SW.get (v := .int (oY_61n 0 8)) (T := TX10) (N := 25) C inX10_seen_X10 0 rfl rfl 8 (by decide) lkX10_seen_66 rfl dX10_seen_64 ?_
        refine SW.iconst (v := (1 : Int32)) C dX10_seen_67 (by decide) ?_
        refine SW.iadd C dX10_seen_68 ?_
        refine SW.nameOb (wz := fun z => w10 cI cZ qY z) (o := (pa oY_61n 3 (nC (((2 : Int32) * (oY 0 8)) + (1 : Int32))) v2)) (fun oY_69n he => ?_)
        replace h := h oY_69n he
        refine SW.put (ws' := w10 cI cZ qY (pf oY_69n 8 ((oY_61n 0 8) + (1 : Int32)))) (T := TX10) (N := 25) C inX10_seen_X10 tyX10 tyX10_ok nmX10 0 rfl rfl 8 (by decide) lkX10_seen_66 rfl rfl rfl (Nat.le_of_ble_eq_true rfl) rfl dX10_seen_69 ?_
        refine SW.aload_n C dX10_seen_72 rfl 0 rfl ?_
        refine SW.get (v := .int ((oY_61n 0 8) + (1 : Int32))) (T := TX10) (N := 25) C inX10_seen_X10 0 rfl rfl 8 (by decide) lkX10_seen_66 rfl dX10_seen_73 ?_
        exact SW.iret C (pf oY_69n 8 ((oY_61n 0 8) + (1 : Int32))) rfl h dX10_seen_76
      · replace h := h.1 hc
        refine SW.bipush (v := (-4 : Int32)) C dX10_seen_33 (by decide) ?_
        exact SW.iret C oY rfl h dX10_seen_35
    · replace h := h.1 hc
      refine SW.bipush (v := (-2 : Int32)) C dX10_seen_21 (by decide) ?_
      exact SW.iret C oY rfl h dX10_seen_23
  · replace h := h.1 hc
    refine SW.iconst (v := (-1 : Int32)) C dX10_seen_8 (by decide) ?_
    exact SW.iret C oY rfl h dX10_seen_9
def wpX10_forget (oY : Ob) (post : Int32 → Ob → Prop) : Prop := post (oY 0 8) (pf oY 8 (0 : Int32))
theorem pdX10_forget : yX10_forget.cls = RX10 ∧ yX10_forget.cls ≠ "java/lang/invoke/MethodHandle" ∧ yX10_forget.cls ≠ "java/lang/invoke/VarHandle" ∧ (parseMethodDescriptor yX10_forget.desc).map (fun d => d.parameters.length) = some 0 := by decide +kernel
theorem lkX10_forget_66 : Cond.fieldLink RX10 66 (TX10 8).1 (TX10 8).2.1 (TX10 8).2.2.1 ∈ wsX10_forget := by decide +kernel
theorem inX10_forget_X10 : ∀ w ∈ u_ws RX10 TX10 25, w ∈ wsX10_forget := by decide +kernel
set_option maxHeartbeats 4000000 in
set_option maxRecDepth 100000 in
theorem ctX10_forget (l : Launch) (D : va_G) (cI cZ : ClassId) (qY : Nat → Nat) (oY : Ob) (post : Int32 → Ob → Prop) (h : wpX10_forget oY post) : CTi l yX10_forget wsX10_forget { frames := 0, cells := 0, slots := 0, locals := 0 } D [(cI, .int), (cZ, .boolean)] [.ref (qY 0)] (w10 cI cZ qY oY) (fun u : Ob => w10 cI cZ qY u) (fun (r : Int32) (u : Ob) => post r u) := by
  refine CTi.of (cc := cX10_forget) (own := RX10) (maxL := 2) (ret := (some .int)) (lv0 := [(0, .ref (qY 0))]) (by decide) rfl rfl (Nat.le_of_ble_eq_true rfl) rfl ?_
  intro p e s m args below meth c A C
  unfold wpX10_forget at h
  refine SW.aload_n C dX10_forget_0 rfl 0 rfl ?_
  refine SW.get (v := .int (oY 0 8)) (T := TX10) (N := 25) C inX10_forget_X10 0 rfl rfl 8 (by decide) lkX10_forget_66 rfl dX10_forget_1 ?_
  refine SW.istore_n (lv' := [(1, .int (oY 0 8)), (0, .ref (qY 0))]) C dX10_forget_4 rfl (by decide) rfl ?_
  refine SW.aload_n C dX10_forget_5 rfl 1 rfl ?_
  refine SW.iconst (v := (0 : Int32)) C dX10_forget_6 (by decide) ?_
  refine SW.put (ws' := w10 cI cZ qY (pf oY 8 (0 : Int32))) (T := TX10) (N := 25) C inX10_forget_X10 tyX10 tyX10_ok nmX10 0 rfl rfl 8 (by decide) lkX10_forget_66 rfl rfl rfl (Nat.le_of_ble_eq_true rfl) rfl dX10_forget_7 ?_
  refine SW.iload_n C dX10_forget_10 rfl 0 rfl ?_
  exact SW.iret C (pf oY 8 (0 : Int32)) rfl h dX10_forget_11
def wpX10_fits_L8 (c1_8 : Int32) (oYc_8 : Ob) (K62 : Int32 → Prop) : Nat → Int32 → Int32 → Prop
  | 0, _, _ => False
  | fu8 + 1, v2_8, v3_8 => (((oYc_8 0 8) ≤ v3_8) → K62 v2_8) ∧ (¬ ((oYc_8 0 8) ≤ v3_8) → ((v2_8 = 0) → K62 v2_8) ∧ (¬ (v2_8 = 0) → (vp_in ((2 : Int32) * v3_8) 16) ∧ (wpX10_lengthOf oYc_8 (jld (oYc_8 3) ((2 : Int32) * v3_8)) c1_8 (oYc_8 0 5) (fun (r34 : Int32) => (vp_in (((2 : Int32) * v3_8) + (1 : Int32)) 16) ∧ (jn1 (fun (p0_55 : Int32) => wpX10_fits_L8 c1_8 oYc_8 K62 fu8 p0_55 (v3_8 + (1 : Int32))) (fun J55 => ((r34 = (jld (oYc_8 3) (((2 : Int32) * v3_8) + (1 : Int32)))) → J55 (1 : Int32)) ∧ (¬ (r34 = (jld (oYc_8 3) (((2 : Int32) * v3_8) + (1 : Int32)))) → J55 (0 : Int32))))))))
def wpX10_fits (oY : Ob) (v1 : Int32) (post : Int32 → Prop) : Prop := wpX10_canBe oY v1 (fun (r2 : Int32) => ∃ fu8 : Nat, wpX10_fits_L8 v1 oY (fun (v2_62 : Int32) => isB v2_62 ∧ post v2_62) fu8 r2 (0 : Int32))
theorem pdX10_fits : yX10_fits.cls = RX10 ∧ yX10_fits.cls ≠ "java/lang/invoke/MethodHandle" ∧ yX10_fits.cls ≠ "java/lang/invoke/VarHandle" ∧ (parseMethodDescriptor yX10_fits.desc).map (fun d => d.parameters.length) = some 1 := by decide +kernel
theorem lkX10_fits_66 : Cond.fieldLink RX10 66 (TX10 8).1 (TX10 8).2.1 (TX10 8).2.2.1 ∈ wsX10_fits := by decide +kernel
theorem inX10_fits_X10 : ∀ w ∈ u_ws RX10 TX10 25, w ∈ wsX10_fits := by decide +kernel
theorem lkX10_fits_29 : Cond.fieldLink RX10 29 (TX10 9).1 (TX10 9).2.1 (TX10 9).2.2.1 ∈ wsX10_fits := by decide +kernel
theorem lkX10_fits_60 : Cond.fieldLink RX10 60 (TX10 5).1 (TX10 5).2.1 (TX10 5).2.2.1 ∈ wsX10_fits := by decide +kernel
set_option maxHeartbeats 4000000 in
set_option maxRecDepth 100000 in
theorem ctX10_fits (l : Launch) (D : va_G) (cI cZ : ClassId) (qY : Nat → Nat) (oY : Ob) (v1 : Int32) (post : Int32 → Prop) (h : wpX10_fits oY v1 post) : CTi l yX10_fits wsX10_fits { frames := 2, cells := 0, slots := 0, locals := 49 } D [(cI, .int), (cZ, .boolean)] [.ref (qY 0), .int v1] (w10 cI cZ qY oY) (fun _ : Unit => w10 cI cZ qY oY) (fun (r : Int32) (_ : Unit) => post r) := by
  refine CTi.of (cc := cX10_fits) (own := RX10) (maxL := 4) (ret := (some .boolean)) (lv0 := [(0, .ref (qY 0)), (1, .int v1)]) (by decide) rfl rfl (Nat.le_of_ble_eq_true rfl) rfl ?_
  intro p e s m args below meth c A C
  unfold wpX10_fits at h
  refine SW.aload_n C dX10_fits_0 rfl 0 rfl ?_
  refine SW.iload_n C dX10_fits_1 rfl 1 rfl ?_
  refine SW.callVi_same C (ctX10_canBe l D cI cZ qY oY v1 _ h) gX10_fits_X10_canBe rfl rfl rfl pdX10_canBe ⟨by decide, by decide⟩ 0 rfl rfl rfl rfl rfl (Nat.le_of_ble_eq_true rfl) dX10_fits_2 (by decide) (fun r2 u h => ?_)
  try dsimp only at h
  refine SW.istore_n (lv' := [(2, .int r2), (0, .ref (qY 0)), (1, .int v1)]) C dX10_fits_5 rfl (by decide) rfl ?_
  refine SW.iconst (v := (0 : Int32)) C dX10_fits_6 (by decide) ?_
  refine SW.istore_n (lv' := [(3, .int (0 : Int32)), (2, .int r2), (0, .ref (qY 0)), (1, .int v1)]) C dX10_fits_7 rfl (by decide) rfl ?_
  have L8 : ∀ (K62 : Int32 → Prop) (hK62 : ∀ (v2_62 : Int32), K62 v2_62 → SW p l e { frames := 2, cells := 0, slots := 0, locals := 49 } s m args below meth c A D 4 0 0 (MQ below (va_Qi (fun (r : Int32) (_ : Unit) => post r) (ctB D A (fun _ : Unit => w10 cI cZ qY oY)) A) args s 0 0 A) (w10 cI cZ qY oY) 62 [(2, .int v2_62)] []) (fu : Nat) (v2_8 : Int32) (v3_8 : Int32), wpX10_fits_L8 v1 oY K62 fu v2_8 v3_8 → SW p l e { frames := 2, cells := 0, slots := 0, locals := 49 } s m args below meth c A D 4 0 0 (MQ below (va_Qi (fun (r : Int32) (_ : Unit) => post r) (ctB D A (fun _ : Unit => w10 cI cZ qY oY)) A) args s 0 0 A) (w10 cI cZ qY oY) 8 [(0, .ref (qY 0)), (1, .int v1), (2, .int v2_8), (3, .int v3_8)] [] := by
    intro K62 hK62 fu
    induction fu with
    | zero =>
      intro v2_8 v3_8 h
      exact False.elim h
    | succ fu ih =>
      intro v2_8 v3_8 h
      unfold wpX10_fits_L8 at h
      refine SW.iload_n C dX10_fits_8 rfl 3 rfl ?_
      refine SW.aload_n C dX10_fits_9 rfl 0 rfl ?_
      refine SW.get (v := .int (oY 0 8)) (T := TX10) (N := 25) C inX10_fits_X10 0 rfl rfl 8 (by decide) lkX10_fits_66 rfl dX10_fits_10 ?_
      refine SW.icmp_ge (tgt := 62) C dX10_fits_13 (by decide) (fun hc => ?_) (fun hc => ?_)
      · replace h := h.1 hc
        refine SW.sub [2] rfl ?_
        exact hK62 _ h
      · replace h := h.2 hc
        refine SW.iload_n C dX10_fits_16 rfl 2 rfl ?_
        refine SW.if_eq (tgt := 62) C dX10_fits_17 (by decide) (fun hc => ?_) (fun hc => ?_)
        · replace h := h.1 hc
          refine SW.sub [2] rfl ?_
          exact hK62 _ h
        · replace h := h.2 hc
          refine SW.aload_n C dX10_fits_20 rfl 0 rfl ?_
          refine SW.aload_n C dX10_fits_21 rfl 0 rfl ?_
          refine SW.get (v := .ref (qY 3)) (T := TX10) (N := 25) C inX10_fits_X10 0 rfl rfl 9 (by decide) lkX10_fits_29 rfl dX10_fits_22 ?_
          refine SW.iconst (v := (2 : Int32)) C dX10_fits_25 (by decide) ?_
          refine SW.iload_n C dX10_fits_26 rfl 3 rfl ?_
          refine SW.imul C dX10_fits_27 ?_
          refine SW.iald C 3 0 rfl rfl h.1 dX10_fits_28 ?_
          replace h := h.2
          refine SW.iload_n C dX10_fits_29 rfl 1 rfl ?_
          refine SW.aload_n C dX10_fits_30 rfl 0 rfl ?_
          refine SW.get (v := .int (oY 0 5)) (T := TX10) (N := 25) C inX10_fits_X10 0 rfl rfl 5 (by decide) lkX10_fits_60 rfl dX10_fits_31 ?_
          refine SW.callVi_same C (ctX10_lengthOf l D cI cZ qY oY (jld (oY 3) ((2 : Int32) * v3_8)) v1 (oY 0 5) _ h) gX10_fits_X10_lengthOf rfl rfl rfl pdX10_lengthOf ⟨by decide, by decide⟩ 0 rfl rfl rfl rfl rfl (Nat.le_of_ble_eq_true rfl) dX10_fits_34 (by decide) (fun r34 u h => ?_)
          try dsimp only at h
          refine SW.aload_n C dX10_fits_37 rfl 0 rfl ?_
          refine SW.get (v := .ref (qY 3)) (T := TX10) (N := 25) C inX10_fits_X10 0 rfl rfl 9 (by decide) lkX10_fits_29 rfl dX10_fits_38 ?_
          refine SW.iconst (v := (2 : Int32)) C dX10_fits_41 (by decide) ?_
          refine SW.iload_n C dX10_fits_42 rfl 3 rfl ?_
          refine SW.imul C dX10_fits_43 ?_
          refine SW.iconst (v := (1 : Int32)) C dX10_fits_44 (by decide) ?_
          refine SW.iadd C dX10_fits_45 ?_
          refine SW.iald C 3 0 rfl rfl h.1 dX10_fits_46 ?_
          replace h := h.2
          refine jn1_elim (G := fun p0_55 => SW p l e { frames := 2, cells := 0, slots := 0, locals := 49 } s m args below meth c A D 4 0 0 (MQ below (va_Qi (fun (r : Int32) (_ : Unit) => post r) (ctB D A (fun _ : Unit => w10 cI cZ qY oY)) A) args s 0 0 A) (w10 cI cZ qY oY) 55 [(0, .ref (qY 0)), (1, .int v1), (3, .int v3_8)] [.int p0_55]) h (fun p0_55 h => ?_) (fun J55 hJ55 h => ?_)
          · refine SW.istore_n (lv' := [(2, .int p0_55), (0, .ref (qY 0)), (1, .int v1), (3, .int v3_8)]) C dX10_fits_55 rfl (by decide) rfl ?_
            refine SW.iinc (q := 3) (v := (v3_8 + (1 : Int32))) (lv' := [(3, .int (v3_8 + (1 : Int32))), (2, .int p0_55), (0, .ref (qY 0)), (1, .int v1)]) C dX10_fits_56 rfl rfl (by decide) rfl ?_
            refine SW.goto (tgt := 8) C dX10_fits_59 (by decide) ?_
            refine SW.sub [2, 3, 1, 0] rfl ?_
            exact ih _ _ h
          · refine SW.icmp_ne (tgt := 54) C dX10_fits_47 (by decide) (fun hc => ?_) (fun hc => ?_)
            · replace h := h.2 hc
              refine SW.iconst (v := (0 : Int32)) C dX10_fits_54 (by decide) ?_
              refine SW.sub [0, 1, 3] rfl ?_
              exact hJ55 _ h
            · replace h := h.1 hc
              refine SW.iconst (v := (1 : Int32)) C dX10_fits_50 (by decide) ?_
              refine SW.goto (tgt := 55) C dX10_fits_51 (by decide) ?_
              refine SW.sub [0, 1, 3] rfl ?_
              exact hJ55 _ h
  obtain ⟨fu, h⟩ := h
  refine SW.sub [2, 3, 1, 0] rfl ?_
  refine L8 _ (fun v2_62 h => ?_) fu _ _ h
  · refine SW.iload_n C dX10_fits_62 rfl 0 rfl ?_
    exact SW.zret C () (isB_nar h.1) rfl h.2 dX10_fits_63
def wpX10_fit_L33 (oYc_33 : Ob) (K87 : Int32 → Int32 → Int32 → Int32 → Prop) : Nat → Int32 → Int32 → Int32 → Int32 → Int32 → Prop
  | 0, _, _, _, _, _ => False
  | fu33 + 1, v2_33, v3_33, v4_33, v5_33, v6_33 => (((jshl (1 : Int32) (oYc_33 0 0)) ≤ v6_33) → K87 v2_33 v3_33 v4_33 v5_33) ∧ (¬ ((jshl (1 : Int32) (oYc_33 0 0)) ≤ v6_33) → wpX10_fits oYc_33 v6_33 (fun (r47 : Int32) => jn4 (fun (v2_81 : Int32) (v3_81 : Int32) (v4_81 : Int32) (v5_81 : Int32) => wpX10_fit_L33 oYc_33 K87 fu33 v2_81 v3_81 v4_81 v5_81 (v6_33 + (1 : Int32))) (fun J81 => ((r47 = 0) → J81 v2_33 v3_33 v4_33 v5_33) ∧ (¬ (r47 = 0) → jn1 (fun (p0_64 : Int32) => J81 (v2_33 + (1 : Int32)) (v3_33 ||| v6_33) (v4_33 &&& v6_33) p0_64) (fun J64 => ((v2_33 = 0) → J64 v6_33) ∧ (¬ (v2_33 = 0) → J64 v5_33))))))
def wpX10_fit (oY : Ob) (v1 : Int32) (post : Int32 → Prop) : Prop := wpX10_in v1 (0 : Int32) (3 : Int32) (fun (r3 : Int32) => ((r3 = 0) → post (-2 : Int32)) ∧ (¬ (r3 = 0) → ∃ fu33 : Nat, wpX10_fit_L33 oY (fun (v2_87 : Int32) (v3_87 : Int32) (v4_87 : Int32) (v5_87 : Int32) => ((v1 = 0) → post v2_87) ∧ (¬ (v1 = 0) → ((v1 = (1 : Int32)) → post v3_87) ∧ (¬ (v1 = (1 : Int32)) → ((v1 = (2 : Int32)) → ((v2_87 = 0) → post (0 : Int32)) ∧ (¬ (v2_87 = 0) → post v4_87)) ∧ (¬ (v1 = (2 : Int32)) → post v5_87)))) fu33 (0 : Int32) (0 : Int32) ((jshl (1 : Int32) (oY 0 0)) - (1 : Int32)) (-6 : Int32) (0 : Int32)))
theorem pdX10_fit : yX10_fit.cls = RX10 ∧ yX10_fit.cls ≠ "java/lang/invoke/MethodHandle" ∧ yX10_fit.cls ≠ "java/lang/invoke/VarHandle" ∧ (parseMethodDescriptor yX10_fit.desc).map (fun d => d.parameters.length) = some 1 := by decide +kernel
theorem lkX10_fit_7 : Cond.fieldLink RX10 7 (TX10 0).1 (TX10 0).2.1 (TX10 0).2.2.1 ∈ wsX10_fit := by decide +kernel
theorem inX10_fit_X10 : ∀ w ∈ u_ws RX10 TX10 25, w ∈ wsX10_fit := by decide +kernel
set_option maxHeartbeats 4000000 in
set_option maxRecDepth 100000 in
theorem ctX10_fit (l : Launch) (D : va_G) (cI cZ : ClassId) (qY : Nat → Nat) (oY : Ob) (v1 : Int32) (post : Int32 → Prop) (h : wpX10_fit oY v1 post) : CTi l yX10_fit wsX10_fit { frames := 3, cells := 0, slots := 0, locals := 72 } D [(cI, .int), (cZ, .boolean)] [.ref (qY 0), .int v1] (w10 cI cZ qY oY) (fun _ : Unit => w10 cI cZ qY oY) (fun (r : Int32) (_ : Unit) => post r) := by
  refine CTi.of (cc := cX10_fit) (own := RX10) (maxL := 7) (ret := (some .int)) (lv0 := [(0, .ref (qY 0)), (1, .int v1)]) (by decide) rfl rfl (Nat.le_of_ble_eq_true rfl) rfl ?_
  intro p e s m args below meth c A C
  unfold wpX10_fit at h
  refine SW.iload_n C dX10_fit_0 rfl 1 rfl ?_
  refine SW.iconst (v := (0 : Int32)) C dX10_fit_1 (by decide) ?_
  refine SW.iconst (v := (3 : Int32)) C dX10_fit_2 (by decide) ?_
  refine SW.callSi_pure C (ctX10_in l D cI cZ v1 (0 : Int32) (3 : Int32) _ h) gX10_fit_X10_in rfl rfl rfl pdX10_in ⟨by decide, by decide⟩ rfl rfl (Nat.le_of_ble_eq_true rfl) dX10_fit_3 (by decide) (fun r3 u h => ?_)
  try dsimp only at h
  refine SW.if_ne (tgt := 12) C dX10_fit_6 (by decide) (fun hc => ?_) (fun hc => ?_)
  · replace h := h.2 hc
    refine SW.iconst (v := (0 : Int32)) C dX10_fit_12 (by decide) ?_
    refine SW.istore_n (lv' := [(2, .int (0 : Int32)), (0, .ref (qY 0)), (1, .int v1)]) C dX10_fit_13 rfl (by decide) rfl ?_
    refine SW.iconst (v := (0 : Int32)) C dX10_fit_14 (by decide) ?_
    refine SW.istore_n (lv' := [(3, .int (0 : Int32)), (2, .int (0 : Int32)), (0, .ref (qY 0)), (1, .int v1)]) C dX10_fit_15 rfl (by decide) rfl ?_
    refine SW.iconst (v := (1 : Int32)) C dX10_fit_16 (by decide) ?_
    refine SW.aload_n C dX10_fit_17 rfl 2 rfl ?_
    refine SW.get (v := .int (oY 0 0)) (T := TX10) (N := 25) C inX10_fit_X10 0 rfl rfl 0 (by decide) lkX10_fit_7 rfl dX10_fit_18 ?_
    refine SW.ishl C dX10_fit_21 ?_
    refine SW.iconst (v := (1 : Int32)) C dX10_fit_22 (by decide) ?_
    refine SW.isub C dX10_fit_23 ?_
    refine SW.istore (lv' := [(4, .int ((jshl (1 : Int32) (oY 0 0)) - (1 : Int32))), (3, .int (0 : Int32)), (2, .int (0 : Int32)), (0, .ref (qY 0)), (1, .int v1)]) C dX10_fit_24 (by decide) rfl ?_
    refine SW.bipush (v := (-6 : Int32)) C dX10_fit_26 (by decide) ?_
    refine SW.istore (lv' := [(5, .int (-6 : Int32)), (4, .int ((jshl (1 : Int32) (oY 0 0)) - (1 : Int32))), (3, .int (0 : Int32)), (2, .int (0 : Int32)), (0, .ref (qY 0)), (1, .int v1)]) C dX10_fit_28 (by decide) rfl ?_
    refine SW.iconst (v := (0 : Int32)) C dX10_fit_30 (by decide) ?_
    refine SW.istore (lv' := [(6, .int (0 : Int32)), (5, .int (-6 : Int32)), (4, .int ((jshl (1 : Int32) (oY 0 0)) - (1 : Int32))), (3, .int (0 : Int32)), (2, .int (0 : Int32)), (0, .ref (qY 0)), (1, .int v1)]) C dX10_fit_31 (by decide) rfl ?_
    have L33 : ∀ (K87 : Int32 → Int32 → Int32 → Int32 → Prop) (hK87 : ∀ (v2_87 : Int32) (v3_87 : Int32) (v4_87 : Int32) (v5_87 : Int32), K87 v2_87 v3_87 v4_87 v5_87 → SW p l e { frames := 3, cells := 0, slots := 0, locals := 72 } s m args below meth c A D 7 0 0 (MQ below (va_Qi (fun (r : Int32) (_ : Unit) => post r) (ctB D A (fun _ : Unit => w10 cI cZ qY oY)) A) args s 0 0 A) (w10 cI cZ qY oY) 87 [(1, .int v1), (2, .int v2_87), (3, .int v3_87), (4, .int v4_87), (5, .int v5_87)] []) (fu : Nat) (v2_33 : Int32) (v3_33 : Int32) (v4_33 : Int32) (v5_33 : Int32) (v6_33 : Int32), wpX10_fit_L33 oY K87 fu v2_33 v3_33 v4_33 v5_33 v6_33 → SW p l e { frames := 3, cells := 0, slots := 0, locals := 72 } s m args below meth c A D 7 0 0 (MQ below (va_Qi (fun (r : Int32) (_ : Unit) => post r) (ctB D A (fun _ : Unit => w10 cI cZ qY oY)) A) args s 0 0 A) (w10 cI cZ qY oY) 33 [(0, .ref (qY 0)), (1, .int v1), (2, .int v2_33), (3, .int v3_33), (4, .int v4_33), (5, .int v5_33), (6, .int v6_33)] [] := by
      intro K87 hK87 fu
      induction fu with
      | zero =>
        intro v2_33 v3_33 v4_33 v5_33 v6_33 h
        exact False.elim h
      | succ fu ih =>
        intro v2_33 v3_33 v4_33 v5_33 v6_33 h
        unfold wpX10_fit_L33 at h
        refine SW.iload C dX10_fit_33 6 rfl ?_
        refine SW.iconst (v := (1 : Int32)) C dX10_fit_35 (by decide) ?_
        refine SW.aload_n C dX10_fit_36 rfl 0 rfl ?_
        refine SW.get (v := .int (oY 0 0)) (T := TX10) (N := 25) C inX10_fit_X10 0 rfl rfl 0 (by decide) lkX10_fit_7 rfl dX10_fit_37 ?_
        refine SW.ishl C dX10_fit_40 ?_
        refine SW.icmp_ge (tgt := 87) C dX10_fit_41 (by decide) (fun hc => ?_) (fun hc => ?_)
        · replace h := h.1 hc
          refine SW.sub [1, 2, 3, 4, 5] rfl ?_
          exact hK87 _ _ _ _ h
        · replace h := h.2 hc
          refine SW.aload_n C dX10_fit_44 rfl 0 rfl ?_
          refine SW.iload C dX10_fit_45 6 rfl ?_
          refine SW.callVi_same C (ctX10_fits l D cI cZ qY oY v6_33 _ h) gX10_fit_X10_fits rfl rfl rfl pdX10_fits ⟨by decide, by decide⟩ 0 rfl rfl rfl rfl rfl (Nat.le_of_ble_eq_true rfl) dX10_fit_47 (by decide) (fun r47 u h => ?_)
          try dsimp only at h
          refine jn4_elim (G := fun v2_81 v3_81 v4_81 v5_81 => SW p l e { frames := 3, cells := 0, slots := 0, locals := 72 } s m args below meth c A D 7 0 0 (MQ below (va_Qi (fun (r : Int32) (_ : Unit) => post r) (ctB D A (fun _ : Unit => w10 cI cZ qY oY)) A) args s 0 0 A) (w10 cI cZ qY oY) 81 [(0, .ref (qY 0)), (1, .int v1), (2, .int v2_81), (3, .int v3_81), (4, .int v4_81), (5, .int v5_81), (6, .int v6_33)] []) h (fun v2_81 v3_81 v4_81 v5_81 h => ?_) (fun J81 hJ81 h => ?_)
          · refine SW.iinc (q := 6) (v := (v6_33 + (1 : Int32))) (lv' := [(6, .int (v6_33 + (1 : Int32))), (0, .ref (qY 0)), (1, .int v1), (2, .int v2_81), (3, .int v3_81), (4, .int v4_81), (5, .int v5_81)]) C dX10_fit_81 rfl rfl (by decide) rfl ?_
            refine SW.goto (tgt := 33) C dX10_fit_84 (by decide) ?_
            refine SW.sub [1, 2, 3, 4, 5, 6, 0] rfl ?_
            exact ih _ _ _ _ _ h
          · refine SW.if_eq (tgt := 81) C dX10_fit_50 (by decide) (fun hc => ?_) (fun hc => ?_)
            · replace h := h.1 hc
              exact hJ81 _ _ _ _ h
            · replace h := h.2 hc
              refine SW.iload_n C dX10_fit_53 rfl 2 rfl ?_
              refine jn1_elim (G := fun p0_64 => SW p l e { frames := 3, cells := 0, slots := 0, locals := 72 } s m args below meth c A D 7 0 0 (MQ below (va_Qi (fun (r : Int32) (_ : Unit) => post r) (ctB D A (fun _ : Unit => w10 cI cZ qY oY)) A) args s 0 0 A) (w10 cI cZ qY oY) 64 [(0, .ref (qY 0)), (1, .int v1), (2, .int v2_33), (3, .int v3_33), (4, .int v4_33), (6, .int v6_33)] [.int p0_64]) h (fun p0_64 h => ?_) (fun J64 hJ64 h => ?_)
              · refine SW.istore (lv' := [(5, .int p0_64), (0, .ref (qY 0)), (1, .int v1), (2, .int v2_33), (3, .int v3_33), (4, .int v4_33), (6, .int v6_33)]) C dX10_fit_64 (by decide) rfl ?_
                refine SW.iinc (q := 3) (v := (v2_33 + (1 : Int32))) (lv' := [(2, .int (v2_33 + (1 : Int32))), (5, .int p0_64), (0, .ref (qY 0)), (1, .int v1), (3, .int v3_33), (4, .int v4_33), (6, .int v6_33)]) C dX10_fit_66 rfl rfl (by decide) rfl ?_
                refine SW.iload_n C dX10_fit_69 rfl 4 rfl ?_
                refine SW.iload C dX10_fit_70 6 rfl ?_
                refine SW.ior C dX10_fit_72 ?_
                refine SW.istore_n (lv' := [(3, .int (v3_33 ||| v6_33)), (2, .int (v2_33 + (1 : Int32))), (5, .int p0_64), (0, .ref (qY 0)), (1, .int v1), (4, .int v4_33), (6, .int v6_33)]) C dX10_fit_73 rfl (by decide) rfl ?_
                refine SW.iload C dX10_fit_74 5 rfl ?_
                refine SW.iload C dX10_fit_76 6 rfl ?_
                refine SW.iand C dX10_fit_78 ?_
                refine SW.istore (lv' := [(4, .int (v4_33 &&& v6_33)), (3, .int (v3_33 ||| v6_33)), (2, .int (v2_33 + (1 : Int32))), (5, .int p0_64), (0, .ref (qY 0)), (1, .int v1), (6, .int v6_33)]) C dX10_fit_79 (by decide) rfl ?_
                refine SW.sub [4, 5, 2, 1, 0, 3, 6] rfl ?_
                exact hJ81 _ _ _ _ h
              · refine SW.if_ne (tgt := 62) C dX10_fit_54 (by decide) (fun hc => ?_) (fun hc => ?_)
                · replace h := h.2 hc
                  refine SW.iload C dX10_fit_62 5 rfl ?_
                  refine SW.sub [0, 1, 2, 3, 4, 6] rfl ?_
                  exact hJ64 _ h
                · replace h := h.1 hc
                  refine SW.iload C dX10_fit_57 6 rfl ?_
                  refine SW.goto (tgt := 64) C dX10_fit_59 (by decide) ?_
                  refine SW.sub [0, 1, 2, 3, 4, 6] rfl ?_
                  exact hJ64 _ h
    obtain ⟨fu, h⟩ := h
    refine SW.sub [5, 6, 4, 3, 2, 1, 0] rfl ?_
    refine L33 _ (fun v2_87 v3_87 v4_87 v5_87 h => ?_) fu _ _ _ _ _ h
    · refine SW.iload_n C dX10_fit_87 rfl 0 rfl ?_
      refine SW.if_ne (tgt := 95) C dX10_fit_88 (by decide) (fun hc => ?_) (fun hc => ?_)
      · replace h := h.2 hc
        refine SW.iload_n C dX10_fit_95 rfl 0 rfl ?_
        refine SW.iconst (v := (1 : Int32)) C dX10_fit_96 (by decide) ?_
        refine SW.icmp_ne (tgt := 104) C dX10_fit_97 (by decide) (fun hc => ?_) (fun hc => ?_)
        · replace h := h.2 hc
          refine SW.iload_n C dX10_fit_104 rfl 0 rfl ?_
          refine SW.iconst (v := (2 : Int32)) C dX10_fit_105 (by decide) ?_
          refine SW.icmp_ne (tgt := 122) C dX10_fit_106 (by decide) (fun hc => ?_) (fun hc => ?_)
          · replace h := h.2 hc
            refine SW.iload C dX10_fit_122 4 rfl ?_
            exact SW.iret C () rfl h dX10_fit_124
          · replace h := h.1 hc
            refine SW.iload_n C dX10_fit_109 rfl 1 rfl ?_
            refine SW.if_ne (tgt := 117) C dX10_fit_110 (by decide) (fun hc => ?_) (fun hc => ?_)
            · replace h := h.2 hc
              refine SW.iload C dX10_fit_117 3 rfl ?_
              refine SW.goto (tgt := 124) C dX10_fit_119 (by decide) ?_
              exact SW.iret C () rfl h dX10_fit_124
            · replace h := h.1 hc
              refine SW.iconst (v := (0 : Int32)) C dX10_fit_113 (by decide) ?_
              refine SW.goto (tgt := 124) C dX10_fit_114 (by decide) ?_
              exact SW.iret C () rfl h dX10_fit_124
        · replace h := h.1 hc
          refine SW.iload_n C dX10_fit_100 rfl 2 rfl ?_
          refine SW.goto (tgt := 124) C dX10_fit_101 (by decide) ?_
          exact SW.iret C () rfl h dX10_fit_124
      · replace h := h.1 hc
        refine SW.iload_n C dX10_fit_91 rfl 1 rfl ?_
        refine SW.goto (tgt := 124) C dX10_fit_92 (by decide) ?_
        exact SW.iret C () rfl h dX10_fit_124
  · replace h := h.1 hc
    refine SW.bipush (v := (-2 : Int32)) C dX10_fit_9 (by decide) ?_
    exact SW.iret C () rfl h dX10_fit_11
def wpX10_ask_L36 (c4_36 : Int32) (oYc_36 : Ob) (K77 : Int32 → Prop) : Nat → Int32 → Int32 → Prop
  | 0, _, _ => False
  | fu36 + 1, v5_36, v6_36 => (((oYc_36 0 8) ≤ v6_36) → K77 v5_36) ∧ (¬ ((oYc_36 0 8) ≤ v6_36) → jn1 (fun (p0_69 : Int32) => wpX10_ask_L36 c4_36 oYc_36 K77 fu36 p0_69 (v6_36 + (1 : Int32))) (fun J69 => jn0 (J69 (1 : Int32)) (fun J64 => ((v5_36 = 0) → (vp_in ((2 : Int32) * v6_36) 16) ∧ ((((jld (oYc_36 3) ((2 : Int32) * v6_36)) = c4_36) → J64) ∧ (¬ ((jld (oYc_36 3) ((2 : Int32) * v6_36)) = c4_36) → J69 (0 : Int32)))) ∧ (¬ (v5_36 = 0) → J64))))
def wpX10_ask_L83 (K105 : Ob → Prop) : Nat → Int32 → Ob → Prop
  | 0, _, _ => False
  | fu83 + 1, v7_83, oY_83 => (((200 : Int32) ≤ v7_83) → K105 oY_83) ∧ (¬ ((200 : Int32) ≤ v7_83) → (vp_in v7_83 200) ∧ (wpX10_ask_L83 K105 fu83 (v7_83 + (1 : Int32)) (pa oY_83 7 (nC v7_83) (0 : Int32))))
def wpX10_ask_L108 (c4_108 : Int32) (c5_108 : Int32) (K190 : Int32 → Ob → Prop) : Nat → Int32 → Int32 → Ob → Prop
  | 0, _, _, _ => False
  | fu108 + 1, v6_108, v7_108, oY_108 => (((jshl (1 : Int32) (oY_108 0 0)) ≤ v7_108) → K190 v6_108 oY_108) ∧ (¬ ((jshl (1 : Int32) (oY_108 0 0)) ≤ v7_108) → ((c5_108 = 0) → wpX10_fits oY_108 v7_108 (fun (r127 : Int32) => jn2 (fun (v6_184 : Int32) (oY_184 : Ob) => wpX10_ask_L108 c4_108 c5_108 K190 fu108 v6_184 (v7_108 + (1 : Int32)) oY_184) (fun J184 => ((r127 = 0) → J184 v6_108 oY_108) ∧ (¬ (r127 = 0) → wpX10_lengthOf oY_108 c4_108 v7_108 (oY_108 0 5) (fun (r142 : Int32) => (vp_in r142 200) ∧ ((vp_in r142 200) ∧ ((vp_in r142 200) ∧ (jn1 (fun (p0_182 : Int32) => J184 p0_182 (pa oY_108 7 (nC r142) ((jld (oY_108 7) r142) + (1 : Int32)))) (fun J182 => (((jld (upd (oY_108 7) (nC r142) ((jld (oY_108 7) r142) + (1 : Int32))) r142) ≤ v6_108) → J182 v6_108) ∧ (¬ ((jld (upd (oY_108 7) (nC r142) ((jld (oY_108 7) r142) + (1 : Int32))) r142) ≤ v6_108) → (vp_in r142 200) ∧ (J182 (jld (upd (oY_108 7) (nC r142) ((jld (oY_108 7) r142) + (1 : Int32))) r142)))))))))))) ∧ (¬ (c5_108 = 0) → K190 v6_108 oY_108))
def wpX10_ask_L21 (K238 : Int32 → Int32 → Ob → Prop) : Nat → Int32 → Int32 → Int32 → Ob → Prop
  | 0, _, _, _, _ => False
  | fu21 + 1, v2_21, v3_21, v4_21, oY_21 => (((oY_21 0 0) ≤ v4_21) → K238 v2_21 v3_21 oY_21) ∧ (¬ ((oY_21 0 0) ≤ v4_21) → ∃ fu36 : Nat, wpX10_ask_L36 v4_21 oY_21 (fun (v5_77 : Int32) => ∃ fu83 : Nat, wpX10_ask_L83 (fun (oY_105 : Ob) => ∃ fu108 : Nat, wpX10_ask_L108 v4_21 v5_77 (fun (v6_190 : Int32) (oY_190 : Ob) => jn1 (fun (p0_206 : Int32) => jn1 (fun (p0_219 : Int32) => jn1 (fun (p0_231 : Int32) => wpX10_ask_L21 K238 fu21 p0_219 p0_231 (v4_21 + (1 : Int32)) oY_190) (fun J231 => ((p0_206 = 0) → J231 v3_21) ∧ (¬ (p0_206 = 0) → J231 v6_190))) (fun J219 => ((p0_206 = 0) → J219 v2_21) ∧ (¬ (p0_206 = 0) → J219 v4_21))) (fun J206 => jn0 (J206 (0 : Int32)) (fun J205 => ((v6_190 ≤ 0) → J205) ∧ (¬ (v6_190 ≤ 0) → ((v3_21 ≤ v6_190) → J205) ∧ (¬ (v3_21 ≤ v6_190) → J206 (1 : Int32)))))) fu108 (0 : Int32) (0 : Int32) oY_105) fu83 (0 : Int32) oY_21) fu36 (0 : Int32) (0 : Int32))
def wpX10_ask (oY : Ob) (v1 : Int32) (post : Int32 → Ob → Prop) : Prop := wpX10_in v1 (0 : Int32) (1 : Int32) (fun (r3 : Int32) => ((r3 = 0) → post (-2 : Int32) oY) ∧ (¬ (r3 = 0) → ∃ fu21 : Nat, wpX10_ask_L21 (fun (v2_238 : Int32) (v3_238 : Int32) (oY_238 : Ob) => jn0 (post v2_238 oY_238) (fun J246 => ((v2_238 < 0) → J246) ∧ (¬ (v2_238 < 0) → ((v1 = 0) → J246) ∧ (¬ (v1 = 0) → post v3_238 oY_238)))) fu21 (-6 : Int32) (1000000 : Int32) (0 : Int32) oY))
theorem pdX10_ask : yX10_ask.cls = RX10 ∧ yX10_ask.cls ≠ "java/lang/invoke/MethodHandle" ∧ yX10_ask.cls ≠ "java/lang/invoke/VarHandle" ∧ (parseMethodDescriptor yX10_ask.desc).map (fun d => d.parameters.length) = some 1 := by decide +kernel
theorem lkX10_ask_7 : Cond.fieldLink RX10 7 (TX10 0).1 (TX10 0).2.1 (TX10 0).2.2.1 ∈ wsX10_ask := by decide +kernel
theorem inX10_ask_X10 : ∀ w ∈ u_ws RX10 TX10 25, w ∈ wsX10_ask := by decide +kernel
theorem lkX10_ask_66 : Cond.fieldLink RX10 66 (TX10 8).1 (TX10 8).2.1 (TX10 8).2.2.1 ∈ wsX10_ask := by decide +kernel
theorem lkX10_ask_29 : Cond.fieldLink RX10 29 (TX10 9).1 (TX10 9).2.1 (TX10 9).2.2.1 ∈ wsX10_ask := by decide +kernel
theorem lkX10_ask_41 : Cond.fieldLink RX10 41 (TX10 20).1 (TX10 20).2.1 (TX10 20).2.2.1 ∈ wsX10_ask := by decide +kernel
theorem lkX10_ask_60 : Cond.fieldLink RX10 60 (TX10 5).1 (TX10 5).2.1 (TX10 5).2.2.1 ∈ wsX10_ask := by decide +kernel
set_option maxHeartbeats 4000000 in
set_option maxRecDepth 100000 in
theorem ctX10_ask (l : Launch) (D : va_G) (cI cZ : ClassId) (qY : Nat → Nat) (oY : Ob) (v1 : Int32) (post : Int32 → Ob → Prop) (h : wpX10_ask oY v1 post) : CTi l yX10_ask wsX10_ask { frames := 3, cells := 0, slots := 0, locals := 72 } D [(cI, .int), (cZ, .boolean)] [.ref (qY 0), .int v1] (w10 cI cZ qY oY) (fun u : Ob => w10 cI cZ qY u) (fun (r : Int32) (u : Ob) => post r u) := by
  refine CTi.of (cc := cX10_ask) (own := RX10) (maxL := 9) (ret := (some .int)) (lv0 := [(0, .ref (qY 0)), (1, .int v1)]) (by decide) rfl rfl (Nat.le_of_ble_eq_true rfl) rfl ?_
  intro p e s m args below meth c A C
  unfold wpX10_ask at h
  refine SW.iload_n C dX10_ask_0 rfl 1 rfl ?_
  refine SW.iconst (v := (0 : Int32)) C dX10_ask_1 (by decide) ?_
  refine SW.iconst (v := (1 : Int32)) C dX10_ask_2 (by decide) ?_
  refine SW.callSi_pure C (ctX10_in l D cI cZ v1 (0 : Int32) (1 : Int32) _ h) gX10_ask_X10_in rfl rfl rfl pdX10_in ⟨by decide, by decide⟩ rfl rfl (Nat.le_of_ble_eq_true rfl) dX10_ask_3 (by decide) (fun r3 u h => ?_)
  try dsimp only at h
  refine SW.if_ne (tgt := 12) C dX10_ask_6 (by decide) (fun hc => ?_) (fun hc => ?_)
  · replace h := h.2 hc
    refine SW.bipush (v := (-6 : Int32)) C dX10_ask_12 (by decide) ?_
    refine SW.istore_n (lv' := [(2, .int (-6 : Int32)), (0, .ref (qY 0)), (1, .int v1)]) C dX10_ask_14 rfl (by decide) rfl ?_
    refine SW.ldc (v := (1000000 : Int32)) C (by decide +kernel) dX10_ask_15 ?_
    refine SW.istore_n (lv' := [(3, .int (1000000 : Int32)), (2, .int (-6 : Int32)), (0, .ref (qY 0)), (1, .int v1)]) C dX10_ask_17 rfl (by decide) rfl ?_
    refine SW.iconst (v := (0 : Int32)) C dX10_ask_18 (by decide) ?_
    refine SW.istore (lv' := [(4, .int (0 : Int32)), (3, .int (1000000 : Int32)), (2, .int (-6 : Int32)), (0, .ref (qY 0)), (1, .int v1)]) C dX10_ask_19 (by decide) rfl ?_
    have L21 : ∀ (K238 : Int32 → Int32 → Ob → Prop) (hK238 : ∀ (v2_238 : Int32) (v3_238 : Int32) (oY_238 : Ob), K238 v2_238 v3_238 oY_238 → SW p l e { frames := 3, cells := 0, slots := 0, locals := 72 } s m args below meth c A D 9 0 0 (MQ below (va_Qi (fun (r : Int32) (u : Ob) => post r u) (ctB D A (fun u : Ob => w10 cI cZ qY u)) A) args s 0 0 A) (w10 cI cZ qY oY_238) 238 [(1, .int v1), (2, .int v2_238), (3, .int v3_238)] []) (fu : Nat) (v2_21 : Int32) (v3_21 : Int32) (v4_21 : Int32) (oY_21 : Ob), wpX10_ask_L21 K238 fu v2_21 v3_21 v4_21 oY_21 → SW p l e { frames := 3, cells := 0, slots := 0, locals := 72 } s m args below meth c A D 9 0 0 (MQ below (va_Qi (fun (r : Int32) (u : Ob) => post r u) (ctB D A (fun u : Ob => w10 cI cZ qY u)) A) args s 0 0 A) (w10 cI cZ qY oY_21) 21 [(0, .ref (qY 0)), (1, .int v1), (2, .int v2_21), (3, .int v3_21), (4, .int v4_21)] [] := by
      intro K238 hK238 fu
      induction fu with
      | zero =>
        intro v2_21 v3_21 v4_21 oY_21 h
        exact False.elim h
      | succ fu ih =>
        intro v2_21 v3_21 v4_21 oY_21 h
        unfold wpX10_ask_L21 at h
        refine SW.iload C dX10_ask_21 4 rfl ?_
        refine SW.aload_n C dX10_ask_23 rfl 0 rfl ?_
        refine SW.get (v := .int (oY_21 0 0)) (T := TX10) (N := 25) C inX10_ask_X10 0 rfl rfl 0 (by decide) lkX10_ask_7 rfl dX10_ask_24 ?_
        refine SW.icmp_ge (tgt := 238) C dX10_ask_27 (by decide) (fun hc => ?_) (fun hc => ?_)
        · replace h := h.1 hc
          refine SW.sub [1, 2, 3] rfl ?_
          exact hK238 _ _ _ h
        · replace h := h.2 hc
          refine SW.iconst (v := (0 : Int32)) C dX10_ask_30 (by decide) ?_
          refine SW.istore (lv' := [(5, .int (0 : Int32)), (0, .ref (qY 0)), (1, .int v1), (2, .int v2_21), (3, .int v3_21), (4, .int v4_21)]) C dX10_ask_31 (by decide) rfl ?_
          refine SW.iconst (v := (0 : Int32)) C dX10_ask_33 (by decide) ?_
          refine SW.istore (lv' := [(6, .int (0 : Int32)), (5, .int (0 : Int32)), (0, .ref (qY 0)), (1, .int v1), (2, .int v2_21), (3, .int v3_21), (4, .int v4_21)]) C dX10_ask_34 (by decide) rfl ?_
          have L36 : ∀ (K77 : Int32 → Prop) (hK77 : ∀ (v5_77 : Int32), K77 v5_77 → SW p l e { frames := 3, cells := 0, slots := 0, locals := 72 } s m args below meth c A D 9 0 0 (MQ below (va_Qi (fun (r : Int32) (u : Ob) => post r u) (ctB D A (fun u : Ob => w10 cI cZ qY u)) A) args s 0 0 A) (w10 cI cZ qY oY_21) 77 [(0, .ref (qY 0)), (1, .int v1), (2, .int v2_21), (3, .int v3_21), (4, .int v4_21), (5, .int v5_77)] []) (fu : Nat) (v5_36 : Int32) (v6_36 : Int32), wpX10_ask_L36 v4_21 oY_21 K77 fu v5_36 v6_36 → SW p l e { frames := 3, cells := 0, slots := 0, locals := 72 } s m args below meth c A D 9 0 0 (MQ below (va_Qi (fun (r : Int32) (u : Ob) => post r u) (ctB D A (fun u : Ob => w10 cI cZ qY u)) A) args s 0 0 A) (w10 cI cZ qY oY_21) 36 [(0, .ref (qY 0)), (1, .int v1), (2, .int v2_21), (3, .int v3_21), (4, .int v4_21), (5, .int v5_36), (6, .int v6_36)] [] := by
            intro K77 hK77 fu
            induction fu with
            | zero =>
              intro v5_36 v6_36 h
              exact False.elim h
            | succ fu ih =>
              intro v5_36 v6_36 h
              unfold wpX10_ask_L36 at h
              refine SW.iload C dX10_ask_36 6 rfl ?_
              refine SW.aload_n C dX10_ask_38 rfl 0 rfl ?_
              refine SW.get (v := .int (oY_21 0 8)) (T := TX10) (N := 25) C inX10_ask_X10 0 rfl rfl 8 (by decide) lkX10_ask_66 rfl dX10_ask_39 ?_
              refine SW.icmp_ge (tgt := 77) C dX10_ask_42 (by decide) (fun hc => ?_) (fun hc => ?_)
              · replace h := h.1 hc
                refine SW.sub [0, 1, 2, 3, 4, 5] rfl ?_
                exact hK77 _ h
              · replace h := h.2 hc
                refine SW.iload C dX10_ask_45 5 rfl ?_
                refine jn1_elim (G := fun p0_69 => SW p l e { frames := 3, cells := 0, slots := 0, locals := 72 } s m args below meth c A D 9 0 0 (MQ below (va_Qi (fun (r : Int32) (u : Ob) => post r u) (ctB D A (fun u : Ob => w10 cI cZ qY u)) A) args s 0 0 A) (w10 cI cZ qY oY_21) 69 [(0, .ref (qY 0)), (1, .int v1), (2, .int v2_21), (3, .int v3_21), (4, .int v4_21), (6, .int v6_36)] [.int p0_69]) h (fun p0_69 h => ?_) (fun J69 hJ69 h => ?_)
                · refine SW.istore (lv' := [(5, .int p0_69), (0, .ref (qY 0)), (1, .int v1), (2, .int v2_21), (3, .int v3_21), (4, .int v4_21), (6, .int v6_36)]) C dX10_ask_69 (by decide) rfl ?_
                  refine SW.iinc (q := 6) (v := (v6_36 + (1 : Int32))) (lv' := [(6, .int (v6_36 + (1 : Int32))), (5, .int p0_69), (0, .ref (qY 0)), (1, .int v1), (2, .int v2_21), (3, .int v3_21), (4, .int v4_21)]) C dX10_ask_71 rfl rfl (by decide) rfl ?_
                  refine SW.goto (tgt := 36) C dX10_ask_74 (by decide) ?_
                  refine SW.sub [2, 3, 4, 5, 6, 1, 0] rfl ?_
                  exact ih _ _ h
                · refine jn0_elim (G := SW p l e { frames := 3, cells := 0, slots := 0, locals := 72 } s m args below meth c A D 9 0 0 (MQ below (va_Qi (fun (r : Int32) (u : Ob) => post r u) (ctB D A (fun u : Ob => w10 cI cZ qY u)) A) args s 0 0 A) (w10 cI cZ qY oY_21) 64 [(0, .ref (qY 0)), (1, .int v1), (2, .int v2_21), (3, .int v3_21), (4, .int v4_21), (6, .int v6_36)] []) h (fun h => ?_) (fun J64 hJ64 h => ?_)
                  · refine SW.iconst (v := (1 : Int32)) C dX10_ask_64 (by decide) ?_
                    refine SW.goto (tgt := 69) C dX10_ask_65 (by decide) ?_
                    exact hJ69 _ h
                  · refine SW.if_ne (tgt := 64) C dX10_ask_47 (by decide) (fun hc => ?_) (fun hc => ?_)
                    · replace h := h.2 hc
                      refine SW.sub [0, 1, 2, 3, 4, 6] rfl ?_
                      exact hJ64 h
                    · replace h := h.1 hc
                      refine SW.aload_n C dX10_ask_50 rfl 0 rfl ?_
                      refine SW.get (v := .ref (qY 3)) (T := TX10) (N := 25) C inX10_ask_X10 0 rfl rfl 9 (by decide) lkX10_ask_29 rfl dX10_ask_51 ?_
                      refine SW.iconst (v := (2 : Int32)) C dX10_ask_54 (by decide) ?_
                      refine SW.iload C dX10_ask_55 6 rfl ?_
                      refine SW.imul C dX10_ask_57 ?_
                      refine SW.iald C 3 0 rfl rfl h.1 dX10_ask_58 ?_
                      replace h := h.2
                      refine SW.iload C dX10_ask_59 4 rfl ?_
                      refine SW.icmp_ne (tgt := 68) C dX10_ask_61 (by decide) (fun hc => ?_) (fun hc => ?_)
                      · replace h := h.2 hc
                        refine SW.iconst (v := (0 : Int32)) C dX10_ask_68 (by decide) ?_
                        refine SW.sub [0, 1, 2, 3, 4, 6] rfl ?_
                        exact hJ69 _ h
                      · replace h := h.1 hc
                        refine SW.sub [0, 1, 2, 3, 4, 6] rfl ?_
                        exact hJ64 h
          obtain ⟨fu, h⟩ := h
          refine SW.sub [2, 3, 4, 5, 6, 1, 0] rfl ?_
          refine L36 _ (fun v5_77 h => ?_) fu _ _ h
          · refine SW.iconst (v := (0 : Int32)) C dX10_ask_77 (by decide) ?_
            refine SW.istore (lv' := [(6, .int (0 : Int32)), (0, .ref (qY 0)), (1, .int v1), (2, .int v2_21), (3, .int v3_21), (4, .int v4_21), (5, .int v5_77)]) C dX10_ask_78 (by decide) rfl ?_
            refine SW.iconst (v := (0 : Int32)) C dX10_ask_80 (by decide) ?_
            refine SW.istore (lv' := [(7, .int (0 : Int32)), (6, .int (0 : Int32)), (0, .ref (qY 0)), (1, .int v1), (2, .int v2_21), (3, .int v3_21), (4, .int v4_21), (5, .int v5_77)]) C dX10_ask_81 (by decide) rfl ?_
            have L83 : ∀ (K105 : Ob → Prop) (hK105 : ∀ (oY_105 : Ob), K105 oY_105 → SW p l e { frames := 3, cells := 0, slots := 0, locals := 72 } s m args below meth c A D 9 0 0 (MQ below (va_Qi (fun (r : Int32) (u : Ob) => post r u) (ctB D A (fun u : Ob => w10 cI cZ qY u)) A) args s 0 0 A) (w10 cI cZ qY oY_105) 105 [(0, .ref (qY 0)), (1, .int v1), (2, .int v2_21), (3, .int v3_21), (4, .int v4_21), (5, .int v5_77), (6, .int (0 : Int32))] []) (fu : Nat) (v7_83 : Int32) (oY_83 : Ob), wpX10_ask_L83 K105 fu v7_83 oY_83 → SW p l e { frames := 3, cells := 0, slots := 0, locals := 72 } s m args below meth c A D 9 0 0 (MQ below (va_Qi (fun (r : Int32) (u : Ob) => post r u) (ctB D A (fun u : Ob => w10 cI cZ qY u)) A) args s 0 0 A) (w10 cI cZ qY oY_83) 83 [(0, .ref (qY 0)), (1, .int v1), (2, .int v2_21), (3, .int v3_21), (4, .int v4_21), (5, .int v5_77), (6, .int (0 : Int32)), (7, .int v7_83)] [] := by
              intro K105 hK105 fu
              induction fu with
              | zero =>
                intro v7_83 oY_83 h
                exact False.elim h
              | succ fu ih =>
                intro v7_83 oY_83 h
                unfold wpX10_ask_L83 at h
                refine SW.iload C dX10_ask_83 7 rfl ?_
                refine SW.sipush (v := (200 : Int32)) C dX10_ask_85 (by decide) ?_
                refine SW.icmp_ge (tgt := 105) C dX10_ask_88 (by decide) (fun hc => ?_) (fun hc => ?_)
                · replace h := h.1 hc
                  refine SW.sub [0, 1, 2, 3, 4, 5, 6] rfl ?_
                  exact hK105 _ h
                · replace h := h.2 hc
                  refine SW.aload_n C dX10_ask_91 rfl 0 rfl ?_
                  refine SW.get (v := .ref (qY 7)) (T := TX10) (N := 25) C inX10_ask_X10 0 rfl rfl 20 (by decide) lkX10_ask_41 rfl dX10_ask_92 ?_
                  refine SW.iload C dX10_ask_95 7 rfl ?_
                  refine SW.iconst (v := (0 : Int32)) C dX10_ask_97 (by decide) ?_
                  refine SW.iast (ws' := w10 cI cZ qY (pa oY_83 7 (nC v7_83) (0 : Int32))) C 7 0 rfl rfl h.1 rfl dX10_ask_98 ?_
                  replace h := h.2
                  refine SW.iinc (q := 7) (v := (v7_83 + (1 : Int32))) (lv' := [(7, .int (v7_83 + (1 : Int32))), (0, .ref (qY 0)), (1, .int v1), (2, .int v2_21), (3, .int v3_21), (4, .int v4_21), (5, .int v5_77), (6, .int (0 : Int32))]) C dX10_ask_99 rfl rfl (by decide) rfl ?_
                  refine SW.goto (tgt := 83) C dX10_ask_102 (by decide) ?_
                  refine SW.sub [1, 2, 3, 4, 5, 6, 7, 0] rfl ?_
                  exact ih _ _ h
            obtain ⟨fu, h⟩ := h
            refine SW.sub [2, 3, 4, 5, 6, 7, 1, 0] rfl ?_
            refine L83 _ (fun oY_105 h => ?_) fu _ _ h
            · refine SW.iconst (v := (0 : Int32)) C dX10_ask_105 (by decide) ?_
              refine SW.istore (lv' := [(7, .int (0 : Int32)), (0, .ref (qY 0)), (1, .int v1), (2, .int v2_21), (3, .int v3_21), (4, .int v4_21), (5, .int v5_77), (6, .int (0 : Int32))]) C dX10_ask_106 (by decide) rfl ?_
              have L108 : ∀ (K190 : Int32 → Ob → Prop) (hK190 : ∀ (v6_190 : Int32) (oY_190 : Ob), K190 v6_190 oY_190 → SW p l e { frames := 3, cells := 0, slots := 0, locals := 72 } s m args below meth c A D 9 0 0 (MQ below (va_Qi (fun (r : Int32) (u : Ob) => post r u) (ctB D A (fun u : Ob => w10 cI cZ qY u)) A) args s 0 0 A) (w10 cI cZ qY oY_190) 190 [(0, .ref (qY 0)), (1, .int v1), (2, .int v2_21), (3, .int v3_21), (4, .int v4_21), (6, .int v6_190)] []) (fu : Nat) (v6_108 : Int32) (v7_108 : Int32) (oY_108 : Ob), wpX10_ask_L108 v4_21 v5_77 K190 fu v6_108 v7_108 oY_108 → SW p l e { frames := 3, cells := 0, slots := 0, locals := 72 } s m args below meth c A D 9 0 0 (MQ below (va_Qi (fun (r : Int32) (u : Ob) => post r u) (ctB D A (fun u : Ob => w10 cI cZ qY u)) A) args s 0 0 A) (w10 cI cZ qY oY_108) 108 [(0, .ref (qY 0)), (1, .int v1), (2, .int v2_21), (3, .int v3_21), (4, .int v4_21), (5, .int v5_77), (6, .int v6_108), (7, .int v7_108)] [] := by
                intro K190 hK190 fu
                induction fu with
                | zero =>
                  intro v6_108 v7_108 oY_108 h
                  exact False.elim h
                | succ fu ih =>
                  intro v6_108 v7_108 oY_108 h
                  unfold wpX10_ask_L108 at h
                  refine SW.iload C dX10_ask_108 7 rfl ?_
                  refine SW.iconst (v := (1 : Int32)) C dX10_ask_110 (by decide) ?_
                  refine SW.aload_n C dX10_ask_111 rfl 0 rfl ?_
                  refine SW.get (v := .int (oY_108 0 0)) (T := TX10) (N := 25) C inX10_ask_X10 0 rfl rfl 0 (by decide) lkX10_ask_7 rfl dX10_ask_112 ?_
                  refine SW.ishl C dX10_ask_115 ?_
                  refine SW.icmp_ge (tgt := 190) C dX10_ask_116 (by decide) (fun hc => ?_) (fun hc => ?_)
                  · replace h := h.1 hc
                    refine SW.sub [0, 1, 2, 3, 4, 6] rfl ?_
                    exact hK190 _ _ h
                  · replace h := h.2 hc
                    refine SW.iload C dX10_ask_119 5 rfl ?_
                    refine SW.if_ne (tgt := 190) C dX10_ask_121 (by decide) (fun hc => ?_) (fun hc => ?_)
                    · replace h := h.2 hc
                      refine SW.sub [0, 1, 2, 3, 4, 6] rfl ?_
                      exact hK190 _ _ h
                    · replace h := h.1 hc
                      refine SW.aload_n C dX10_ask_124 rfl 0 rfl ?_
                      refine SW.iload C dX10_ask_125 7 rfl ?_
                      refine SW.callVi_same C (ctX10_fits l D cI cZ qY oY_108 v7_108 _ h) gX10_ask_X10_fits rfl rfl rfl pdX10_fits ⟨by decide, by decide⟩ 0 rfl rfl rfl rfl rfl (Nat.le_of_ble_eq_true rfl) dX10_ask_127 (by decide) (fun r127 u h => ?_)
                      try dsimp only at h
                      refine jn2_elim (G := fun v6_184 oY_184 => SW p l e { frames := 3, cells := 0, slots := 0, locals := 72 } s m args below meth c A D 9 0 0 (MQ below (va_Qi (fun (r : Int32) (u : Ob) => post r u) (ctB D A (fun u : Ob => w10 cI cZ qY u)) A) args s 0 0 A) (w10 cI cZ qY oY_184) 184 [(0, .ref (qY 0)), (1, .int v1), (2, .int v2_21), (3, .int v3_21), (4, .int v4_21), (5, .int v5_77), (6, .int v6_184), (7, .int v7_108)] []) h (fun v6_184 oY_184 h => ?_) (fun J184 hJ184 h => ?_)
                      · refine SW.iinc (q := 7) (v := (v7_108 + (1 : Int32))) (lv' := [(7, .int (v7_108 + (1 : Int32))), (0, .ref (qY 0)), (1, .int v1), (2, .int v2_21), (3, .int v3_21), (4, .int v4_21), (5, .int v5_77), (6, .int v6_184)]) C dX10_ask_184 rfl rfl (by decide) rfl ?_
                        refine SW.goto (tgt := 108) C dX10_ask_187 (by decide) ?_
                        refine SW.sub [1, 2, 3, 4, 5, 6, 7, 0] rfl ?_
                        exact ih _ _ _ h
                      · refine SW.if_eq (tgt := 184) C dX10_ask_130 (by decide) (fun hc => ?_) (fun hc => ?_)
                        · replace h := h.1 hc
                          exact hJ184 _ _ h
                        · replace h := h.2 hc
                          refine SW.aload_n C dX10_ask_133 rfl 0 rfl ?_
                          refine SW.iload C dX10_ask_134 4 rfl ?_
                          refine SW.iload C dX10_ask_136 7 rfl ?_
                          refine SW.aload_n C dX10_ask_138 rfl 0 rfl ?_
                          refine SW.get (v := .int (oY_108 0 5)) (T := TX10) (N := 25) C inX10_ask_X10 0 rfl rfl 5 (by decide) lkX10_ask_60 rfl dX10_ask_139 ?_
                          refine SW.callVi_same C (ctX10_lengthOf l D cI cZ qY oY_108 v4_21 v7_108 (oY_108 0 5) _ h) gX10_ask_X10_lengthOf rfl rfl rfl pdX10_lengthOf ⟨by decide, by decide⟩ 0 rfl rfl rfl rfl rfl (Nat.le_of_ble_eq_true rfl) dX10_ask_142 (by decide) (fun r142 u h => ?_)
                          try dsimp only at h
                          refine SW.istore (lv' := [(8, .int r142), (0, .ref (qY 0)), (1, .int v1), (2, .int v2_21), (3, .int v3_21), (4, .int v4_21), (5, .int v5_77), (6, .int v6_108), (7, .int v7_108)]) C dX10_ask_145 (by decide) rfl ?_
                          refine SW.aload_n C dX10_ask_147 rfl 1 rfl ?_
                          refine SW.get (v := .ref (qY 7)) (T := TX10) (N := 25) C inX10_ask_X10 0 rfl rfl 20 (by decide) lkX10_ask_41 rfl dX10_ask_148 ?_
                          refine SW.iload C dX10_ask_151 0 rfl ?_
                          refine SW.dup2 C dX10_ask_153 rfl rfl ?_
                          refine SW.iald C 7 0 rfl rfl h.1 dX10_ask_154 ?_
                          replace h := h.2
                          refine SW.iconst (v := (1 : Int32)) C dX10_ask_155 (by decide) ?_
                          refine SW.iadd C dX10_ask_156 ?_
                          refine SW.iast (ws' := w10 cI cZ qY (pa oY_108 7 (nC r142) ((jld (oY_108 7) r142) + (1 : Int32)))) C 7 0 rfl rfl h.1 rfl dX10_ask_157 ?_
                          replace h := h.2
                          refine SW.aload_n C dX10_ask_158 rfl 1 rfl ?_
                          refine SW.get (v := .ref (qY 7)) (T := TX10) (N := 25) C inX10_ask_X10 0 rfl rfl 20 (by decide) lkX10_ask_41 rfl dX10_ask_159 ?_
                          refine SW.iload C dX10_ask_162 0 rfl ?_
                          refine SW.iald C 7 0 rfl rfl h.1 dX10_ask_164 ?_
                          replace h := h.2
                          refine SW.iload C dX10_ask_165 7 rfl ?_
                          refine jn1_elim (G := fun p0_182 => SW p l e { frames := 3, cells := 0, slots := 0, locals := 72 } s m args below meth c A D 9 0 0 (MQ below (va_Qi (fun (r : Int32) (u : Ob) => post r u) (ctB D A (fun u : Ob => w10 cI cZ qY u)) A) args s 0 0 A) (w10 cI cZ qY (pa oY_108 7 (nC r142) ((jld (oY_108 7) r142) + (1 : Int32)))) 182 [(0, .ref (qY 0)), (1, .int v1), (2, .int v2_21), (3, .int v3_21), (4, .int v4_21), (5, .int v5_77), (7, .int v7_108)] [.int p0_182]) h (fun p0_182 h => ?_) (fun J182 hJ182 h => ?_)
                          · refine SW.istore (lv' := [(6, .int p0_182), (0, .ref (qY 0)), (1, .int v1), (2, .int v2_21), (3, .int v3_21), (4, .int v4_21), (5, .int v5_77), (7, .int v7_108)]) C dX10_ask_182 (by decide) rfl ?_
                            refine SW.sub [1, 2, 3, 4, 5, 6, 0, 7] rfl ?_
                            exact hJ184 _ _ h
                          · refine SW.icmp_le (tgt := 180) C dX10_ask_167 (by decide) (fun hc => ?_) (fun hc => ?_)
                            · replace h := h.1 hc
                              refine SW.iload C dX10_ask_180 7 rfl ?_
                              refine SW.sub [1, 2, 3, 4, 5, 6, 8] rfl ?_
                              exact hJ182 _ h
                            · replace h := h.2 hc
                              refine SW.aload_n C dX10_ask_170 rfl 1 rfl ?_
                              refine SW.get (v := .ref (qY 7)) (T := TX10) (N := 25) C inX10_ask_X10 0 rfl rfl 20 (by decide) lkX10_ask_41 rfl dX10_ask_171 ?_
                              refine SW.iload C dX10_ask_174 0 rfl ?_
                              refine SW.iald C 7 0 rfl rfl h.1 dX10_ask_176 ?_
                              replace h := h.2
                              refine SW.goto (tgt := 182) C dX10_ask_177 (by decide) ?_
                              refine SW.sub [1, 2, 3, 4, 5, 6, 8] rfl ?_
                              exact hJ182 _ h
              obtain ⟨fu, h⟩ := h
              refine SW.sub [1, 2, 3, 4, 5, 6, 7, 0] rfl ?_
              refine L108 _ (fun v6_190 oY_190 h => ?_) fu _ _ _ h
              · refine SW.iload C dX10_ask_190 5 rfl ?_
                refine jn1_elim (G := fun p0_206 => SW p l e { frames := 3, cells := 0, slots := 0, locals := 72 } s m args below meth c A D 9 0 0 (MQ below (va_Qi (fun (r : Int32) (u : Ob) => post r u) (ctB D A (fun u : Ob => w10 cI cZ qY u)) A) args s 0 0 A) (w10 cI cZ qY oY_190) 206 [(0, .ref (qY 0)), (1, .int v1), (2, .int v2_21), (3, .int v3_21), (4, .int v4_21), (6, .int v6_190)] [.int p0_206]) h (fun p0_206 h => ?_) (fun J206 hJ206 h => ?_)
                · refine SW.istore (lv' := [(7, .int p0_206), (0, .ref (qY 0)), (1, .int v1), (2, .int v2_21), (3, .int v3_21), (4, .int v4_21), (6, .int v6_190)]) C dX10_ask_206 (by decide) rfl ?_
                  refine SW.iload C dX10_ask_208 0 rfl ?_
                  refine jn1_elim (G := fun p0_219 => SW p l e { frames := 3, cells := 0, slots := 0, locals := 72 } s m args below meth c A D 9 0 0 (MQ below (va_Qi (fun (r : Int32) (u : Ob) => post r u) (ctB D A (fun u : Ob => w10 cI cZ qY u)) A) args s 0 0 A) (w10 cI cZ qY oY_190) 219 [(0, .ref (qY 0)), (1, .int v1), (3, .int v3_21), (4, .int v4_21), (6, .int v6_190), (7, .int p0_206)] [.int p0_219]) h (fun p0_219 h => ?_) (fun J219 hJ219 h => ?_)
                  · refine SW.istore_n (lv' := [(2, .int p0_219), (0, .ref (qY 0)), (1, .int v1), (3, .int v3_21), (4, .int v4_21), (6, .int v6_190), (7, .int p0_206)]) C dX10_ask_219 rfl (by decide) rfl ?_
                    refine SW.iload C dX10_ask_220 6 rfl ?_
                    refine jn1_elim (G := fun p0_231 => SW p l e { frames := 3, cells := 0, slots := 0, locals := 72 } s m args below meth c A D 9 0 0 (MQ below (va_Qi (fun (r : Int32) (u : Ob) => post r u) (ctB D A (fun u : Ob => w10 cI cZ qY u)) A) args s 0 0 A) (w10 cI cZ qY oY_190) 231 [(0, .ref (qY 0)), (1, .int v1), (2, .int p0_219), (4, .int v4_21)] [.int p0_231]) h (fun p0_231 h => ?_) (fun J231 hJ231 h => ?_)
                    · refine SW.istore_n (lv' := [(3, .int p0_231), (0, .ref (qY 0)), (1, .int v1), (2, .int p0_219), (4, .int v4_21)]) C dX10_ask_231 rfl (by decide) rfl ?_
                      refine SW.iinc (q := 4) (v := (v4_21 + (1 : Int32))) (lv' := [(4, .int (v4_21 + (1 : Int32))), (3, .int p0_231), (0, .ref (qY 0)), (1, .int v1), (2, .int p0_219)]) C dX10_ask_232 rfl rfl (by decide) rfl ?_
                      refine SW.goto (tgt := 21) C dX10_ask_235 (by decide) ?_
                      refine SW.sub [2, 3, 4, 1, 0] rfl ?_
                      exact ih _ _ _ _ h
                    · refine SW.if_eq (tgt := 230) C dX10_ask_222 (by decide) (fun hc => ?_) (fun hc => ?_)
                      · replace h := h.1 hc
                        refine SW.iload_n C dX10_ask_230 rfl 3 rfl ?_
                        refine SW.sub [1, 2, 0, 4] rfl ?_
                        exact hJ231 _ h
                      · replace h := h.2 hc
                        refine SW.iload C dX10_ask_225 5 rfl ?_
                        refine SW.goto (tgt := 231) C dX10_ask_227 (by decide) ?_
                        refine SW.sub [1, 2, 0, 4] rfl ?_
                        exact hJ231 _ h
                  · refine SW.if_eq (tgt := 218) C dX10_ask_210 (by decide) (fun hc => ?_) (fun hc => ?_)
                    · replace h := h.1 hc
                      refine SW.iload_n C dX10_ask_218 rfl 3 rfl ?_
                      refine SW.sub [1, 2, 4, 5, 6, 0] rfl ?_
                      exact hJ219 _ h
                    · replace h := h.2 hc
                      refine SW.iload C dX10_ask_213 5 rfl ?_
                      refine SW.goto (tgt := 219) C dX10_ask_215 (by decide) ?_
                      refine SW.sub [1, 2, 4, 5, 6, 0] rfl ?_
                      exact hJ219 _ h
                · refine jn0_elim (G := SW p l e { frames := 3, cells := 0, slots := 0, locals := 72 } s m args below meth c A D 9 0 0 (MQ below (va_Qi (fun (r : Int32) (u : Ob) => post r u) (ctB D A (fun u : Ob => w10 cI cZ qY u)) A) args s 0 0 A) (w10 cI cZ qY oY_190) 205 [(0, .ref (qY 0)), (1, .int v1), (2, .int v2_21), (3, .int v3_21), (4, .int v4_21), (6, .int v6_190)] []) h (fun h => ?_) (fun J205 hJ205 h => ?_)
                  · refine SW.iconst (v := (0 : Int32)) C dX10_ask_205 (by decide) ?_
                    exact hJ206 _ h
                  · refine SW.if_le (tgt := 205) C dX10_ask_192 (by decide) (fun hc => ?_) (fun hc => ?_)
                    · replace h := h.1 hc
                      exact hJ205 h
                    · replace h := h.2 hc
                      refine SW.iload C dX10_ask_195 5 rfl ?_
                      refine SW.iload_n C dX10_ask_197 rfl 3 rfl ?_
                      refine SW.icmp_ge (tgt := 205) C dX10_ask_198 (by decide) (fun hc => ?_) (fun hc => ?_)
                      · replace h := h.1 hc
                        exact hJ205 h
                      · replace h := h.2 hc
                        refine SW.iconst (v := (1 : Int32)) C dX10_ask_201 (by decide) ?_
                        refine SW.goto (tgt := 206) C dX10_ask_202 (by decide) ?_
                        exact hJ206 _ h
    obtain ⟨fu, h⟩ := h
    refine SW.sub [3, 4, 2, 1, 0] rfl ?_
    refine L21 _ (fun v2_238 v3_238 oY_238 h => ?_) fu _ _ _ _ h
    · refine SW.iload_n C dX10_ask_238 rfl 1 rfl ?_
      refine jn0_elim (G := SW p l e { frames := 3, cells := 0, slots := 0, locals := 72 } s m args below meth c A D 9 0 0 (MQ below (va_Qi (fun (r : Int32) (u : Ob) => post r u) (ctB D A (fun u : Ob => w10 cI cZ qY u)) A) args s 0 0 A) (w10 cI cZ qY oY_238) 246 [(2, .int v2_238)] []) h (fun h => ?_) (fun J246 hJ246 h => ?_)
      · refine SW.iload_n C dX10_ask_246 rfl 0 rfl ?_
        refine SW.goto (tgt := 251) C dX10_ask_247 (by decide) ?_
        exact SW.iret C oY_238 rfl h dX10_ask_251
      · refine SW.if_lt (tgt := 246) C dX10_ask_239 (by decide) (fun hc => ?_) (fun hc => ?_)
        · replace h := h.1 hc
          refine SW.sub [1] rfl ?_
          exact hJ246 h
        · replace h := h.2 hc
          refine SW.iload_n C dX10_ask_242 rfl 0 rfl ?_
          refine SW.if_ne (tgt := 250) C dX10_ask_243 (by decide) (fun hc => ?_) (fun hc => ?_)
          · replace h := h.2 hc
            refine SW.iload_n C dX10_ask_250 rfl 2 rfl ?_
            exact SW.iret C oY_238 rfl h dX10_ask_251
          · replace h := h.1 hc
            refine SW.sub [1] rfl ?_
            exact hJ246 h
  · replace h := h.1 hc
    refine SW.bipush (v := (-2 : Int32)) C dX10_ask_9 (by decide) ?_
    exact SW.iret C oY rfl h dX10_ask_11
def wpX10_borrow (oY : Ob) (v1 : Int32) (v2 : Int32) (v3 : Int32) (post : Int32 → Ob → Prop) : Prop := wpX10_areTwo oY v1 v2 (fun (r3 : Int32) => ((r3 = 0) → post (-1 : Int32) oY) ∧ (¬ (r3 = 0) → wpX10_in v3 (1 : Int32) (9 : Int32) (fun (r15 : Int32) => ((r15 = 0) → post (-2 : Int32) oY) ∧ (¬ (r15 = 0) → (vp_in v1 10) ∧ ((((1000 : Int32) ≤ ((jld (oY 2) v1) + v3)) → post (-3 : Int32) oY) ∧ (¬ ((1000 : Int32) ≤ ((jld (oY 2) v1) + v3)) → (vp_in v2 10) ∧ ((((-1000 : Int32) < ((jld (oY 2) v2) - v3)) → (vp_in v1 10) ∧ ((vp_in v1 10) ∧ ((vp_in v2 10) ∧ (∀ oY_74n : Ob, oY_74n = (pa oY 2 (nC v1) ((jld (oY 2) v1) + v3)) → ((vp_in v2 10) ∧ ((vp_in v1 10) ∧ (post ((jld (upd (oY_74n 2) (nC v2) ((jld (upd (oY 2) (nC v1) ((jld (oY 2) v1) + v3)) v2) - v3)) v1) + (1000 : Int32)) (pa oY_74n 2 (nC v2) ((jld (upd (oY 2) (nC v1) ((jld (oY 2) v1) + v3)) v2) - v3))))))))) ∧ (¬ ((-1000 : Int32) < ((jld (oY 2) v2) - v3)) → post (-3 : Int32) oY))))))))
theorem pdX10_borrow : yX10_borrow.cls = RX10 ∧ yX10_borrow.cls ≠ "java/lang/invoke/MethodHandle" ∧ yX10_borrow.cls ≠ "java/lang/invoke/VarHandle" ∧ (parseMethodDescriptor yX10_borrow.desc).map (fun d => d.parameters.length) = some 3 := by decide +kernel
theorem lkX10_borrow_26 : Cond.fieldLink RX10 26 (TX10 7).1 (TX10 7).2.1 (TX10 7).2.2.1 ∈ wsX10_borrow := by decide +kernel
theorem inX10_borrow_X10 : ∀ w ∈ u_ws RX10 TX10 25, w ∈ wsX10_borrow := by decide +kernel
set_option maxHeartbeats 4000000 in
set_option maxRecDepth 100000 in
theorem ctX10_borrow (l : Launch) (D : va_G) (cI cZ : ClassId) (qY : Nat → Nat) (oY : Ob) (v1 : Int32) (v2 : Int32) (v3 : Int32) (post : Int32 → Ob → Prop) (h : wpX10_borrow oY v1 v2 v3 post) : CTi l yX10_borrow wsX10_borrow { frames := 3, cells := 0, slots := 0, locals := 65 } D [(cI, .int), (cZ, .boolean)] [.ref (qY 0), .int v1, .int v2, .int v3] (w10 cI cZ qY oY) (fun u : Ob => w10 cI cZ qY u) (fun (r : Int32) (u : Ob) => post r u) := by
  refine CTi.of (cc := cX10_borrow) (own := RX10) (maxL := 4) (ret := (some .int)) (lv0 := [(0, .ref (qY 0)), (1, .int v1), (2, .int v2), (3, .int v3)]) (by decide) rfl rfl (Nat.le_of_ble_eq_true rfl) rfl ?_
  intro p e s m args below meth c A C
  unfold wpX10_borrow at h
  refine SW.aload_n C dX10_borrow_0 rfl 0 rfl ?_
  refine SW.iload_n C dX10_borrow_1 rfl 1 rfl ?_
  refine SW.iload_n C dX10_borrow_2 rfl 2 rfl ?_
  refine SW.callVi_same C (ctX10_areTwo l D cI cZ qY oY v1 v2 _ h) gX10_borrow_X10_areTwo rfl rfl rfl pdX10_areTwo ⟨by decide, by decide⟩ 0 rfl rfl rfl rfl rfl (Nat.le_of_ble_eq_true rfl) dX10_borrow_3 (by decide) (fun r3 u h => ?_)
  try dsimp only at h
  refine SW.if_ne (tgt := 11) C dX10_borrow_6 (by decide) (fun hc => ?_) (fun hc => ?_)
  · replace h := h.2 hc
    refine SW.iload_n C dX10_borrow_11 rfl 3 rfl ?_
    refine SW.iconst (v := (1 : Int32)) C dX10_borrow_12 (by decide) ?_
    refine SW.bipush (v := (9 : Int32)) C dX10_borrow_13 (by decide) ?_
    refine SW.callSi_pure C (ctX10_in l D cI cZ v3 (1 : Int32) (9 : Int32) _ h) gX10_borrow_X10_in rfl rfl rfl pdX10_in ⟨by decide, by decide⟩ rfl rfl (Nat.le_of_ble_eq_true rfl) dX10_borrow_15 (by decide) (fun r15 u h => ?_)
    try dsimp only at h
    refine SW.if_ne (tgt := 24) C dX10_borrow_18 (by decide) (fun hc => ?_) (fun hc => ?_)
    · replace h := h.2 hc
      refine SW.aload_n C dX10_borrow_24 rfl 0 rfl ?_
      refine SW.get (v := .ref (qY 2)) (T := TX10) (N := 25) C inX10_borrow_X10 0 rfl rfl 7 (by decide) lkX10_borrow_26 rfl dX10_borrow_25 ?_
      refine SW.iload_n C dX10_borrow_28 rfl 1 rfl ?_
      refine SW.iald C 2 0 rfl rfl h.1 dX10_borrow_29 ?_
      replace h := h.2
      refine SW.iload_n C dX10_borrow_30 rfl 3 rfl ?_
      refine SW.iadd C dX10_borrow_31 ?_
      refine SW.sipush (v := (1000 : Int32)) C dX10_borrow_32 (by decide) ?_
      refine SW.icmp_ge (tgt := 52) C dX10_borrow_35 (by decide) (fun hc => ?_) (fun hc => ?_)
      · replace h := h.1 hc
        refine SW.bipush (v := (-3 : Int32)) C dX10_borrow_52 (by decide) ?_
        exact SW.iret C oY rfl h dX10_borrow_54
      · replace h := h.2 hc
        refine SW.aload_n C dX10_borrow_38 rfl 0 rfl ?_
        refine SW.get (v := .ref (qY 2)) (T := TX10) (N := 25) C inX10_borrow_X10 0 rfl rfl 7 (by decide) lkX10_borrow_26 rfl dX10_borrow_39 ?_
        refine SW.iload_n C dX10_borrow_42 rfl 2 rfl ?_
        refine SW.iald C 2 0 rfl rfl h.1 dX10_borrow_43 ?_
        replace h := h.2
        refine SW.iload_n C dX10_borrow_44 rfl 3 rfl ?_
        refine SW.isub C dX10_borrow_45 ?_
        refine SW.sipush (v := (-1000 : Int32)) C dX10_borrow_46 (by decide) ?_
        refine SW.icmp_gt (tgt := 55) C dX10_borrow_49 (by decide) (fun hc => ?_) (fun hc => ?_)
        · replace h := h.1 hc
          refine SW.aload_n C dX10_borrow_55 rfl 0 rfl ?_
          refine SW.get (v := .ref (qY 2)) (T := TX10) (N := 25) C inX10_borrow_X10 0 rfl rfl 7 (by decide) lkX10_borrow_26 rfl dX10_borrow_56 ?_
          refine SW.iload_n C dX10_borrow_59 rfl 1 rfl ?_
          refine SW.dup2 C dX10_borrow_60 rfl rfl ?_
          refine SW.iald C 2 0 rfl rfl h.1 dX10_borrow_61 ?_
          replace h := h.2
          refine SW.iload_n C dX10_borrow_62 rfl 3 rfl ?_
          refine SW.iadd C dX10_borrow_63 ?_
          refine SW.iast (ws' := w10 cI cZ qY (pa oY 2 (nC v1) ((jld (oY 2) v1) + v3))) C 2 0 rfl rfl h.1 rfl dX10_borrow_64 ?_
          replace h := h.2
          refine SW.aload_n C dX10_borrow_65 rfl 0 rfl ?_
          refine SW.get (v := .ref (qY 2)) (T := TX10) (N := 25) C inX10_borrow_X10 0 rfl rfl 7 (by decide) lkX10_borrow_26 rfl dX10_borrow_66 ?_
          refine SW.iload_n C dX10_borrow_69 rfl 2 rfl ?_
          refine SW.dup2 C dX10_borrow_70 rfl rfl ?_
          refine SW.iald C 2 0 rfl rfl h.1 dX10_borrow_71 ?_
          replace h := h.2
          refine SW.iload_n C dX10_borrow_72 rfl 3 rfl ?_
          refine SW.isub C dX10_borrow_73 ?_
          refine SW.nameOb (wz := fun z => w10 cI cZ qY z) (o := (pa oY 2 (nC v1) ((jld (oY 2) v1) + v3))) (fun oY_74n he => ?_)
          replace h := h oY_74n he
          refine SW.iast (ws' := w10 cI cZ qY (pa oY_74n 2 (nC v2) ((jld (upd (oY 2) (nC v1) ((jld (oY 2) v1) + v3)) v2) - v3))) C 2 0 rfl rfl h.1 rfl dX10_borrow_74 ?_
          replace h := h.2
          refine SW.aload_n C dX10_borrow_75 rfl 0 rfl ?_
          refine SW.get (v := .ref (qY 2)) (T := TX10) (N := 25) C inX10_borrow_X10 0 rfl rfl 7 (by decide) lkX10_borrow_26 rfl dX10_borrow_76 ?_
          refine SW.iload_n C dX10_borrow_79 rfl 1 rfl ?_
          refine SW.iald C 2 0 rfl rfl h.1 dX10_borrow_80 ?_
          replace h := h.2
          refine SW.sipush (v := (1000 : Int32)) C dX10_borrow_81 (by decide) ?_
          refine SW.iadd C dX10_borrow_84 ?_
          exact SW.iret C (pa oY_74n 2 (nC v2) ((jld (upd (oY 2) (nC v1) ((jld (oY 2) v1) + v3)) v2) - v3)) rfl h dX10_borrow_85
        · replace h := h.2 hc
          refine SW.bipush (v := (-3 : Int32)) C dX10_borrow_52 (by decide) ?_
          exact SW.iret C oY rfl h dX10_borrow_54
    · replace h := h.1 hc
      refine SW.bipush (v := (-2 : Int32)) C dX10_borrow_21 (by decide) ?_
      exact SW.iret C oY rfl h dX10_borrow_23
  · replace h := h.1 hc
    refine SW.iconst (v := (-1 : Int32)) C dX10_borrow_9 (by decide) ?_
    exact SW.iret C oY rfl h dX10_borrow_10
def wpX10_teas_L4 (oYc_4 : Ob) (K37 : Int32 → Prop) : Nat → Int32 → Int32 → Prop
  | 0, _, _ => False
  | fu4 + 1, v1_4, v2_4 => (((oYc_4 0 0) ≤ v2_4) → K37 v1_4) ∧ (¬ ((oYc_4 0 0) ≤ v2_4) → (vp_in v2_4 10) ∧ (jn2 (fun (p0_29 : Int32) (p1_29 : Int32) => wpX10_teas_L4 oYc_4 K37 fu4 (p1_29 ||| p0_29) (v2_4 + (1 : Int32))) (fun J29 => (((jld (oYc_4 2) v2_4) = 0) → J29 (0 : Int32) v1_4) ∧ (¬ ((jld (oYc_4 2) v2_4) = 0) → J29 (jshl (1 : Int32) v2_4) v1_4))))
def wpX10_teas_L57 (c2_57 : Int32) (oYc_57 : Ob) (K121 : Int32 → Int32 → Prop) : Nat → Int32 → Int32 → Int32 → Prop
  | 0, _, _, _ => False
  | fu57 + 1, v3_57, v4_57, v5_57 => (((oYc_57 0 0) ≤ v5_57) → K121 v3_57 v4_57) ∧ (¬ ((oYc_57 0 0) ≤ v5_57) → wpX10_has c2_57 v5_57 (fun (r69 : Int32) => jn2 (fun (v3_115 : Int32) (v4_115 : Int32) => wpX10_teas_L57 c2_57 oYc_57 K121 fu57 v3_115 v4_115 (v5_57 + (1 : Int32))) (fun J115 => ((r69 = 0) → J115 v3_57 v4_57) ∧ (¬ (r69 = 0) → (vp_in (c2_57 &&& ((jshl (1 : Int32) v5_57) ^^^ (-1 : Int32))) 1024) ∧ (∀ y88 : Int32, y88 = (jld (oYc_57 8) (c2_57 &&& ((jshl (1 : Int32) v5_57) ^^^ (-1 : Int32)))) → (jn1 (fun (p0_102 : Int32) => (vp_in v5_57 10) ∧ (J115 p0_102 (v4_57 + (jld (oYc_57 2) v5_57)))) (fun J102 => ((y88 ≤ v3_57) → J102 v3_57) ∧ (¬ (y88 ≤ v3_57) → J102 y88))))))))
def wpX10_teas_L39 (c1_39 : Int32) (K157 : Ob → Prop) : Nat → Int32 → Ob → Prop
  | 0, _, _ => False
  | fu39 + 1, v2_39, oY_39 => (((jshl (1 : Int32) (oY_39 0 0)) ≤ v2_39) → K157 oY_39) ∧ (¬ ((jshl (1 : Int32) (oY_39 0 0)) ≤ v2_39) → ∃ fu57 : Nat, wpX10_teas_L57 v2_39 oY_39 (fun (v3_121 : Int32) (v4_121 : Int32) => jn3 (fun (p0_149 : Int32) (p1_149 : Int32) (p2_149 : Int32) => (vp_in p2_149 1024) ∧ (wpX10_teas_L39 c1_39 K157 fu39 (v2_39 + (1 : Int32)) (pa oY_39 8 (nC p2_149) (p1_149 + p0_149)))) (fun J149 => jn2 (fun (p0_148 : Int32) (p1_148 : Int32) => J149 (0 : Int32) p0_148 p1_148) (fun J148 => ((v2_39 = 0) → J148 v3_121 v2_39) ∧ (¬ (v2_39 = 0) → (((v2_39 &&& (c1_39 ^^^ (-1 : Int32))) = 0) → ((v4_121 = 0) → J149 (1 : Int32) v3_121 v2_39) ∧ (¬ (v4_121 = 0) → J148 v3_121 v2_39)) ∧ (¬ ((v2_39 &&& (c1_39 ^^^ (-1 : Int32))) = 0) → J148 v3_121 v2_39))))) fu57 (0 : Int32) (0 : Int32) (0 : Int32))
def wpX10_teas (oY : Ob) (post : Int32 → Ob → Prop) : Prop := ∃ fu4 : Nat, wpX10_teas_L4 oY (fun (v1_37 : Int32) => ∃ fu39 : Nat, wpX10_teas_L39 v1_37 (fun (oY_157 : Ob) => wpX10_bits v1_37 (fun (r158 : Int32) => (vp_in v1_37 1024) ∧ (post (r158 - (jld (oY_157 8) v1_37)) oY_157))) fu39 (0 : Int32) oY) fu4 (0 : Int32) (0 : Int32)
theorem pdX10_teas : yX10_teas.cls = RX10 ∧ yX10_teas.cls ≠ "java/lang/invoke/MethodHandle" ∧ yX10_teas.cls ≠ "java/lang/invoke/VarHandle" ∧ (parseMethodDescriptor yX10_teas.desc).map (fun d => d.parameters.length) = some 0 := by decide +kernel
theorem lkX10_teas_7 : Cond.fieldLink RX10 7 (TX10 0).1 (TX10 0).2.1 (TX10 0).2.2.1 ∈ wsX10_teas := by decide +kernel
theorem inX10_teas_X10 : ∀ w ∈ u_ws RX10 TX10 25, w ∈ wsX10_teas := by decide +kernel
theorem lkX10_teas_26 : Cond.fieldLink RX10 26 (TX10 7).1 (TX10 7).2.1 (TX10 7).2.2.1 ∈ wsX10_teas := by decide +kernel
theorem lkX10_teas_44 : Cond.fieldLink RX10 44 (TX10 21).1 (TX10 21).2.1 (TX10 21).2.2.1 ∈ wsX10_teas := by decide +kernel
set_option maxHeartbeats 4000000 in
set_option maxRecDepth 100000 in
theorem ctX10_teas (l : Launch) (D : va_G) (cI cZ : ClassId) (qY : Nat → Nat) (oY : Ob) (post : Int32 → Ob → Prop) (h : wpX10_teas oY post) : CTi l yX10_teas wsX10_teas { frames := 1, cells := 0, slots := 0, locals := 22 } D [(cI, .int), (cZ, .boolean)] [.ref (qY 0)] (w10 cI cZ qY oY) (fun u : Ob => w10 cI cZ qY u) (fun (r : Int32) (u : Ob) => post r u) := by
  refine CTi.of (cc := cX10_teas) (own := RX10) (maxL := 7) (ret := (some .int)) (lv0 := [(0, .ref (qY 0))]) (by decide) rfl rfl (Nat.le_of_ble_eq_true rfl) rfl ?_
  intro p e s m args below meth c A C
  unfold wpX10_teas at h
  refine SW.iconst (v := (0 : Int32)) C dX10_teas_0 (by decide) ?_
  refine SW.istore_n (lv' := [(1, .int (0 : Int32)), (0, .ref (qY 0))]) C dX10_teas_1 rfl (by decide) rfl ?_
  refine SW.iconst (v := (0 : Int32)) C dX10_teas_2 (by decide) ?_
  refine SW.istore_n (lv' := [(2, .int (0 : Int32)), (1, .int (0 : Int32)), (0, .ref (qY 0))]) C dX10_teas_3 rfl (by decide) rfl ?_
  have L4 : ∀ (K37 : Int32 → Prop) (hK37 : ∀ (v1_37 : Int32), K37 v1_37 → SW p l e { frames := 1, cells := 0, slots := 0, locals := 22 } s m args below meth c A D 7 0 0 (MQ below (va_Qi (fun (r : Int32) (u : Ob) => post r u) (ctB D A (fun u : Ob => w10 cI cZ qY u)) A) args s 0 0 A) (w10 cI cZ qY oY) 37 [(0, .ref (qY 0)), (1, .int v1_37)] []) (fu : Nat) (v1_4 : Int32) (v2_4 : Int32), wpX10_teas_L4 oY K37 fu v1_4 v2_4 → SW p l e { frames := 1, cells := 0, slots := 0, locals := 22 } s m args below meth c A D 7 0 0 (MQ below (va_Qi (fun (r : Int32) (u : Ob) => post r u) (ctB D A (fun u : Ob => w10 cI cZ qY u)) A) args s 0 0 A) (w10 cI cZ qY oY) 4 [(0, .ref (qY 0)), (1, .int v1_4), (2, .int v2_4)] [] := by
    intro K37 hK37 fu
    induction fu with
    | zero =>
      intro v1_4 v2_4 h
      exact False.elim h
    | succ fu ih =>
      intro v1_4 v2_4 h
      unfold wpX10_teas_L4 at h
      refine SW.iload_n C dX10_teas_4 rfl 2 rfl ?_
      refine SW.aload_n C dX10_teas_5 rfl 0 rfl ?_
      refine SW.get (v := .int (oY 0 0)) (T := TX10) (N := 25) C inX10_teas_X10 0 rfl rfl 0 (by decide) lkX10_teas_7 rfl dX10_teas_6 ?_
      refine SW.icmp_ge (tgt := 37) C dX10_teas_9 (by decide) (fun hc => ?_) (fun hc => ?_)
      · replace h := h.1 hc
        refine SW.sub [0, 1] rfl ?_
        exact hK37 _ h
      · replace h := h.2 hc
        refine SW.iload_n C dX10_teas_12 rfl 1 rfl ?_
        refine SW.aload_n C dX10_teas_13 rfl 0 rfl ?_
        refine SW.get (v := .ref (qY 2)) (T := TX10) (N := 25) C inX10_teas_X10 0 rfl rfl 7 (by decide) lkX10_teas_26 rfl dX10_teas_14 ?_
        refine SW.iload_n C dX10_teas_17 rfl 2 rfl ?_
        refine SW.iald C 2 0 rfl rfl h.1 dX10_teas_18 ?_
        replace h := h.2
        refine jn2_elim (G := fun p0_29 p1_29 => SW p l e { frames := 1, cells := 0, slots := 0, locals := 22 } s m args below meth c A D 7 0 0 (MQ below (va_Qi (fun (r : Int32) (u : Ob) => post r u) (ctB D A (fun u : Ob => w10 cI cZ qY u)) A) args s 0 0 A) (w10 cI cZ qY oY) 29 [(0, .ref (qY 0)), (2, .int v2_4)] [.int p0_29, .int p1_29]) h (fun p0_29 p1_29 h => ?_) (fun J29 hJ29 h => ?_)
        · refine SW.ior C dX10_teas_29 ?_
          refine SW.istore_n (lv' := [(1, .int (p1_29 ||| p0_29)), (0, .ref (qY 0)), (2, .int v2_4)]) C dX10_teas_30 rfl (by decide) rfl ?_
          refine SW.iinc (q := 2) (v := (v2_4 + (1 : Int32))) (lv' := [(2, .int (v2_4 + (1 : Int32))), (1, .int (p1_29 ||| p0_29)), (0, .ref (qY 0))]) C dX10_teas_31 rfl rfl (by decide) rfl ?_
          refine SW.goto (tgt := 4) C dX10_teas_34 (by decide) ?_
          refine SW.sub [2, 1, 0] rfl ?_
          exact ih _ _ h
        · refine SW.if_eq (tgt := 28) C dX10_teas_19 (by decide) (fun hc => ?_) (fun hc => ?_)
          · replace h := h.1 hc
            refine SW.iconst (v := (0 : Int32)) C dX10_teas_28 (by decide) ?_
            refine SW.sub [0, 2] rfl ?_
            exact hJ29 _ _ h
          · replace h := h.2 hc
            refine SW.iconst (v := (1 : Int32)) C dX10_teas_22 (by decide) ?_
            refine SW.iload_n C dX10_teas_23 rfl 2 rfl ?_
            refine SW.ishl C dX10_teas_24 ?_
            refine SW.goto (tgt := 29) C dX10_teas_25 (by decide) ?_
            refine SW.sub [0, 2] rfl ?_
            exact hJ29 _ _ h
  obtain ⟨fu, h⟩ := h
  refine SW.sub [2, 1, 0] rfl ?_
  refine L4 _ (fun v1_37 h => ?_) fu _ _ h
  · refine SW.iconst (v := (0 : Int32)) C dX10_teas_37 (by decide) ?_
    refine SW.istore_n (lv' := [(2, .int (0 : Int32)), (0, .ref (qY 0)), (1, .int v1_37)]) C dX10_teas_38 rfl (by decide) rfl ?_
    have L39 : ∀ (K157 : Ob → Prop) (hK157 : ∀ (oY_157 : Ob), K157 oY_157 → SW p l e { frames := 1, cells := 0, slots := 0, locals := 22 } s m args below meth c A D 7 0 0 (MQ below (va_Qi (fun (r : Int32) (u : Ob) => post r u) (ctB D A (fun u : Ob => w10 cI cZ qY u)) A) args s 0 0 A) (w10 cI cZ qY oY_157) 157 [(0, .ref (qY 0)), (1, .int v1_37)] []) (fu : Nat) (v2_39 : Int32) (oY_39 : Ob), wpX10_teas_L39 v1_37 K157 fu v2_39 oY_39 → SW p l e { frames := 1, cells := 0, slots := 0, locals := 22 } s m args below meth c A D 7 0 0 (MQ below (va_Qi (fun (r : Int32) (u : Ob) => post r u) (ctB D A (fun u : Ob => w10 cI cZ qY u)) A) args s 0 0 A) (w10 cI cZ qY oY_39) 39 [(0, .ref (qY 0)), (1, .int v1_37), (2, .int v2_39)] [] := by
      intro K157 hK157 fu
      induction fu with
      | zero =>
        intro v2_39 oY_39 h
        exact False.elim h
      | succ fu ih =>
        intro v2_39 oY_39 h
        unfold wpX10_teas_L39 at h
        refine SW.iload_n C dX10_teas_39 rfl 2 rfl ?_
        refine SW.iconst (v := (1 : Int32)) C dX10_teas_40 (by decide) ?_
        refine SW.aload_n C dX10_teas_41 rfl 0 rfl ?_
        refine SW.get (v := .int (oY_39 0 0)) (T := TX10) (N := 25) C inX10_teas_X10 0 rfl rfl 0 (by decide) lkX10_teas_7 rfl dX10_teas_42 ?_
        refine SW.ishl C dX10_teas_45 ?_
        refine SW.icmp_ge (tgt := 157) C dX10_teas_46 (by decide) (fun hc => ?_) (fun hc => ?_)
        · replace h := h.1 hc
          refine SW.sub [0, 1] rfl ?_
          exact hK157 _ h
        · replace h := h.2 hc
          refine SW.iconst (v := (0 : Int32)) C dX10_teas_49 (by decide) ?_
          refine SW.istore_n (lv' := [(3, .int (0 : Int32)), (0, .ref (qY 0)), (1, .int v1_37), (2, .int v2_39)]) C dX10_teas_50 rfl (by decide) rfl ?_
          refine SW.iconst (v := (0 : Int32)) C dX10_teas_51 (by decide) ?_
          refine SW.istore (lv' := [(4, .int (0 : Int32)), (3, .int (0 : Int32)), (0, .ref (qY 0)), (1, .int v1_37), (2, .int v2_39)]) C dX10_teas_52 (by decide) rfl ?_
          refine SW.iconst (v := (0 : Int32)) C dX10_teas_54 (by decide) ?_
          refine SW.istore (lv' := [(5, .int (0 : Int32)), (4, .int (0 : Int32)), (3, .int (0 : Int32)), (0, .ref (qY 0)), (1, .int v1_37), (2, .int v2_39)]) C dX10_teas_55 (by decide) rfl ?_
          have L57 : ∀ (K121 : Int32 → Int32 → Prop) (hK121 : ∀ (v3_121 : Int32) (v4_121 : Int32), K121 v3_121 v4_121 → SW p l e { frames := 1, cells := 0, slots := 0, locals := 22 } s m args below meth c A D 7 0 0 (MQ below (va_Qi (fun (r : Int32) (u : Ob) => post r u) (ctB D A (fun u : Ob => w10 cI cZ qY u)) A) args s 0 0 A) (w10 cI cZ qY oY_39) 121 [(0, .ref (qY 0)), (1, .int v1_37), (2, .int v2_39), (3, .int v3_121), (4, .int v4_121)] []) (fu : Nat) (v3_57 : Int32) (v4_57 : Int32) (v5_57 : Int32), wpX10_teas_L57 v2_39 oY_39 K121 fu v3_57 v4_57 v5_57 → SW p l e { frames := 1, cells := 0, slots := 0, locals := 22 } s m args below meth c A D 7 0 0 (MQ below (va_Qi (fun (r : Int32) (u : Ob) => post r u) (ctB D A (fun u : Ob => w10 cI cZ qY u)) A) args s 0 0 A) (w10 cI cZ qY oY_39) 57 [(0, .ref (qY 0)), (1, .int v1_37), (2, .int v2_39), (3, .int v3_57), (4, .int v4_57), (5, .int v5_57)] [] := by
            intro K121 hK121 fu
            induction fu with
            | zero =>
              intro v3_57 v4_57 v5_57 h
              exact False.elim h
            | succ fu ih =>
              intro v3_57 v4_57 v5_57 h
              unfold wpX10_teas_L57 at h
              refine SW.iload C dX10_teas_57 5 rfl ?_
              refine SW.aload_n C dX10_teas_59 rfl 0 rfl ?_
              refine SW.get (v := .int (oY_39 0 0)) (T := TX10) (N := 25) C inX10_teas_X10 0 rfl rfl 0 (by decide) lkX10_teas_7 rfl dX10_teas_60 ?_
              refine SW.icmp_ge (tgt := 121) C dX10_teas_63 (by decide) (fun hc => ?_) (fun hc => ?_)
              · replace h := h.1 hc
                refine SW.sub [0, 1, 2, 3, 4] rfl ?_
                exact hK121 _ _ h
              · replace h := h.2 hc
                refine SW.iload_n C dX10_teas_66 rfl 2 rfl ?_
                refine SW.iload C dX10_teas_67 5 rfl ?_
                refine SW.callSi_pure C (ctX10_has l D cI cZ v2_39 v5_57 _ h) gX10_teas_X10_has rfl rfl rfl pdX10_has ⟨by decide, by decide⟩ rfl rfl (Nat.le_of_ble_eq_true rfl) dX10_teas_69 (by decide) (fun r69 u h => ?_)
                try dsimp only at h
                refine jn2_elim (G := fun v3_115 v4_115 => SW p l e { frames := 1, cells := 0, slots := 0, locals := 22 } s m args below meth c A D 7 0 0 (MQ below (va_Qi (fun (r : Int32) (u : Ob) => post r u) (ctB D A (fun u : Ob => w10 cI cZ qY u)) A) args s 0 0 A) (w10 cI cZ qY oY_39) 115 [(0, .ref (qY 0)), (1, .int v1_37), (2, .int v2_39), (3, .int v3_115), (4, .int v4_115), (5, .int v5_57)] []) h (fun v3_115 v4_115 h => ?_) (fun J115 hJ115 h => ?_)
                · refine SW.iinc (q := 5) (v := (v5_57 + (1 : Int32))) (lv' := [(5, .int (v5_57 + (1 : Int32))), (0, .ref (qY 0)), (1, .int v1_37), (2, .int v2_39), (3, .int v3_115), (4, .int v4_115)]) C dX10_teas_115 rfl rfl (by decide) rfl ?_
                  refine SW.goto (tgt := 57) C dX10_teas_118 (by decide) ?_
                  refine SW.sub [1, 2, 3, 4, 5, 0] rfl ?_
                  exact ih _ _ _ h
                · refine SW.if_eq (tgt := 115) C dX10_teas_72 (by decide) (fun hc => ?_) (fun hc => ?_)
                  · replace h := h.1 hc
                    exact hJ115 _ _ h
                  · replace h := h.2 hc
                    refine SW.aload_n C dX10_teas_75 rfl 0 rfl ?_
                    refine SW.get (v := .ref (qY 8)) (T := TX10) (N := 25) C inX10_teas_X10 0 rfl rfl 21 (by decide) lkX10_teas_44 rfl dX10_teas_76 ?_
                    refine SW.iload_n C dX10_teas_79 rfl 2 rfl ?_
                    refine SW.iconst (v := (1 : Int32)) C dX10_teas_80 (by decide) ?_
                    refine SW.iload C dX10_teas_81 5 rfl ?_
                    refine SW.ishl C dX10_teas_83 ?_
                    refine SW.iconst (v := (-1 : Int32)) C dX10_teas_84 (by decide) ?_
                    refine SW.ixor C dX10_teas_85 ?_
                    refine SW.iand C dX10_teas_86 ?_
                    refine SW.iald C 8 0 rfl rfl h.1 dX10_teas_87 ?_
                    replace h := h.2
                    refine SW.topi (fun y88 he => ?_)
                    replace h := h y88 he
                    refine SW.istore (lv' := [(6, .int y88), (0, .ref (qY 0)), (1, .int v1_37), (2, .int v2_39), (3, .int v3_57), (4, .int v4_57), (5, .int v5_57)]) C dX10_teas_88 (by decide) rfl ?_
                    refine SW.iload C dX10_teas_90 0 rfl ?_
                    refine SW.iload_n C dX10_teas_92 rfl 4 rfl ?_
                    refine jn1_elim (G := fun p0_102 => SW p l e { frames := 1, cells := 0, slots := 0, locals := 22 } s m args below meth c A D 7 0 0 (MQ below (va_Qi (fun (r : Int32) (u : Ob) => post r u) (ctB D A (fun u : Ob => w10 cI cZ qY u)) A) args s 0 0 A) (w10 cI cZ qY oY_39) 102 [(0, .ref (qY 0)), (1, .int v1_37), (2, .int v2_39), (4, .int v4_57), (5, .int v5_57)] [.int p0_102]) h (fun p0_102 h => ?_) (fun J102 hJ102 h => ?_)
                    · refine SW.istore_n (lv' := [(3, .int p0_102), (0, .ref (qY 0)), (1, .int v1_37), (2, .int v2_39), (4, .int v4_57), (5, .int v5_57)]) C dX10_teas_102 rfl (by decide) rfl ?_
                      refine SW.iload C dX10_teas_103 4 rfl ?_
                      refine SW.aload_n C dX10_teas_105 rfl 1 rfl ?_
                      refine SW.get (v := .ref (qY 2)) (T := TX10) (N := 25) C inX10_teas_X10 0 rfl rfl 7 (by decide) lkX10_teas_26 rfl dX10_teas_106 ?_
                      refine SW.iload C dX10_teas_109 5 rfl ?_
                      refine SW.iald C 2 0 rfl rfl h.1 dX10_teas_111 ?_
                      replace h := h.2
                      refine SW.iadd C dX10_teas_112 ?_
                      refine SW.istore (lv' := [(4, .int (v4_57 + (jld (oY_39 2) v5_57))), (3, .int p0_102), (0, .ref (qY 0)), (1, .int v1_37), (2, .int v2_39), (5, .int v5_57)]) C dX10_teas_113 (by decide) rfl ?_
                      refine SW.sub [2, 3, 4, 1, 0, 5] rfl ?_
                      exact hJ115 _ _ h
                    · refine SW.icmp_le (tgt := 101) C dX10_teas_93 (by decide) (fun hc => ?_) (fun hc => ?_)
                      · replace h := h.1 hc
                        refine SW.iload_n C dX10_teas_101 rfl 4 rfl ?_
                        refine SW.sub [1, 2, 3, 5, 6] rfl ?_
                        exact hJ102 _ h
                      · replace h := h.2 hc
                        refine SW.iload C dX10_teas_96 0 rfl ?_
                        refine SW.goto (tgt := 102) C dX10_teas_98 (by decide) ?_
                        refine SW.sub [1, 2, 3, 5, 6] rfl ?_
                        exact hJ102 _ h
          obtain ⟨fu, h⟩ := h
          refine SW.sub [3, 4, 5, 2, 1, 0] rfl ?_
          refine L57 _ (fun v3_121 v4_121 h => ?_) fu _ _ _ h
          · refine SW.aload_n C dX10_teas_121 rfl 0 rfl ?_
            refine SW.get (v := .ref (qY 8)) (T := TX10) (N := 25) C inX10_teas_X10 0 rfl rfl 21 (by decide) lkX10_teas_44 rfl dX10_teas_122 ?_
            refine SW.iload_n C dX10_teas_125 rfl 2 rfl ?_
            refine SW.iload_n C dX10_teas_126 rfl 3 rfl ?_
            refine SW.iload_n C dX10_teas_127 rfl 2 rfl ?_
            refine jn3_elim (G := fun p0_149 p1_149 p2_149 => SW p l e { frames := 1, cells := 0, slots := 0, locals := 22 } s m args below meth c A D 7 0 0 (MQ below (va_Qi (fun (r : Int32) (u : Ob) => post r u) (ctB D A (fun u : Ob => w10 cI cZ qY u)) A) args s 0 0 A) (w10 cI cZ qY oY_39) 149 [(0, .ref (qY 0)), (1, .int v1_37), (2, .int v2_39)] [.int p0_149, .int p1_149, .int p2_149, .ref (qY 8)]) h (fun p0_149 p1_149 p2_149 h => ?_) (fun J149 hJ149 h => ?_)
            · refine SW.iadd C dX10_teas_149 ?_
              refine SW.iast (ws' := w10 cI cZ qY (pa oY_39 8 (nC p2_149) (p1_149 + p0_149))) C 8 0 rfl rfl h.1 rfl dX10_teas_150 ?_
              replace h := h.2
              refine SW.iinc (q := 2) (v := (v2_39 + (1 : Int32))) (lv' := [(2, .int (v2_39 + (1 : Int32))), (0, .ref (qY 0)), (1, .int v1_37)]) C dX10_teas_151 rfl rfl (by decide) rfl ?_
              refine SW.goto (tgt := 39) C dX10_teas_154 (by decide) ?_
              refine SW.sub [1, 2, 0] rfl ?_
              exact ih _ _ h
            · refine jn2_elim (G := fun p0_148 p1_148 => SW p l e { frames := 1, cells := 0, slots := 0, locals := 22 } s m args below meth c A D 7 0 0 (MQ below (va_Qi (fun (r : Int32) (u : Ob) => post r u) (ctB D A (fun u : Ob => w10 cI cZ qY u)) A) args s 0 0 A) (w10 cI cZ qY oY_39) 148 [(0, .ref (qY 0)), (1, .int v1_37), (2, .int v2_39)] [.int p0_148, .int p1_148, .ref (qY 8)]) h (fun p0_148 p1_148 h => ?_) (fun J148 hJ148 h => ?_)
              · refine SW.iconst (v := (0 : Int32)) C dX10_teas_148 (by decide) ?_
                exact hJ149 _ _ _ h
              · refine SW.if_eq (tgt := 148) C dX10_teas_128 (by decide) (fun hc => ?_) (fun hc => ?_)
                · replace h := h.1 hc
                  refine SW.sub [0, 1, 2] rfl ?_
                  exact hJ148 _ _ h
                · replace h := h.2 hc
                  refine SW.iload_n C dX10_teas_131 rfl 2 rfl ?_
                  refine SW.iload_n C dX10_teas_132 rfl 1 rfl ?_
                  refine SW.iconst (v := (-1 : Int32)) C dX10_teas_133 (by decide) ?_
                  refine SW.ixor C dX10_teas_134 ?_
                  refine SW.iand C dX10_teas_135 ?_
                  refine SW.if_ne (tgt := 148) C dX10_teas_136 (by decide) (fun hc => ?_) (fun hc => ?_)
                  · replace h := h.2 hc
                    refine SW.sub [0, 1, 2] rfl ?_
                    exact hJ148 _ _ h
                  · replace h := h.1 hc
                    refine SW.iload C dX10_teas_139 4 rfl ?_
                    refine SW.if_ne (tgt := 148) C dX10_teas_141 (by decide) (fun hc => ?_) (fun hc => ?_)
                    · replace h := h.2 hc
                      refine SW.sub [0, 1, 2] rfl ?_
                      exact hJ148 _ _ h
                    · replace h := h.1 hc
                      refine SW.iconst (v := (1 : Int32)) C dX10_teas_144 (by decide) ?_
                      refine SW.goto (tgt := 149) C dX10_teas_145 (by decide) ?_
                      refine SW.sub [0, 1, 2] rfl ?_
                      exact hJ149 _ _ _ h
    obtain ⟨fu, h⟩ := h
    refine SW.sub [1, 2, 0] rfl ?_
    refine L39 _ (fun oY_157 h => ?_) fu _ _ h
    · refine SW.iload_n C dX10_teas_157 rfl 1 rfl ?_
      refine SW.callSi_pure C (ctX10_bits l D cI cZ v1_37 _ h) gX10_teas_X10_bits rfl rfl rfl pdX10_bits ⟨by decide, by decide⟩ rfl rfl (Nat.le_of_ble_eq_true rfl) dX10_teas_158 (by decide) (fun r158 u h => ?_)
      try dsimp only at h
      refine SW.aload_n C dX10_teas_161 rfl 0 rfl ?_
      refine SW.get (v := .ref (qY 8)) (T := TX10) (N := 25) C inX10_teas_X10 0 rfl rfl 21 (by decide) lkX10_teas_44 rfl dX10_teas_162 ?_
      refine SW.iload_n C dX10_teas_165 rfl 1 rfl ?_
      refine SW.iald C 8 0 rfl rfl h.1 dX10_teas_166 ?_
      replace h := h.2
      refine SW.isub C dX10_teas_167 ?_
      exact SW.iret C oY_157 rfl h dX10_teas_168
def wpX10_worth (oY : Ob) (v1 : Int32) (v2 : Int32) (post : Int32 → Prop) : Prop := wpX10_lengthOf oY v1 v2 (oY 0 5) (fun (r7 : Int32) => post (((10 : Int32) * (r7 / (10 : Int32))) - ((oY 0 4) * r7)))
theorem pdX10_worth : yX10_worth.cls = RX10 ∧ yX10_worth.cls ≠ "java/lang/invoke/MethodHandle" ∧ yX10_worth.cls ≠ "java/lang/invoke/VarHandle" ∧ (parseMethodDescriptor yX10_worth.desc).map (fun d => d.parameters.length) = some 2 := by decide +kernel
theorem lkX10_worth_60 : Cond.fieldLink RX10 60 (TX10 5).1 (TX10 5).2.1 (TX10 5).2.2.1 ∈ wsX10_worth := by decide +kernel
theorem inX10_worth_X10 : ∀ w ∈ u_ws RX10 TX10 25, w ∈ wsX10_worth := by decide +kernel
theorem lkX10_worth_23 : Cond.fieldLink RX10 23 (TX10 4).1 (TX10 4).2.1 (TX10 4).2.2.1 ∈ wsX10_worth := by decide +kernel
set_option maxHeartbeats 4000000 in
set_option maxRecDepth 100000 in
theorem ctX10_worth (l : Launch) (D : va_G) (cI cZ : ClassId) (qY : Nat → Nat) (oY : Ob) (v1 : Int32) (v2 : Int32) (post : Int32 → Prop) (h : wpX10_worth oY v1 v2 post) : CTi l yX10_worth wsX10_worth { frames := 2, cells := 0, slots := 0, locals := 49 } D [(cI, .int), (cZ, .boolean)] [.ref (qY 0), .int v1, .int v2] (w10 cI cZ qY oY) (fun _ : Unit => w10 cI cZ qY oY) (fun (r : Int32) (_ : Unit) => post r) := by
  refine CTi.of (cc := cX10_worth) (own := RX10) (maxL := 4) (ret := (some .int)) (lv0 := [(0, .ref (qY 0)), (1, .int v1), (2, .int v2)]) (by decide) rfl rfl (Nat.le_of_ble_eq_true rfl) rfl ?_
  intro p e s m args below meth c A C
  unfold wpX10_worth at h
  refine SW.aload_n C dX10_worth_0 rfl 0 rfl ?_
  refine SW.iload_n C dX10_worth_1 rfl 1 rfl ?_
  refine SW.iload_n C dX10_worth_2 rfl 2 rfl ?_
  refine SW.aload_n C dX10_worth_3 rfl 0 rfl ?_
  refine SW.get (v := .int (oY 0 5)) (T := TX10) (N := 25) C inX10_worth_X10 0 rfl rfl 5 (by decide) lkX10_worth_60 rfl dX10_worth_4 ?_
  refine SW.callVi_same C (ctX10_lengthOf l D cI cZ qY oY v1 v2 (oY 0 5) _ h) gX10_worth_X10_lengthOf rfl rfl rfl pdX10_lengthOf ⟨by decide, by decide⟩ 0 rfl rfl rfl rfl rfl (Nat.le_of_ble_eq_true rfl) dX10_worth_7 (by decide) (fun r7 u h => ?_)
  try dsimp only at h
  refine SW.istore_n (lv' := [(3, .int r7), (0, .ref (qY 0)), (1, .int v1), (2, .int v2)]) C dX10_worth_10 rfl (by decide) rfl ?_
  refine SW.bipush (v := (10 : Int32)) C dX10_worth_11 (by decide) ?_
  refine SW.iload_n C dX10_worth_13 rfl 0 rfl ?_
  refine SW.bipush (v := (10 : Int32)) C dX10_worth_14 (by decide) ?_
  refine SW.idiv C dX10_worth_16 (by decide) ?_
  refine SW.imul C dX10_worth_17 ?_
  refine SW.aload_n C dX10_worth_18 rfl 1 rfl ?_
  refine SW.get (v := .int (oY 0 4)) (T := TX10) (N := 25) C inX10_worth_X10 0 rfl rfl 4 (by decide) lkX10_worth_23 rfl dX10_worth_19 ?_
  refine SW.iload_n C dX10_worth_22 rfl 0 rfl ?_
  refine SW.imul C dX10_worth_23 ?_
  refine SW.isub C dX10_worth_24 ?_
  exact SW.iret C () rfl h dX10_worth_25
def wpX10_feet_L4 (oYc_4 : Ob) (K63 : Int32 → Prop) : Nat → Int32 → Int32 → Prop
  | 0, _, _ => False
  | fu4 + 1, v1_4, v2_4 => (((oYc_4 0 0) ≤ v2_4) → K63 v1_4) ∧ (¬ ((oYc_4 0 0) ≤ v2_4) → wpX10_canBe oYc_4 ((oYc_4 0 6) ^^^ (jshl (1 : Int32) v2_4)) (fun (r24 : Int32) => jn2 (fun (p0_55 : Int32) (p1_55 : Int32) => wpX10_feet_L4 oYc_4 K63 fu4 (p1_55 ||| p0_55) (v2_4 + (1 : Int32))) (fun J55 => jn1 (fun (p0_54 : Int32) => J55 (0 : Int32) p0_54) (fun J54 => ((r24 = 0) → J54 v1_4) ∧ (¬ (r24 = 0) → wpX10_worth oYc_4 v2_4 ((oYc_4 0 6) ^^^ (jshl (1 : Int32) v2_4)) (fun (r33 : Int32) => wpX10_worth oYc_4 v2_4 (oYc_4 0 6) (fun (r42 : Int32) => ((r33 ≤ r42) → J54 v1_4) ∧ (¬ (r33 ≤ r42) → J55 (jshl (1 : Int32) v2_4) v1_4))))))))
def wpX10_feet (oY : Ob) (post : Int32 → Prop) : Prop := ∃ fu4 : Nat, wpX10_feet_L4 oY (fun (v1_63 : Int32) => post v1_63) fu4 (0 : Int32) (0 : Int32)
theorem pdX10_feet : yX10_feet.cls = RX10 ∧ yX10_feet.cls ≠ "java/lang/invoke/MethodHandle" ∧ yX10_feet.cls ≠ "java/lang/invoke/VarHandle" ∧ (parseMethodDescriptor yX10_feet.desc).map (fun d => d.parameters.length) = some 0 := by decide +kernel
theorem lkX10_feet_7 : Cond.fieldLink RX10 7 (TX10 0).1 (TX10 0).2.1 (TX10 0).2.2.1 ∈ wsX10_feet := by decide +kernel
theorem inX10_feet_X10 : ∀ w ∈ u_ws RX10 TX10 25, w ∈ wsX10_feet := by decide +kernel
theorem lkX10_feet_63 : Cond.fieldLink RX10 63 (TX10 6).1 (TX10 6).2.1 (TX10 6).2.2.1 ∈ wsX10_feet := by decide +kernel
set_option maxHeartbeats 4000000 in
set_option maxRecDepth 100000 in
theorem ctX10_feet (l : Launch) (D : va_G) (cI cZ : ClassId) (qY : Nat → Nat) (oY : Ob) (post : Int32 → Prop) (h : wpX10_feet oY post) : CTi l yX10_feet wsX10_feet { frames := 3, cells := 0, slots := 0, locals := 72 } D [(cI, .int), (cZ, .boolean)] [.ref (qY 0)] (w10 cI cZ qY oY) (fun _ : Unit => w10 cI cZ qY oY) (fun (r : Int32) (_ : Unit) => post r) := by
  refine CTi.of (cc := cX10_feet) (own := RX10) (maxL := 4) (ret := (some .int)) (lv0 := [(0, .ref (qY 0))]) (by decide) rfl rfl (Nat.le_of_ble_eq_true rfl) rfl ?_
  intro p e s m args below meth c A C
  unfold wpX10_feet at h
  refine SW.iconst (v := (0 : Int32)) C dX10_feet_0 (by decide) ?_
  refine SW.istore_n (lv' := [(1, .int (0 : Int32)), (0, .ref (qY 0))]) C dX10_feet_1 rfl (by decide) rfl ?_
  refine SW.iconst (v := (0 : Int32)) C dX10_feet_2 (by decide) ?_
  refine SW.istore_n (lv' := [(2, .int (0 : Int32)), (1, .int (0 : Int32)), (0, .ref (qY 0))]) C dX10_feet_3 rfl (by decide) rfl ?_
  have L4 : ∀ (K63 : Int32 → Prop) (hK63 : ∀ (v1_63 : Int32), K63 v1_63 → SW p l e { frames := 3, cells := 0, slots := 0, locals := 72 } s m args below meth c A D 4 0 0 (MQ below (va_Qi (fun (r : Int32) (_ : Unit) => post r) (ctB D A (fun _ : Unit => w10 cI cZ qY oY)) A) args s 0 0 A) (w10 cI cZ qY oY) 63 [(1, .int v1_63)] []) (fu : Nat) (v1_4 : Int32) (v2_4 : Int32), wpX10_feet_L4 oY K63 fu v1_4 v2_4 → SW p l e { frames := 3, cells := 0, slots := 0, locals := 72 } s m args below meth c A D 4 0 0 (MQ below (va_Qi (fun (r : Int32) (_ : Unit) => post r) (ctB D A (fun _ : Unit => w10 cI cZ qY oY)) A) args s 0 0 A) (w10 cI cZ qY oY) 4 [(0, .ref (qY 0)), (1, .int v1_4), (2, .int v2_4)] [] := by
    intro K63 hK63 fu
    induction fu with
    | zero =>
      intro v1_4 v2_4 h
      exact False.elim h
    | succ fu ih =>
      intro v1_4 v2_4 h
      unfold wpX10_feet_L4 at h
      refine SW.iload_n C dX10_feet_4 rfl 2 rfl ?_
      refine SW.aload_n C dX10_feet_5 rfl 0 rfl ?_
      refine SW.get (v := .int (oY 0 0)) (T := TX10) (N := 25) C inX10_feet_X10 0 rfl rfl 0 (by decide) lkX10_feet_7 rfl dX10_feet_6 ?_
      refine SW.icmp_ge (tgt := 63) C dX10_feet_9 (by decide) (fun hc => ?_) (fun hc => ?_)
      · replace h := h.1 hc
        refine SW.sub [1] rfl ?_
        exact hK63 _ h
      · replace h := h.2 hc
        refine SW.aload_n C dX10_feet_12 rfl 0 rfl ?_
        refine SW.get (v := .int (oY 0 6)) (T := TX10) (N := 25) C inX10_feet_X10 0 rfl rfl 6 (by decide) lkX10_feet_63 rfl dX10_feet_13 ?_
        refine SW.iconst (v := (1 : Int32)) C dX10_feet_16 (by decide) ?_
        refine SW.iload_n C dX10_feet_17 rfl 2 rfl ?_
        refine SW.ishl C dX10_feet_18 ?_
        refine SW.ixor C dX10_feet_19 ?_
        refine SW.istore_n (lv' := [(3, .int ((oY 0 6) ^^^ (jshl (1 : Int32) v2_4))), (0, .ref (qY 0)), (1, .int v1_4), (2, .int v2_4)]) C dX10_feet_20 rfl (by decide) rfl ?_
        refine SW.iload_n C dX10_feet_21 rfl 2 rfl ?_
        refine SW.aload_n C dX10_feet_22 rfl 1 rfl ?_
        refine SW.iload_n C dX10_feet_23 rfl 0 rfl ?_
        refine SW.callVi_same C (ctX10_canBe l D cI cZ qY oY ((oY 0 6) ^^^ (jshl (1 : Int32) v2_4)) _ h) gX10_feet_X10_canBe rfl rfl rfl pdX10_canBe ⟨by decide, by decide⟩ 0 rfl rfl rfl rfl rfl (Nat.le_of_ble_eq_true rfl) dX10_feet_24 (by decide) (fun r24 u h => ?_)
        try dsimp only at h
        refine jn2_elim (G := fun p0_55 p1_55 => SW p l e { frames := 3, cells := 0, slots := 0, locals := 72 } s m args below meth c A D 4 0 0 (MQ below (va_Qi (fun (r : Int32) (_ : Unit) => post r) (ctB D A (fun _ : Unit => w10 cI cZ qY oY)) A) args s 0 0 A) (w10 cI cZ qY oY) 55 [(0, .ref (qY 0)), (2, .int v2_4)] [.int p0_55, .int p1_55]) h (fun p0_55 p1_55 h => ?_) (fun J55 hJ55 h => ?_)
        · refine SW.ior C dX10_feet_55 ?_
          refine SW.istore_n (lv' := [(1, .int (p1_55 ||| p0_55)), (0, .ref (qY 0)), (2, .int v2_4)]) C dX10_feet_56 rfl (by decide) rfl ?_
          refine SW.iinc (q := 2) (v := (v2_4 + (1 : Int32))) (lv' := [(2, .int (v2_4 + (1 : Int32))), (1, .int (p1_55 ||| p0_55)), (0, .ref (qY 0))]) C dX10_feet_57 rfl rfl (by decide) rfl ?_
          refine SW.goto (tgt := 4) C dX10_feet_60 (by decide) ?_
          refine SW.sub [2, 1, 0] rfl ?_
          exact ih _ _ h
        · refine jn1_elim (G := fun p0_54 => SW p l e { frames := 3, cells := 0, slots := 0, locals := 72 } s m args below meth c A D 4 0 0 (MQ below (va_Qi (fun (r : Int32) (_ : Unit) => post r) (ctB D A (fun _ : Unit => w10 cI cZ qY oY)) A) args s 0 0 A) (w10 cI cZ qY oY) 54 [(0, .ref (qY 0)), (2, .int v2_4)] [.int p0_54]) h (fun p0_54 h => ?_) (fun J54 hJ54 h => ?_)
          · refine SW.iconst (v := (0 : Int32)) C dX10_feet_54 (by decide) ?_
            exact hJ55 _ _ h
          · refine SW.if_eq (tgt := 54) C dX10_feet_27 (by decide) (fun hc => ?_) (fun hc => ?_)
            · replace h := h.1 hc
              refine SW.sub [1, 3] rfl ?_
              exact hJ54 _ h
            · replace h := h.2 hc
              refine SW.aload_n C dX10_feet_30 rfl 1 rfl ?_
              refine SW.iload_n C dX10_feet_31 rfl 3 rfl ?_
              refine SW.iload_n C dX10_feet_32 rfl 0 rfl ?_
              refine SW.callVi_same C (ctX10_worth l D cI cZ qY oY v2_4 ((oY 0 6) ^^^ (jshl (1 : Int32) v2_4)) _ h) gX10_feet_X10_worth rfl rfl rfl pdX10_worth ⟨by decide, by decide⟩ 0 rfl rfl rfl rfl rfl (Nat.le_of_ble_eq_true rfl) dX10_feet_33 (by decide) (fun r33 u h => ?_)
              try dsimp only at h
              refine SW.aload_n C dX10_feet_36 rfl 1 rfl ?_
              refine SW.iload_n C dX10_feet_37 rfl 3 rfl ?_
              refine SW.aload_n C dX10_feet_38 rfl 1 rfl ?_
              refine SW.get (v := .int (oY 0 6)) (T := TX10) (N := 25) C inX10_feet_X10 0 rfl rfl 6 (by decide) lkX10_feet_63 rfl dX10_feet_39 ?_
              refine SW.callVi_same C (ctX10_worth l D cI cZ qY oY v2_4 (oY 0 6) _ h) gX10_feet_X10_worth rfl rfl rfl pdX10_worth ⟨by decide, by decide⟩ 0 rfl rfl rfl rfl rfl (Nat.le_of_ble_eq_true rfl) dX10_feet_42 (by decide) (fun r42 u h => ?_)
              try dsimp only at h
              refine SW.icmp_le (tgt := 54) C dX10_feet_45 (by decide) (fun hc => ?_) (fun hc => ?_)
              · replace h := h.1 hc
                refine SW.sub [1, 3] rfl ?_
                exact hJ54 _ h
              · replace h := h.2 hc
                refine SW.iconst (v := (1 : Int32)) C dX10_feet_48 (by decide) ?_
                refine SW.iload_n C dX10_feet_49 rfl 3 rfl ?_
                refine SW.ishl C dX10_feet_50 ?_
                refine SW.goto (tgt := 55) C dX10_feet_51 (by decide) ?_
                refine SW.sub [1, 3] rfl ?_
                exact hJ55 _ _ h
  obtain ⟨fu, h⟩ := h
  refine SW.sub [2, 1, 0] rfl ?_
  refine L4 _ (fun v1_63 h => ?_) fu _ _ h
  · refine SW.iload_n C dX10_feet_63 rfl 0 rfl ?_
    exact SW.iret C () rfl h dX10_feet_64
def wpX10_had_L14 (c0_14 : Int32) (c2_14 : Int32) (K54 : Int32 → Prop) : Nat → Int32 → Int32 → Prop
  | 0, _, _ => False
  | fu14 + 1, v1_14, v3_14 => (((17 : Int32) ≤ v3_14) → K54 v1_14) ∧ (¬ ((17 : Int32) ≤ v3_14) → wpX10_has c0_14 c2_14 (fun (r23 : Int32) => jn2 (fun (p0_46 : Int32) (p1_46 : Int32) => wpX10_had_L14 c0_14 c2_14 K54 fu14 (p1_46 ||| p0_46) (v3_14 + (1 : Int32))) (fun J46 => jn1 (fun (p0_45 : Int32) => J46 (0 : Int32) p0_45) (fun J45 => ((r23 = 0) → J45 v1_14) ∧ (¬ (r23 = 0) → wpX10_has c0_14 v3_14 (fun (r31 : Int32) => ((r31 = 0) → J45 v1_14) ∧ (¬ (r31 = 0) → J46 (jshl (1 : Int32) (v3_14 - c2_14)) v1_14)))))))
def wpX10_had_L4 (c0_4 : Int32) (K60 : Int32 → Prop) : Nat → Int32 → Int32 → Prop
  | 0, _, _ => False
  | fu4 + 1, v1_4, v2_4 => (((17 : Int32) ≤ v2_4) → K60 v1_4) ∧ (¬ ((17 : Int32) ≤ v2_4) → ∃ fu14 : Nat, wpX10_had_L14 c0_4 v2_4 (fun (v1_54 : Int32) => wpX10_had_L4 c0_4 K60 fu4 v1_54 (v2_4 + (1 : Int32))) fu14 v1_4 (v2_4 + (1 : Int32)))
def wpX10_had (v0 : Int32) (post : Int32 → Prop) : Prop := ∃ fu4 : Nat, wpX10_had_L4 v0 (fun (v1_60 : Int32) => post v1_60) fu4 (0 : Int32) (0 : Int32)
theorem pdX10_had : yX10_had.cls ≠ "java/lang/invoke/MethodHandle" ∧ yX10_had.cls ≠ "java/lang/invoke/VarHandle" ∧ (parseMethodDescriptor yX10_had.desc).map (fun d => d.parameters.length) = some 1 := by decide +kernel
set_option maxHeartbeats 4000000 in
set_option maxRecDepth 100000 in
theorem ctX10_had (l : Launch) (D : va_G) (cI cZ : ClassId) (v0 : Int32) (post : Int32 → Prop) (h : wpX10_had v0 post) : CTi l yX10_had wsX10_had { frames := 1, cells := 0, slots := 0, locals := 21 } D [(cI, .int), (cZ, .boolean)] [.int v0] (([] : va_W)) (fun _ : Unit => ([] : va_W)) (fun (r : Int32) (_ : Unit) => post r) := by
  refine CTi.of (cc := cX10_had) (own := RX10) (maxL := 4) (ret := (some .int)) (lv0 := [(0, .int v0)]) (by decide) rfl rfl (Nat.le_of_ble_eq_true rfl) rfl ?_
  intro p e s m args below meth c A C
  unfold wpX10_had at h
  refine SW.iconst (v := (0 : Int32)) C dX10_had_0 (by decide) ?_
  refine SW.istore_n (lv' := [(1, .int (0 : Int32)), (0, .int v0)]) C dX10_had_1 rfl (by decide) rfl ?_
  refine SW.iconst (v := (0 : Int32)) C dX10_had_2 (by decide) ?_
  refine SW.istore_n (lv' := [(2, .int (0 : Int32)), (1, .int (0 : Int32)), (0, .int v0)]) C dX10_had_3 rfl (by decide) rfl ?_
  have L4 : ∀ (K60 : Int32 → Prop) (hK60 : ∀ (v1_60 : Int32), K60 v1_60 → SW p l e { frames := 1, cells := 0, slots := 0, locals := 21 } s m args below meth c A D 4 0 0 (MQ below (va_Qi (fun (r : Int32) (_ : Unit) => post r) (ctB D A (fun _ : Unit => ([] : va_W))) A) args s 0 0 A) (([] : va_W)) 60 [(1, .int v1_60)] []) (fu : Nat) (v1_4 : Int32) (v2_4 : Int32), wpX10_had_L4 v0 K60 fu v1_4 v2_4 → SW p l e { frames := 1, cells := 0, slots := 0, locals := 21 } s m args below meth c A D 4 0 0 (MQ below (va_Qi (fun (r : Int32) (_ : Unit) => post r) (ctB D A (fun _ : Unit => ([] : va_W))) A) args s 0 0 A) (([] : va_W)) 4 [(0, .int v0), (1, .int v1_4), (2, .int v2_4)] [] := by
    intro K60 hK60 fu
    induction fu with
    | zero =>
      intro v1_4 v2_4 h
      exact False.elim h
    | succ fu ih =>
      intro v1_4 v2_4 h
      unfold wpX10_had_L4 at h
      refine SW.iload_n C dX10_had_4 rfl 2 rfl ?_
      refine SW.bipush (v := (17 : Int32)) C dX10_had_5 (by decide) ?_
      refine SW.icmp_ge (tgt := 60) C dX10_had_7 (by decide) (fun hc => ?_) (fun hc => ?_)
      · replace h := h.1 hc
        refine SW.sub [1] rfl ?_
        exact hK60 _ h
      · replace h := h.2 hc
        refine SW.iload_n C dX10_had_10 rfl 2 rfl ?_
        refine SW.iconst (v := (1 : Int32)) C dX10_had_11 (by decide) ?_
        refine SW.iadd C dX10_had_12 ?_
        refine SW.istore_n (lv' := [(3, .int (v2_4 + (1 : Int32))), (0, .int v0), (1, .int v1_4), (2, .int v2_4)]) C dX10_had_13 rfl (by decide) rfl ?_
        have L14 : ∀ (K54 : Int32 → Prop) (hK54 : ∀ (v1_54 : Int32), K54 v1_54 → SW p l e { frames := 1, cells := 0, slots := 0, locals := 21 } s m args below meth c A D 4 0 0 (MQ below (va_Qi (fun (r : Int32) (_ : Unit) => post r) (ctB D A (fun _ : Unit => ([] : va_W))) A) args s 0 0 A) (([] : va_W)) 54 [(0, .int v0), (1, .int v1_54), (2, .int v2_4)] []) (fu : Nat) (v1_14 : Int32) (v3_14 : Int32), wpX10_had_L14 v0 v2_4 K54 fu v1_14 v3_14 → SW p l e { frames := 1, cells := 0, slots := 0, locals := 21 } s m args below meth c A D 4 0 0 (MQ below (va_Qi (fun (r : Int32) (_ : Unit) => post r) (ctB D A (fun _ : Unit => ([] : va_W))) A) args s 0 0 A) (([] : va_W)) 14 [(0, .int v0), (1, .int v1_14), (2, .int v2_4), (3, .int v3_14)] [] := by
          intro K54 hK54 fu
          induction fu with
          | zero =>
            intro v1_14 v3_14 h
            exact False.elim h
          | succ fu ih =>
            intro v1_14 v3_14 h
            unfold wpX10_had_L14 at h
            refine SW.iload_n C dX10_had_14 rfl 3 rfl ?_
            refine SW.bipush (v := (17 : Int32)) C dX10_had_15 (by decide) ?_
            refine SW.icmp_ge (tgt := 54) C dX10_had_17 (by decide) (fun hc => ?_) (fun hc => ?_)
            · replace h := h.1 hc
              refine SW.sub [0, 1, 2] rfl ?_
              exact hK54 _ h
            · replace h := h.2 hc
              refine SW.iload_n C dX10_had_20 rfl 1 rfl ?_
              refine SW.iload_n C dX10_had_21 rfl 0 rfl ?_
              refine SW.iload_n C dX10_had_22 rfl 2 rfl ?_
              refine SW.callSi_pure C (ctX10_has l D cI cZ v0 v2_4 _ h) gX10_had_X10_has rfl rfl rfl pdX10_has ⟨by decide, by decide⟩ rfl rfl (Nat.le_of_ble_eq_true rfl) dX10_had_23 (by decide) (fun r23 u h => ?_)
              try dsimp only at h
              refine jn2_elim (G := fun p0_46 p1_46 => SW p l e { frames := 1, cells := 0, slots := 0, locals := 21 } s m args below meth c A D 4 0 0 (MQ below (va_Qi (fun (r : Int32) (_ : Unit) => post r) (ctB D A (fun _ : Unit => ([] : va_W))) A) args s 0 0 A) (([] : va_W)) 46 [(0, .int v0), (2, .int v2_4), (3, .int v3_14)] [.int p0_46, .int p1_46]) h (fun p0_46 p1_46 h => ?_) (fun J46 hJ46 h => ?_)
              · refine SW.ior C dX10_had_46 ?_
                refine SW.istore_n (lv' := [(1, .int (p1_46 ||| p0_46)), (0, .int v0), (2, .int v2_4), (3, .int v3_14)]) C dX10_had_47 rfl (by decide) rfl ?_
                refine SW.iinc (q := 3) (v := (v3_14 + (1 : Int32))) (lv' := [(3, .int (v3_14 + (1 : Int32))), (1, .int (p1_46 ||| p0_46)), (0, .int v0), (2, .int v2_4)]) C dX10_had_48 rfl rfl (by decide) rfl ?_
                refine SW.goto (tgt := 14) C dX10_had_51 (by decide) ?_
                refine SW.sub [2, 1, 3, 0] rfl ?_
                exact ih _ _ h
              · refine jn1_elim (G := fun p0_45 => SW p l e { frames := 1, cells := 0, slots := 0, locals := 21 } s m args below meth c A D 4 0 0 (MQ below (va_Qi (fun (r : Int32) (_ : Unit) => post r) (ctB D A (fun _ : Unit => ([] : va_W))) A) args s 0 0 A) (([] : va_W)) 45 [(0, .int v0), (2, .int v2_4), (3, .int v3_14)] [.int p0_45]) h (fun p0_45 h => ?_) (fun J45 hJ45 h => ?_)
                · refine SW.iconst (v := (0 : Int32)) C dX10_had_45 (by decide) ?_
                  exact hJ46 _ _ h
                · refine SW.if_eq (tgt := 45) C dX10_had_26 (by decide) (fun hc => ?_) (fun hc => ?_)
                  · replace h := h.1 hc
                    refine SW.sub [0, 2, 3] rfl ?_
                    exact hJ45 _ h
                  · replace h := h.2 hc
                    refine SW.iload_n C dX10_had_29 rfl 0 rfl ?_
                    refine SW.iload_n C dX10_had_30 rfl 3 rfl ?_
                    refine SW.callSi_pure C (ctX10_has l D cI cZ v0 v3_14 _ h) gX10_had_X10_has rfl rfl rfl pdX10_has ⟨by decide, by decide⟩ rfl rfl (Nat.le_of_ble_eq_true rfl) dX10_had_31 (by decide) (fun r31 u h => ?_)
                    try dsimp only at h
                    refine SW.if_eq (tgt := 45) C dX10_had_34 (by decide) (fun hc => ?_) (fun hc => ?_)
                    · replace h := h.1 hc
                      refine SW.sub [0, 2, 3] rfl ?_
                      exact hJ45 _ h
                    · replace h := h.2 hc
                      refine SW.iconst (v := (1 : Int32)) C dX10_had_37 (by decide) ?_
                      refine SW.iload_n C dX10_had_38 rfl 3 rfl ?_
                      refine SW.iload_n C dX10_had_39 rfl 2 rfl ?_
                      refine SW.isub C dX10_had_40 ?_
                      refine SW.ishl C dX10_had_41 ?_
                      refine SW.goto (tgt := 46) C dX10_had_42 (by decide) ?_
                      refine SW.sub [0, 2, 3] rfl ?_
                      exact hJ46 _ _ h
        obtain ⟨fu, h⟩ := h
        refine SW.sub [1, 2, 3, 0] rfl ?_
        refine L14 _ (fun v1_54 h => ?_) fu _ _ h
        · refine SW.iinc (q := 2) (v := (v2_4 + (1 : Int32))) (lv' := [(2, .int (v2_4 + (1 : Int32))), (0, .int v0), (1, .int v1_54)]) C dX10_had_54 rfl rfl (by decide) rfl ?_
          refine SW.goto (tgt := 4) C dX10_had_57 (by decide) ?_
          refine SW.sub [1, 2, 0] rfl ?_
          exact ih _ _ h
  obtain ⟨fu, h⟩ := h
  refine SW.sub [2, 1, 0] rfl ?_
  refine L4 _ (fun v1_60 h => ?_) fu _ _ h
  · refine SW.iload_n C dX10_had_60 rfl 0 rfl ?_
    exact SW.iret C () rfl h dX10_had_61
def wpX10_hooks_L46 (c1_46 : Int32) (c2_46 : Int32) (K127 : Int32 → Prop) : Nat → Int32 → Int32 → Prop
  | 0, _, _ => False
  | fu46 + 1, v4_46, v5_46 => (((jshl (1 : Int32) c1_46) ≤ v5_46) → K127 v4_46) ∧ (¬ ((jshl (1 : Int32) c1_46) ≤ v5_46) → wpX10_bits v5_46 (fun (r56 : Int32) => jn1 (fun (p0_87 : Int32) => jn1 (fun (p0_119 : Int32) => wpX10_hooks_L46 c1_46 c2_46 K127 fu46 p0_119 (v5_46 + (2 : Int32))) (fun J119 => jn0 (J119 v4_46) (fun J117 => ((p0_87 = 0) → J117) ∧ (¬ (p0_87 = 0) → wpX10_had ((v5_46 ||| (1 : Int32)) ||| (jshl (1 : Int32) c1_46)) (fun (r103 : Int32) => (((c2_46 &&& (r103 ^^^ (-1 : Int32))) = 0) → J119 v5_46) ∧ (¬ ((c2_46 &&& (r103 ^^^ (-1 : Int32))) = 0) → J117)))))) (fun J87 => jn0 (J87 (0 : Int32)) (fun J86 => (((6 : Int32) < r56) → J86) ∧ (¬ ((6 : Int32) < r56) → jn0 (J87 (1 : Int32)) (fun J82 => ((v4_46 < 0) → J82) ∧ (¬ (v4_46 < 0) → wpX10_bits v5_46 (fun (r71 : Int32) => wpX10_bits v4_46 (fun (r76 : Int32) => ((r76 ≤ r71) → J86) ∧ (¬ (r76 ≤ r71) → J82))))))))))
def wpX10_hooks (oY : Ob) (v1 : Int32) (v2 : Int32) (v3 : Int32) (post : Int32 → Prop) : Prop := wpX10_in v1 (2 : Int32) (16 : Int32) (fun (r4 : Int32) => ((r4 = 0) → post (-2 : Int32)) ∧ (¬ (r4 = 0) → wpX10_in v2 (0 : Int32) (131071 : Int32) (fun (r14 : Int32) => ((r14 = 0) → post (-2 : Int32)) ∧ (¬ (r14 = 0) → (((jrem v2 (2 : Int32)) = (1 : Int32)) → post (-2 : Int32)) ∧ (¬ ((jrem v2 (2 : Int32)) = (1 : Int32)) → wpX10_in v3 (0 : Int32) (1 : Int32) (fun (r30 : Int32) => ((r30 = 0) → post (-2 : Int32)) ∧ (¬ (r30 = 0) → ∃ fu46 : Nat, wpX10_hooks_L46 v1 v2 (fun (v4_127 : Int32) => jn0 (post v4_127) (fun J137 => ((v4_127 < 0) → J137) ∧ (¬ (v4_127 < 0) → ((v3 = (1 : Int32)) → J137) ∧ (¬ (v3 = (1 : Int32)) → wpX10_bits v4_127 (fun (r144 : Int32) => post r144))))) fu46 (-6 : Int32) (0 : Int32))))))))
theorem pdX10_hooks : yX10_hooks.cls = RX10 ∧ yX10_hooks.cls ≠ "java/lang/invoke/MethodHandle" ∧ yX10_hooks.cls ≠ "java/lang/invoke/VarHandle" ∧ (parseMethodDescriptor yX10_hooks.desc).map (fun d => d.parameters.length) = some 3 := by decide +kernel
set_option maxHeartbeats 4000000 in
set_option maxRecDepth 100000 in
theorem ctX10_hooks (l : Launch) (D : va_G) (cI cZ : ClassId) (qY : Nat → Nat) (oY : Ob) (v1 : Int32) (v2 : Int32) (v3 : Int32) (post : Int32 → Prop) (h : wpX10_hooks oY v1 v2 v3 post) : CTi l yX10_hooks wsX10_hooks { frames := 2, cells := 0, slots := 0, locals := 44 } D [(cI, .int), (cZ, .boolean)] [.ref (qY 0), .int v1, .int v2, .int v3] (w10 cI cZ qY oY) (fun _ : Unit => w10 cI cZ qY oY) (fun (r : Int32) (_ : Unit) => post r) := by
  refine CTi.of (cc := cX10_hooks) (own := RX10) (maxL := 7) (ret := (some .int)) (lv0 := [(0, .ref (qY 0)), (1, .int v1), (2, .int v2), (3, .int v3)]) (by decide) rfl rfl (Nat.le_of_ble_eq_true rfl) rfl ?_
  intro p e s m args below meth c A C
  unfold wpX10_hooks at h
  refine SW.iload_n C dX10_hooks_0 rfl 1 rfl ?_
  refine SW.iconst (v := (2 : Int32)) C dX10_hooks_1 (by decide) ?_
  refine SW.bipush (v := (16 : Int32)) C dX10_hooks_2 (by decide) ?_
  refine SW.callSi_pure C (ctX10_in l D cI cZ v1 (2 : Int32) (16 : Int32) _ h) gX10_hooks_X10_in rfl rfl rfl pdX10_in ⟨by decide, by decide⟩ rfl rfl (Nat.le_of_ble_eq_true rfl) dX10_hooks_4 (by decide) (fun r4 u h => ?_)
  try dsimp only at h
  refine SW.if_eq (tgt := 36) C dX10_hooks_7 (by decide) (fun hc => ?_) (fun hc => ?_)
  · replace h := h.1 hc
    refine SW.bipush (v := (-2 : Int32)) C dX10_hooks_36 (by decide) ?_
    exact SW.iret C () rfl h dX10_hooks_38
  · replace h := h.2 hc
    refine SW.iload_n C dX10_hooks_10 rfl 2 rfl ?_
    refine SW.iconst (v := (0 : Int32)) C dX10_hooks_11 (by decide) ?_
    refine SW.ldc (v := (131071 : Int32)) C (by decide +kernel) dX10_hooks_12 ?_
    refine SW.callSi_pure C (ctX10_in l D cI cZ v2 (0 : Int32) (131071 : Int32) _ h) gX10_hooks_X10_in rfl rfl rfl pdX10_in ⟨by decide, by decide⟩ rfl rfl (Nat.le_of_ble_eq_true rfl) dX10_hooks_14 (by decide) (fun r14 u h => ?_)
    try dsimp only at h
    refine SW.if_eq (tgt := 36) C dX10_hooks_17 (by decide) (fun hc => ?_) (fun hc => ?_)
    · replace h := h.1 hc
      refine SW.bipush (v := (-2 : Int32)) C dX10_hooks_36 (by decide) ?_
      exact SW.iret C () rfl h dX10_hooks_38
    · replace h := h.2 hc
      refine SW.iload_n C dX10_hooks_20 rfl 2 rfl ?_
      refine SW.iconst (v := (2 : Int32)) C dX10_hooks_21 (by decide) ?_
      refine SW.irem C dX10_hooks_22 (by decide) ?_
      refine SW.iconst (v := (1 : Int32)) C dX10_hooks_23 (by decide) ?_
      refine SW.icmp_eq (tgt := 36) C dX10_hooks_24 (by decide) (fun hc => ?_) (fun hc => ?_)
      · replace h := h.1 hc
        refine SW.bipush (v := (-2 : Int32)) C dX10_hooks_36 (by decide) ?_
        exact SW.iret C () rfl h dX10_hooks_38
      · replace h := h.2 hc
        refine SW.iload_n C dX10_hooks_27 rfl 3 rfl ?_
        refine SW.iconst (v := (0 : Int32)) C dX10_hooks_28 (by decide) ?_
        refine SW.iconst (v := (1 : Int32)) C dX10_hooks_29 (by decide) ?_
        refine SW.callSi_pure C (ctX10_in l D cI cZ v3 (0 : Int32) (1 : Int32) _ h) gX10_hooks_X10_in rfl rfl rfl pdX10_in ⟨by decide, by decide⟩ rfl rfl (Nat.le_of_ble_eq_true rfl) dX10_hooks_30 (by decide) (fun r30 u h => ?_)
        try dsimp only at h
        refine SW.if_ne (tgt := 39) C dX10_hooks_33 (by decide) (fun hc => ?_) (fun hc => ?_)
        · replace h := h.2 hc
          refine SW.bipush (v := (-6 : Int32)) C dX10_hooks_39 (by decide) ?_
          refine SW.istore (lv' := [(4, .int (-6 : Int32)), (0, .ref (qY 0)), (1, .int v1), (2, .int v2), (3, .int v3)]) C dX10_hooks_41 (by decide) rfl ?_
          refine SW.iconst (v := (0 : Int32)) C dX10_hooks_43 (by decide) ?_
          refine SW.istore (lv' := [(5, .int (0 : Int32)), (4, .int (-6 : Int32)), (0, .ref (qY 0)), (1, .int v1), (2, .int v2), (3, .int v3)]) C dX10_hooks_44 (by decide) rfl ?_
          have L46 : ∀ (K127 : Int32 → Prop) (hK127 : ∀ (v4_127 : Int32), K127 v4_127 → SW p l e { frames := 2, cells := 0, slots := 0, locals := 44 } s m args below meth c A D 7 0 0 (MQ below (va_Qi (fun (r : Int32) (_ : Unit) => post r) (ctB D A (fun _ : Unit => w10 cI cZ qY oY)) A) args s 0 0 A) (w10 cI cZ qY oY) 127 [(3, .int v3), (4, .int v4_127)] []) (fu : Nat) (v4_46 : Int32) (v5_46 : Int32), wpX10_hooks_L46 v1 v2 K127 fu v4_46 v5_46 → SW p l e { frames := 2, cells := 0, slots := 0, locals := 44 } s m args below meth c A D 7 0 0 (MQ below (va_Qi (fun (r : Int32) (_ : Unit) => post r) (ctB D A (fun _ : Unit => w10 cI cZ qY oY)) A) args s 0 0 A) (w10 cI cZ qY oY) 46 [(1, .int v1), (2, .int v2), (3, .int v3), (4, .int v4_46), (5, .int v5_46)] [] := by
            intro K127 hK127 fu
            induction fu with
            | zero =>
              intro v4_46 v5_46 h
              exact False.elim h
            | succ fu ih =>
              intro v4_46 v5_46 h
              unfold wpX10_hooks_L46 at h
              refine SW.iload C dX10_hooks_46 4 rfl ?_
              refine SW.iconst (v := (1 : Int32)) C dX10_hooks_48 (by decide) ?_
              refine SW.iload_n C dX10_hooks_49 rfl 0 rfl ?_
              refine SW.ishl C dX10_hooks_50 ?_
              refine SW.icmp_ge (tgt := 127) C dX10_hooks_51 (by decide) (fun hc => ?_) (fun hc => ?_)
              · replace h := h.1 hc
                refine SW.sub [2, 3] rfl ?_
                exact hK127 _ h
              · replace h := h.2 hc
                refine SW.iload C dX10_hooks_54 4 rfl ?_
                refine SW.callSi_pure C (ctX10_bits l D cI cZ v5_46 _ h) gX10_hooks_X10_bits rfl rfl rfl pdX10_bits ⟨by decide, by decide⟩ rfl rfl (Nat.le_of_ble_eq_true rfl) dX10_hooks_56 (by decide) (fun r56 u h => ?_)
                try dsimp only at h
                refine SW.bipush (v := (6 : Int32)) C dX10_hooks_59 (by decide) ?_
                refine jn1_elim (G := fun p0_87 => SW p l e { frames := 2, cells := 0, slots := 0, locals := 44 } s m args below meth c A D 7 0 0 (MQ below (va_Qi (fun (r : Int32) (_ : Unit) => post r) (ctB D A (fun _ : Unit => w10 cI cZ qY oY)) A) args s 0 0 A) (w10 cI cZ qY oY) 87 [(1, .int v1), (2, .int v2), (3, .int v3), (4, .int v4_46), (5, .int v5_46)] [.int p0_87]) h (fun p0_87 h => ?_) (fun J87 hJ87 h => ?_)
                · refine SW.istore (lv' := [(6, .int p0_87), (1, .int v1), (2, .int v2), (3, .int v3), (4, .int v4_46), (5, .int v5_46)]) C dX10_hooks_87 (by decide) rfl ?_
                  refine SW.iload C dX10_hooks_89 0 rfl ?_
                  refine jn1_elim (G := fun p0_119 => SW p l e { frames := 2, cells := 0, slots := 0, locals := 44 } s m args below meth c A D 7 0 0 (MQ below (va_Qi (fun (r : Int32) (_ : Unit) => post r) (ctB D A (fun _ : Unit => w10 cI cZ qY oY)) A) args s 0 0 A) (w10 cI cZ qY oY) 119 [(1, .int v1), (2, .int v2), (3, .int v3), (5, .int v5_46)] [.int p0_119]) h (fun p0_119 h => ?_) (fun J119 hJ119 h => ?_)
                  · refine SW.istore (lv' := [(4, .int p0_119), (1, .int v1), (2, .int v2), (3, .int v3), (5, .int v5_46)]) C dX10_hooks_119 (by decide) rfl ?_
                    refine SW.iinc (q := 4) (v := (v5_46 + (2 : Int32))) (lv' := [(5, .int (v5_46 + (2 : Int32))), (4, .int p0_119), (1, .int v1), (2, .int v2), (3, .int v3)]) C dX10_hooks_121 rfl rfl (by decide) rfl ?_
                    refine SW.goto (tgt := 46) C dX10_hooks_124 (by decide) ?_
                    refine SW.sub [2, 3, 4, 1, 0] rfl ?_
                    exact ih _ _ h
                  · refine jn0_elim (G := SW p l e { frames := 2, cells := 0, slots := 0, locals := 44 } s m args below meth c A D 7 0 0 (MQ below (va_Qi (fun (r : Int32) (_ : Unit) => post r) (ctB D A (fun _ : Unit => w10 cI cZ qY oY)) A) args s 0 0 A) (w10 cI cZ qY oY) 117 [(1, .int v1), (2, .int v2), (3, .int v3), (4, .int v4_46), (5, .int v5_46)] []) h (fun h => ?_) (fun J117 hJ117 h => ?_)
                    · refine SW.iload C dX10_hooks_117 3 rfl ?_
                      refine SW.sub [0, 1, 2, 4] rfl ?_
                      exact hJ119 _ h
                    · refine SW.if_eq (tgt := 117) C dX10_hooks_91 (by decide) (fun hc => ?_) (fun hc => ?_)
                      · replace h := h.1 hc
                        refine SW.sub [1, 2, 3, 4, 5] rfl ?_
                        exact hJ117 h
                      · replace h := h.2 hc
                        refine SW.iload_n C dX10_hooks_94 rfl 2 rfl ?_
                        refine SW.iload C dX10_hooks_95 5 rfl ?_
                        refine SW.iconst (v := (1 : Int32)) C dX10_hooks_97 (by decide) ?_
                        refine SW.ior C dX10_hooks_98 ?_
                        refine SW.iconst (v := (1 : Int32)) C dX10_hooks_99 (by decide) ?_
                        refine SW.iload_n C dX10_hooks_100 rfl 1 rfl ?_
                        refine SW.ishl C dX10_hooks_101 ?_
                        refine SW.ior C dX10_hooks_102 ?_
                        refine SW.callSi_pure C (ctX10_had l D cI cZ ((v5_46 ||| (1 : Int32)) ||| (jshl (1 : Int32) v1)) _ h) gX10_hooks_X10_had rfl rfl rfl pdX10_had ⟨by decide, by decide⟩ rfl rfl (Nat.le_of_ble_eq_true rfl) dX10_hooks_103 (by decide) (fun r103 u h => ?_)
                        try dsimp only at h
                        refine SW.iconst (v := (-1 : Int32)) C dX10_hooks_106 (by decide) ?_
                        refine SW.ixor C dX10_hooks_107 ?_
                        refine SW.iand C dX10_hooks_108 ?_
                        refine SW.if_ne (tgt := 117) C dX10_hooks_109 (by decide) (fun hc => ?_) (fun hc => ?_)
                        · replace h := h.2 hc
                          refine SW.sub [1, 2, 3, 4, 5] rfl ?_
                          exact hJ117 h
                        · replace h := h.1 hc
                          refine SW.iload C dX10_hooks_112 5 rfl ?_
                          refine SW.goto (tgt := 119) C dX10_hooks_114 (by decide) ?_
                          refine SW.sub [1, 2, 3, 5] rfl ?_
                          exact hJ119 _ h
                · refine jn0_elim (G := SW p l e { frames := 2, cells := 0, slots := 0, locals := 44 } s m args below meth c A D 7 0 0 (MQ below (va_Qi (fun (r : Int32) (_ : Unit) => post r) (ctB D A (fun _ : Unit => w10 cI cZ qY oY)) A) args s 0 0 A) (w10 cI cZ qY oY) 86 [(1, .int v1), (2, .int v2), (3, .int v3), (4, .int v4_46), (5, .int v5_46)] []) h (fun h => ?_) (fun J86 hJ86 h => ?_)
                  · refine SW.iconst (v := (0 : Int32)) C dX10_hooks_86 (by decide) ?_
                    exact hJ87 _ h
                  · refine SW.icmp_gt (tgt := 86) C dX10_hooks_61 (by decide) (fun hc => ?_) (fun hc => ?_)
                    · replace h := h.1 hc
                      exact hJ86 h
                    · replace h := h.2 hc
                      refine SW.iload C dX10_hooks_64 3 rfl ?_
                      refine jn0_elim (G := SW p l e { frames := 2, cells := 0, slots := 0, locals := 44 } s m args below meth c A D 7 0 0 (MQ below (va_Qi (fun (r : Int32) (_ : Unit) => post r) (ctB D A (fun _ : Unit => w10 cI cZ qY oY)) A) args s 0 0 A) (w10 cI cZ qY oY) 82 [(1, .int v1), (2, .int v2), (3, .int v3), (4, .int v4_46), (5, .int v5_46)] []) h (fun h => ?_) (fun J82 hJ82 h => ?_)
                      · refine SW.iconst (v := (1 : Int32)) C dX10_hooks_82 (by decide) ?_
                        refine SW.goto (tgt := 87) C dX10_hooks_83 (by decide) ?_
                        exact hJ87 _ h
                      · refine SW.if_lt (tgt := 82) C dX10_hooks_66 (by decide) (fun hc => ?_) (fun hc => ?_)
                        · replace h := h.1 hc
                          exact hJ82 h
                        · replace h := h.2 hc
                          refine SW.iload C dX10_hooks_69 4 rfl ?_
                          refine SW.callSi_pure C (ctX10_bits l D cI cZ v5_46 _ h) gX10_hooks_X10_bits rfl rfl rfl pdX10_bits ⟨by decide, by decide⟩ rfl rfl (Nat.le_of_ble_eq_true rfl) dX10_hooks_71 (by decide) (fun r71 u h => ?_)
                          try dsimp only at h
                          refine SW.iload C dX10_hooks_74 3 rfl ?_
                          refine SW.callSi_pure C (ctX10_bits l D cI cZ v4_46 _ h) gX10_hooks_X10_bits rfl rfl rfl pdX10_bits ⟨by decide, by decide⟩ rfl rfl (Nat.le_of_ble_eq_true rfl) dX10_hooks_76 (by decide) (fun r76 u h => ?_)
                          try dsimp only at h
                          refine SW.icmp_ge (tgt := 86) C dX10_hooks_79 (by decide) (fun hc => ?_) (fun hc => ?_)
                          · replace h := h.1 hc
                            exact hJ86 h
                          · replace h := h.2 hc
                            exact hJ82 h
          obtain ⟨fu, h⟩ := h
          refine SW.sub [3, 4, 5, 1, 0] rfl ?_
          refine L46 _ (fun v4_127 h => ?_) fu _ _ h
          · refine SW.iload C dX10_hooks_127 1 rfl ?_
            refine jn0_elim (G := SW p l e { frames := 2, cells := 0, slots := 0, locals := 44 } s m args below meth c A D 7 0 0 (MQ below (va_Qi (fun (r : Int32) (_ : Unit) => post r) (ctB D A (fun _ : Unit => w10 cI cZ qY oY)) A) args s 0 0 A) (w10 cI cZ qY oY) 137 [(4, .int v4_127)] []) h (fun h => ?_) (fun J137 hJ137 h => ?_)
            · refine SW.iload C dX10_hooks_137 0 rfl ?_
              refine SW.goto (tgt := 147) C dX10_hooks_139 (by decide) ?_
              exact SW.iret C () rfl h dX10_hooks_147
            · refine SW.if_lt (tgt := 137) C dX10_hooks_129 (by decide) (fun hc => ?_) (fun hc => ?_)
              · replace h := h.1 hc
                refine SW.sub [1] rfl ?_
                exact hJ137 h
              · replace h := h.2 hc
                refine SW.iload_n C dX10_hooks_132 rfl 0 rfl ?_
                refine SW.iconst (v := (1 : Int32)) C dX10_hooks_133 (by decide) ?_
                refine SW.icmp_ne (tgt := 142) C dX10_hooks_134 (by decide) (fun hc => ?_) (fun hc => ?_)
                · replace h := h.2 hc
                  refine SW.iload C dX10_hooks_142 1 rfl ?_
                  refine SW.callSi_pure C (ctX10_bits l D cI cZ v4_127 _ h) gX10_hooks_X10_bits rfl rfl rfl pdX10_bits ⟨by decide, by decide⟩ rfl rfl (Nat.le_of_ble_eq_true rfl) dX10_hooks_144 (by decide) (fun r144 u h => ?_)
                  try dsimp only at h
                  exact SW.iret C () rfl h dX10_hooks_147
                · replace h := h.1 hc
                  refine SW.sub [1] rfl ?_
                  exact hJ137 h
        · replace h := h.1 hc
          refine SW.bipush (v := (-2 : Int32)) C dX10_hooks_36 (by decide) ?_
          exact SW.iret C () rfl h dX10_hooks_38
def wpX10_canPut (oY : Ob) (v1 : Int32) (v2 : Int32) (post : Int32 → Prop) : Prop := wpX10_has v1 v2 (fun (r8 : Int32) => jn0 (post (0 : Int32)) (fun J38 => ((r8 = 0) → wpX10_canBe oY (v1 ||| (jshl (1 : Int32) v2)) (fun (r16 : Int32) => ((r16 = 0) → J38) ∧ (¬ (r16 = 0) → wpX10_clashes oY (v1 ||| (jshl (1 : Int32) v2)) (oY 0 5) (fun (r28 : Int32) => ((r28 = 0) → post (1 : Int32)) ∧ (¬ (r28 = 0) → J38))))) ∧ (¬ (r8 = 0) → J38)))
theorem pdX10_canPut : yX10_canPut.cls = RX10 ∧ yX10_canPut.cls ≠ "java/lang/invoke/MethodHandle" ∧ yX10_canPut.cls ≠ "java/lang/invoke/VarHandle" ∧ (parseMethodDescriptor yX10_canPut.desc).map (fun d => d.parameters.length) = some 2 := by decide +kernel
theorem lkX10_canPut_60 : Cond.fieldLink RX10 60 (TX10 5).1 (TX10 5).2.1 (TX10 5).2.2.1 ∈ wsX10_canPut := by decide +kernel
theorem inX10_canPut_X10 : ∀ w ∈ u_ws RX10 TX10 25, w ∈ wsX10_canPut := by decide +kernel
set_option maxHeartbeats 4000000 in
set_option maxRecDepth 100000 in
theorem ctX10_canPut (l : Launch) (D : va_G) (cI cZ : ClassId) (qY : Nat → Nat) (oY : Ob) (v1 : Int32) (v2 : Int32) (post : Int32 → Prop) (h : wpX10_canPut oY v1 v2 post) : CTi l yX10_canPut wsX10_canPut { frames := 3, cells := 0, slots := 0, locals := 74 } D [(cI, .int), (cZ, .boolean)] [.ref (qY 0), .int v1, .int v2] (w10 cI cZ qY oY) (fun _ : Unit => w10 cI cZ qY oY) (fun (r : Int32) (_ : Unit) => post r) := by
  refine CTi.of (cc := cX10_canPut) (own := RX10) (maxL := 4) (ret := (some .boolean)) (lv0 := [(0, .ref (qY 0)), (1, .int v1), (2, .int v2)]) (by decide) rfl rfl (Nat.le_of_ble_eq_true rfl) rfl ?_
  intro p e s m args below meth c A C
  unfold wpX10_canPut at h
  refine SW.iload_n C dX10_canPut_0 rfl 1 rfl ?_
  refine SW.iconst (v := (1 : Int32)) C dX10_canPut_1 (by decide) ?_
  refine SW.iload_n C dX10_canPut_2 rfl 2 rfl ?_
  refine SW.ishl C dX10_canPut_3 ?_
  refine SW.ior C dX10_canPut_4 ?_
  refine SW.istore_n (lv' := [(3, .int (v1 ||| (jshl (1 : Int32) v2))), (0, .ref (qY 0)), (1, .int v1), (2, .int v2)]) C dX10_canPut_5 rfl (by decide) rfl ?_
  refine SW.iload_n C dX10_canPut_6 rfl 2 rfl ?_
  refine SW.iload_n C dX10_canPut_7 rfl 3 rfl ?_
  refine SW.callSi_pure C (ctX10_has l D cI cZ v1 v2 _ h) gX10_canPut_X10_has rfl rfl rfl pdX10_has ⟨by decide, by decide⟩ rfl rfl (Nat.le_of_ble_eq_true rfl) dX10_canPut_8 (by decide) (fun r8 u h => ?_)
  try dsimp only at h
  refine jn0_elim (G := SW p l e { frames := 3, cells := 0, slots := 0, locals := 74 } s m args below meth c A D 4 0 0 (MQ below (va_Qi (fun (r : Int32) (_ : Unit) => post r) (ctB D A (fun _ : Unit => w10 cI cZ qY oY)) A) args s 0 0 A) (w10 cI cZ qY oY) 38 [] []) h (fun h => ?_) (fun J38 hJ38 h => ?_)
  · refine SW.iconst (v := (0 : Int32)) C dX10_canPut_38 (by decide) ?_
    exact SW.zret C () (by decide) rfl h dX10_canPut_39
  · refine SW.if_ne (tgt := 38) C dX10_canPut_11 (by decide) (fun hc => ?_) (fun hc => ?_)
    · replace h := h.2 hc
      refine SW.sub [] rfl ?_
      exact hJ38 h
    · replace h := h.1 hc
      refine SW.aload_n C dX10_canPut_14 rfl 1 rfl ?_
      refine SW.iload_n C dX10_canPut_15 rfl 0 rfl ?_
      refine SW.callVi_same C (ctX10_canBe l D cI cZ qY oY (v1 ||| (jshl (1 : Int32) v2)) _ h) gX10_canPut_X10_canBe rfl rfl rfl pdX10_canBe ⟨by decide, by decide⟩ 0 rfl rfl rfl rfl rfl (Nat.le_of_ble_eq_true rfl) dX10_canPut_16 (by decide) (fun r16 u h => ?_)
      try dsimp only at h
      refine SW.if_eq (tgt := 38) C dX10_canPut_19 (by decide) (fun hc => ?_) (fun hc => ?_)
      · replace h := h.1 hc
        refine SW.sub [] rfl ?_
        exact hJ38 h
      · replace h := h.2 hc
        refine SW.aload_n C dX10_canPut_22 rfl 1 rfl ?_
        refine SW.iload_n C dX10_canPut_23 rfl 0 rfl ?_
        refine SW.aload_n C dX10_canPut_24 rfl 1 rfl ?_
        refine SW.get (v := .int (oY 0 5)) (T := TX10) (N := 25) C inX10_canPut_X10 0 rfl rfl 5 (by decide) lkX10_canPut_60 rfl dX10_canPut_25 ?_
        refine SW.callVi_same C (ctX10_clashes l D cI cZ qY oY (v1 ||| (jshl (1 : Int32) v2)) (oY 0 5) _ h) gX10_canPut_X10_clashes rfl rfl rfl pdX10_clashes ⟨by decide, by decide⟩ 0 rfl rfl rfl rfl rfl (Nat.le_of_ble_eq_true rfl) dX10_canPut_28 (by decide) (fun r28 u h => ?_)
        try dsimp only at h
        refine SW.if_ne (tgt := 38) C dX10_canPut_31 (by decide) (fun hc => ?_) (fun hc => ?_)
        · replace h := h.2 hc
          refine SW.sub [] rfl ?_
          exact hJ38 h
        · replace h := h.1 hc
          refine SW.iconst (v := (1 : Int32)) C dX10_canPut_34 (by decide) ?_
          refine SW.goto (tgt := 39) C dX10_canPut_35 (by decide) ?_
          exact SW.zret C () (by decide) rfl h dX10_canPut_39
def wpX10_turns_L43 (c3_43 : Int32) (K130 : Int32 → Ob → Prop) : Nat → Int32 → Int32 → Ob → Prop
  | 0, _, _, _ => False
  | fu43 + 1, v2_43, v4_43, oY_43 => ((v4_43 < 0) → K130 v2_43 oY_43) ∧ (¬ (v4_43 < 0) → wpX10_canPut oY_43 c3_43 v4_43 (fun (r52 : Int32) => jn1 (fun (p0_77 : Int32) => (vp_in c3_43 1024) ∧ (jn2 (fun (p0_103 : Int32) (p1_103 : Int32) => (vp_in p1_103 1024) ∧ (jn1 (fun (p0_123 : Int32) => wpX10_turns_L43 c3_43 K130 fu43 p0_123 (v4_43 + (-1 : Int32)) (pa oY_43 9 (nC p1_103) (jb p0_103))) (fun J123 => jn0 (J123 v2_43) (fun J122 => ((p0_77 = 0) → J122) ∧ (¬ (p0_77 = 0) → ((c3_43 = (oY_43 0 6)) → J123 v4_43) ∧ (¬ (c3_43 = (oY_43 0 6)) → J122)))))) (fun J103 => jn1 (fun (p0_98 : Int32) => J103 (1 : Int32) p0_98) (fun J98 => (((jld (oY_43 9) c3_43) = 0) → ((p0_77 = 0) → J103 (0 : Int32) c3_43) ∧ (¬ (p0_77 = 0) → J98 c3_43)) ∧ (¬ ((jld (oY_43 9) c3_43) = 0) → J98 c3_43))))) (fun J77 => jn0 (J77 (0 : Int32)) (fun J76 => ((r52 = 0) → J76) ∧ (¬ (r52 = 0) → (vp_in (c3_43 ||| (jshl (1 : Int32) v4_43)) 1024) ∧ ((((jld (oY_43 9) (c3_43 ||| (jshl (1 : Int32) v4_43))) = 0) → J77 (1 : Int32)) ∧ (¬ ((jld (oY_43 9) (c3_43 ||| (jshl (1 : Int32) v4_43))) = 0) → J76)))))))
def wpX10_turns_L24 (K136 : Int32 → Ob → Prop) : Nat → Int32 → Int32 → Ob → Prop
  | 0, _, _, _ => False
  | fu24 + 1, v2_24, v3_24, oY_24 => ((v3_24 < 0) → K136 v2_24 oY_24) ∧ (¬ (v3_24 < 0) → (vp_in v3_24 1024) ∧ (∃ fu43 : Nat, wpX10_turns_L43 v3_24 (fun (v2_130 : Int32) (oY_130 : Ob) => wpX10_turns_L24 K136 fu24 v2_130 (v3_24 + (-1 : Int32)) oY_130) fu43 v2_24 ((oY_24 0 0) - (1 : Int32)) (pa oY_24 9 (nC v3_24) (jb (0 : Int32)))))
def wpX10_turns (oY : Ob) (v1 : Int32) (post : Int32 → Ob → Prop) : Prop := wpX10_in v1 (0 : Int32) (1 : Int32) (fun (r3 : Int32) => ((r3 = 0) → post (-2 : Int32) oY) ∧ (¬ (r3 = 0) → ∃ fu24 : Nat, wpX10_turns_L24 (fun (v2_136 : Int32) (oY_136 : Ob) => ((v1 = (1 : Int32)) → post v2_136 oY_136) ∧ (¬ (v1 = (1 : Int32)) → (vp_in (oY_136 0 6) 1024) ∧ ((((jld (oY_136 9) (oY_136 0 6)) = 0) → post (1 : Int32) oY_136) ∧ (¬ ((jld (oY_136 9) (oY_136 0 6)) = 0) → post (0 : Int32) oY_136)))) fu24 (-6 : Int32) ((jshl (1 : Int32) (oY 0 0)) - (1 : Int32)) oY))
theorem pdX10_turns : yX10_turns.cls = RX10 ∧ yX10_turns.cls ≠ "java/lang/invoke/MethodHandle" ∧ yX10_turns.cls ≠ "java/lang/invoke/VarHandle" ∧ (parseMethodDescriptor yX10_turns.desc).map (fun d => d.parameters.length) = some 1 := by decide +kernel
theorem lkX10_turns_7 : Cond.fieldLink RX10 7 (TX10 0).1 (TX10 0).2.1 (TX10 0).2.2.1 ∈ wsX10_turns := by decide +kernel
theorem inX10_turns_X10 : ∀ w ∈ u_ws RX10 TX10 25, w ∈ wsX10_turns := by decide +kernel
theorem lkX10_turns_47 : Cond.fieldLink RX10 47 (TX10 22).1 (TX10 22).2.1 (TX10 22).2.2.1 ∈ wsX10_turns := by decide +kernel
theorem lkX10_turns_63 : Cond.fieldLink RX10 63 (TX10 6).1 (TX10 6).2.1 (TX10 6).2.2.1 ∈ wsX10_turns := by decide +kernel
set_option maxHeartbeats 4000000 in
set_option maxRecDepth 100000 in
theorem ctX10_turns (l : Launch) (D : va_G) (cI cZ : ClassId) (qY : Nat → Nat) (oY : Ob) (v1 : Int32) (post : Int32 → Ob → Prop) (h : wpX10_turns oY v1 post) : CTi l yX10_turns wsX10_turns { frames := 4, cells := 0, slots := 0, locals := 97 } D [(cI, .int), (cZ, .boolean)] [.ref (qY 0), .int v1] (w10 cI cZ qY oY) (fun u : Ob => w10 cI cZ qY u) (fun (r : Int32) (u : Ob) => post r u) := by
  refine CTi.of (cc := cX10_turns) (own := RX10) (maxL := 6) (ret := (some .int)) (lv0 := [(0, .ref (qY 0)), (1, .int v1)]) (by decide) rfl rfl (Nat.le_of_ble_eq_true rfl) rfl ?_
  intro p e s m args below meth c A C
  unfold wpX10_turns at h
  refine SW.iload_n C dX10_turns_0 rfl 1 rfl ?_
  refine SW.iconst (v := (0 : Int32)) C dX10_turns_1 (by decide) ?_
  refine SW.iconst (v := (1 : Int32)) C dX10_turns_2 (by decide) ?_
  refine SW.callSi_pure C (ctX10_in l D cI cZ v1 (0 : Int32) (1 : Int32) _ h) gX10_turns_X10_in rfl rfl rfl pdX10_in ⟨by decide, by decide⟩ rfl rfl (Nat.le_of_ble_eq_true rfl) dX10_turns_3 (by decide) (fun r3 u h => ?_)
  try dsimp only at h
  refine SW.if_ne (tgt := 12) C dX10_turns_6 (by decide) (fun hc => ?_) (fun hc => ?_)
  · replace h := h.2 hc
    refine SW.bipush (v := (-6 : Int32)) C dX10_turns_12 (by decide) ?_
    refine SW.istore_n (lv' := [(2, .int (-6 : Int32)), (0, .ref (qY 0)), (1, .int v1)]) C dX10_turns_14 rfl (by decide) rfl ?_
    refine SW.iconst (v := (1 : Int32)) C dX10_turns_15 (by decide) ?_
    refine SW.aload_n C dX10_turns_16 rfl 1 rfl ?_
    refine SW.get (v := .int (oY 0 0)) (T := TX10) (N := 25) C inX10_turns_X10 0 rfl rfl 0 (by decide) lkX10_turns_7 rfl dX10_turns_17 ?_
    refine SW.ishl C dX10_turns_20 ?_
    refine SW.iconst (v := (1 : Int32)) C dX10_turns_21 (by decide) ?_
    refine SW.isub C dX10_turns_22 ?_
    refine SW.istore_n (lv' := [(3, .int ((jshl (1 : Int32) (oY 0 0)) - (1 : Int32))), (2, .int (-6 : Int32)), (0, .ref (qY 0)), (1, .int v1)]) C dX10_turns_23 rfl (by decide) rfl ?_
    have L24 : ∀ (K136 : Int32 → Ob → Prop) (hK136 : ∀ (v2_136 : Int32) (oY_136 : Ob), K136 v2_136 oY_136 → SW p l e { frames := 4, cells := 0, slots := 0, locals := 97 } s m args below meth c A D 6 0 0 (MQ below (va_Qi (fun (r : Int32) (u : Ob) => post r u) (ctB D A (fun u : Ob => w10 cI cZ qY u)) A) args s 0 0 A) (w10 cI cZ qY oY_136) 136 [(0, .ref (qY 0)), (1, .int v1), (2, .int v2_136)] []) (fu : Nat) (v2_24 : Int32) (v3_24 : Int32) (oY_24 : Ob), wpX10_turns_L24 K136 fu v2_24 v3_24 oY_24 → SW p l e { frames := 4, cells := 0, slots := 0, locals := 97 } s m args below meth c A D 6 0 0 (MQ below (va_Qi (fun (r : Int32) (u : Ob) => post r u) (ctB D A (fun u : Ob => w10 cI cZ qY u)) A) args s 0 0 A) (w10 cI cZ qY oY_24) 24 [(0, .ref (qY 0)), (1, .int v1), (2, .int v2_24), (3, .int v3_24)] [] := by
      intro K136 hK136 fu
      induction fu with
      | zero =>
        intro v2_24 v3_24 oY_24 h
        exact False.elim h
      | succ fu ih =>
        intro v2_24 v3_24 oY_24 h
        unfold wpX10_turns_L24 at h
        refine SW.iload_n C dX10_turns_24 rfl 3 rfl ?_
        refine SW.if_lt (tgt := 136) C dX10_turns_25 (by decide) (fun hc => ?_) (fun hc => ?_)
        · replace h := h.1 hc
          refine SW.sub [0, 1, 2] rfl ?_
          exact hK136 _ _ h
        · replace h := h.2 hc
          refine SW.aload_n C dX10_turns_28 rfl 0 rfl ?_
          refine SW.get (v := .ref (qY 9)) (T := TX10) (N := 25) C inX10_turns_X10 0 rfl rfl 22 (by decide) lkX10_turns_47 rfl dX10_turns_29 ?_
          refine SW.iload_n C dX10_turns_32 rfl 3 rfl ?_
          refine SW.iconst (v := (0 : Int32)) C dX10_turns_33 (by decide) ?_
          refine SW.zast (ws' := w10 cI cZ qY (pa oY_24 9 (nC v3_24) (jb (0 : Int32)))) C 9 1 rfl rfl h.1 rfl dX10_turns_34 ?_
          replace h := h.2
          refine SW.aload_n C dX10_turns_35 rfl 0 rfl ?_
          refine SW.get (v := .int (oY_24 0 0)) (T := TX10) (N := 25) C inX10_turns_X10 0 rfl rfl 0 (by decide) lkX10_turns_7 rfl dX10_turns_36 ?_
          refine SW.iconst (v := (1 : Int32)) C dX10_turns_39 (by decide) ?_
          refine SW.isub C dX10_turns_40 ?_
          refine SW.istore (lv' := [(4, .int ((oY_24 0 0) - (1 : Int32))), (0, .ref (qY 0)), (1, .int v1), (2, .int v2_24), (3, .int v3_24)]) C dX10_turns_41 (by decide) rfl ?_
          have L43 : ∀ (K130 : Int32 → Ob → Prop) (hK130 : ∀ (v2_130 : Int32) (oY_130 : Ob), K130 v2_130 oY_130 → SW p l e { frames := 4, cells := 0, slots := 0, locals := 97 } s m args below meth c A D 6 0 0 (MQ below (va_Qi (fun (r : Int32) (u : Ob) => post r u) (ctB D A (fun u : Ob => w10 cI cZ qY u)) A) args s 0 0 A) (w10 cI cZ qY oY_130) 130 [(0, .ref (qY 0)), (1, .int v1), (2, .int v2_130), (3, .int v3_24)] []) (fu : Nat) (v2_43 : Int32) (v4_43 : Int32) (oY_43 : Ob), wpX10_turns_L43 v3_24 K130 fu v2_43 v4_43 oY_43 → SW p l e { frames := 4, cells := 0, slots := 0, locals := 97 } s m args below meth c A D 6 0 0 (MQ below (va_Qi (fun (r : Int32) (u : Ob) => post r u) (ctB D A (fun u : Ob => w10 cI cZ qY u)) A) args s 0 0 A) (w10 cI cZ qY oY_43) 43 [(0, .ref (qY 0)), (1, .int v1), (2, .int v2_43), (3, .int v3_24), (4, .int v4_43)] [] := by
            intro K130 hK130 fu
            induction fu with
            | zero =>
              intro v2_43 v4_43 oY_43 h
              exact False.elim h
            | succ fu ih =>
              intro v2_43 v4_43 oY_43 h
              unfold wpX10_turns_L43 at h
              refine SW.iload C dX10_turns_43 4 rfl ?_
              refine SW.if_lt (tgt := 130) C dX10_turns_45 (by decide) (fun hc => ?_) (fun hc => ?_)
              · replace h := h.1 hc
                refine SW.sub [0, 1, 2, 3] rfl ?_
                exact hK130 _ _ h
              · replace h := h.2 hc
                refine SW.aload_n C dX10_turns_48 rfl 0 rfl ?_
                refine SW.iload_n C dX10_turns_49 rfl 3 rfl ?_
                refine SW.iload C dX10_turns_50 4 rfl ?_
                refine SW.callVi_same C (ctX10_canPut l D cI cZ qY oY_43 v3_24 v4_43 _ h) gX10_turns_X10_canPut rfl rfl rfl pdX10_canPut ⟨by decide, by decide⟩ 0 rfl rfl rfl rfl rfl (Nat.le_of_ble_eq_true rfl) dX10_turns_52 (by decide) (fun r52 u h => ?_)
                try dsimp only at h
                refine jn1_elim (G := fun p0_77 => SW p l e { frames := 4, cells := 0, slots := 0, locals := 97 } s m args below meth c A D 6 0 0 (MQ below (va_Qi (fun (r : Int32) (u : Ob) => post r u) (ctB D A (fun u : Ob => w10 cI cZ qY u)) A) args s 0 0 A) (w10 cI cZ qY oY_43) 77 [(0, .ref (qY 0)), (1, .int v1), (2, .int v2_43), (3, .int v3_24), (4, .int v4_43)] [.int p0_77]) h (fun p0_77 h => ?_) (fun J77 hJ77 h => ?_)
                · refine SW.istore (lv' := [(5, .int p0_77), (0, .ref (qY 0)), (1, .int v1), (2, .int v2_43), (3, .int v3_24), (4, .int v4_43)]) C dX10_turns_77 (by decide) rfl ?_
                  refine SW.aload_n C dX10_turns_79 rfl 1 rfl ?_
                  refine SW.get (v := .ref (qY 9)) (T := TX10) (N := 25) C inX10_turns_X10 0 rfl rfl 22 (by decide) lkX10_turns_47 rfl dX10_turns_80 ?_
                  refine SW.iload_n C dX10_turns_83 rfl 4 rfl ?_
                  refine SW.aload_n C dX10_turns_84 rfl 1 rfl ?_
                  refine SW.get (v := .ref (qY 9)) (T := TX10) (N := 25) C inX10_turns_X10 0 rfl rfl 22 (by decide) lkX10_turns_47 rfl dX10_turns_85 ?_
                  refine SW.iload_n C dX10_turns_88 rfl 4 rfl ?_
                  refine SW.zald C 9 1 rfl rfl h.1 dX10_turns_89 ?_
                  replace h := h.2
                  refine jn2_elim (G := fun p0_103 p1_103 => SW p l e { frames := 4, cells := 0, slots := 0, locals := 97 } s m args below meth c A D 6 0 0 (MQ below (va_Qi (fun (r : Int32) (u : Ob) => post r u) (ctB D A (fun u : Ob => w10 cI cZ qY u)) A) args s 0 0 A) (w10 cI cZ qY oY_43) 103 [(0, .ref (qY 0)), (1, .int v1), (2, .int v2_43), (3, .int v3_24), (4, .int v4_43), (5, .int p0_77)] [.int p0_103, .int p1_103, .ref (qY 9)]) h (fun p0_103 p1_103 h => ?_) (fun J103 hJ103 h => ?_)
                  · refine SW.zast (ws' := w10 cI cZ qY (pa oY_43 9 (nC p1_103) (jb p0_103))) C 9 1 rfl rfl h.1 rfl dX10_turns_103 ?_
                    replace h := h.2
                    refine SW.iload C dX10_turns_104 5 rfl ?_
                    refine jn1_elim (G := fun p0_123 => SW p l e { frames := 4, cells := 0, slots := 0, locals := 97 } s m args below meth c A D 6 0 0 (MQ below (va_Qi (fun (r : Int32) (u : Ob) => post r u) (ctB D A (fun u : Ob => w10 cI cZ qY u)) A) args s 0 0 A) (w10 cI cZ qY (pa oY_43 9 (nC p1_103) (jb p0_103))) 123 [(0, .ref (qY 0)), (1, .int v1), (3, .int v3_24), (4, .int v4_43)] [.int p0_123]) h (fun p0_123 h => ?_) (fun J123 hJ123 h => ?_)
                    · refine SW.istore_n (lv' := [(2, .int p0_123), (0, .ref (qY 0)), (1, .int v1), (3, .int v3_24), (4, .int v4_43)]) C dX10_turns_123 rfl (by decide) rfl ?_
                      refine SW.iinc (q := 4) (v := (v4_43 + (-1 : Int32))) (lv' := [(4, .int (v4_43 + (-1 : Int32))), (2, .int p0_123), (0, .ref (qY 0)), (1, .int v1), (3, .int v3_24)]) C dX10_turns_124 rfl rfl (by decide) rfl ?_
                      refine SW.goto (tgt := 43) C dX10_turns_127 (by decide) ?_
                      refine SW.sub [2, 3, 1, 4, 0] rfl ?_
                      exact ih _ _ _ h
                    · refine jn0_elim (G := SW p l e { frames := 4, cells := 0, slots := 0, locals := 97 } s m args below meth c A D 6 0 0 (MQ below (va_Qi (fun (r : Int32) (u : Ob) => post r u) (ctB D A (fun u : Ob => w10 cI cZ qY u)) A) args s 0 0 A) (w10 cI cZ qY (pa oY_43 9 (nC p1_103) (jb p0_103))) 122 [(0, .ref (qY 0)), (1, .int v1), (2, .int v2_43), (3, .int v3_24), (4, .int v4_43)] []) h (fun h => ?_) (fun J122 hJ122 h => ?_)
                      · refine SW.iload_n C dX10_turns_122 rfl 2 rfl ?_
                        refine SW.sub [0, 1, 3, 4] rfl ?_
                        exact hJ123 _ h
                      · refine SW.if_eq (tgt := 122) C dX10_turns_106 (by decide) (fun hc => ?_) (fun hc => ?_)
                        · replace h := h.1 hc
                          refine SW.sub [0, 1, 2, 3, 4] rfl ?_
                          exact hJ122 h
                        · replace h := h.2 hc
                          refine SW.iload_n C dX10_turns_109 rfl 3 rfl ?_
                          refine SW.aload_n C dX10_turns_110 rfl 0 rfl ?_
                          refine SW.get (v := .int (oY_43 0 6)) (T := TX10) (N := 25) C inX10_turns_X10 0 rfl rfl 6 (by decide) lkX10_turns_63 rfl dX10_turns_111 ?_
                          refine SW.icmp_ne (tgt := 122) C dX10_turns_114 (by decide) (fun hc => ?_) (fun hc => ?_)
                          · replace h := h.2 hc
                            refine SW.sub [0, 1, 2, 3, 4] rfl ?_
                            exact hJ122 h
                          · replace h := h.1 hc
                            refine SW.iload C dX10_turns_117 4 rfl ?_
                            refine SW.goto (tgt := 123) C dX10_turns_119 (by decide) ?_
                            refine SW.sub [0, 1, 3, 4] rfl ?_
                            exact hJ123 _ h
                  · refine jn1_elim (G := fun p0_98 => SW p l e { frames := 4, cells := 0, slots := 0, locals := 97 } s m args below meth c A D 6 0 0 (MQ below (va_Qi (fun (r : Int32) (u : Ob) => post r u) (ctB D A (fun u : Ob => w10 cI cZ qY u)) A) args s 0 0 A) (w10 cI cZ qY oY_43) 98 [(0, .ref (qY 0)), (1, .int v1), (2, .int v2_43), (3, .int v3_24), (4, .int v4_43), (5, .int p0_77)] [.int p0_98, .ref (qY 9)]) h (fun p0_98 h => ?_) (fun J98 hJ98 h => ?_)
                    · refine SW.iconst (v := (1 : Int32)) C dX10_turns_98 (by decide) ?_
                      refine SW.goto (tgt := 103) C dX10_turns_99 (by decide) ?_
                      exact hJ103 _ _ h
                    · refine SW.if_ne (tgt := 98) C dX10_turns_90 (by decide) (fun hc => ?_) (fun hc => ?_)
                      · replace h := h.2 hc
                        refine SW.sub [1, 2, 3, 4, 5, 0] rfl ?_
                        exact hJ98 _ h
                      · replace h := h.1 hc
                        refine SW.iload C dX10_turns_93 0 rfl ?_
                        refine SW.if_eq (tgt := 102) C dX10_turns_95 (by decide) (fun hc => ?_) (fun hc => ?_)
                        · replace h := h.1 hc
                          refine SW.iconst (v := (0 : Int32)) C dX10_turns_102 (by decide) ?_
                          refine SW.sub [1, 2, 3, 4, 5, 0] rfl ?_
                          exact hJ103 _ _ h
                        · replace h := h.2 hc
                          refine SW.sub [1, 2, 3, 4, 5, 0] rfl ?_
                          exact hJ98 _ h
                · refine jn0_elim (G := SW p l e { frames := 4, cells := 0, slots := 0, locals := 97 } s m args below meth c A D 6 0 0 (MQ below (va_Qi (fun (r : Int32) (u : Ob) => post r u) (ctB D A (fun u : Ob => w10 cI cZ qY u)) A) args s 0 0 A) (w10 cI cZ qY oY_43) 76 [(0, .ref (qY 0)), (1, .int v1), (2, .int v2_43), (3, .int v3_24), (4, .int v4_43)] []) h (fun h => ?_) (fun J76 hJ76 h => ?_)
                  · refine SW.iconst (v := (0 : Int32)) C dX10_turns_76 (by decide) ?_
                    exact hJ77 _ h
                  · refine SW.if_eq (tgt := 76) C dX10_turns_55 (by decide) (fun hc => ?_) (fun hc => ?_)
                    · replace h := h.1 hc
                      exact hJ76 h
                    · replace h := h.2 hc
                      refine SW.aload_n C dX10_turns_58 rfl 0 rfl ?_
                      refine SW.get (v := .ref (qY 9)) (T := TX10) (N := 25) C inX10_turns_X10 0 rfl rfl 22 (by decide) lkX10_turns_47 rfl dX10_turns_59 ?_
                      refine SW.iload_n C dX10_turns_62 rfl 3 rfl ?_
                      refine SW.iconst (v := (1 : Int32)) C dX10_turns_63 (by decide) ?_
                      refine SW.iload C dX10_turns_64 4 rfl ?_
                      refine SW.ishl C dX10_turns_66 ?_
                      refine SW.ior C dX10_turns_67 ?_
                      refine SW.zald C 9 1 rfl rfl h.1 dX10_turns_68 ?_
                      replace h := h.2
                      refine SW.if_ne (tgt := 76) C dX10_turns_69 (by decide) (fun hc => ?_) (fun hc => ?_)
                      · replace h := h.2 hc
                        exact hJ76 h
                      · replace h := h.1 hc
                        refine SW.iconst (v := (1 : Int32)) C dX10_turns_72 (by decide) ?_
                        refine SW.goto (tgt := 77) C dX10_turns_73 (by decide) ?_
                        exact hJ77 _ h
          obtain ⟨fu, h⟩ := h
          refine SW.sub [1, 2, 3, 4, 0] rfl ?_
          refine L43 _ (fun v2_130 oY_130 h => ?_) fu _ _ _ h
          · refine SW.iinc (q := 3) (v := (v3_24 + (-1 : Int32))) (lv' := [(3, .int (v3_24 + (-1 : Int32))), (0, .ref (qY 0)), (1, .int v1), (2, .int v2_130)]) C dX10_turns_130 rfl rfl (by decide) rfl ?_
            refine SW.goto (tgt := 24) C dX10_turns_133 (by decide) ?_
            refine SW.sub [1, 2, 3, 0] rfl ?_
            exact ih _ _ _ h
    obtain ⟨fu, h⟩ := h
    refine SW.sub [2, 3, 1, 0] rfl ?_
    refine L24 _ (fun v2_136 oY_136 h => ?_) fu _ _ _ h
    · refine SW.iload_n C dX10_turns_136 rfl 1 rfl ?_
      refine SW.iconst (v := (1 : Int32)) C dX10_turns_137 (by decide) ?_
      refine SW.icmp_ne (tgt := 145) C dX10_turns_138 (by decide) (fun hc => ?_) (fun hc => ?_)
      · replace h := h.2 hc
        refine SW.aload_n C dX10_turns_145 rfl 0 rfl ?_
        refine SW.get (v := .ref (qY 9)) (T := TX10) (N := 25) C inX10_turns_X10 0 rfl rfl 22 (by decide) lkX10_turns_47 rfl dX10_turns_146 ?_
        refine SW.aload_n C dX10_turns_149 rfl 0 rfl ?_
        refine SW.get (v := .int (oY_136 0 6)) (T := TX10) (N := 25) C inX10_turns_X10 0 rfl rfl 6 (by decide) lkX10_turns_63 rfl dX10_turns_150 ?_
        refine SW.zald C 9 1 rfl rfl h.1 dX10_turns_153 ?_
        replace h := h.2
        refine SW.if_eq (tgt := 161) C dX10_turns_154 (by decide) (fun hc => ?_) (fun hc => ?_)
        · replace h := h.1 hc
          refine SW.iconst (v := (1 : Int32)) C dX10_turns_161 (by decide) ?_
          exact SW.iret C oY_136 rfl h dX10_turns_162
        · replace h := h.2 hc
          refine SW.iconst (v := (0 : Int32)) C dX10_turns_157 (by decide) ?_
          refine SW.goto (tgt := 162) C dX10_turns_158 (by decide) ?_
          exact SW.iret C oY_136 rfl h dX10_turns_162
      · replace h := h.1 hc
        refine SW.iload_n C dX10_turns_141 rfl 2 rfl ?_
        refine SW.goto (tgt := 162) C dX10_turns_142 (by decide) ?_
        exact SW.iret C oY_136 rfl h dX10_turns_162
  · replace h := h.1 hc
    refine SW.bipush (v := (-2 : Int32)) C dX10_turns_9 (by decide) ?_
    exact SW.iret C oY rfl h dX10_turns_11
def wpX10_likely_L35 (c3_35 : Int32) (c6_35 : Int32) (oYc_35 : Ob) (K91 : Int64 → Prop) : Nat → Int64 → Int32 → Prop
  | 0, _, _ => False
  | fu35 + 1, v7_35, v9_35 => (((oYc_35 0 0) ≤ v9_35) → K91 v7_35) ∧ (¬ ((oYc_35 0 0) ≤ v9_35) → wpX10_has (oYc_35 0 6) v9_35 (fun (r52 : Int32) => jn2 (fun (p0_82 : Int64) (p1_82 : Int64) => wpX10_likely_L35 c3_35 c6_35 oYc_35 K91 fu35 (p1_82 * p0_82) (v9_35 + (1 : Int32))) (fun J82 => ((r52 = 0) → J82 (1 : Int64) v7_35) ∧ (¬ (r52 = 0) → wpX10_has c6_35 v9_35 (fun (r66 : Int32) => ((r66 = 0) → J82 (Int32.toInt64 c3_35) v7_35) ∧ (¬ (r66 = 0) → J82 (Int32.toInt64 ((10 : Int32) - c3_35)) v7_35))))))
def wpX10_likely_L6 (c1_6 : Int32) (c2_6 : Int32) (c3_6 : Int32) (oYc_6 : Ob) (K160 : Int64 → Prop) : Nat → Int64 → Int32 → Prop
  | 0, _, _ => False
  | fu6 + 1, v4_6, v6_6 => (((jshl (1 : Int32) (oYc_6 0 0)) ≤ v6_6) → K160 v4_6) ∧ (¬ ((jshl (1 : Int32) (oYc_6 0 0)) ≤ v6_6) → jn1 (fun (v4_154 : Int64) => wpX10_likely_L6 c1_6 c2_6 c3_6 oYc_6 K160 fu6 v4_154 (v6_6 + (1 : Int32))) (fun J154 => (((v6_6 &&& ((oYc_6 0 6) ^^^ (-1 : Int32))) = 0) → ∃ fu35 : Nat, wpX10_likely_L35 c3_6 v6_6 oYc_6 (fun (v7_91 : Int64) => jn1 (fun (p0_136 : Int32) => jn2 (fun (p0_151 : Int64) (p1_151 : Int64) => J154 (p1_151 + p0_151)) (fun J151 => ((p0_136 = 0) → J151 (0 : Int64) v4_6) ∧ (¬ (p0_136 = 0) → J151 v7_91 v4_6))) (fun J136 => ((0 ≤ c1_6) → wpX10_lengthOf oYc_6 c1_6 v6_6 (oYc_6 0 5) (fun (r124 : Int32) => ((r124 = c2_6) → J136 (1 : Int32)) ∧ (¬ (r124 = c2_6) → J136 (0 : Int32)))) ∧ (¬ (0 ≤ c1_6) → wpX10_clashes oYc_6 v6_6 (oYc_6 0 5) (fun (r102 : Int32) => ((r102 = 0) → J136 (1 : Int32)) ∧ (¬ (r102 = 0) → J136 (0 : Int32)))))) fu35 (1 : Int64) (0 : Int32)) ∧ (¬ ((v6_6 &&& ((oYc_6 0 6) ^^^ (-1 : Int32))) = 0) → J154 v4_6)))
def wpX10_likely (oY : Ob) (v1 : Int32) (v2 : Int32) (v3 : Int32) (post : Int64 → Prop) : Prop := ∃ fu6 : Nat, wpX10_likely_L6 v1 v2 v3 oY (fun (v4_160 : Int64) => post v4_160) fu6 (0 : Int64) (0 : Int32)
theorem pdX10_likely : yX10_likely.cls = RX10 ∧ yX10_likely.cls ≠ "java/lang/invoke/MethodHandle" ∧ yX10_likely.cls ≠ "java/lang/invoke/VarHandle" ∧ (parseMethodDescriptor yX10_likely.desc).map (fun d => d.parameters.length) = some 3 := by decide +kernel
theorem lkX10_likely_7 : Cond.fieldLink RX10 7 (TX10 0).1 (TX10 0).2.1 (TX10 0).2.2.1 ∈ wsX10_likely := by decide +kernel
theorem inX10_likely_X10 : ∀ w ∈ u_ws RX10 TX10 25, w ∈ wsX10_likely := by decide +kernel
theorem lkX10_likely_63 : Cond.fieldLink RX10 63 (TX10 6).1 (TX10 6).2.1 (TX10 6).2.2.1 ∈ wsX10_likely := by decide +kernel
theorem lkX10_likely_60 : Cond.fieldLink RX10 60 (TX10 5).1 (TX10 5).2.1 (TX10 5).2.2.1 ∈ wsX10_likely := by decide +kernel
set_option maxHeartbeats 4000000 in
set_option maxRecDepth 100000 in
theorem ctX10_likely (l : Launch) (D : va_G) (cI cZ : ClassId) (qY : Nat → Nat) (oY : Ob) (v1 : Int32) (v2 : Int32) (v3 : Int32) (post : Int64 → Prop) (h : wpX10_likely oY v1 v2 v3 post) : CTl l yX10_likely wsX10_likely { frames := 3, cells := 0, slots := 0, locals := 74 } D [(cI, .int), (cZ, .boolean)] [.ref (qY 0), .int v1, .int v2, .int v3] (w10 cI cZ qY oY) (fun _ : Unit => w10 cI cZ qY oY) (fun (r : Int64) (_ : Unit) => post r) := by
  refine CTl.of (cc := cX10_likely) (own := RX10) (maxL := 10) (ret := (some .long)) (lv0 := [(0, .ref (qY 0)), (1, .int v1), (2, .int v2), (3, .int v3)]) (by decide) rfl rfl (Nat.le_of_ble_eq_true rfl) rfl ?_
  intro p e s m args below meth c A C
  unfold wpX10_likely at h
  refine SW.lconst (v := (0 : Int64)) C dX10_likely_0 (by decide) ?_
  refine SW.lstore (lv' := [(4, .long (0 : Int64)), (0, .ref (qY 0)), (1, .int v1), (2, .int v2), (3, .int v3)]) C dX10_likely_1 (by decide) rfl ?_
  refine SW.iconst (v := (0 : Int32)) C dX10_likely_3 (by decide) ?_
  refine SW.istore (lv' := [(6, .int (0 : Int32)), (4, .long (0 : Int64)), (0, .ref (qY 0)), (1, .int v1), (2, .int v2), (3, .int v3)]) C dX10_likely_4 (by decide) rfl ?_
  have L6 : ∀ (K160 : Int64 → Prop) (hK160 : ∀ (v4_160 : Int64), K160 v4_160 → SW p l e { frames := 3, cells := 0, slots := 0, locals := 74 } s m args below meth c A D 10 0 0 (MQ below (va_Ql (fun (r : Int64) (_ : Unit) => post r) (ctB D A (fun _ : Unit => w10 cI cZ qY oY)) A) args s 0 0 A) (w10 cI cZ qY oY) 160 [(4, .long v4_160)] []) (fu : Nat) (v4_6 : Int64) (v6_6 : Int32), wpX10_likely_L6 v1 v2 v3 oY K160 fu v4_6 v6_6 → SW p l e { frames := 3, cells := 0, slots := 0, locals := 74 } s m args below meth c A D 10 0 0 (MQ below (va_Ql (fun (r : Int64) (_ : Unit) => post r) (ctB D A (fun _ : Unit => w10 cI cZ qY oY)) A) args s 0 0 A) (w10 cI cZ qY oY) 6 [(0, .ref (qY 0)), (1, .int v1), (2, .int v2), (3, .int v3), (4, .long v4_6), (6, .int v6_6)] [] := by
    intro K160 hK160 fu
    induction fu with
    | zero =>
      intro v4_6 v6_6 h
      exact False.elim h
    | succ fu ih =>
      intro v4_6 v6_6 h
      unfold wpX10_likely_L6 at h
      refine SW.iload C dX10_likely_6 5 rfl ?_
      refine SW.iconst (v := (1 : Int32)) C dX10_likely_8 (by decide) ?_
      refine SW.aload_n C dX10_likely_9 rfl 0 rfl ?_
      refine SW.get (v := .int (oY 0 0)) (T := TX10) (N := 25) C inX10_likely_X10 0 rfl rfl 0 (by decide) lkX10_likely_7 rfl dX10_likely_10 ?_
      refine SW.ishl C dX10_likely_13 ?_
      refine SW.icmp_ge (tgt := 160) C dX10_likely_14 (by decide) (fun hc => ?_) (fun hc => ?_)
      · replace h := h.1 hc
        refine SW.sub [4] rfl ?_
        exact hK160 _ h
      · replace h := h.2 hc
        refine SW.iload C dX10_likely_17 5 rfl ?_
        refine SW.aload_n C dX10_likely_19 rfl 0 rfl ?_
        refine SW.get (v := .int (oY 0 6)) (T := TX10) (N := 25) C inX10_likely_X10 0 rfl rfl 6 (by decide) lkX10_likely_63 rfl dX10_likely_20 ?_
        refine SW.iconst (v := (-1 : Int32)) C dX10_likely_23 (by decide) ?_
        refine SW.ixor C dX10_likely_24 ?_
        refine SW.iand C dX10_likely_25 ?_
        refine jn1_elim (G := fun v4_154 => SW p l e { frames := 3, cells := 0, slots := 0, locals := 74 } s m args below meth c A D 10 0 0 (MQ below (va_Ql (fun (r : Int64) (_ : Unit) => post r) (ctB D A (fun _ : Unit => w10 cI cZ qY oY)) A) args s 0 0 A) (w10 cI cZ qY oY) 154 [(0, .ref (qY 0)), (1, .int v1), (2, .int v2), (3, .int v3), (4, .long v4_154), (6, .int v6_6)] []) h (fun v4_154 h => ?_) (fun J154 hJ154 h => ?_)
        · refine SW.iinc (q := 5) (v := (v6_6 + (1 : Int32))) (lv' := [(6, .int (v6_6 + (1 : Int32))), (0, .ref (qY 0)), (1, .int v1), (2, .int v2), (3, .int v3), (4, .long v4_154)]) C dX10_likely_154 rfl rfl (by decide) rfl ?_
          refine SW.goto (tgt := 6) C dX10_likely_157 (by decide) ?_
          refine SW.sub [1, 2, 3, 4, 5, 0] rfl ?_
          exact ih _ _ h
        · refine SW.if_ne (tgt := 154) C dX10_likely_26 (by decide) (fun hc => ?_) (fun hc => ?_)
          · replace h := h.2 hc
            exact hJ154 _ h
          · replace h := h.1 hc
            refine SW.lconst (v := (1 : Int64)) C dX10_likely_29 (by decide) ?_
            refine SW.lstore (lv' := [(7, .long (1 : Int64)), (0, .ref (qY 0)), (1, .int v1), (2, .int v2), (3, .int v3), (4, .long v4_6), (6, .int v6_6)]) C dX10_likely_30 (by decide) rfl ?_
            refine SW.iconst (v := (0 : Int32)) C dX10_likely_32 (by decide) ?_
            refine SW.istore (lv' := [(9, .int (0 : Int32)), (7, .long (1 : Int64)), (0, .ref (qY 0)), (1, .int v1), (2, .int v2), (3, .int v3), (4, .long v4_6), (6, .int v6_6)]) C dX10_likely_33 (by decide) rfl ?_
            have L35 : ∀ (K91 : Int64 → Prop) (hK91 : ∀ (v7_91 : Int64), K91 v7_91 → SW p l e { frames := 3, cells := 0, slots := 0, locals := 74 } s m args below meth c A D 10 0 0 (MQ below (va_Ql (fun (r : Int64) (_ : Unit) => post r) (ctB D A (fun _ : Unit => w10 cI cZ qY oY)) A) args s 0 0 A) (w10 cI cZ qY oY) 91 [(0, .ref (qY 0)), (1, .int v1), (2, .int v2), (3, .int v3), (4, .long v4_6), (6, .int v6_6), (7, .long v7_91)] []) (fu : Nat) (v7_35 : Int64) (v9_35 : Int32), wpX10_likely_L35 v3 v6_6 oY K91 fu v7_35 v9_35 → SW p l e { frames := 3, cells := 0, slots := 0, locals := 74 } s m args below meth c A D 10 0 0 (MQ below (va_Ql (fun (r : Int64) (_ : Unit) => post r) (ctB D A (fun _ : Unit => w10 cI cZ qY oY)) A) args s 0 0 A) (w10 cI cZ qY oY) 35 [(0, .ref (qY 0)), (1, .int v1), (2, .int v2), (3, .int v3), (4, .long v4_6), (6, .int v6_6), (7, .long v7_35), (9, .int v9_35)] [] := by
              intro K91 hK91 fu
              induction fu with
              | zero =>
                intro v7_35 v9_35 h
                exact False.elim h
              | succ fu ih =>
                intro v7_35 v9_35 h
                unfold wpX10_likely_L35 at h
                refine SW.iload C dX10_likely_35 7 rfl ?_
                refine SW.aload_n C dX10_likely_37 rfl 0 rfl ?_
                refine SW.get (v := .int (oY 0 0)) (T := TX10) (N := 25) C inX10_likely_X10 0 rfl rfl 0 (by decide) lkX10_likely_7 rfl dX10_likely_38 ?_
                refine SW.icmp_ge (tgt := 91) C dX10_likely_41 (by decide) (fun hc => ?_) (fun hc => ?_)
                · replace h := h.1 hc
                  refine SW.sub [0, 1, 2, 3, 4, 5, 6] rfl ?_
                  exact hK91 _ h
                · replace h := h.2 hc
                  refine SW.lload C dX10_likely_44 6 rfl ?_
                  refine SW.aload_n C dX10_likely_46 rfl 0 rfl ?_
                  refine SW.get (v := .int (oY 0 6)) (T := TX10) (N := 25) C inX10_likely_X10 0 rfl rfl 6 (by decide) lkX10_likely_63 rfl dX10_likely_47 ?_
                  refine SW.iload C dX10_likely_50 7 rfl ?_
                  refine SW.callSi_pure C (ctX10_has l D cI cZ (oY 0 6) v9_35 _ h) gX10_likely_X10_has rfl rfl rfl pdX10_has ⟨by decide, by decide⟩ rfl rfl (Nat.le_of_ble_eq_true rfl) dX10_likely_52 (by decide) (fun r52 u h => ?_)
                  try dsimp only at h
                  refine jn2_elim (G := fun p0_82 p1_82 => SW p l e { frames := 3, cells := 0, slots := 0, locals := 74 } s m args below meth c A D 10 0 0 (MQ below (va_Ql (fun (r : Int64) (_ : Unit) => post r) (ctB D A (fun _ : Unit => w10 cI cZ qY oY)) A) args s 0 0 A) (w10 cI cZ qY oY) 82 [(0, .ref (qY 0)), (1, .int v1), (2, .int v2), (3, .int v3), (4, .long v4_6), (6, .int v6_6), (9, .int v9_35)] [.long p0_82, .long p1_82]) h (fun p0_82 p1_82 h => ?_) (fun J82 hJ82 h => ?_)
                  · refine SW.lmul C dX10_likely_82 ?_
                    refine SW.lstore (lv' := [(7, .long (p1_82 * p0_82)), (0, .ref (qY 0)), (1, .int v1), (2, .int v2), (3, .int v3), (4, .long v4_6), (6, .int v6_6), (9, .int v9_35)]) C dX10_likely_83 (by decide) rfl ?_
                    refine SW.iinc (q := 7) (v := (v9_35 + (1 : Int32))) (lv' := [(9, .int (v9_35 + (1 : Int32))), (7, .long (p1_82 * p0_82)), (0, .ref (qY 0)), (1, .int v1), (2, .int v2), (3, .int v3), (4, .long v4_6), (6, .int v6_6)]) C dX10_likely_85 rfl rfl (by decide) rfl ?_
                    refine SW.goto (tgt := 35) C dX10_likely_88 (by decide) ?_
                    refine SW.sub [2, 3, 4, 5, 6, 7, 1, 0] rfl ?_
                    exact ih _ _ h
                  · refine SW.if_ne (tgt := 62) C dX10_likely_55 (by decide) (fun hc => ?_) (fun hc => ?_)
                    · replace h := h.2 hc
                      refine SW.iload C dX10_likely_62 5 rfl ?_
                      refine SW.iload C dX10_likely_64 7 rfl ?_
                      refine SW.callSi_pure C (ctX10_has l D cI cZ v6_6 v9_35 _ h) gX10_likely_X10_has rfl rfl rfl pdX10_has ⟨by decide, by decide⟩ rfl rfl (Nat.le_of_ble_eq_true rfl) dX10_likely_66 (by decide) (fun r66 u h => ?_)
                      try dsimp only at h
                      refine SW.if_eq (tgt := 80) C dX10_likely_69 (by decide) (fun hc => ?_) (fun hc => ?_)
                      · replace h := h.1 hc
                        refine SW.iload_n C dX10_likely_80 rfl 3 rfl ?_
                        refine SW.i2l C dX10_likely_81 ?_
                        refine SW.sub [0, 1, 2, 3, 4, 5, 7] rfl ?_
                        exact hJ82 _ _ h
                      · replace h := h.2 hc
                        refine SW.bipush (v := (10 : Int32)) C dX10_likely_72 (by decide) ?_
                        refine SW.iload_n C dX10_likely_74 rfl 3 rfl ?_
                        refine SW.isub C dX10_likely_75 ?_
                        refine SW.i2l C dX10_likely_76 ?_
                        refine SW.goto (tgt := 82) C dX10_likely_77 (by decide) ?_
                        refine SW.sub [0, 1, 2, 3, 4, 5, 7] rfl ?_
                        exact hJ82 _ _ h
                    · replace h := h.1 hc
                      refine SW.lconst (v := (1 : Int64)) C dX10_likely_58 (by decide) ?_
                      refine SW.goto (tgt := 82) C dX10_likely_59 (by decide) ?_
                      refine SW.sub [0, 1, 2, 3, 4, 5, 7] rfl ?_
                      exact hJ82 _ _ h
            obtain ⟨fu, h⟩ := h
            refine SW.sub [2, 3, 4, 5, 6, 7, 1, 0] rfl ?_
            refine L35 _ (fun v7_91 h => ?_) fu _ _ h
            · refine SW.iload_n C dX10_likely_91 rfl 1 rfl ?_
              refine jn1_elim (G := fun p0_136 => SW p l e { frames := 3, cells := 0, slots := 0, locals := 74 } s m args below meth c A D 10 0 0 (MQ below (va_Ql (fun (r : Int64) (_ : Unit) => post r) (ctB D A (fun _ : Unit => w10 cI cZ qY oY)) A) args s 0 0 A) (w10 cI cZ qY oY) 136 [(0, .ref (qY 0)), (1, .int v1), (2, .int v2), (3, .int v3), (4, .long v4_6), (6, .int v6_6), (7, .long v7_91)] [.int p0_136]) h (fun p0_136 h => ?_) (fun J136 hJ136 h => ?_)
              · refine SW.istore (lv' := [(9, .int p0_136), (0, .ref (qY 0)), (1, .int v1), (2, .int v2), (3, .int v3), (4, .long v4_6), (6, .int v6_6), (7, .long v7_91)]) C dX10_likely_136 (by decide) rfl ?_
                refine SW.lload C dX10_likely_138 5 rfl ?_
                refine SW.iload C dX10_likely_140 0 rfl ?_
                refine jn2_elim (G := fun p0_151 p1_151 => SW p l e { frames := 3, cells := 0, slots := 0, locals := 74 } s m args below meth c A D 10 0 0 (MQ below (va_Ql (fun (r : Int64) (_ : Unit) => post r) (ctB D A (fun _ : Unit => w10 cI cZ qY oY)) A) args s 0 0 A) (w10 cI cZ qY oY) 151 [(0, .ref (qY 0)), (1, .int v1), (2, .int v2), (3, .int v3), (6, .int v6_6)] [.long p0_151, .long p1_151]) h (fun p0_151 p1_151 h => ?_) (fun J151 hJ151 h => ?_)
                · refine SW.ladd C dX10_likely_151 ?_
                  refine SW.lstore (lv' := [(4, .long (p1_151 + p0_151)), (0, .ref (qY 0)), (1, .int v1), (2, .int v2), (3, .int v3), (6, .int v6_6)]) C dX10_likely_152 (by decide) rfl ?_
                  refine SW.sub [1, 2, 3, 4, 0, 5] rfl ?_
                  exact hJ154 _ h
                · refine SW.if_eq (tgt := 150) C dX10_likely_142 (by decide) (fun hc => ?_) (fun hc => ?_)
                  · replace h := h.1 hc
                    refine SW.lconst (v := (0 : Int64)) C dX10_likely_150 (by decide) ?_
                    refine SW.sub [1, 2, 3, 4, 6] rfl ?_
                    exact hJ151 _ _ h
                  · replace h := h.2 hc
                    refine SW.lload C dX10_likely_145 7 rfl ?_
                    refine SW.goto (tgt := 151) C dX10_likely_147 (by decide) ?_
                    refine SW.sub [1, 2, 3, 4, 6] rfl ?_
                    exact hJ151 _ _ h
              · refine SW.if_ge (tgt := 116) C dX10_likely_92 (by decide) (fun hc => ?_) (fun hc => ?_)
                · replace h := h.1 hc
                  refine SW.aload_n C dX10_likely_116 rfl 0 rfl ?_
                  refine SW.iload_n C dX10_likely_117 rfl 1 rfl ?_
                  refine SW.iload C dX10_likely_118 5 rfl ?_
                  refine SW.aload_n C dX10_likely_120 rfl 0 rfl ?_
                  refine SW.get (v := .int (oY 0 5)) (T := TX10) (N := 25) C inX10_likely_X10 0 rfl rfl 5 (by decide) lkX10_likely_60 rfl dX10_likely_121 ?_
                  refine SW.callVi_same C (ctX10_lengthOf l D cI cZ qY oY v1 v6_6 (oY 0 5) _ h) gX10_likely_X10_lengthOf rfl rfl rfl pdX10_lengthOf ⟨by decide, by decide⟩ 0 rfl rfl rfl rfl rfl (Nat.le_of_ble_eq_true rfl) dX10_likely_124 (by decide) (fun r124 u h => ?_)
                  try dsimp only at h
                  refine SW.iload_n C dX10_likely_127 rfl 2 rfl ?_
                  refine SW.icmp_ne (tgt := 135) C dX10_likely_128 (by decide) (fun hc => ?_) (fun hc => ?_)
                  · replace h := h.2 hc
                    refine SW.iconst (v := (0 : Int32)) C dX10_likely_135 (by decide) ?_
                    exact hJ136 _ h
                  · replace h := h.1 hc
                    refine SW.iconst (v := (1 : Int32)) C dX10_likely_131 (by decide) ?_
                    refine SW.goto (tgt := 136) C dX10_likely_132 (by decide) ?_
                    exact hJ136 _ h
                · replace h := h.2 hc
                  refine SW.aload_n C dX10_likely_95 rfl 0 rfl ?_
                  refine SW.iload C dX10_likely_96 5 rfl ?_
                  refine SW.aload_n C dX10_likely_98 rfl 0 rfl ?_
                  refine SW.get (v := .int (oY 0 5)) (T := TX10) (N := 25) C inX10_likely_X10 0 rfl rfl 5 (by decide) lkX10_likely_60 rfl dX10_likely_99 ?_
                  refine SW.callVi_same C (ctX10_clashes l D cI cZ qY oY v6_6 (oY 0 5) _ h) gX10_likely_X10_clashes rfl rfl rfl pdX10_clashes ⟨by decide, by decide⟩ 0 rfl rfl rfl rfl rfl (Nat.le_of_ble_eq_true rfl) dX10_likely_102 (by decide) (fun r102 u h => ?_)
                  try dsimp only at h
                  refine SW.if_ne (tgt := 112) C dX10_likely_105 (by decide) (fun hc => ?_) (fun hc => ?_)
                  · replace h := h.2 hc
                    refine SW.iconst (v := (0 : Int32)) C dX10_likely_112 (by decide) ?_
                    refine SW.goto (tgt := 136) C dX10_likely_113 (by decide) ?_
                    exact hJ136 _ h
                  · replace h := h.1 hc
                    refine SW.iconst (v := (1 : Int32)) C dX10_likely_108 (by decide) ?_
                    refine SW.goto (tgt := 136) C dX10_likely_109 (by decide) ?_
                    exact hJ136 _ h
  obtain ⟨fu, h⟩ := h
  refine SW.sub [2, 3, 4, 5, 1, 0] rfl ?_
  refine L6 _ (fun v4_160 h => ?_) fu _ _ h
  · refine SW.lload C dX10_likely_160 0 rfl ?_
    exact SW.lret C () rfl h dX10_likely_162
def wpX10_part_L6 (oYc_6 : Ob) (K32 : Int64 → Prop) : Nat → Int64 → Int32 → Prop
  | 0, _, _ => False
  | fu6 + 1, v4_6, v6_6 => wpX10_bits (oYc_6 0 6) (fun (r12 : Int32) => ((r12 ≤ v6_6) → K32 v4_6) ∧ (¬ (r12 ≤ v6_6) → wpX10_part_L6 oYc_6 K32 fu6 (v4_6 * (10 : Int64)) (v6_6 + (1 : Int32))))
def wpX10_part_L39 (K64 : Int64 → Prop) : Nat → Int64 → Int64 → Prop
  | 0, _, _ => False
  | fu39 + 1, v6_39, v8_39 => (((lg_cmp v8_39 (0 : Int64)) = 0) → K64 v6_39) ∧ (¬ ((lg_cmp v8_39 (0 : Int64)) = 0) → (¬ v8_39 = 0) ∧ (wpX10_part_L39 K64 fu39 v8_39 (jremL v6_39 v8_39)))
def wpX10_part (oY : Ob) (v1 : Int64) (v3 : Int32) (post : Int64 → Prop) : Prop := ∃ fu6 : Nat, wpX10_part_L6 oY (fun (v4_32 : Int64) => ∃ fu39 : Nat, wpX10_part_L39 (fun (v6_64 : Int64) => ((v3 = 0) → (¬ v6_64 = 0) ∧ (post (v1 / v6_64))) ∧ (¬ (v3 = 0) → (¬ v6_64 = 0) ∧ (post (v4_32 / v6_64)))) fu39 v1 v4_32) fu6 (1 : Int64) (0 : Int32)
theorem pdX10_part : yX10_part.cls = RX10 ∧ yX10_part.cls ≠ "java/lang/invoke/MethodHandle" ∧ yX10_part.cls ≠ "java/lang/invoke/VarHandle" ∧ (parseMethodDescriptor yX10_part.desc).map (fun d => d.parameters.length) = some 2 := by decide +kernel
theorem lkX10_part_63 : Cond.fieldLink RX10 63 (TX10 6).1 (TX10 6).2.1 (TX10 6).2.2.1 ∈ wsX10_part := by decide +kernel
theorem inX10_part_X10 : ∀ w ∈ u_ws RX10 TX10 25, w ∈ wsX10_part := by decide +kernel
set_option maxHeartbeats 4000000 in
set_option maxRecDepth 100000 in
theorem ctX10_part (l : Launch) (D : va_G) (cI cZ : ClassId) (qY : Nat → Nat) (oY : Ob) (v1 : Int64) (v3 : Int32) (post : Int64 → Prop) (h : wpX10_part oY v1 v3 post) : CTl l yX10_part wsX10_part { frames := 1, cells := 0, slots := 0, locals := 22 } D [(cI, .int), (cZ, .boolean)] [.ref (qY 0), .long v1, .int v3] (w10 cI cZ qY oY) (fun _ : Unit => w10 cI cZ qY oY) (fun (r : Int64) (_ : Unit) => post r) := by
  refine CTl.of (cc := cX10_part) (own := RX10) (maxL := 12) (ret := (some .long)) (lv0 := [(0, .ref (qY 0)), (1, .long v1), (3, .int v3)]) (by decide) rfl rfl (Nat.le_of_ble_eq_true rfl) rfl ?_
  intro p e s m args below meth c A C
  unfold wpX10_part at h
  refine SW.lconst (v := (1 : Int64)) C dX10_part_0 (by decide) ?_
  refine SW.lstore (lv' := [(4, .long (1 : Int64)), (0, .ref (qY 0)), (1, .long v1), (3, .int v3)]) C dX10_part_1 (by decide) rfl ?_
  refine SW.iconst (v := (0 : Int32)) C dX10_part_3 (by decide) ?_
  refine SW.istore (lv' := [(6, .int (0 : Int32)), (4, .long (1 : Int64)), (0, .ref (qY 0)), (1, .long v1), (3, .int v3)]) C dX10_part_4 (by decide) rfl ?_
  have L6 : ∀ (K32 : Int64 → Prop) (hK32 : ∀ (v4_32 : Int64), K32 v4_32 → SW p l e { frames := 1, cells := 0, slots := 0, locals := 22 } s m args below meth c A D 12 0 0 (MQ below (va_Ql (fun (r : Int64) (_ : Unit) => post r) (ctB D A (fun _ : Unit => w10 cI cZ qY oY)) A) args s 0 0 A) (w10 cI cZ qY oY) 32 [(1, .long v1), (3, .int v3), (4, .long v4_32)] []) (fu : Nat) (v4_6 : Int64) (v6_6 : Int32), wpX10_part_L6 oY K32 fu v4_6 v6_6 → SW p l e { frames := 1, cells := 0, slots := 0, locals := 22 } s m args below meth c A D 12 0 0 (MQ below (va_Ql (fun (r : Int64) (_ : Unit) => post r) (ctB D A (fun _ : Unit => w10 cI cZ qY oY)) A) args s 0 0 A) (w10 cI cZ qY oY) 6 [(0, .ref (qY 0)), (1, .long v1), (3, .int v3), (4, .long v4_6), (6, .int v6_6)] [] := by
    intro K32 hK32 fu
    induction fu with
    | zero =>
      intro v4_6 v6_6 h
      exact False.elim h
    | succ fu ih =>
      intro v4_6 v6_6 h
      unfold wpX10_part_L6 at h
      refine SW.iload C dX10_part_6 4 rfl ?_
      refine SW.aload_n C dX10_part_8 rfl 0 rfl ?_
      refine SW.get (v := .int (oY 0 6)) (T := TX10) (N := 25) C inX10_part_X10 0 rfl rfl 6 (by decide) lkX10_part_63 rfl dX10_part_9 ?_
      refine SW.callSi_pure C (ctX10_bits l D cI cZ (oY 0 6) _ h) gX10_part_X10_bits rfl rfl rfl pdX10_bits ⟨by decide, by decide⟩ rfl rfl (Nat.le_of_ble_eq_true rfl) dX10_part_12 (by decide) (fun r12 u h => ?_)
      try dsimp only at h
      refine SW.icmp_ge (tgt := 32) C dX10_part_15 (by decide) (fun hc => ?_) (fun hc => ?_)
      · replace h := h.1 hc
        refine SW.sub [1, 2, 3] rfl ?_
        exact hK32 _ h
      · replace h := h.2 hc
        refine SW.lload C dX10_part_18 3 rfl ?_
        refine SW.ldc2 (v := (10 : Int64)) C (by decide +kernel) dX10_part_20 ?_
        refine SW.lmul C dX10_part_23 ?_
        refine SW.lstore (lv' := [(4, .long (v4_6 * (10 : Int64))), (0, .ref (qY 0)), (1, .long v1), (3, .int v3), (6, .int v6_6)]) C dX10_part_24 (by decide) rfl ?_
        refine SW.iinc (q := 4) (v := (v6_6 + (1 : Int32))) (lv' := [(6, .int (v6_6 + (1 : Int32))), (4, .long (v4_6 * (10 : Int64))), (0, .ref (qY 0)), (1, .long v1), (3, .int v3)]) C dX10_part_26 rfl rfl (by decide) rfl ?_
        refine SW.goto (tgt := 6) C dX10_part_29 (by decide) ?_
        refine SW.sub [2, 3, 4, 1, 0] rfl ?_
        exact ih _ _ h
  obtain ⟨fu, h⟩ := h
  refine SW.sub [2, 3, 4, 1, 0] rfl ?_
  refine L6 _ (fun v4_32 h => ?_) fu _ _ h
  · refine SW.lload_n C dX10_part_32 rfl 0 rfl ?_
    refine SW.lstore (lv' := [(6, .long v1), (1, .long v1), (3, .int v3), (4, .long v4_32)]) C dX10_part_33 (by decide) rfl ?_
    refine SW.lload C dX10_part_35 3 rfl ?_
    refine SW.lstore (lv' := [(8, .long v4_32), (6, .long v1), (1, .long v1), (3, .int v3), (4, .long v4_32)]) C dX10_part_37 (by decide) rfl ?_
    have L39 : ∀ (K64 : Int64 → Prop) (hK64 : ∀ (v6_64 : Int64), K64 v6_64 → SW p l e { frames := 1, cells := 0, slots := 0, locals := 22 } s m args below meth c A D 12 0 0 (MQ below (va_Ql (fun (r : Int64) (_ : Unit) => post r) (ctB D A (fun _ : Unit => w10 cI cZ qY oY)) A) args s 0 0 A) (w10 cI cZ qY oY) 64 [(1, .long v1), (3, .int v3), (4, .long v4_32), (6, .long v6_64)] []) (fu : Nat) (v6_39 : Int64) (v8_39 : Int64), wpX10_part_L39 K64 fu v6_39 v8_39 → SW p l e { frames := 1, cells := 0, slots := 0, locals := 22 } s m args below meth c A D 12 0 0 (MQ below (va_Ql (fun (r : Int64) (_ : Unit) => post r) (ctB D A (fun _ : Unit => w10 cI cZ qY oY)) A) args s 0 0 A) (w10 cI cZ qY oY) 39 [(1, .long v1), (3, .int v3), (4, .long v4_32), (6, .long v6_39), (8, .long v8_39)] [] := by
      intro K64 hK64 fu
      induction fu with
      | zero =>
        intro v6_39 v8_39 h
        exact False.elim h
      | succ fu ih =>
        intro v6_39 v8_39 h
        unfold wpX10_part_L39 at h
        refine SW.lload C dX10_part_39 4 rfl ?_
        refine SW.lconst (v := (0 : Int64)) C dX10_part_41 (by decide) ?_
        refine SW.lcmp C dX10_part_42 ?_
        refine SW.if_eq (tgt := 64) C dX10_part_43 (by decide) (fun hc => ?_) (fun hc => ?_)
        · replace h := h.1 hc
          refine SW.sub [0, 1, 2, 3] rfl ?_
          exact hK64 _ h
        · replace h := h.2 hc
          refine SW.lload C dX10_part_46 3 rfl ?_
          refine SW.lload C dX10_part_48 4 rfl ?_
          refine SW.lrem C dX10_part_50 h.1 ?_
          replace h := h.2
          refine SW.lstore (lv' := [(10, .long (jremL v6_39 v8_39)), (1, .long v1), (3, .int v3), (4, .long v4_32), (6, .long v6_39), (8, .long v8_39)]) C dX10_part_51 (by decide) rfl ?_
          refine SW.lload C dX10_part_53 5 rfl ?_
          refine SW.lstore (lv' := [(6, .long v8_39), (10, .long (jremL v6_39 v8_39)), (1, .long v1), (3, .int v3), (4, .long v4_32), (8, .long v8_39)]) C dX10_part_55 (by decide) rfl ?_
          refine SW.lload C dX10_part_57 1 rfl ?_
          refine SW.lstore (lv' := [(8, .long (jremL v6_39 v8_39)), (6, .long v8_39), (10, .long (jremL v6_39 v8_39)), (1, .long v1), (3, .int v3), (4, .long v4_32)]) C dX10_part_59 (by decide) rfl ?_
          refine SW.goto (tgt := 39) C dX10_part_61 (by decide) ?_
          refine SW.sub [3, 4, 5, 1, 0] rfl ?_
          exact ih _ _ h
    obtain ⟨fu, h⟩ := h
    refine SW.sub [2, 3, 4, 1, 0] rfl ?_
    refine L39 _ (fun v6_64 h => ?_) fu _ _ h
    · refine SW.iload_n C dX10_part_64 rfl 1 rfl ?_
      refine SW.if_ne (tgt := 75) C dX10_part_65 (by decide) (fun hc => ?_) (fun hc => ?_)
      · replace h := h.2 hc
        refine SW.lload C dX10_part_75 2 rfl ?_
        refine SW.lload C dX10_part_77 3 rfl ?_
        refine SW.ldiv C dX10_part_79 h.1 ?_
        replace h := h.2
        exact SW.lret C () rfl h dX10_part_80
      · replace h := h.1 hc
        refine SW.lload_n C dX10_part_68 rfl 0 rfl ?_
        refine SW.lload C dX10_part_69 3 rfl ?_
        refine SW.ldiv C dX10_part_71 h.1 ?_
        replace h := h.2
        refine SW.goto (tgt := 80) C dX10_part_72 (by decide) ?_
        exact SW.lret C () rfl h dX10_part_80
def wpX10_slips (oY : Ob) (v1 : Int32) (v2 : Int32) (v3 : Int32) (v4 : Int32) (post : Int64 → Prop) : Prop := wpX10_isWindow oY v1 (fun (r2 : Int32) => ((r2 = 0) → post (-1000000000000000001 : Int64)) ∧ (¬ (r2 = 0) → wpX10_in v2 (1 : Int32) (200 : Int32) (fun (r17 : Int32) => ((r17 = 0) → post (-1000000000000000002 : Int64)) ∧ (¬ (r17 = 0) → wpX10_in v3 (0 : Int32) (10 : Int32) (fun (r27 : Int32) => ((r27 = 0) → post (-1000000000000000002 : Int64)) ∧ (¬ (r27 = 0) → wpX10_in v4 (0 : Int32) (1 : Int32) (fun (r37 : Int32) => ((r37 = 0) → post (-1000000000000000002 : Int64)) ∧ (¬ (r37 = 0) → wpX10_likely oY v1 v2 v3 (fun (r52 : Int64) => wpX10_part oY r52 v4 (fun (r57 : Int64) => post r57))))))))))
theorem pdX10_slips : yX10_slips.cls = RX10 ∧ yX10_slips.cls ≠ "java/lang/invoke/MethodHandle" ∧ yX10_slips.cls ≠ "java/lang/invoke/VarHandle" ∧ (parseMethodDescriptor yX10_slips.desc).map (fun d => d.parameters.length) = some 4 := by decide +kernel
set_option maxHeartbeats 4000000 in
set_option maxRecDepth 100000 in
theorem ctX10_slips (l : Launch) (D : va_G) (cI cZ : ClassId) (qY : Nat → Nat) (oY : Ob) (v1 : Int32) (v2 : Int32) (v3 : Int32) (v4 : Int32) (post : Int64 → Prop) (h : wpX10_slips oY v1 v2 v3 v4 post) : CTl l yX10_slips wsX10_slips { frames := 4, cells := 0, slots := 0, locals := 103 } D [(cI, .int), (cZ, .boolean)] [.ref (qY 0), .int v1, .int v2, .int v3, .int v4] (w10 cI cZ qY oY) (fun _ : Unit => w10 cI cZ qY oY) (fun (r : Int64) (_ : Unit) => post r) := by
  refine CTl.of (cc := cX10_slips) (own := RX10) (maxL := 5) (ret := (some .long)) (lv0 := [(0, .ref (qY 0)), (1, .int v1), (2, .int v2), (3, .int v3), (4, .int v4)]) (by decide) rfl rfl (Nat.le_of_ble_eq_true rfl) rfl ?_
  intro p e s m args below meth c A C
  unfold wpX10_slips at h
  refine SW.aload_n C dX10_slips_0 rfl 0 rfl ?_
  refine SW.iload_n C dX10_slips_1 rfl 1 rfl ?_
  refine SW.callVi_same C (ctX10_isWindow l D cI cZ qY oY v1 _ h) gX10_slips_X10_isWindow rfl rfl rfl pdX10_isWindow ⟨by decide, by decide⟩ 0 rfl rfl rfl rfl rfl (Nat.le_of_ble_eq_true rfl) dX10_slips_2 (by decide) (fun r2 u h => ?_)
  try dsimp only at h
  refine SW.if_ne (tgt := 12) C dX10_slips_5 (by decide) (fun hc => ?_) (fun hc => ?_)
  · replace h := h.2 hc
    refine SW.iload_n C dX10_slips_12 rfl 2 rfl ?_
    refine SW.iconst (v := (1 : Int32)) C dX10_slips_13 (by decide) ?_
    refine SW.sipush (v := (200 : Int32)) C dX10_slips_14 (by decide) ?_
    refine SW.callSi_pure C (ctX10_in l D cI cZ v2 (1 : Int32) (200 : Int32) _ h) gX10_slips_X10_in rfl rfl rfl pdX10_in ⟨by decide, by decide⟩ rfl rfl (Nat.le_of_ble_eq_true rfl) dX10_slips_17 (by decide) (fun r17 u h => ?_)
    try dsimp only at h
    refine SW.if_eq (tgt := 43) C dX10_slips_20 (by decide) (fun hc => ?_) (fun hc => ?_)
    · replace h := h.1 hc
      refine SW.ldc2 (v := (-1000000000000000002 : Int64)) C (by decide +kernel) dX10_slips_43 ?_
      exact SW.lret C () rfl h dX10_slips_46
    · replace h := h.2 hc
      refine SW.iload_n C dX10_slips_23 rfl 3 rfl ?_
      refine SW.iconst (v := (0 : Int32)) C dX10_slips_24 (by decide) ?_
      refine SW.bipush (v := (10 : Int32)) C dX10_slips_25 (by decide) ?_
      refine SW.callSi_pure C (ctX10_in l D cI cZ v3 (0 : Int32) (10 : Int32) _ h) gX10_slips_X10_in rfl rfl rfl pdX10_in ⟨by decide, by decide⟩ rfl rfl (Nat.le_of_ble_eq_true rfl) dX10_slips_27 (by decide) (fun r27 u h => ?_)
      try dsimp only at h
      refine SW.if_eq (tgt := 43) C dX10_slips_30 (by decide) (fun hc => ?_) (fun hc => ?_)
      · replace h := h.1 hc
        refine SW.ldc2 (v := (-1000000000000000002 : Int64)) C (by decide +kernel) dX10_slips_43 ?_
        exact SW.lret C () rfl h dX10_slips_46
      · replace h := h.2 hc
        refine SW.iload C dX10_slips_33 4 rfl ?_
        refine SW.iconst (v := (0 : Int32)) C dX10_slips_35 (by decide) ?_
        refine SW.iconst (v := (1 : Int32)) C dX10_slips_36 (by decide) ?_
        refine SW.callSi_pure C (ctX10_in l D cI cZ v4 (0 : Int32) (1 : Int32) _ h) gX10_slips_X10_in rfl rfl rfl pdX10_in ⟨by decide, by decide⟩ rfl rfl (Nat.le_of_ble_eq_true rfl) dX10_slips_37 (by decide) (fun r37 u h => ?_)
        try dsimp only at h
        refine SW.if_ne (tgt := 47) C dX10_slips_40 (by decide) (fun hc => ?_) (fun hc => ?_)
        · replace h := h.2 hc
          refine SW.aload_n C dX10_slips_47 rfl 0 rfl ?_
          refine SW.aload_n C dX10_slips_48 rfl 0 rfl ?_
          refine SW.iload_n C dX10_slips_49 rfl 1 rfl ?_
          refine SW.iload_n C dX10_slips_50 rfl 2 rfl ?_
          refine SW.iload_n C dX10_slips_51 rfl 3 rfl ?_
          refine SW.callVl_same C (ctX10_likely l D cI cZ qY oY v1 v2 v3 _ h) gX10_slips_X10_likely rfl rfl rfl pdX10_likely ⟨by decide, by decide⟩ 0 rfl rfl rfl rfl rfl (Nat.le_of_ble_eq_true rfl) dX10_slips_52 (by decide) (fun r52 u h => ?_)
          try dsimp only at h
          refine SW.iload C dX10_slips_55 4 rfl ?_
          refine SW.callVl_same C (ctX10_part l D cI cZ qY oY r52 v4 _ h) gX10_slips_X10_part rfl rfl rfl pdX10_part ⟨by decide, by decide⟩ 0 rfl rfl rfl rfl rfl (Nat.le_of_ble_eq_true rfl) dX10_slips_57 (by decide) (fun r57 u h => ?_)
          try dsimp only at h
          exact SW.lret C () rfl h dX10_slips_60
        · replace h := h.1 hc
          refine SW.ldc2 (v := (-1000000000000000002 : Int64)) C (by decide +kernel) dX10_slips_43 ?_
          exact SW.lret C () rfl h dX10_slips_46
  · replace h := h.1 hc
    refine SW.ldc2 (v := (-1000000000000000001 : Int64)) C (by decide +kernel) dX10_slips_8 ?_
    exact SW.lret C () rfl h dX10_slips_11
def wpX10_calm (oY : Ob) (v1 : Int32) (v2 : Int32) (post : Int64 → Prop) : Prop := wpX10_in v1 (0 : Int32) (10 : Int32) (fun (r4 : Int32) => ((r4 = 0) → post (-1000000000000000002 : Int64)) ∧ (¬ (r4 = 0) → wpX10_in v2 (0 : Int32) (1 : Int32) (fun (r13 : Int32) => ((r13 = 0) → post (-1000000000000000002 : Int64)) ∧ (¬ (r13 = 0) → wpX10_likely oY (-6 : Int32) (0 : Int32) v1 (fun (r29 : Int64) => wpX10_part oY r29 v2 (fun (r33 : Int64) => post r33))))))
theorem pdX10_calm : yX10_calm.cls = RX10 ∧ yX10_calm.cls ≠ "java/lang/invoke/MethodHandle" ∧ yX10_calm.cls ≠ "java/lang/invoke/VarHandle" ∧ (parseMethodDescriptor yX10_calm.desc).map (fun d => d.parameters.length) = some 2 := by decide +kernel
set_option maxHeartbeats 4000000 in
set_option maxRecDepth 100000 in
theorem ctX10_calm (l : Launch) (D : va_G) (cI cZ : ClassId) (qY : Nat → Nat) (oY : Ob) (v1 : Int32) (v2 : Int32) (post : Int64 → Prop) (h : wpX10_calm oY v1 v2 post) : CTl l yX10_calm wsX10_calm { frames := 4, cells := 0, slots := 0, locals := 103 } D [(cI, .int), (cZ, .boolean)] [.ref (qY 0), .int v1, .int v2] (w10 cI cZ qY oY) (fun _ : Unit => w10 cI cZ qY oY) (fun (r : Int64) (_ : Unit) => post r) := by
  refine CTl.of (cc := cX10_calm) (own := RX10) (maxL := 3) (ret := (some .long)) (lv0 := [(0, .ref (qY 0)), (1, .int v1), (2, .int v2)]) (by decide) rfl rfl (Nat.le_of_ble_eq_true rfl) rfl ?_
  intro p e s m args below meth c A C
  unfold wpX10_calm at h
  refine SW.iload_n C dX10_calm_0 rfl 1 rfl ?_
  refine SW.iconst (v := (0 : Int32)) C dX10_calm_1 (by decide) ?_
  refine SW.bipush (v := (10 : Int32)) C dX10_calm_2 (by decide) ?_
  refine SW.callSi_pure C (ctX10_in l D cI cZ v1 (0 : Int32) (10 : Int32) _ h) gX10_calm_X10_in rfl rfl rfl pdX10_in ⟨by decide, by decide⟩ rfl rfl (Nat.le_of_ble_eq_true rfl) dX10_calm_4 (by decide) (fun r4 u h => ?_)
  try dsimp only at h
  refine SW.if_eq (tgt := 19) C dX10_calm_7 (by decide) (fun hc => ?_) (fun hc => ?_)
  · replace h := h.1 hc
    refine SW.ldc2 (v := (-1000000000000000002 : Int64)) C (by decide +kernel) dX10_calm_19 ?_
    exact SW.lret C () rfl h dX10_calm_22
  · replace h := h.2 hc
    refine SW.iload_n C dX10_calm_10 rfl 2 rfl ?_
    refine SW.iconst (v := (0 : Int32)) C dX10_calm_11 (by decide) ?_
    refine SW.iconst (v := (1 : Int32)) C dX10_calm_12 (by decide) ?_
    refine SW.callSi_pure C (ctX10_in l D cI cZ v2 (0 : Int32) (1 : Int32) _ h) gX10_calm_X10_in rfl rfl rfl pdX10_in ⟨by decide, by decide⟩ rfl rfl (Nat.le_of_ble_eq_true rfl) dX10_calm_13 (by decide) (fun r13 u h => ?_)
    try dsimp only at h
    refine SW.if_ne (tgt := 23) C dX10_calm_16 (by decide) (fun hc => ?_) (fun hc => ?_)
    · replace h := h.2 hc
      refine SW.aload_n C dX10_calm_23 rfl 0 rfl ?_
      refine SW.aload_n C dX10_calm_24 rfl 0 rfl ?_
      refine SW.bipush (v := (-6 : Int32)) C dX10_calm_25 (by decide) ?_
      refine SW.iconst (v := (0 : Int32)) C dX10_calm_27 (by decide) ?_
      refine SW.iload_n C dX10_calm_28 rfl 1 rfl ?_
      refine SW.callVl_same C (ctX10_likely l D cI cZ qY oY (-6 : Int32) (0 : Int32) v1 _ h) gX10_calm_X10_likely rfl rfl rfl pdX10_likely ⟨by decide, by decide⟩ 0 rfl rfl rfl rfl rfl (Nat.le_of_ble_eq_true rfl) dX10_calm_29 (by decide) (fun r29 u h => ?_)
      try dsimp only at h
      refine SW.iload_n C dX10_calm_32 rfl 2 rfl ?_
      refine SW.callVl_same C (ctX10_part l D cI cZ qY oY r29 v2 _ h) gX10_calm_X10_part rfl rfl rfl pdX10_part ⟨by decide, by decide⟩ 0 rfl rfl rfl rfl rfl (Nat.le_of_ble_eq_true rfl) dX10_calm_33 (by decide) (fun r33 u h => ?_)
      try dsimp only at h
      exact SW.lret C () rfl h dX10_calm_36
    · replace h := h.1 hc
      refine SW.ldc2 (v := (-1000000000000000002 : Int64)) C (by decide +kernel) dX10_calm_19 ?_
      exact SW.lret C () rfl h dX10_calm_22
def wpX10_year_L61 (c2_61 : Int32) (K185 : Int32 → Int32 → Ob → Prop) : Nat → Int32 → Int32 → Int32 → Int32 → Ob → Prop
  | 0, _, _, _, _, _ => False
  | fu61 + 1, v4_61, v5_61, v6_61, v7_61, oY_61 => ((c2_61 ≤ v7_61) → K185 v5_61 v6_61 oY_61) ∧ (¬ (c2_61 ≤ v7_61) → ∀ y78 : Int32, y78 = (jrem (((75 : Int32) * v4_61) + (74 : Int32)) (65537 : Int32)) → (jn1 (fun (p0_119 : Int32) => wpX10_whyNot oY_61 p0_119 (fun (r124 : Int32) => jn1 (fun (oY_136 : Ob) => wpX10_clashes oY_136 (oY_136 0 12) (oY_136 0 13) (fun (r147 : Int32) => jn2 (fun (p0_158 : Int32) (p1_158 : Int32) => wpX10_lengthOf oY_136 (0 : Int32) (oY_136 0 12) (oY_136 0 13) (fun (r173 : Int32) => wpX10_year_L61 c2_61 K185 fu61 y78 (p1_158 + p0_158) (v6_61 + r173) (v7_61 + (1 : Int32)) oY_136)) (fun J158 => ((r147 = 0) → J158 (0 : Int32) v5_61) ∧ (¬ (r147 = 0) → J158 (1 : Int32) v5_61)))) (fun J136 => ((r124 = 0) → wpX10_act oY_61 p0_119 (fun (oY_133 : Ob) => J136 oY_133)) ∧ (¬ (r124 = 0) → J136 oY_61)))) (fun J119 => (((jrem y78 (5 : Int32)) = 0) → J119 (43 : Int32)) ∧ (¬ ((jrem y78 (5 : Int32)) = 0) → (((jrem y78 (5 : Int32)) = (1 : Int32)) → J119 (45 : Int32)) ∧ (¬ ((jrem y78 (5 : Int32)) = (1 : Int32)) → (¬ (oY_61 0 0) = 0) ∧ (J119 ((97 : Int32) + (jrem (y78 / (5 : Int32)) (oY_61 0 0)))))))))
def wpX10_year (oY : Ob) (v1 : Int32) (v2 : Int32) (v3 : Int32) (post : Int32 → Ob → Prop) : Prop := wpX10_in v1 (0 : Int32) (9999 : Int32) (fun (r5 : Int32) => ((r5 = 0) → post (-2 : Int32) oY) ∧ (¬ (r5 = 0) → wpX10_in v2 (1 : Int32) (99 : Int32) (fun (r15 : Int32) => ((r15 = 0) → post (-2 : Int32) oY) ∧ (¬ (r15 = 0) → wpX10_in v3 (0 : Int32) (2 : Int32) (fun (r24 : Int32) => ((r24 = 0) → post (-2 : Int32) oY) ∧ (¬ (r24 = 0) → ∃ fu61 : Nat, wpX10_year_L61 v2 (fun (v5_185 : Int32) (v6_185 : Int32) (oY_185 : Ob) => ((v3 = 0) → post v5_185 oY_185) ∧ (¬ (v3 = 0) → ((v3 = (1 : Int32)) → post v6_185 oY_185) ∧ (¬ (v3 = (1 : Int32)) → post (oY_185 0 12) oY_185))) fu61 v1 (0 : Int32) (0 : Int32) (0 : Int32) (pf (pf oY 12 (oY 0 6)) 13 (oY 0 5))))))))
theorem pdX10_year : yX10_year.cls = RX10 ∧ yX10_year.cls ≠ "java/lang/invoke/MethodHandle" ∧ yX10_year.cls ≠ "java/lang/invoke/VarHandle" ∧ (parseMethodDescriptor yX10_year.desc).map (fun d => d.parameters.length) = some 3 := by decide +kernel
theorem lkX10_year_63 : Cond.fieldLink RX10 63 (TX10 6).1 (TX10 6).2.1 (TX10 6).2.2.1 ∈ wsX10_year := by decide +kernel
theorem inX10_year_X10 : ∀ w ∈ u_ws RX10 TX10 25, w ∈ wsX10_year := by decide +kernel
theorem lkX10_year_109 : Cond.fieldLink RX10 109 (TX10 12).1 (TX10 12).2.1 (TX10 12).2.2.1 ∈ wsX10_year := by decide +kernel
theorem lkX10_year_60 : Cond.fieldLink RX10 60 (TX10 5).1 (TX10 5).2.1 (TX10 5).2.2.1 ∈ wsX10_year := by decide +kernel
theorem lkX10_year_106 : Cond.fieldLink RX10 106 (TX10 13).1 (TX10 13).2.1 (TX10 13).2.2.1 ∈ wsX10_year := by decide +kernel
theorem lkX10_year_7 : Cond.fieldLink RX10 7 (TX10 0).1 (TX10 0).2.1 (TX10 0).2.2.1 ∈ wsX10_year := by decide +kernel
set_option maxHeartbeats 4000000 in
set_option maxRecDepth 100000 in
theorem ctX10_year (l : Launch) (D : va_G) (cI cZ : ClassId) (qY : Nat → Nat) (oY : Ob) (v1 : Int32) (v2 : Int32) (v3 : Int32) (post : Int32 → Ob → Prop) (h : wpX10_year oY v1 v2 v3 post) : CTi l yX10_year wsX10_year { frames := 3, cells := 0, slots := 0, locals := 74 } D [(cI, .int), (cZ, .boolean)] [.ref (qY 0), .int v1, .int v2, .int v3] (w10 cI cZ qY oY) (fun u : Ob => w10 cI cZ qY u) (fun (r : Int32) (u : Ob) => post r u) := by
  refine CTi.of (cc := cX10_year) (own := RX10) (maxL := 10) (ret := (some .int)) (lv0 := [(0, .ref (qY 0)), (1, .int v1), (2, .int v2), (3, .int v3)]) (by decide) rfl rfl (Nat.le_of_ble_eq_true rfl) rfl ?_
  intro p e s m args below meth c A C
  unfold wpX10_year at h
  refine SW.iload_n C dX10_year_0 rfl 1 rfl ?_
  refine SW.iconst (v := (0 : Int32)) C dX10_year_1 (by decide) ?_
  refine SW.sipush (v := (9999 : Int32)) C dX10_year_2 (by decide) ?_
  refine SW.callSi_pure C (ctX10_in l D cI cZ v1 (0 : Int32) (9999 : Int32) _ h) gX10_year_X10_in rfl rfl rfl pdX10_in ⟨by decide, by decide⟩ rfl rfl (Nat.le_of_ble_eq_true rfl) dX10_year_5 (by decide) (fun r5 u h => ?_)
  try dsimp only at h
  refine SW.if_eq (tgt := 30) C dX10_year_8 (by decide) (fun hc => ?_) (fun hc => ?_)
  · replace h := h.1 hc
    refine SW.bipush (v := (-2 : Int32)) C dX10_year_30 (by decide) ?_
    exact SW.iret C oY rfl h dX10_year_32
  · replace h := h.2 hc
    refine SW.iload_n C dX10_year_11 rfl 2 rfl ?_
    refine SW.iconst (v := (1 : Int32)) C dX10_year_12 (by decide) ?_
    refine SW.bipush (v := (99 : Int32)) C dX10_year_13 (by decide) ?_
    refine SW.callSi_pure C (ctX10_in l D cI cZ v2 (1 : Int32) (99 : Int32) _ h) gX10_year_X10_in rfl rfl rfl pdX10_in ⟨by decide, by decide⟩ rfl rfl (Nat.le_of_ble_eq_true rfl) dX10_year_15 (by decide) (fun r15 u h => ?_)
    try dsimp only at h
    refine SW.if_eq (tgt := 30) C dX10_year_18 (by decide) (fun hc => ?_) (fun hc => ?_)
    · replace h := h.1 hc
      refine SW.bipush (v := (-2 : Int32)) C dX10_year_30 (by decide) ?_
      exact SW.iret C oY rfl h dX10_year_32
    · replace h := h.2 hc
      refine SW.iload_n C dX10_year_21 rfl 3 rfl ?_
      refine SW.iconst (v := (0 : Int32)) C dX10_year_22 (by decide) ?_
      refine SW.iconst (v := (2 : Int32)) C dX10_year_23 (by decide) ?_
      refine SW.callSi_pure C (ctX10_in l D cI cZ v3 (0 : Int32) (2 : Int32) _ h) gX10_year_X10_in rfl rfl rfl pdX10_in ⟨by decide, by decide⟩ rfl rfl (Nat.le_of_ble_eq_true rfl) dX10_year_24 (by decide) (fun r24 u h => ?_)
      try dsimp only at h
      refine SW.if_ne (tgt := 33) C dX10_year_27 (by decide) (fun hc => ?_) (fun hc => ?_)
      · replace h := h.2 hc
        refine SW.aload_n C dX10_year_33 rfl 0 rfl ?_
        refine SW.aload_n C dX10_year_34 rfl 0 rfl ?_
        refine SW.get (v := .int (oY 0 6)) (T := TX10) (N := 25) C inX10_year_X10 0 rfl rfl 6 (by decide) lkX10_year_63 rfl dX10_year_35 ?_
        refine SW.put (ws' := w10 cI cZ qY (pf oY 12 (oY 0 6))) (T := TX10) (N := 25) C inX10_year_X10 tyX10 tyX10_ok nmX10 0 rfl rfl 12 (by decide) lkX10_year_109 rfl rfl rfl (Nat.le_of_ble_eq_true rfl) rfl dX10_year_38 ?_
        refine SW.aload_n C dX10_year_41 rfl 0 rfl ?_
        refine SW.aload_n C dX10_year_42 rfl 0 rfl ?_
        refine SW.get (v := .int (oY 0 5)) (T := TX10) (N := 25) C inX10_year_X10 0 rfl rfl 5 (by decide) lkX10_year_60 rfl dX10_year_43 ?_
        refine SW.put (ws' := w10 cI cZ qY (pf (pf oY 12 (oY 0 6)) 13 (oY 0 5))) (T := TX10) (N := 25) C inX10_year_X10 tyX10 tyX10_ok nmX10 0 rfl rfl 13 (by decide) lkX10_year_106 rfl rfl rfl (Nat.le_of_ble_eq_true rfl) rfl dX10_year_46 ?_
        refine SW.iload_n C dX10_year_49 rfl 1 rfl ?_
        refine SW.istore (lv' := [(4, .int v1), (0, .ref (qY 0)), (1, .int v1), (2, .int v2), (3, .int v3)]) C dX10_year_50 (by decide) rfl ?_
        refine SW.iconst (v := (0 : Int32)) C dX10_year_52 (by decide) ?_
        refine SW.istore (lv' := [(5, .int (0 : Int32)), (4, .int v1), (0, .ref (qY 0)), (1, .int v1), (2, .int v2), (3, .int v3)]) C dX10_year_53 (by decide) rfl ?_
        refine SW.iconst (v := (0 : Int32)) C dX10_year_55 (by decide) ?_
        refine SW.istore (lv' := [(6, .int (0 : Int32)), (5, .int (0 : Int32)), (4, .int v1), (0, .ref (qY 0)), (1, .int v1), (2, .int v2), (3, .int v3)]) C dX10_year_56 (by decide) rfl ?_
        refine SW.iconst (v := (0 : Int32)) C dX10_year_58 (by decide) ?_
        refine SW.istore (lv' := [(7, .int (0 : Int32)), (6, .int (0 : Int32)), (5, .int (0 : Int32)), (4, .int v1), (0, .ref (qY 0)), (1, .int v1), (2, .int v2), (3, .int v3)]) C dX10_year_59 (by decide) rfl ?_
        have L61 : ∀ (K185 : Int32 → Int32 → Ob → Prop) (hK185 : ∀ (v5_185 : Int32) (v6_185 : Int32) (oY_185 : Ob), K185 v5_185 v6_185 oY_185 → SW p l e { frames := 3, cells := 0, slots := 0, locals := 74 } s m args below meth c A D 10 0 0 (MQ below (va_Qi (fun (r : Int32) (u : Ob) => post r u) (ctB D A (fun u : Ob => w10 cI cZ qY u)) A) args s 0 0 A) (w10 cI cZ qY oY_185) 185 [(0, .ref (qY 0)), (3, .int v3), (5, .int v5_185), (6, .int v6_185)] []) (fu : Nat) (v4_61 : Int32) (v5_61 : Int32) (v6_61 : Int32) (v7_61 : Int32) (oY_61 : Ob), wpX10_year_L61 v2 K185 fu v4_61 v5_61 v6_61 v7_61 oY_61 → SW p l e { frames := 3, cells := 0, slots := 0, locals := 74 } s m args below meth c A D 10 0 0 (MQ below (va_Qi (fun (r : Int32) (u : Ob) => post r u) (ctB D A (fun u : Ob => w10 cI cZ qY u)) A) args s 0 0 A) (w10 cI cZ qY oY_61) 61 [(0, .ref (qY 0)), (2, .int v2), (3, .int v3), (4, .int v4_61), (5, .int v5_61), (6, .int v6_61), (7, .int v7_61)] [] := by
          intro K185 hK185 fu
          induction fu with
          | zero =>
            intro v4_61 v5_61 v6_61 v7_61 oY_61 h
            exact False.elim h
          | succ fu ih =>
            intro v4_61 v5_61 v6_61 v7_61 oY_61 h
            unfold wpX10_year_L61 at h
            refine SW.iload C dX10_year_61 6 rfl ?_
            refine SW.iload_n C dX10_year_63 rfl 1 rfl ?_
            refine SW.icmp_ge (tgt := 185) C dX10_year_64 (by decide) (fun hc => ?_) (fun hc => ?_)
            · replace h := h.1 hc
              refine SW.sub [0, 2, 4, 5] rfl ?_
              exact hK185 _ _ _ h
            · replace h := h.2 hc
              refine SW.bipush (v := (75 : Int32)) C dX10_year_67 (by decide) ?_
              refine SW.iload C dX10_year_69 3 rfl ?_
              refine SW.imul C dX10_year_71 ?_
              refine SW.bipush (v := (74 : Int32)) C dX10_year_72 (by decide) ?_
              refine SW.iadd C dX10_year_74 ?_
              refine SW.ldc (v := (65537 : Int32)) C (by decide +kernel) dX10_year_75 ?_
              refine SW.irem C dX10_year_77 (by decide) ?_
              refine SW.topi (fun y78 he => ?_)
              replace h := h y78 he
              refine SW.istore (lv' := [(4, .int y78), (0, .ref (qY 0)), (2, .int v2), (3, .int v3), (5, .int v5_61), (6, .int v6_61), (7, .int v7_61)]) C dX10_year_78 (by decide) rfl ?_
              refine SW.iload C dX10_year_80 0 rfl ?_
              refine SW.iconst (v := (5 : Int32)) C dX10_year_82 (by decide) ?_
              refine SW.irem C dX10_year_83 (by decide) ?_
              refine SW.istore (lv' := [(8, .int (jrem y78 (5 : Int32))), (4, .int y78), (0, .ref (qY 0)), (2, .int v2), (3, .int v3), (5, .int v5_61), (6, .int v6_61), (7, .int v7_61)]) C dX10_year_84 (by decide) rfl ?_
              refine SW.iload C dX10_year_86 0 rfl ?_
              refine jn1_elim (G := fun p0_119 => SW p l e { frames := 3, cells := 0, slots := 0, locals := 74 } s m args below meth c A D 10 0 0 (MQ below (va_Qi (fun (r : Int32) (u : Ob) => post r u) (ctB D A (fun u : Ob => w10 cI cZ qY u)) A) args s 0 0 A) (w10 cI cZ qY oY_61) 119 [(0, .ref (qY 0)), (2, .int v2), (3, .int v3), (4, .int y78), (5, .int v5_61), (6, .int v6_61), (7, .int v7_61)] [.int p0_119]) h (fun p0_119 h => ?_) (fun J119 hJ119 h => ?_)
              · refine SW.istore (lv' := [(9, .int p0_119), (0, .ref (qY 0)), (2, .int v2), (3, .int v3), (4, .int y78), (5, .int v5_61), (6, .int v6_61), (7, .int v7_61)]) C dX10_year_119 (by decide) rfl ?_
                refine SW.aload_n C dX10_year_121 rfl 1 rfl ?_
                refine SW.iload C dX10_year_122 0 rfl ?_
                refine SW.callVi_same C (ctX10_whyNot l D cI cZ qY oY_61 p0_119 _ h) gX10_year_X10_whyNot rfl rfl rfl pdX10_whyNot ⟨by decide, by decide⟩ 0 rfl rfl rfl rfl rfl (Nat.le_of_ble_eq_true rfl) dX10_year_124 (by decide) (fun r124 u h => ?_)
                try dsimp only at h
                refine jn1_elim (G := fun oY_136 => SW p l e { frames := 3, cells := 0, slots := 0, locals := 74 } s m args below meth c A D 10 0 0 (MQ below (va_Qi (fun (r : Int32) (u : Ob) => post r u) (ctB D A (fun u : Ob => w10 cI cZ qY u)) A) args s 0 0 A) (w10 cI cZ qY oY_136) 136 [(0, .ref (qY 0)), (2, .int v2), (3, .int v3), (4, .int y78), (5, .int v5_61), (6, .int v6_61), (7, .int v7_61)] []) h (fun oY_136 h => ?_) (fun J136 hJ136 h => ?_)
                · refine SW.iload C dX10_year_136 4 rfl ?_
                  refine SW.aload_n C dX10_year_138 rfl 0 rfl ?_
                  refine SW.aload_n C dX10_year_139 rfl 0 rfl ?_
                  refine SW.get (v := .int (oY_136 0 12)) (T := TX10) (N := 25) C inX10_year_X10 0 rfl rfl 12 (by decide) lkX10_year_109 rfl dX10_year_140 ?_
                  refine SW.aload_n C dX10_year_143 rfl 0 rfl ?_
                  refine SW.get (v := .int (oY_136 0 13)) (T := TX10) (N := 25) C inX10_year_X10 0 rfl rfl 13 (by decide) lkX10_year_106 rfl dX10_year_144 ?_
                  refine SW.callVi_same C (ctX10_clashes l D cI cZ qY oY_136 (oY_136 0 12) (oY_136 0 13) _ h) gX10_year_X10_clashes rfl rfl rfl pdX10_clashes ⟨by decide, by decide⟩ 0 rfl rfl rfl rfl rfl (Nat.le_of_ble_eq_true rfl) dX10_year_147 (by decide) (fun r147 u h => ?_)
                  try dsimp only at h
                  refine jn2_elim (G := fun p0_158 p1_158 => SW p l e { frames := 3, cells := 0, slots := 0, locals := 74 } s m args below meth c A D 10 0 0 (MQ below (va_Qi (fun (r : Int32) (u : Ob) => post r u) (ctB D A (fun u : Ob => w10 cI cZ qY u)) A) args s 0 0 A) (w10 cI cZ qY oY_136) 158 [(0, .ref (qY 0)), (2, .int v2), (3, .int v3), (4, .int y78), (6, .int v6_61), (7, .int v7_61)] [.int p0_158, .int p1_158]) h (fun p0_158 p1_158 h => ?_) (fun J158 hJ158 h => ?_)
                  · refine SW.iadd C dX10_year_158 ?_
                    refine SW.istore (lv' := [(5, .int (p1_158 + p0_158)), (0, .ref (qY 0)), (2, .int v2), (3, .int v3), (4, .int y78), (6, .int v6_61), (7, .int v7_61)]) C dX10_year_159 (by decide) rfl ?_
                    refine SW.iload C dX10_year_161 5 rfl ?_
                    refine SW.aload_n C dX10_year_163 rfl 1 rfl ?_
                    refine SW.iconst (v := (0 : Int32)) C dX10_year_164 (by decide) ?_
                    refine SW.aload_n C dX10_year_165 rfl 1 rfl ?_
                    refine SW.get (v := .int (oY_136 0 12)) (T := TX10) (N := 25) C inX10_year_X10 0 rfl rfl 12 (by decide) lkX10_year_109 rfl dX10_year_166 ?_
                    refine SW.aload_n C dX10_year_169 rfl 1 rfl ?_
                    refine SW.get (v := .int (oY_136 0 13)) (T := TX10) (N := 25) C inX10_year_X10 0 rfl rfl 13 (by decide) lkX10_year_106 rfl dX10_year_170 ?_
                    refine SW.callVi_same C (ctX10_lengthOf l D cI cZ qY oY_136 (0 : Int32) (oY_136 0 12) (oY_136 0 13) _ h) gX10_year_X10_lengthOf rfl rfl rfl pdX10_lengthOf ⟨by decide, by decide⟩ 0 rfl rfl rfl rfl rfl (Nat.le_of_ble_eq_true rfl) dX10_year_173 (by decide) (fun r173 u h => ?_)
                    try dsimp only at h
                    refine SW.iadd C dX10_year_176 ?_
                    refine SW.istore (lv' := [(6, .int (v6_61 + r173)), (5, .int (p1_158 + p0_158)), (0, .ref (qY 0)), (2, .int v2), (3, .int v3), (4, .int y78), (7, .int v7_61)]) C dX10_year_177 (by decide) rfl ?_
                    refine SW.iinc (q := 6) (v := (v7_61 + (1 : Int32))) (lv' := [(7, .int (v7_61 + (1 : Int32))), (6, .int (v6_61 + r173)), (5, .int (p1_158 + p0_158)), (0, .ref (qY 0)), (2, .int v2), (3, .int v3), (4, .int y78)]) C dX10_year_179 rfl rfl (by decide) rfl ?_
                    refine SW.goto (tgt := 61) C dX10_year_182 (by decide) ?_
                    refine SW.sub [3, 4, 5, 6, 2, 1, 0] rfl ?_
                    exact ih _ _ _ _ _ h
                  · refine SW.if_eq (tgt := 157) C dX10_year_150 (by decide) (fun hc => ?_) (fun hc => ?_)
                    · replace h := h.1 hc
                      refine SW.iconst (v := (0 : Int32)) C dX10_year_157 (by decide) ?_
                      refine SW.sub [0, 1, 2, 3, 5, 6] rfl ?_
                      exact hJ158 _ _ h
                    · replace h := h.2 hc
                      refine SW.iconst (v := (1 : Int32)) C dX10_year_153 (by decide) ?_
                      refine SW.goto (tgt := 158) C dX10_year_154 (by decide) ?_
                      refine SW.sub [0, 1, 2, 3, 5, 6] rfl ?_
                      exact hJ158 _ _ h
                · refine SW.if_ne (tgt := 136) C dX10_year_127 (by decide) (fun hc => ?_) (fun hc => ?_)
                  · replace h := h.2 hc
                    refine SW.sub [1, 2, 3, 4, 5, 6, 7] rfl ?_
                    exact hJ136 _ h
                  · replace h := h.1 hc
                    refine SW.aload_n C dX10_year_130 rfl 1 rfl ?_
                    refine SW.iload C dX10_year_131 0 rfl ?_
                    refine SW.callVv_same C (ctX10_act l D cI cZ qY oY_61 p0_119 _ h) gX10_year_X10_act rfl rfl rfl pdX10_act ⟨by decide, by decide⟩ 0 rfl rfl rfl rfl rfl (Nat.le_of_ble_eq_true rfl) dX10_year_133 (by decide) (fun u h => ?_)
                    obtain ⟨oY_133, rfl⟩ : ∃ z, z = u := ⟨_, rfl⟩
                    try dsimp only at h
                    refine SW.sub [1, 2, 3, 4, 5, 6, 7] rfl ?_
                    exact hJ136 _ h
              · refine SW.if_ne (tgt := 96) C dX10_year_88 (by decide) (fun hc => ?_) (fun hc => ?_)
                · replace h := h.2 hc
                  refine SW.iload C dX10_year_96 0 rfl ?_
                  refine SW.iconst (v := (1 : Int32)) C dX10_year_98 (by decide) ?_
                  refine SW.icmp_ne (tgt := 107) C dX10_year_99 (by decide) (fun hc => ?_) (fun hc => ?_)
                  · replace h := h.2 hc
                    refine SW.bipush (v := (97 : Int32)) C dX10_year_107 (by decide) ?_
                    refine SW.iload C dX10_year_109 1 rfl ?_
                    refine SW.iconst (v := (5 : Int32)) C dX10_year_111 (by decide) ?_
                    refine SW.idiv C dX10_year_112 (by decide) ?_
                    refine SW.aload_n C dX10_year_113 rfl 2 rfl ?_
                    refine SW.get (v := .int (oY_61 0 0)) (T := TX10) (N := 25) C inX10_year_X10 0 rfl rfl 0 (by decide) lkX10_year_7 rfl dX10_year_114 ?_
                    refine SW.irem C dX10_year_117 h.1 ?_
                    replace h := h.2
                    refine SW.iadd C dX10_year_118 ?_
                    refine SW.sub [2, 3, 4, 1, 5, 6, 7] rfl ?_
                    exact hJ119 _ h
                  · replace h := h.1 hc
                    refine SW.bipush (v := (45 : Int32)) C dX10_year_102 (by decide) ?_
                    refine SW.goto (tgt := 119) C dX10_year_104 (by decide) ?_
                    refine SW.sub [2, 3, 4, 1, 5, 6, 7] rfl ?_
                    exact hJ119 _ h
                · replace h := h.1 hc
                  refine SW.bipush (v := (43 : Int32)) C dX10_year_91 (by decide) ?_
                  refine SW.goto (tgt := 119) C dX10_year_93 (by decide) ?_
                  refine SW.sub [2, 3, 4, 1, 5, 6, 7] rfl ?_
                  exact hJ119 _ h
        obtain ⟨fu, h⟩ := h
        refine SW.sub [4, 6, 7, 3, 2, 1, 0] rfl ?_
        refine L61 _ (fun v5_185 v6_185 oY_185 h => ?_) fu _ _ _ _ _ h
        · refine SW.iload_n C dX10_year_185 rfl 1 rfl ?_
          refine SW.if_ne (tgt := 194) C dX10_year_186 (by decide) (fun hc => ?_) (fun hc => ?_)
          · replace h := h.2 hc
            refine SW.iload_n C dX10_year_194 rfl 1 rfl ?_
            refine SW.iconst (v := (1 : Int32)) C dX10_year_195 (by decide) ?_
            refine SW.icmp_ne (tgt := 204) C dX10_year_196 (by decide) (fun hc => ?_) (fun hc => ?_)
            · replace h := h.2 hc
              refine SW.aload_n C dX10_year_204 rfl 0 rfl ?_
              refine SW.get (v := .int (oY_185 0 12)) (T := TX10) (N := 25) C inX10_year_X10 0 rfl rfl 12 (by decide) lkX10_year_109 rfl dX10_year_205 ?_
              exact SW.iret C oY_185 rfl h dX10_year_208
            · replace h := h.1 hc
              refine SW.iload C dX10_year_199 3 rfl ?_
              refine SW.goto (tgt := 208) C dX10_year_201 (by decide) ?_
              exact SW.iret C oY_185 rfl h dX10_year_208
          · replace h := h.1 hc
            refine SW.iload C dX10_year_189 2 rfl ?_
            refine SW.goto (tgt := 208) C dX10_year_191 (by decide) ?_
            exact SW.iret C oY_185 rfl h dX10_year_208
      · replace h := h.1 hc
        refine SW.bipush (v := (-2 : Int32)) C dX10_year_30 (by decide) ?_
        exact SW.iret C oY rfl h dX10_year_32
def wpX10_image_L19 (c2_19 : Int32) (K62 : Ob → Prop) : Nat → Int32 → Ob → Prop
  | 0, _, _ => False
  | fu19 + 1, v3_19, oY_19 => (((10 : Int32) ≤ v3_19) → K62 oY_19) ∧ (¬ ((10 : Int32) ≤ v3_19) → (vp_in v3_19 10) ∧ ((vp_in (c2_19 + v3_19) 100) ∧ ((vp_in v3_19 10) ∧ (∀ oY_55n : Ob, oY_55n = (pa oY_19 10 (nC (c2_19 + v3_19)) (jld (oY_19 1) v3_19)) → ((vp_in ((c2_19 + (10 : Int32)) + v3_19) 100) ∧ (wpX10_image_L19 c2_19 K62 fu19 (v3_19 + (1 : Int32)) (pa oY_55n 10 (nC ((c2_19 + (10 : Int32)) + v3_19)) (jld (oY_19 2) v3_19))))))))
def wpX10_image_L64 (c2_64 : Int32) (K93 : Ob → Prop) : Nat → Int32 → Ob → Prop
  | 0, _, _ => False
  | fu64 + 1, v3_64, oY_64 => (((16 : Int32) ≤ v3_64) → K93 oY_64) ∧ (¬ ((16 : Int32) ≤ v3_64) → (vp_in v3_64 16) ∧ ((vp_in ((c2_64 + (20 : Int32)) + v3_64) 100) ∧ (wpX10_image_L64 c2_64 K93 fu64 (v3_64 + (1 : Int32)) (pa oY_64 10 (nC ((c2_64 + (20 : Int32)) + v3_64)) (jld (oY_64 3) v3_64)))))
def wpX10_image (oY : Ob) (v1 : Int32) (post : Int32 → Ob → Prop) : Prop := wpX10_in v1 (0 : Int32) (1 : Int32) (fun (r3 : Int32) => ((r3 = 0) → post (-2 : Int32) oY) ∧ (¬ (r3 = 0) → ∃ fu19 : Nat, wpX10_image_L19 ((50 : Int32) * v1) (fun (oY_62 : Ob) => ∃ fu64 : Nat, wpX10_image_L64 ((50 : Int32) * v1) (fun (oY_93 : Ob) => (vp_in (((50 : Int32) * v1) + (40 : Int32)) 100) ∧ (∀ oY_118n : Ob, oY_118n = (pa oY_93 10 (nC (((50 : Int32) * v1) + (40 : Int32))) (oY_93 0 0)) → ((vp_in (((50 : Int32) * v1) + (41 : Int32)) 100) ∧ (∀ oY_131n : Ob, oY_131n = (pa oY_118n 10 (nC (((50 : Int32) * v1) + (41 : Int32))) (oY_93 0 2)) → ((vp_in (((50 : Int32) * v1) + (42 : Int32)) 100) ∧ (∀ oY_144n : Ob, oY_144n = (pa oY_131n 10 (nC (((50 : Int32) * v1) + (42 : Int32))) (oY_118n 0 3)) → ((vp_in (((50 : Int32) * v1) + (43 : Int32)) 100) ∧ (∀ oY_157n : Ob, oY_157n = (pa oY_144n 10 (nC (((50 : Int32) * v1) + (43 : Int32))) (oY_131n 0 4)) → ((vp_in (((50 : Int32) * v1) + (44 : Int32)) 100) ∧ (∀ oY_170n : Ob, oY_170n = (pa oY_157n 10 (nC (((50 : Int32) * v1) + (44 : Int32))) (oY_144n 0 5)) → ((vp_in (((50 : Int32) * v1) + (45 : Int32)) 100) ∧ (∀ oY_183n : Ob, oY_183n = (pa oY_170n 10 (nC (((50 : Int32) * v1) + (45 : Int32))) (oY_157n 0 6)) → ((vp_in (((50 : Int32) * v1) + (46 : Int32)) 100) ∧ (∀ oY_190n : Ob, oY_190n = (pa oY_183n 10 (nC (((50 : Int32) * v1) + (46 : Int32))) (oY_170n 0 8)) → ((vp_in v1 2) ∧ (post (1 : Int32) (pa oY_190n 11 (nC v1) (jb (1 : Int32))))))))))))))))))) fu64 (0 : Int32) oY_62) fu19 (0 : Int32) oY))
theorem pdX10_image : yX10_image.cls = RX10 ∧ yX10_image.cls ≠ "java/lang/invoke/MethodHandle" ∧ yX10_image.cls ≠ "java/lang/invoke/VarHandle" ∧ (parseMethodDescriptor yX10_image.desc).map (fun d => d.parameters.length) = some 1 := by decide +kernel
theorem lkX10_image_51 : Cond.fieldLink RX10 51 (TX10 23).1 (TX10 23).2.1 (TX10 23).2.2.1 ∈ wsX10_image := by decide +kernel
theorem inX10_image_X10 : ∀ w ∈ u_ws RX10 TX10 25, w ∈ wsX10_image := by decide +kernel
theorem lkX10_image_13 : Cond.fieldLink RX10 13 (TX10 1).1 (TX10 1).2.1 (TX10 1).2.2.1 ∈ wsX10_image := by decide +kernel
theorem lkX10_image_26 : Cond.fieldLink RX10 26 (TX10 7).1 (TX10 7).2.1 (TX10 7).2.2.1 ∈ wsX10_image := by decide +kernel
theorem lkX10_image_29 : Cond.fieldLink RX10 29 (TX10 9).1 (TX10 9).2.1 (TX10 9).2.2.1 ∈ wsX10_image := by decide +kernel
theorem lkX10_image_7 : Cond.fieldLink RX10 7 (TX10 0).1 (TX10 0).2.1 (TX10 0).2.2.1 ∈ wsX10_image := by decide +kernel
theorem lkX10_image_17 : Cond.fieldLink RX10 17 (TX10 2).1 (TX10 2).2.1 (TX10 2).2.2.1 ∈ wsX10_image := by decide +kernel
theorem lkX10_image_20 : Cond.fieldLink RX10 20 (TX10 3).1 (TX10 3).2.1 (TX10 3).2.2.1 ∈ wsX10_image := by decide +kernel
theorem lkX10_image_23 : Cond.fieldLink RX10 23 (TX10 4).1 (TX10 4).2.1 (TX10 4).2.2.1 ∈ wsX10_image := by decide +kernel
theorem lkX10_image_60 : Cond.fieldLink RX10 60 (TX10 5).1 (TX10 5).2.1 (TX10 5).2.2.1 ∈ wsX10_image := by decide +kernel
theorem lkX10_image_63 : Cond.fieldLink RX10 63 (TX10 6).1 (TX10 6).2.1 (TX10 6).2.2.1 ∈ wsX10_image := by decide +kernel
theorem lkX10_image_66 : Cond.fieldLink RX10 66 (TX10 8).1 (TX10 8).2.1 (TX10 8).2.2.1 ∈ wsX10_image := by decide +kernel
theorem lkX10_image_54 : Cond.fieldLink RX10 54 (TX10 24).1 (TX10 24).2.1 (TX10 24).2.2.1 ∈ wsX10_image := by decide +kernel
set_option maxHeartbeats 4000000 in
set_option maxRecDepth 100000 in
theorem ctX10_image (l : Launch) (D : va_G) (cI cZ : ClassId) (qY : Nat → Nat) (oY : Ob) (v1 : Int32) (post : Int32 → Ob → Prop) (h : wpX10_image oY v1 post) : CTi l yX10_image wsX10_image { frames := 1, cells := 0, slots := 0, locals := 22 } D [(cI, .int), (cZ, .boolean)] [.ref (qY 0), .int v1] (w10 cI cZ qY oY) (fun u : Ob => w10 cI cZ qY u) (fun (r : Int32) (u : Ob) => post r u) := by
  refine CTi.of (cc := cX10_image) (own := RX10) (maxL := 4) (ret := (some .int)) (lv0 := [(0, .ref (qY 0)), (1, .int v1)]) (by decide) rfl rfl (Nat.le_of_ble_eq_true rfl) rfl ?_
  intro p e s m args below meth c A C
  unfold wpX10_image at h
  refine SW.iload_n C dX10_image_0 rfl 1 rfl ?_
  refine SW.iconst (v := (0 : Int32)) C dX10_image_1 (by decide) ?_
  refine SW.iconst (v := (1 : Int32)) C dX10_image_2 (by decide) ?_
  refine SW.callSi_pure C (ctX10_in l D cI cZ v1 (0 : Int32) (1 : Int32) _ h) gX10_image_X10_in rfl rfl rfl pdX10_in ⟨by decide, by decide⟩ rfl rfl (Nat.le_of_ble_eq_true rfl) dX10_image_3 (by decide) (fun r3 u h => ?_)
  try dsimp only at h
  refine SW.if_ne (tgt := 12) C dX10_image_6 (by decide) (fun hc => ?_) (fun hc => ?_)
  · replace h := h.2 hc
    refine SW.bipush (v := (50 : Int32)) C dX10_image_12 (by decide) ?_
    refine SW.iload_n C dX10_image_14 rfl 1 rfl ?_
    refine SW.imul C dX10_image_15 ?_
    refine SW.istore_n (lv' := [(2, .int ((50 : Int32) * v1)), (0, .ref (qY 0)), (1, .int v1)]) C dX10_image_16 rfl (by decide) rfl ?_
    refine SW.iconst (v := (0 : Int32)) C dX10_image_17 (by decide) ?_
    refine SW.istore_n (lv' := [(3, .int (0 : Int32)), (2, .int ((50 : Int32) * v1)), (0, .ref (qY 0)), (1, .int v1)]) C dX10_image_18 rfl (by decide) rfl ?_
    have L19 : ∀ (K62 : Ob → Prop) (hK62 : ∀ (oY_62 : Ob), K62 oY_62 → SW p l e { frames := 1, cells := 0, slots := 0, locals := 22 } s m args below meth c A D 4 0 0 (MQ below (va_Qi (fun (r : Int32) (u : Ob) => post r u) (ctB D A (fun u : Ob => w10 cI cZ qY u)) A) args s 0 0 A) (w10 cI cZ qY oY_62) 62 [(0, .ref (qY 0)), (1, .int v1), (2, .int ((50 : Int32) * v1))] []) (fu : Nat) (v3_19 : Int32) (oY_19 : Ob), wpX10_image_L19 ((50 : Int32) * v1) K62 fu v3_19 oY_19 → SW p l e { frames := 1, cells := 0, slots := 0, locals := 22 } s m args below meth c A D 4 0 0 (MQ below (va_Qi (fun (r : Int32) (u : Ob) => post r u) (ctB D A (fun u : Ob => w10 cI cZ qY u)) A) args s 0 0 A) (w10 cI cZ qY oY_19) 19 [(0, .ref (qY 0)), (1, .int v1), (2, .int ((50 : Int32) * v1)), (3, .int v3_19)] [] := by
      intro K62 hK62 fu
      induction fu with
      | zero =>
        intro v3_19 oY_19 h
        exact False.elim h
      | succ fu ih =>
        intro v3_19 oY_19 h
        unfold wpX10_image_L19 at h
        refine SW.iload_n C dX10_image_19 rfl 3 rfl ?_
        refine SW.bipush (v := (10 : Int32)) C dX10_image_20 (by decide) ?_
        refine SW.icmp_ge (tgt := 62) C dX10_image_22 (by decide) (fun hc => ?_) (fun hc => ?_)
        · replace h := h.1 hc
          refine SW.sub [0, 1, 2] rfl ?_
          exact hK62 _ h
        · replace h := h.2 hc
          refine SW.aload_n C dX10_image_25 rfl 0 rfl ?_
          refine SW.get (v := .ref (qY 10)) (T := TX10) (N := 25) C inX10_image_X10 0 rfl rfl 23 (by decide) lkX10_image_51 rfl dX10_image_26 ?_
          refine SW.iload_n C dX10_image_29 rfl 2 rfl ?_
          refine SW.iload_n C dX10_image_30 rfl 3 rfl ?_
          refine SW.iadd C dX10_image_31 ?_
          refine SW.aload_n C dX10_image_32 rfl 0 rfl ?_
          refine SW.get (v := .ref (qY 1)) (T := TX10) (N := 25) C inX10_image_X10 0 rfl rfl 1 (by decide) lkX10_image_13 rfl dX10_image_33 ?_
          refine SW.iload_n C dX10_image_36 rfl 3 rfl ?_
          refine SW.iald C 1 0 rfl rfl h.1 dX10_image_37 ?_
          replace h := h.2
          refine SW.iast (ws' := w10 cI cZ qY (pa oY_19 10 (nC (((50 : Int32) * v1) + v3_19)) (jld (oY_19 1) v3_19))) C 10 0 rfl rfl h.1 rfl dX10_image_38 ?_
          replace h := h.2
          refine SW.aload_n C dX10_image_39 rfl 0 rfl ?_
          refine SW.get (v := .ref (qY 10)) (T := TX10) (N := 25) C inX10_image_X10 0 rfl rfl 23 (by decide) lkX10_image_51 rfl dX10_image_40 ?_
          refine SW.iload_n C dX10_image_43 rfl 2 rfl ?_
          refine SW.bipush (v := (10 : Int32)) C dX10_image_44 (by decide) ?_
          refine SW.iadd C dX10_image_46 ?_
          refine SW.iload_n C dX10_image_47 rfl 3 rfl ?_
          refine SW.iadd C dX10_image_48 ?_
          refine SW.aload_n C dX10_image_49 rfl 0 rfl ?_
          refine SW.get (v := .ref (qY 2)) (T := TX10) (N := 25) C inX10_image_X10 0 rfl rfl 7 (by decide) lkX10_image_26 rfl dX10_image_50 ?_
          refine SW.iload_n C dX10_image_53 rfl 3 rfl ?_
          refine SW.iald C 2 0 rfl rfl h.1 dX10_image_54 ?_
          replace h := h.2
          refine SW.nameOb (wz := fun z => w10 cI cZ qY z) (o := (pa oY_19 10 (nC (((50 : Int32) * v1) + v3_19)) (jld (oY_19 1) v3_19))) (fun oY_55n he => ?_)
          replace h := h oY_55n he
          refine SW.iast (ws' := w10 cI cZ qY (pa oY_55n 10 (nC ((((50 : Int32) * v1) + (10 : Int32)) + v3_19)) (jld (oY_19 2) v3_19))) C 10 0 rfl rfl h.1 rfl dX10_image_55 ?_
          replace h := h.2
          refine SW.iinc (q := 3) (v := (v3_19 + (1 : Int32))) (lv' := [(3, .int (v3_19 + (1 : Int32))), (0, .ref (qY 0)), (1, .int v1), (2, .int ((50 : Int32) * v1))]) C dX10_image_56 rfl rfl (by decide) rfl ?_
          refine SW.goto (tgt := 19) C dX10_image_59 (by decide) ?_
          refine SW.sub [1, 2, 3, 0] rfl ?_
          exact ih _ _ h
    obtain ⟨fu, h⟩ := h
    refine SW.sub [2, 3, 1, 0] rfl ?_
    refine L19 _ (fun oY_62 h => ?_) fu _ _ h
    · refine SW.iconst (v := (0 : Int32)) C dX10_image_62 (by decide) ?_
      refine SW.istore_n (lv' := [(3, .int (0 : Int32)), (0, .ref (qY 0)), (1, .int v1), (2, .int ((50 : Int32) * v1))]) C dX10_image_63 rfl (by decide) rfl ?_
      have L64 : ∀ (K93 : Ob → Prop) (hK93 : ∀ (oY_93 : Ob), K93 oY_93 → SW p l e { frames := 1, cells := 0, slots := 0, locals := 22 } s m args below meth c A D 4 0 0 (MQ below (va_Qi (fun (r : Int32) (u : Ob) => post r u) (ctB D A (fun u : Ob => w10 cI cZ qY u)) A) args s 0 0 A) (w10 cI cZ qY oY_93) 93 [(0, .ref (qY 0)), (1, .int v1), (2, .int ((50 : Int32) * v1))] []) (fu : Nat) (v3_64 : Int32) (oY_64 : Ob), wpX10_image_L64 ((50 : Int32) * v1) K93 fu v3_64 oY_64 → SW p l e { frames := 1, cells := 0, slots := 0, locals := 22 } s m args below meth c A D 4 0 0 (MQ below (va_Qi (fun (r : Int32) (u : Ob) => post r u) (ctB D A (fun u : Ob => w10 cI cZ qY u)) A) args s 0 0 A) (w10 cI cZ qY oY_64) 64 [(0, .ref (qY 0)), (1, .int v1), (2, .int ((50 : Int32) * v1)), (3, .int v3_64)] [] := by
        intro K93 hK93 fu
        induction fu with
        | zero =>
          intro v3_64 oY_64 h
          exact False.elim h
        | succ fu ih =>
          intro v3_64 oY_64 h
          unfold wpX10_image_L64 at h
          refine SW.iload_n C dX10_image_64 rfl 3 rfl ?_
          refine SW.bipush (v := (16 : Int32)) C dX10_image_65 (by decide) ?_
          refine SW.icmp_ge (tgt := 93) C dX10_image_67 (by decide) (fun hc => ?_) (fun hc => ?_)
          · replace h := h.1 hc
            refine SW.sub [0, 1, 2] rfl ?_
            exact hK93 _ h
          · replace h := h.2 hc
            refine SW.aload_n C dX10_image_70 rfl 0 rfl ?_
            refine SW.get (v := .ref (qY 10)) (T := TX10) (N := 25) C inX10_image_X10 0 rfl rfl 23 (by decide) lkX10_image_51 rfl dX10_image_71 ?_
            refine SW.iload_n C dX10_image_74 rfl 2 rfl ?_
            refine SW.bipush (v := (20 : Int32)) C dX10_image_75 (by decide) ?_
            refine SW.iadd C dX10_image_77 ?_
            refine SW.iload_n C dX10_image_78 rfl 3 rfl ?_
            refine SW.iadd C dX10_image_79 ?_
            refine SW.aload_n C dX10_image_80 rfl 0 rfl ?_
            refine SW.get (v := .ref (qY 3)) (T := TX10) (N := 25) C inX10_image_X10 0 rfl rfl 9 (by decide) lkX10_image_29 rfl dX10_image_81 ?_
            refine SW.iload_n C dX10_image_84 rfl 3 rfl ?_
            refine SW.iald C 3 0 rfl rfl h.1 dX10_image_85 ?_
            replace h := h.2
            refine SW.iast (ws' := w10 cI cZ qY (pa oY_64 10 (nC ((((50 : Int32) * v1) + (20 : Int32)) + v3_64)) (jld (oY_64 3) v3_64))) C 10 0 rfl rfl h.1 rfl dX10_image_86 ?_
            replace h := h.2
            refine SW.iinc (q := 3) (v := (v3_64 + (1 : Int32))) (lv' := [(3, .int (v3_64 + (1 : Int32))), (0, .ref (qY 0)), (1, .int v1), (2, .int ((50 : Int32) * v1))]) C dX10_image_87 rfl rfl (by decide) rfl ?_
            refine SW.goto (tgt := 64) C dX10_image_90 (by decide) ?_
            refine SW.sub [1, 2, 3, 0] rfl ?_
            exact ih _ _ h
      obtain ⟨fu, h⟩ := h
      refine SW.sub [1, 2, 3, 0] rfl ?_
      refine L64 _ (fun oY_93 h => ?_) fu _ _ h
      · refine SW.aload_n C dX10_image_93 rfl 0 rfl ?_
        refine SW.get (v := .ref (qY 10)) (T := TX10) (N := 25) C inX10_image_X10 0 rfl rfl 23 (by decide) lkX10_image_51 rfl dX10_image_94 ?_
        refine SW.iload_n C dX10_image_97 rfl 2 rfl ?_
        refine SW.bipush (v := (40 : Int32)) C dX10_image_98 (by decide) ?_
        refine SW.iadd C dX10_image_100 ?_
        refine SW.aload_n C dX10_image_101 rfl 0 rfl ?_
        refine SW.get (v := .int (oY_93 0 0)) (T := TX10) (N := 25) C inX10_image_X10 0 rfl rfl 0 (by decide) lkX10_image_7 rfl dX10_image_102 ?_
        refine SW.iast (ws' := w10 cI cZ qY (pa oY_93 10 (nC (((50 : Int32) * v1) + (40 : Int32))) (oY_93 0 0))) C 10 0 rfl rfl h.1 rfl dX10_image_105 ?_
        replace h := h.2
        refine SW.aload_n C dX10_image_106 rfl 0 rfl ?_
        refine SW.get (v := .ref (qY 10)) (T := TX10) (N := 25) C inX10_image_X10 0 rfl rfl 23 (by decide) lkX10_image_51 rfl dX10_image_107 ?_
        refine SW.iload_n C dX10_image_110 rfl 2 rfl ?_
        refine SW.bipush (v := (41 : Int32)) C dX10_image_111 (by decide) ?_
        refine SW.iadd C dX10_image_113 ?_
        refine SW.aload_n C dX10_image_114 rfl 0 rfl ?_
        refine SW.get (v := .int (oY_93 0 2)) (T := TX10) (N := 25) C inX10_image_X10 0 rfl rfl 2 (by decide) lkX10_image_17 rfl dX10_image_115 ?_
        refine SW.nameOb (wz := fun z => w10 cI cZ qY z) (o := (pa oY_93 10 (nC (((50 : Int32) * v1) + (40 : Int32))) (oY_93 0 0))) (fun oY_118n he => ?_)
        replace h := h oY_118n he
        refine SW.iast (ws' := w10 cI cZ qY (pa oY_118n 10 (nC (((50 : Int32) * v1) + (41 : Int32))) (oY_93 0 2))) C 10 0 rfl rfl h.1 rfl dX10_image_118 ?_
        replace h := h.2
        refine SW.aload_n C dX10_image_119 rfl 0 rfl ?_
        refine SW.get (v := .ref (qY 10)) (T := TX10) (N := 25) C inX10_image_X10 0 rfl rfl 23 (by decide) lkX10_image_51 rfl dX10_image_120 ?_
        refine SW.iload_n C dX10_image_123 rfl 2 rfl ?_
        refine SW.bipush (v := (42 : Int32)) C dX10_image_124 (by decide) ?_
        refine SW.iadd C dX10_image_126 ?_
        refine SW.aload_n C dX10_image_127 rfl 0 rfl ?_
        refine SW.get (v := .int (oY_118n 0 3)) (T := TX10) (N := 25) C inX10_image_X10 0 rfl rfl 3 (by decide) lkX10_image_20 rfl dX10_image_128 ?_
        refine SW.nameOb (wz := fun z => w10 cI cZ qY z) (o := (pa oY_118n 10 (nC (((50 : Int32) * v1) + (41 : Int32))) (oY_93 0 2))) (fun oY_131n he => ?_)
        replace h := h oY_131n he
        refine SW.iast (ws' := w10 cI cZ qY (pa oY_131n 10 (nC (((50 : Int32) * v1) + (42 : Int32))) (oY_118n 0 3))) C 10 0 rfl rfl h.1 rfl dX10_image_131 ?_
        replace h := h.2
        refine SW.aload_n C dX10_image_132 rfl 0 rfl ?_
        refine SW.get (v := .ref (qY 10)) (T := TX10) (N := 25) C inX10_image_X10 0 rfl rfl 23 (by decide) lkX10_image_51 rfl dX10_image_133 ?_
        refine SW.iload_n C dX10_image_136 rfl 2 rfl ?_
        refine SW.bipush (v := (43 : Int32)) C dX10_image_137 (by decide) ?_
        refine SW.iadd C dX10_image_139 ?_
        refine SW.aload_n C dX10_image_140 rfl 0 rfl ?_
        refine SW.get (v := .int (oY_131n 0 4)) (T := TX10) (N := 25) C inX10_image_X10 0 rfl rfl 4 (by decide) lkX10_image_23 rfl dX10_image_141 ?_
        refine SW.nameOb (wz := fun z => w10 cI cZ qY z) (o := (pa oY_131n 10 (nC (((50 : Int32) * v1) + (42 : Int32))) (oY_118n 0 3))) (fun oY_144n he => ?_)
        replace h := h oY_144n he
        refine SW.iast (ws' := w10 cI cZ qY (pa oY_144n 10 (nC (((50 : Int32) * v1) + (43 : Int32))) (oY_131n 0 4))) C 10 0 rfl rfl h.1 rfl dX10_image_144 ?_
        replace h := h.2
        refine SW.aload_n C dX10_image_145 rfl 0 rfl ?_
        refine SW.get (v := .ref (qY 10)) (T := TX10) (N := 25) C inX10_image_X10 0 rfl rfl 23 (by decide) lkX10_image_51 rfl dX10_image_146 ?_
        refine SW.iload_n C dX10_image_149 rfl 2 rfl ?_
        refine SW.bipush (v := (44 : Int32)) C dX10_image_150 (by decide) ?_
        refine SW.iadd C dX10_image_152 ?_
        refine SW.aload_n C dX10_image_153 rfl 0 rfl ?_
        refine SW.get (v := .int (oY_144n 0 5)) (T := TX10) (N := 25) C inX10_image_X10 0 rfl rfl 5 (by decide) lkX10_image_60 rfl dX10_image_154 ?_
        refine SW.nameOb (wz := fun z => w10 cI cZ qY z) (o := (pa oY_144n 10 (nC (((50 : Int32) * v1) + (43 : Int32))) (oY_131n 0 4))) (fun oY_157n he => ?_)
        replace h := h oY_157n he
        refine SW.iast (ws' := w10 cI cZ qY (pa oY_157n 10 (nC (((50 : Int32) * v1) + (44 : Int32))) (oY_144n 0 5))) C 10 0 rfl rfl h.1 rfl dX10_image_157 ?_
        replace h := h.2
        refine SW.aload_n C dX10_image_158 rfl 0 rfl ?_
        refine SW.get (v := .ref (qY 10)) (T := TX10) (N := 25) C inX10_image_X10 0 rfl rfl 23 (by decide) lkX10_image_51 rfl dX10_image_159 ?_
        refine SW.iload_n C dX10_image_162 rfl 2 rfl ?_
        refine SW.bipush (v := (45 : Int32)) C dX10_image_163 (by decide) ?_
        refine SW.iadd C dX10_image_165 ?_
        refine SW.aload_n C dX10_image_166 rfl 0 rfl ?_
        refine SW.get (v := .int (oY_157n 0 6)) (T := TX10) (N := 25) C inX10_image_X10 0 rfl rfl 6 (by decide) lkX10_image_63 rfl dX10_image_167 ?_
        refine SW.nameOb (wz := fun z => w10 cI cZ qY z) (o := (pa oY_157n 10 (nC (((50 : Int32) * v1) + (44 : Int32))) (oY_144n 0 5))) (fun oY_170n he => ?_)
        replace h := h oY_170n he
        refine SW.iast (ws' := w10 cI cZ qY (pa oY_170n 10 (nC (((50 : Int32) * v1) + (45 : Int32))) (oY_157n 0 6))) C 10 0 rfl rfl h.1 rfl dX10_image_170 ?_
        replace h := h.2
        refine SW.aload_n C dX10_image_171 rfl 0 rfl ?_
        refine SW.get (v := .ref (qY 10)) (T := TX10) (N := 25) C inX10_image_X10 0 rfl rfl 23 (by decide) lkX10_image_51 rfl dX10_image_172 ?_
        refine SW.iload_n C dX10_image_175 rfl 2 rfl ?_
        refine SW.bipush (v := (46 : Int32)) C dX10_image_176 (by decide) ?_
        refine SW.iadd C dX10_image_178 ?_
        refine SW.aload_n C dX10_image_179 rfl 0 rfl ?_
        refine SW.get (v := .int (oY_170n 0 8)) (T := TX10) (N := 25) C inX10_image_X10 0 rfl rfl 8 (by decide) lkX10_image_66 rfl dX10_image_180 ?_
        refine SW.nameOb (wz := fun z => w10 cI cZ qY z) (o := (pa oY_170n 10 (nC (((50 : Int32) * v1) + (45 : Int32))) (oY_157n 0 6))) (fun oY_183n he => ?_)
        replace h := h oY_183n he
        refine SW.iast (ws' := w10 cI cZ qY (pa oY_183n 10 (nC (((50 : Int32) * v1) + (46 : Int32))) (oY_170n 0 8))) C 10 0 rfl rfl h.1 rfl dX10_image_183 ?_
        replace h := h.2
        refine SW.aload_n C dX10_image_184 rfl 0 rfl ?_
        refine SW.get (v := .ref (qY 11)) (T := TX10) (N := 25) C inX10_image_X10 0 rfl rfl 24 (by decide) lkX10_image_54 rfl dX10_image_185 ?_
        refine SW.iload_n C dX10_image_188 rfl 1 rfl ?_
        refine SW.iconst (v := (1 : Int32)) C dX10_image_189 (by decide) ?_
        refine SW.nameOb (wz := fun z => w10 cI cZ qY z) (o := (pa oY_183n 10 (nC (((50 : Int32) * v1) + (46 : Int32))) (oY_170n 0 8))) (fun oY_190n he => ?_)
        replace h := h oY_190n he
        refine SW.zast (ws' := w10 cI cZ qY (pa oY_190n 11 (nC v1) (jb (1 : Int32)))) C 11 1 rfl rfl h.1 rfl dX10_image_190 ?_
        replace h := h.2
        refine SW.iconst (v := (1 : Int32)) C dX10_image_191 (by decide) ?_
        exact SW.iret C (pa oY_190n 11 (nC v1) (jb (1 : Int32))) rfl h dX10_image_192
  · replace h := h.1 hc
    refine SW.bipush (v := (-2 : Int32)) C dX10_image_9 (by decide) ?_
    exact SW.iret C oY rfl h dX10_image_11
def wpX10_restore_L31 (c2_31 : Int32) (K74 : Ob → Prop) : Nat → Int32 → Ob → Prop
  | 0, _, _ => False
  | fu31 + 1, v3_31, oY_31 => (((10 : Int32) ≤ v3_31) → K74 oY_31) ∧ (¬ ((10 : Int32) ≤ v3_31) → (vp_in (c2_31 + v3_31) 100) ∧ ((vp_in v3_31 10) ∧ ((vp_in ((c2_31 + (10 : Int32)) + v3_31) 100) ∧ (∀ oY_67n : Ob, oY_67n = (pa oY_31 1 (nC v3_31) (jld (oY_31 10) (c2_31 + v3_31))) → ((vp_in v3_31 10) ∧ (wpX10_restore_L31 c2_31 K74 fu31 (v3_31 + (1 : Int32)) (pa oY_67n 2 (nC v3_31) (jld (oY_31 10) ((c2_31 + (10 : Int32)) + v3_31)))))))))
def wpX10_restore_L76 (c2_76 : Int32) (K105 : Ob → Prop) : Nat → Int32 → Ob → Prop
  | 0, _, _ => False
  | fu76 + 1, v3_76, oY_76 => (((16 : Int32) ≤ v3_76) → K105 oY_76) ∧ (¬ ((16 : Int32) ≤ v3_76) → (vp_in ((c2_76 + (20 : Int32)) + v3_76) 100) ∧ ((vp_in v3_76 16) ∧ (wpX10_restore_L76 c2_76 K105 fu76 (v3_76 + (1 : Int32)) (pa oY_76 3 (nC v3_76) (jld (oY_76 10) ((c2_76 + (20 : Int32)) + v3_76))))))
def wpX10_restore (oY : Ob) (v1 : Int32) (post : Int32 → Ob → Prop) : Prop := wpX10_in v1 (0 : Int32) (1 : Int32) (fun (r3 : Int32) => ((r3 = 0) → post (-2 : Int32) oY) ∧ (¬ (r3 = 0) → (vp_in v1 2) ∧ ((((jld (oY 11) v1) = 0) → post (-3 : Int32) oY) ∧ (¬ ((jld (oY 11) v1) = 0) → ∃ fu31 : Nat, wpX10_restore_L31 ((50 : Int32) * v1) (fun (oY_74 : Ob) => ∃ fu76 : Nat, wpX10_restore_L76 ((50 : Int32) * v1) (fun (oY_105 : Ob) => (vp_in (((50 : Int32) * v1) + (40 : Int32)) 100) ∧ ((vp_in (((50 : Int32) * v1) + (41 : Int32)) 100) ∧ ((vp_in (((50 : Int32) * v1) + (42 : Int32)) 100) ∧ ((vp_in (((50 : Int32) * v1) + (43 : Int32)) 100) ∧ ((vp_in (((50 : Int32) * v1) + (44 : Int32)) 100) ∧ ((vp_in (((50 : Int32) * v1) + (45 : Int32)) 100) ∧ ((vp_in (((50 : Int32) * v1) + (46 : Int32)) 100) ∧ (post (1 : Int32) (pf (pf (pf (pf (pf (pf (pf oY_105 0 (jld (oY_105 10) (((50 : Int32) * v1) + (40 : Int32)))) 2 (jld (oY_105 10) (((50 : Int32) * v1) + (41 : Int32)))) 3 (jld (oY_105 10) (((50 : Int32) * v1) + (42 : Int32)))) 4 (jld (oY_105 10) (((50 : Int32) * v1) + (43 : Int32)))) 5 (jld (oY_105 10) (((50 : Int32) * v1) + (44 : Int32)))) 6 (jld (oY_105 10) (((50 : Int32) * v1) + (45 : Int32)))) 8 (jld (oY_105 10) (((50 : Int32) * v1) + (46 : Int32)))))))))))) fu76 (0 : Int32) oY_74) fu31 (0 : Int32) oY))))
theorem pdX10_restore : yX10_restore.cls = RX10 ∧ yX10_restore.cls ≠ "java/lang/invoke/MethodHandle" ∧ yX10_restore.cls ≠ "java/lang/invoke/VarHandle" ∧ (parseMethodDescriptor yX10_restore.desc).map (fun d => d.parameters.length) = some 1 := by decide +kernel
theorem lkX10_restore_54 : Cond.fieldLink RX10 54 (TX10 24).1 (TX10 24).2.1 (TX10 24).2.2.1 ∈ wsX10_restore := by decide +kernel
theorem inX10_restore_X10 : ∀ w ∈ u_ws RX10 TX10 25, w ∈ wsX10_restore := by decide +kernel
theorem lkX10_restore_13 : Cond.fieldLink RX10 13 (TX10 1).1 (TX10 1).2.1 (TX10 1).2.2.1 ∈ wsX10_restore := by decide +kernel
theorem lkX10_restore_51 : Cond.fieldLink RX10 51 (TX10 23).1 (TX10 23).2.1 (TX10 23).2.2.1 ∈ wsX10_restore := by decide +kernel
theorem lkX10_restore_26 : Cond.fieldLink RX10 26 (TX10 7).1 (TX10 7).2.1 (TX10 7).2.2.1 ∈ wsX10_restore := by decide +kernel
theorem lkX10_restore_29 : Cond.fieldLink RX10 29 (TX10 9).1 (TX10 9).2.1 (TX10 9).2.2.1 ∈ wsX10_restore := by decide +kernel
theorem lkX10_restore_7 : Cond.fieldLink RX10 7 (TX10 0).1 (TX10 0).2.1 (TX10 0).2.2.1 ∈ wsX10_restore := by decide +kernel
theorem lkX10_restore_17 : Cond.fieldLink RX10 17 (TX10 2).1 (TX10 2).2.1 (TX10 2).2.2.1 ∈ wsX10_restore := by decide +kernel
theorem lkX10_restore_20 : Cond.fieldLink RX10 20 (TX10 3).1 (TX10 3).2.1 (TX10 3).2.2.1 ∈ wsX10_restore := by decide +kernel
theorem lkX10_restore_23 : Cond.fieldLink RX10 23 (TX10 4).1 (TX10 4).2.1 (TX10 4).2.2.1 ∈ wsX10_restore := by decide +kernel
theorem lkX10_restore_60 : Cond.fieldLink RX10 60 (TX10 5).1 (TX10 5).2.1 (TX10 5).2.2.1 ∈ wsX10_restore := by decide +kernel
theorem lkX10_restore_63 : Cond.fieldLink RX10 63 (TX10 6).1 (TX10 6).2.1 (TX10 6).2.2.1 ∈ wsX10_restore := by decide +kernel
theorem lkX10_restore_66 : Cond.fieldLink RX10 66 (TX10 8).1 (TX10 8).2.1 (TX10 8).2.2.1 ∈ wsX10_restore := by decide +kernel
set_option maxHeartbeats 4000000 in
set_option maxRecDepth 100000 in
theorem ctX10_restore (l : Launch) (D : va_G) (cI cZ : ClassId) (qY : Nat → Nat) (oY : Ob) (v1 : Int32) (post : Int32 → Ob → Prop) (h : wpX10_restore oY v1 post) : CTi l yX10_restore wsX10_restore { frames := 1, cells := 0, slots := 0, locals := 22 } D [(cI, .int), (cZ, .boolean)] [.ref (qY 0), .int v1] (w10 cI cZ qY oY) (fun u : Ob => w10 cI cZ qY u) (fun (r : Int32) (u : Ob) => post r u) := by
  refine CTi.of (cc := cX10_restore) (own := RX10) (maxL := 4) (ret := (some .int)) (lv0 := [(0, .ref (qY 0)), (1, .int v1)]) (by decide) rfl rfl (Nat.le_of_ble_eq_true rfl) rfl ?_
  intro p e s m args below meth c A C
  unfold wpX10_restore at h
  refine SW.iload_n C dX10_restore_0 rfl 1 rfl ?_
  refine SW.iconst (v := (0 : Int32)) C dX10_restore_1 (by decide) ?_
  refine SW.iconst (v := (1 : Int32)) C dX10_restore_2 (by decide) ?_
  refine SW.callSi_pure C (ctX10_in l D cI cZ v1 (0 : Int32) (1 : Int32) _ h) gX10_restore_X10_in rfl rfl rfl pdX10_in ⟨by decide, by decide⟩ rfl rfl (Nat.le_of_ble_eq_true rfl) dX10_restore_3 (by decide) (fun r3 u h => ?_)
  try dsimp only at h
  refine SW.if_ne (tgt := 12) C dX10_restore_6 (by decide) (fun hc => ?_) (fun hc => ?_)
  · replace h := h.2 hc
    refine SW.aload_n C dX10_restore_12 rfl 0 rfl ?_
    refine SW.get (v := .ref (qY 11)) (T := TX10) (N := 25) C inX10_restore_X10 0 rfl rfl 24 (by decide) lkX10_restore_54 rfl dX10_restore_13 ?_
    refine SW.iload_n C dX10_restore_16 rfl 1 rfl ?_
    refine SW.zald C 11 1 rfl rfl h.1 dX10_restore_17 ?_
    replace h := h.2
    refine SW.if_ne (tgt := 24) C dX10_restore_18 (by decide) (fun hc => ?_) (fun hc => ?_)
    · replace h := h.2 hc
      refine SW.bipush (v := (50 : Int32)) C dX10_restore_24 (by decide) ?_
      refine SW.iload_n C dX10_restore_26 rfl 1 rfl ?_
      refine SW.imul C dX10_restore_27 ?_
      refine SW.istore_n (lv' := [(2, .int ((50 : Int32) * v1)), (0, .ref (qY 0)), (1, .int v1)]) C dX10_restore_28 rfl (by decide) rfl ?_
      refine SW.iconst (v := (0 : Int32)) C dX10_restore_29 (by decide) ?_
      refine SW.istore_n (lv' := [(3, .int (0 : Int32)), (2, .int ((50 : Int32) * v1)), (0, .ref (qY 0)), (1, .int v1)]) C dX10_restore_30 rfl (by decide) rfl ?_
      have L31 : ∀ (K74 : Ob → Prop) (hK74 : ∀ (oY_74 : Ob), K74 oY_74 → SW p l e { frames := 1, cells := 0, slots := 0, locals := 22 } s m args below meth c A D 4 0 0 (MQ below (va_Qi (fun (r : Int32) (u : Ob) => post r u) (ctB D A (fun u : Ob => w10 cI cZ qY u)) A) args s 0 0 A) (w10 cI cZ qY oY_74) 74 [(0, .ref (qY 0)), (2, .int ((50 : Int32) * v1))] []) (fu : Nat) (v3_31 : Int32) (oY_31 : Ob), wpX10_restore_L31 ((50 : Int32) * v1) K74 fu v3_31 oY_31 → SW p l e { frames := 1, cells := 0, slots := 0, locals := 22 } s m args below meth c A D 4 0 0 (MQ below (va_Qi (fun (r : Int32) (u : Ob) => post r u) (ctB D A (fun u : Ob => w10 cI cZ qY u)) A) args s 0 0 A) (w10 cI cZ qY oY_31) 31 [(0, .ref (qY 0)), (2, .int ((50 : Int32) * v1)), (3, .int v3_31)] [] := by
        intro K74 hK74 fu
        induction fu with
        | zero =>
          intro v3_31 oY_31 h
          exact False.elim h
        | succ fu ih =>
          intro v3_31 oY_31 h
          unfold wpX10_restore_L31 at h
          refine SW.iload_n C dX10_restore_31 rfl 2 rfl ?_
          refine SW.bipush (v := (10 : Int32)) C dX10_restore_32 (by decide) ?_
          refine SW.icmp_ge (tgt := 74) C dX10_restore_34 (by decide) (fun hc => ?_) (fun hc => ?_)
          · replace h := h.1 hc
            refine SW.sub [0, 1] rfl ?_
            exact hK74 _ h
          · replace h := h.2 hc
            refine SW.aload_n C dX10_restore_37 rfl 0 rfl ?_
            refine SW.get (v := .ref (qY 1)) (T := TX10) (N := 25) C inX10_restore_X10 0 rfl rfl 1 (by decide) lkX10_restore_13 rfl dX10_restore_38 ?_
            refine SW.iload_n C dX10_restore_41 rfl 2 rfl ?_
            refine SW.aload_n C dX10_restore_42 rfl 0 rfl ?_
            refine SW.get (v := .ref (qY 10)) (T := TX10) (N := 25) C inX10_restore_X10 0 rfl rfl 23 (by decide) lkX10_restore_51 rfl dX10_restore_43 ?_
            refine SW.iload_n C dX10_restore_46 rfl 1 rfl ?_
            refine SW.iload_n C dX10_restore_47 rfl 2 rfl ?_
            refine SW.iadd C dX10_restore_48 ?_
            refine SW.iald C 10 0 rfl rfl h.1 dX10_restore_49 ?_
            replace h := h.2
            refine SW.iast (ws' := w10 cI cZ qY (pa oY_31 1 (nC v3_31) (jld (oY_31 10) (((50 : Int32) * v1) + v3_31)))) C 1 0 rfl rfl h.1 rfl dX10_restore_50 ?_
            replace h := h.2
            refine SW.aload_n C dX10_restore_51 rfl 0 rfl ?_
            refine SW.get (v := .ref (qY 2)) (T := TX10) (N := 25) C inX10_restore_X10 0 rfl rfl 7 (by decide) lkX10_restore_26 rfl dX10_restore_52 ?_
            refine SW.iload_n C dX10_restore_55 rfl 2 rfl ?_
            refine SW.aload_n C dX10_restore_56 rfl 0 rfl ?_
            refine SW.get (v := .ref (qY 10)) (T := TX10) (N := 25) C inX10_restore_X10 0 rfl rfl 23 (by decide) lkX10_restore_51 rfl dX10_restore_57 ?_
            refine SW.iload_n C dX10_restore_60 rfl 1 rfl ?_
            refine SW.bipush (v := (10 : Int32)) C dX10_restore_61 (by decide) ?_
            refine SW.iadd C dX10_restore_63 ?_
            refine SW.iload_n C dX10_restore_64 rfl 2 rfl ?_
            refine SW.iadd C dX10_restore_65 ?_
            refine SW.iald C 10 0 rfl rfl h.1 dX10_restore_66 ?_
            replace h := h.2
            refine SW.nameOb (wz := fun z => w10 cI cZ qY z) (o := (pa oY_31 1 (nC v3_31) (jld (oY_31 10) (((50 : Int32) * v1) + v3_31)))) (fun oY_67n he => ?_)
            replace h := h oY_67n he
            refine SW.iast (ws' := w10 cI cZ qY (pa oY_67n 2 (nC v3_31) (jld (oY_31 10) ((((50 : Int32) * v1) + (10 : Int32)) + v3_31)))) C 2 0 rfl rfl h.1 rfl dX10_restore_67 ?_
            replace h := h.2
            refine SW.iinc (q := 2) (v := (v3_31 + (1 : Int32))) (lv' := [(3, .int (v3_31 + (1 : Int32))), (0, .ref (qY 0)), (2, .int ((50 : Int32) * v1))]) C dX10_restore_68 rfl rfl (by decide) rfl ?_
            refine SW.goto (tgt := 31) C dX10_restore_71 (by decide) ?_
            refine SW.sub [1, 2, 0] rfl ?_
            exact ih _ _ h
      obtain ⟨fu, h⟩ := h
      refine SW.sub [2, 1, 0] rfl ?_
      refine L31 _ (fun oY_74 h => ?_) fu _ _ h
      · refine SW.iconst (v := (0 : Int32)) C dX10_restore_74 (by decide) ?_
        refine SW.istore_n (lv' := [(3, .int (0 : Int32)), (0, .ref (qY 0)), (2, .int ((50 : Int32) * v1))]) C dX10_restore_75 rfl (by decide) rfl ?_
        have L76 : ∀ (K105 : Ob → Prop) (hK105 : ∀ (oY_105 : Ob), K105 oY_105 → SW p l e { frames := 1, cells := 0, slots := 0, locals := 22 } s m args below meth c A D 4 0 0 (MQ below (va_Qi (fun (r : Int32) (u : Ob) => post r u) (ctB D A (fun u : Ob => w10 cI cZ qY u)) A) args s 0 0 A) (w10 cI cZ qY oY_105) 105 [(0, .ref (qY 0)), (2, .int ((50 : Int32) * v1))] []) (fu : Nat) (v3_76 : Int32) (oY_76 : Ob), wpX10_restore_L76 ((50 : Int32) * v1) K105 fu v3_76 oY_76 → SW p l e { frames := 1, cells := 0, slots := 0, locals := 22 } s m args below meth c A D 4 0 0 (MQ below (va_Qi (fun (r : Int32) (u : Ob) => post r u) (ctB D A (fun u : Ob => w10 cI cZ qY u)) A) args s 0 0 A) (w10 cI cZ qY oY_76) 76 [(0, .ref (qY 0)), (2, .int ((50 : Int32) * v1)), (3, .int v3_76)] [] := by
          intro K105 hK105 fu
          induction fu with
          | zero =>
            intro v3_76 oY_76 h
            exact False.elim h
          | succ fu ih =>
            intro v3_76 oY_76 h
            unfold wpX10_restore_L76 at h
            refine SW.iload_n C dX10_restore_76 rfl 2 rfl ?_
            refine SW.bipush (v := (16 : Int32)) C dX10_restore_77 (by decide) ?_
            refine SW.icmp_ge (tgt := 105) C dX10_restore_79 (by decide) (fun hc => ?_) (fun hc => ?_)
            · replace h := h.1 hc
              refine SW.sub [0, 1] rfl ?_
              exact hK105 _ h
            · replace h := h.2 hc
              refine SW.aload_n C dX10_restore_82 rfl 0 rfl ?_
              refine SW.get (v := .ref (qY 3)) (T := TX10) (N := 25) C inX10_restore_X10 0 rfl rfl 9 (by decide) lkX10_restore_29 rfl dX10_restore_83 ?_
              refine SW.iload_n C dX10_restore_86 rfl 2 rfl ?_
              refine SW.aload_n C dX10_restore_87 rfl 0 rfl ?_
              refine SW.get (v := .ref (qY 10)) (T := TX10) (N := 25) C inX10_restore_X10 0 rfl rfl 23 (by decide) lkX10_restore_51 rfl dX10_restore_88 ?_
              refine SW.iload_n C dX10_restore_91 rfl 1 rfl ?_
              refine SW.bipush (v := (20 : Int32)) C dX10_restore_92 (by decide) ?_
              refine SW.iadd C dX10_restore_94 ?_
              refine SW.iload_n C dX10_restore_95 rfl 2 rfl ?_
              refine SW.iadd C dX10_restore_96 ?_
              refine SW.iald C 10 0 rfl rfl h.1 dX10_restore_97 ?_
              replace h := h.2
              refine SW.iast (ws' := w10 cI cZ qY (pa oY_76 3 (nC v3_76) (jld (oY_76 10) ((((50 : Int32) * v1) + (20 : Int32)) + v3_76)))) C 3 0 rfl rfl h.1 rfl dX10_restore_98 ?_
              replace h := h.2
              refine SW.iinc (q := 2) (v := (v3_76 + (1 : Int32))) (lv' := [(3, .int (v3_76 + (1 : Int32))), (0, .ref (qY 0)), (2, .int ((50 : Int32) * v1))]) C dX10_restore_99 rfl rfl (by decide) rfl ?_
              refine SW.goto (tgt := 76) C dX10_restore_102 (by decide) ?_
              refine SW.sub [1, 2, 0] rfl ?_
              exact ih _ _ h
        obtain ⟨fu, h⟩ := h
        refine SW.sub [1, 2, 0] rfl ?_
        refine L76 _ (fun oY_105 h => ?_) fu _ _ h
        · refine SW.aload_n C dX10_restore_105 rfl 0 rfl ?_
          refine SW.aload_n C dX10_restore_106 rfl 0 rfl ?_
          refine SW.get (v := .ref (qY 10)) (T := TX10) (N := 25) C inX10_restore_X10 0 rfl rfl 23 (by decide) lkX10_restore_51 rfl dX10_restore_107 ?_
          refine SW.iload_n C dX10_restore_110 rfl 1 rfl ?_
          refine SW.bipush (v := (40 : Int32)) C dX10_restore_111 (by decide) ?_
          refine SW.iadd C dX10_restore_113 ?_
          refine SW.iald C 10 0 rfl rfl h.1 dX10_restore_114 ?_
          replace h := h.2
          refine SW.put (ws' := w10 cI cZ qY (pf oY_105 0 (jld (oY_105 10) (((50 : Int32) * v1) + (40 : Int32))))) (T := TX10) (N := 25) C inX10_restore_X10 tyX10 tyX10_ok nmX10 0 rfl rfl 0 (by decide) lkX10_restore_7 rfl rfl rfl (Nat.le_of_ble_eq_true rfl) rfl dX10_restore_115 ?_
          refine SW.aload_n C dX10_restore_118 rfl 0 rfl ?_
          refine SW.aload_n C dX10_restore_119 rfl 0 rfl ?_
          refine SW.get (v := .ref (qY 10)) (T := TX10) (N := 25) C inX10_restore_X10 0 rfl rfl 23 (by decide) lkX10_restore_51 rfl dX10_restore_120 ?_
          refine SW.iload_n C dX10_restore_123 rfl 1 rfl ?_
          refine SW.bipush (v := (41 : Int32)) C dX10_restore_124 (by decide) ?_
          refine SW.iadd C dX10_restore_126 ?_
          refine SW.iald C 10 0 rfl rfl h.1 dX10_restore_127 ?_
          replace h := h.2
          refine SW.put (ws' := w10 cI cZ qY (pf (pf oY_105 0 (jld (oY_105 10) (((50 : Int32) * v1) + (40 : Int32)))) 2 (jld (oY_105 10) (((50 : Int32) * v1) + (41 : Int32))))) (T := TX10) (N := 25) C inX10_restore_X10 tyX10 tyX10_ok nmX10 0 rfl rfl 2 (by decide) lkX10_restore_17 rfl rfl rfl (Nat.le_of_ble_eq_true rfl) rfl dX10_restore_128 ?_
          refine SW.aload_n C dX10_restore_131 rfl 0 rfl ?_
          refine SW.aload_n C dX10_restore_132 rfl 0 rfl ?_
          refine SW.get (v := .ref (qY 10)) (T := TX10) (N := 25) C inX10_restore_X10 0 rfl rfl 23 (by decide) lkX10_restore_51 rfl dX10_restore_133 ?_
          refine SW.iload_n C dX10_restore_136 rfl 1 rfl ?_
          refine SW.bipush (v := (42 : Int32)) C dX10_restore_137 (by decide) ?_
          refine SW.iadd C dX10_restore_139 ?_
          refine SW.iald C 10 0 rfl rfl h.1 dX10_restore_140 ?_
          replace h := h.2
          refine SW.put (ws' := w10 cI cZ qY (pf (pf (pf oY_105 0 (jld (oY_105 10) (((50 : Int32) * v1) + (40 : Int32)))) 2 (jld (oY_105 10) (((50 : Int32) * v1) + (41 : Int32)))) 3 (jld (oY_105 10) (((50 : Int32) * v1) + (42 : Int32))))) (T := TX10) (N := 25) C inX10_restore_X10 tyX10 tyX10_ok nmX10 0 rfl rfl 3 (by decide) lkX10_restore_20 rfl rfl rfl (Nat.le_of_ble_eq_true rfl) rfl dX10_restore_141 ?_
          refine SW.aload_n C dX10_restore_144 rfl 0 rfl ?_
          refine SW.aload_n C dX10_restore_145 rfl 0 rfl ?_
          refine SW.get (v := .ref (qY 10)) (T := TX10) (N := 25) C inX10_restore_X10 0 rfl rfl 23 (by decide) lkX10_restore_51 rfl dX10_restore_146 ?_
          refine SW.iload_n C dX10_restore_149 rfl 1 rfl ?_
          refine SW.bipush (v := (43 : Int32)) C dX10_restore_150 (by decide) ?_
          refine SW.iadd C dX10_restore_152 ?_
          refine SW.iald C 10 0 rfl rfl h.1 dX10_restore_153 ?_
          replace h := h.2
          refine SW.put (ws' := w10 cI cZ qY (pf (pf (pf (pf oY_105 0 (jld (oY_105 10) (((50 : Int32) * v1) + (40 : Int32)))) 2 (jld (oY_105 10) (((50 : Int32) * v1) + (41 : Int32)))) 3 (jld (oY_105 10) (((50 : Int32) * v1) + (42 : Int32)))) 4 (jld (oY_105 10) (((50 : Int32) * v1) + (43 : Int32))))) (T := TX10) (N := 25) C inX10_restore_X10 tyX10 tyX10_ok nmX10 0 rfl rfl 4 (by decide) lkX10_restore_23 rfl rfl rfl (Nat.le_of_ble_eq_true rfl) rfl dX10_restore_154 ?_
          refine SW.aload_n C dX10_restore_157 rfl 0 rfl ?_
          refine SW.aload_n C dX10_restore_158 rfl 0 rfl ?_
          refine SW.get (v := .ref (qY 10)) (T := TX10) (N := 25) C inX10_restore_X10 0 rfl rfl 23 (by decide) lkX10_restore_51 rfl dX10_restore_159 ?_
          refine SW.iload_n C dX10_restore_162 rfl 1 rfl ?_
          refine SW.bipush (v := (44 : Int32)) C dX10_restore_163 (by decide) ?_
          refine SW.iadd C dX10_restore_165 ?_
          refine SW.iald C 10 0 rfl rfl h.1 dX10_restore_166 ?_
          replace h := h.2
          refine SW.put (ws' := w10 cI cZ qY (pf (pf (pf (pf (pf oY_105 0 (jld (oY_105 10) (((50 : Int32) * v1) + (40 : Int32)))) 2 (jld (oY_105 10) (((50 : Int32) * v1) + (41 : Int32)))) 3 (jld (oY_105 10) (((50 : Int32) * v1) + (42 : Int32)))) 4 (jld (oY_105 10) (((50 : Int32) * v1) + (43 : Int32)))) 5 (jld (oY_105 10) (((50 : Int32) * v1) + (44 : Int32))))) (T := TX10) (N := 25) C inX10_restore_X10 tyX10 tyX10_ok nmX10 0 rfl rfl 5 (by decide) lkX10_restore_60 rfl rfl rfl (Nat.le_of_ble_eq_true rfl) rfl dX10_restore_167 ?_
          refine SW.aload_n C dX10_restore_170 rfl 0 rfl ?_
          refine SW.aload_n C dX10_restore_171 rfl 0 rfl ?_
          refine SW.get (v := .ref (qY 10)) (T := TX10) (N := 25) C inX10_restore_X10 0 rfl rfl 23 (by decide) lkX10_restore_51 rfl dX10_restore_172 ?_
          refine SW.iload_n C dX10_restore_175 rfl 1 rfl ?_
          refine SW.bipush (v := (45 : Int32)) C dX10_restore_176 (by decide) ?_
          refine SW.iadd C dX10_restore_178 ?_
          refine SW.iald C 10 0 rfl rfl h.1 dX10_restore_179 ?_
          replace h := h.2
          refine SW.put (ws' := w10 cI cZ qY (pf (pf (pf (pf (pf (pf oY_105 0 (jld (oY_105 10) (((50 : Int32) * v1) + (40 : Int32)))) 2 (jld (oY_105 10) (((50 : Int32) * v1) + (41 : Int32)))) 3 (jld (oY_105 10) (((50 : Int32) * v1) + (42 : Int32)))) 4 (jld (oY_105 10) (((50 : Int32) * v1) + (43 : Int32)))) 5 (jld (oY_105 10) (((50 : Int32) * v1) + (44 : Int32)))) 6 (jld (oY_105 10) (((50 : Int32) * v1) + (45 : Int32))))) (T := TX10) (N := 25) C inX10_restore_X10 tyX10 tyX10_ok nmX10 0 rfl rfl 6 (by decide) lkX10_restore_63 rfl rfl rfl (Nat.le_of_ble_eq_true rfl) rfl dX10_restore_180 ?_
          refine SW.aload_n C dX10_restore_183 rfl 0 rfl ?_
          refine SW.aload_n C dX10_restore_184 rfl 0 rfl ?_
          refine SW.get (v := .ref (qY 10)) (T := TX10) (N := 25) C inX10_restore_X10 0 rfl rfl 23 (by decide) lkX10_restore_51 rfl dX10_restore_185 ?_
          refine SW.iload_n C dX10_restore_188 rfl 1 rfl ?_
          refine SW.bipush (v := (46 : Int32)) C dX10_restore_189 (by decide) ?_
          refine SW.iadd C dX10_restore_191 ?_
          refine SW.iald C 10 0 rfl rfl h.1 dX10_restore_192 ?_
          replace h := h.2
          refine SW.put (ws' := w10 cI cZ qY (pf (pf (pf (pf (pf (pf (pf oY_105 0 (jld (oY_105 10) (((50 : Int32) * v1) + (40 : Int32)))) 2 (jld (oY_105 10) (((50 : Int32) * v1) + (41 : Int32)))) 3 (jld (oY_105 10) (((50 : Int32) * v1) + (42 : Int32)))) 4 (jld (oY_105 10) (((50 : Int32) * v1) + (43 : Int32)))) 5 (jld (oY_105 10) (((50 : Int32) * v1) + (44 : Int32)))) 6 (jld (oY_105 10) (((50 : Int32) * v1) + (45 : Int32)))) 8 (jld (oY_105 10) (((50 : Int32) * v1) + (46 : Int32))))) (T := TX10) (N := 25) C inX10_restore_X10 tyX10 tyX10_ok nmX10 0 rfl rfl 8 (by decide) lkX10_restore_66 rfl rfl rfl (Nat.le_of_ble_eq_true rfl) rfl dX10_restore_193 ?_
          refine SW.iconst (v := (1 : Int32)) C dX10_restore_196 (by decide) ?_
          exact SW.iret C (pf (pf (pf (pf (pf (pf (pf oY_105 0 (jld (oY_105 10) (((50 : Int32) * v1) + (40 : Int32)))) 2 (jld (oY_105 10) (((50 : Int32) * v1) + (41 : Int32)))) 3 (jld (oY_105 10) (((50 : Int32) * v1) + (42 : Int32)))) 4 (jld (oY_105 10) (((50 : Int32) * v1) + (43 : Int32)))) 5 (jld (oY_105 10) (((50 : Int32) * v1) + (44 : Int32)))) 6 (jld (oY_105 10) (((50 : Int32) * v1) + (45 : Int32)))) 8 (jld (oY_105 10) (((50 : Int32) * v1) + (46 : Int32)))) rfl h dX10_restore_197
    · replace h := h.1 hc
      refine SW.bipush (v := (-3 : Int32)) C dX10_restore_21 (by decide) ?_
      exact SW.iret C oY rfl h dX10_restore_23
  · replace h := h.1 hc
    refine SW.bipush (v := (-2 : Int32)) C dX10_restore_9 (by decide) ?_
    exact SW.iret C oY rfl h dX10_restore_11
def wpX10_told (oY : Ob) (v1 : Int32) (post : Int32 → Prop) : Prop := ((v1 < (10 : Int32)) → ((v1 = (0 : Int32)) → post (oY 0 10)) ∧ ((v1 = (1 : Int32)) → post (oY 0 0)) ∧ ((v1 = (2 : Int32)) → post (oY 0 2)) ∧ ((v1 = (3 : Int32)) → post (oY 0 3)) ∧ ((v1 = (4 : Int32)) → post (oY 0 4)) ∧ ((v1 = (5 : Int32)) → post (oY 0 5)) ∧ ((v1 = (6 : Int32)) → post (oY 0 6)) ∧ (¬ v1 = (0 : Int32) → ¬ v1 = (1 : Int32) → ¬ v1 = (2 : Int32) → ¬ v1 = (3 : Int32) → ¬ v1 = (4 : Int32) → ¬ v1 = (5 : Int32) → ¬ v1 = (6 : Int32) → (((v1 = (7 : Int32)) → post (oY 0 8)) ∧ (¬ (v1 = (7 : Int32)) → post (-2 : Int32))))) ∧ (¬ (v1 < (10 : Int32)) → wpX10_isWindow oY (v1 - (10 : Int32)) (fun (r11 : Int32) => ((r11 = 0) → post (-2 : Int32)) ∧ (¬ (r11 = 0) → (vp_in (v1 - (10 : Int32)) 10) ∧ (post (jld (oY 1) (v1 - (10 : Int32)))))))
theorem pdX10_told : yX10_told.cls = RX10 ∧ yX10_told.cls ≠ "java/lang/invoke/MethodHandle" ∧ yX10_told.cls ≠ "java/lang/invoke/VarHandle" ∧ (parseMethodDescriptor yX10_told.desc).map (fun d => d.parameters.length) = some 1 := by decide +kernel
theorem lkX10_told_77 : Cond.fieldLink RX10 77 (TX10 10).1 (TX10 10).2.1 (TX10 10).2.2.1 ∈ wsX10_told := by decide +kernel
theorem inX10_told_X10 : ∀ w ∈ u_ws RX10 TX10 25, w ∈ wsX10_told := by decide +kernel
theorem lkX10_told_7 : Cond.fieldLink RX10 7 (TX10 0).1 (TX10 0).2.1 (TX10 0).2.2.1 ∈ wsX10_told := by decide +kernel
theorem lkX10_told_17 : Cond.fieldLink RX10 17 (TX10 2).1 (TX10 2).2.1 (TX10 2).2.2.1 ∈ wsX10_told := by decide +kernel
theorem lkX10_told_20 : Cond.fieldLink RX10 20 (TX10 3).1 (TX10 3).2.1 (TX10 3).2.2.1 ∈ wsX10_told := by decide +kernel
theorem lkX10_told_23 : Cond.fieldLink RX10 23 (TX10 4).1 (TX10 4).2.1 (TX10 4).2.2.1 ∈ wsX10_told := by decide +kernel
theorem lkX10_told_60 : Cond.fieldLink RX10 60 (TX10 5).1 (TX10 5).2.1 (TX10 5).2.2.1 ∈ wsX10_told := by decide +kernel
theorem lkX10_told_63 : Cond.fieldLink RX10 63 (TX10 6).1 (TX10 6).2.1 (TX10 6).2.2.1 ∈ wsX10_told := by decide +kernel
theorem lkX10_told_66 : Cond.fieldLink RX10 66 (TX10 8).1 (TX10 8).2.1 (TX10 8).2.2.1 ∈ wsX10_told := by decide +kernel
theorem lkX10_told_13 : Cond.fieldLink RX10 13 (TX10 1).1 (TX10 1).2.1 (TX10 1).2.2.1 ∈ wsX10_told := by decide +kernel
set_option maxHeartbeats 4000000 in
set_option maxRecDepth 100000 in
theorem ctX10_told (l : Launch) (D : va_G) (cI cZ : ClassId) (qY : Nat → Nat) (oY : Ob) (v1 : Int32) (post : Int32 → Prop) (h : wpX10_told oY v1 post) : CTi l yX10_told wsX10_told { frames := 2, cells := 0, slots := 0, locals := 43 } D [(cI, .int), (cZ, .boolean)] [.ref (qY 0), .int v1] (w10 cI cZ qY oY) (fun _ : Unit => w10 cI cZ qY oY) (fun (r : Int32) (_ : Unit) => post r) := by
  refine CTi.of (cc := cX10_told) (own := RX10) (maxL := 2) (ret := (some .int)) (lv0 := [(0, .ref (qY 0)), (1, .int v1)]) (by decide) rfl rfl (Nat.le_of_ble_eq_true rfl) rfl ?_
  intro p e s m args below meth c A C
  unfold wpX10_told at h
  refine SW.iload_n C dX10_told_0 rfl 1 rfl ?_
  refine SW.bipush (v := (10 : Int32)) C dX10_told_1 (by decide) ?_
  refine SW.icmp_lt (tgt := 32) C dX10_told_3 (by decide) (fun hc => ?_) (fun hc => ?_)
  · replace h := h.1 hc
    refine SW.iload_n C dX10_told_32 rfl 1 rfl ?_
    by_cases hs0 : v1 = (0 : Int32)
    · replace h := h.1 hs0
      refine SW.tableIn (tgt := 76) (off := 43) C dX10_told_33 (by rw [hs0]; decide) (by rw [hs0]; decide) (by rw [hs0]; rfl) (by decide) ?_
      refine SW.aload_n C dX10_told_76 rfl 0 rfl ?_
      refine SW.get (v := .int (oY 0 10)) (T := TX10) (N := 25) C inX10_told_X10 0 rfl rfl 10 (by decide) lkX10_told_77 rfl dX10_told_77 ?_
      exact SW.iret C () rfl h dX10_told_80
    by_cases hs1 : v1 = (1 : Int32)
    · replace h := h.2.1 hs1
      refine SW.tableIn (tgt := 81) (off := 48) C dX10_told_33 (by rw [hs1]; decide) (by rw [hs1]; decide) (by rw [hs1]; rfl) (by decide) ?_
      refine SW.aload_n C dX10_told_81 rfl 0 rfl ?_
      refine SW.get (v := .int (oY 0 0)) (T := TX10) (N := 25) C inX10_told_X10 0 rfl rfl 0 (by decide) lkX10_told_7 rfl dX10_told_82 ?_
      exact SW.iret C () rfl h dX10_told_85
    by_cases hs2 : v1 = (2 : Int32)
    · replace h := h.2.2.1 hs2
      refine SW.tableIn (tgt := 86) (off := 53) C dX10_told_33 (by rw [hs2]; decide) (by rw [hs2]; decide) (by rw [hs2]; rfl) (by decide) ?_
      refine SW.aload_n C dX10_told_86 rfl 0 rfl ?_
      refine SW.get (v := .int (oY 0 2)) (T := TX10) (N := 25) C inX10_told_X10 0 rfl rfl 2 (by decide) lkX10_told_17 rfl dX10_told_87 ?_
      exact SW.iret C () rfl h dX10_told_90
    by_cases hs3 : v1 = (3 : Int32)
    · replace h := h.2.2.2.1 hs3
      refine SW.tableIn (tgt := 91) (off := 58) C dX10_told_33 (by rw [hs3]; decide) (by rw [hs3]; decide) (by rw [hs3]; rfl) (by decide) ?_
      refine SW.aload_n C dX10_told_91 rfl 0 rfl ?_
      refine SW.get (v := .int (oY 0 3)) (T := TX10) (N := 25) C inX10_told_X10 0 rfl rfl 3 (by decide) lkX10_told_20 rfl dX10_told_92 ?_
      exact SW.iret C () rfl h dX10_told_95
    by_cases hs4 : v1 = (4 : Int32)
    · replace h := h.2.2.2.2.1 hs4
      refine SW.tableIn (tgt := 96) (off := 63) C dX10_told_33 (by rw [hs4]; decide) (by rw [hs4]; decide) (by rw [hs4]; rfl) (by decide) ?_
      refine SW.aload_n C dX10_told_96 rfl 0 rfl ?_
      refine SW.get (v := .int (oY 0 4)) (T := TX10) (N := 25) C inX10_told_X10 0 rfl rfl 4 (by decide) lkX10_told_23 rfl dX10_told_97 ?_
      exact SW.iret C () rfl h dX10_told_100
    by_cases hs5 : v1 = (5 : Int32)
    · replace h := h.2.2.2.2.2.1 hs5
      refine SW.tableIn (tgt := 101) (off := 68) C dX10_told_33 (by rw [hs5]; decide) (by rw [hs5]; decide) (by rw [hs5]; rfl) (by decide) ?_
      refine SW.aload_n C dX10_told_101 rfl 0 rfl ?_
      refine SW.get (v := .int (oY 0 5)) (T := TX10) (N := 25) C inX10_told_X10 0 rfl rfl 5 (by decide) lkX10_told_60 rfl dX10_told_102 ?_
      exact SW.iret C () rfl h dX10_told_105
    by_cases hs6 : v1 = (6 : Int32)
    · replace h := h.2.2.2.2.2.2.1 hs6
      refine SW.tableIn (tgt := 106) (off := 73) C dX10_told_33 (by rw [hs6]; decide) (by rw [hs6]; decide) (by rw [hs6]; rfl) (by decide) ?_
      refine SW.aload_n C dX10_told_106 rfl 0 rfl ?_
      refine SW.get (v := .int (oY 0 6)) (T := TX10) (N := 25) C inX10_told_X10 0 rfl rfl 6 (by decide) lkX10_told_63 rfl dX10_told_107 ?_
      exact SW.iret C () rfl h dX10_told_110
    replace h := h.2.2.2.2.2.2.2 hs0 hs1 hs2 hs3 hs4 hs5 hs6
    refine SW.tableOut (tgt := 111) C dX10_told_33 (by have e0 := sw_ne hs0; have e1 := sw_ne hs1; have e2 := sw_ne hs2; have e3 := sw_ne hs3; have e4 := sw_ne hs4; have e5 := sw_ne hs5; have e6 := sw_ne hs6; simp only [Int32.reduceToInt] at e0 e1 e2 e3 e4 e5 e6; omega) (by decide) ?_
    refine SW.iload_n C dX10_told_111 rfl 1 rfl ?_
    refine SW.bipush (v := (7 : Int32)) C dX10_told_112 (by decide) ?_
    refine SW.icmp_ne (tgt := 124) C dX10_told_114 (by decide) (fun hc => ?_) (fun hc => ?_)
    · replace h := h.2 hc
      refine SW.bipush (v := (-2 : Int32)) C dX10_told_124 (by decide) ?_
      exact SW.iret C () rfl h dX10_told_126
    · replace h := h.1 hc
      refine SW.aload_n C dX10_told_117 rfl 0 rfl ?_
      refine SW.get (v := .int (oY 0 8)) (T := TX10) (N := 25) C inX10_told_X10 0 rfl rfl 8 (by decide) lkX10_told_66 rfl dX10_told_118 ?_
      refine SW.goto (tgt := 126) C dX10_told_121 (by decide) ?_
      exact SW.iret C () rfl h dX10_told_126
  · replace h := h.2 hc
    refine SW.aload_n C dX10_told_6 rfl 0 rfl ?_
    refine SW.iload_n C dX10_told_7 rfl 1 rfl ?_
    refine SW.bipush (v := (10 : Int32)) C dX10_told_8 (by decide) ?_
    refine SW.isub C dX10_told_10 ?_
    refine SW.callVi_same C (ctX10_isWindow l D cI cZ qY oY (v1 - (10 : Int32)) _ h) gX10_told_X10_isWindow rfl rfl rfl pdX10_isWindow ⟨by decide, by decide⟩ 0 rfl rfl rfl rfl rfl (Nat.le_of_ble_eq_true rfl) dX10_told_11 (by decide) (fun r11 u h => ?_)
    try dsimp only at h
    refine SW.if_eq (tgt := 29) C dX10_told_14 (by decide) (fun hc => ?_) (fun hc => ?_)
    · replace h := h.1 hc
      refine SW.bipush (v := (-2 : Int32)) C dX10_told_29 (by decide) ?_
      exact SW.iret C () rfl h dX10_told_31
    · replace h := h.2 hc
      refine SW.aload_n C dX10_told_17 rfl 0 rfl ?_
      refine SW.get (v := .ref (qY 1)) (T := TX10) (N := 25) C inX10_told_X10 0 rfl rfl 1 (by decide) lkX10_told_13 rfl dX10_told_18 ?_
      refine SW.iload_n C dX10_told_21 rfl 1 rfl ?_
      refine SW.bipush (v := (10 : Int32)) C dX10_told_22 (by decide) ?_
      refine SW.isub C dX10_told_24 ?_
      refine SW.iald C 1 0 rfl rfl h.1 dX10_told_25 ?_
      replace h := h.2
      refine SW.goto (tgt := 31) C dX10_told_26 (by decide) ?_
      exact SW.iret C () rfl h dX10_told_31
