def wpX10_clear_L22 (K48 : Ob → Prop) : Nat → Int32 → Ob → Prop
  | 0, _, _ => False
  | fu22 + 1, v1_22, oY_22 => (((10 : Int32) ≤ v1_22) → K48 oY_22) ∧ (¬ ((10 : Int32) ≤ v1_22) → (vp_in v1_22 10) ∧ (∀ oY_41n : Ob, oY_41n = (pa oY_22 1 (nC v1_22) (2 : Int32)) → ((vp_in v1_22 10) ∧ (wpX10_clear_L22 K48 fu22 (v1_22 + (1 : Int32)) (pa oY_41n 2 (nC v1_22) (0 : Int32))))))
def wpX10_clear (oY : Ob) (post : Ob → Prop) : Prop := ∀ oY_7n : Ob, oY_7n = (pf oY 2 (2 : Int32)) → (∀ oY_12n : Ob, oY_12n = (pf oY_7n 5 (0 : Int32)) → (∀ oY_17n : Ob, oY_17n = (pf oY_12n 6 (0 : Int32)) → (∃ fu22 : Nat, wpX10_clear_L22 (fun (oY_48 : Ob) => post oY_48) fu22 (0 : Int32) (pf oY_17n 8 (0 : Int32)))))
theorem pdX10_clear : yX10_clear.cls = RX10 ∧ yX10_clear.cls ≠ "java/lang/invoke/MethodHandle" ∧ yX10_clear.cls ≠ "java/lang/invoke/VarHandle" ∧ (parseMethodDescriptor yX10_clear.desc).map (fun d => d.parameters.length) = some 0 := by decide +kernel
theorem lkX10_clear_17 : Cond.fieldLink RX10 17 (TX10 2).1 (TX10 2).2.1 (TX10 2).2.2.1 ∈ wsX10_clear := by decide +kernel
theorem inX10_clear_X10 : ∀ w ∈ u_ws RX10 TX10 25, w ∈ wsX10_clear := by decide +kernel
theorem lkX10_clear_60 : Cond.fieldLink RX10 60 (TX10 5).1 (TX10 5).2.1 (TX10 5).2.2.1 ∈ wsX10_clear := by decide +kernel
theorem lkX10_clear_63 : Cond.fieldLink RX10 63 (TX10 6).1 (TX10 6).2.1 (TX10 6).2.2.1 ∈ wsX10_clear := by decide +kernel
theorem lkX10_clear_66 : Cond.fieldLink RX10 66 (TX10 8).1 (TX10 8).2.1 (TX10 8).2.2.1 ∈ wsX10_clear := by decide +kernel
theorem lkX10_clear_13 : Cond.fieldLink RX10 13 (TX10 1).1 (TX10 1).2.1 (TX10 1).2.2.1 ∈ wsX10_clear := by decide +kernel
theorem lkX10_clear_26 : Cond.fieldLink RX10 26 (TX10 7).1 (TX10 7).2.1 (TX10 7).2.2.1 ∈ wsX10_clear := by decide +kernel
set_option maxHeartbeats 4000000 in
set_option maxRecDepth 100000 in
theorem ctX10_clear (l : Launch) (D : va_G) (cI cZ : ClassId) (qY : Nat → Nat) (oY : Ob) (post : Ob → Prop) (h : wpX10_clear oY post) : CTv l yX10_clear wsX10_clear { frames := 0, cells := 0, slots := 0, locals := 0 } D [(cI, .int), (cZ, .boolean)] [.ref (qY 0)] (w10 cI cZ qY oY) (fun u : Ob => w10 cI cZ qY u) (fun (u : Ob) => post u) := by
  refine CTv.of (cc := cX10_clear) (own := RX10) (maxL := 2) (ret := none) (lv0 := [(0, .ref (qY 0))]) (by decide) rfl rfl (Nat.le_of_ble_eq_true rfl) rfl ?_
  intro p e s m args below meth c A C
  unfold wpX10_clear at h
  refine SW.aload_n C dX10_clear_0 rfl 0 rfl ?_
  refine SW.iconst (v := (2 : Int32)) C dX10_clear_1 (by decide) ?_
  refine SW.put (ws' := w10 cI cZ qY (pf oY 2 (2 : Int32))) (T := TX10) (N := 25) C inX10_clear_X10 tyX10 tyX10_ok nmX10 0 rfl rfl 2 (by decide) lkX10_clear_17 rfl rfl rfl (Nat.le_of_ble_eq_true rfl) rfl dX10_clear_2 ?_
  refine SW.aload_n C dX10_clear_5 rfl 0 rfl ?_
  refine SW.iconst (v := (0 : Int32)) C dX10_clear_6 (by decide) ?_
  refine SW.nameOb (wz := fun z => w10 cI cZ qY z) (o := (pf oY 2 (2 : Int32))) (fun oY_7n he => ?_)
  replace h := h oY_7n he
  refine SW.put (ws' := w10 cI cZ qY (pf oY_7n 5 (0 : Int32))) (T := TX10) (N := 25) C inX10_clear_X10 tyX10 tyX10_ok nmX10 0 rfl rfl 5 (by decide) lkX10_clear_60 rfl rfl rfl (Nat.le_of_ble_eq_true rfl) rfl dX10_clear_7 ?_
  refine SW.aload_n C dX10_clear_10 rfl 0 rfl ?_
  refine SW.iconst (v := (0 : Int32)) C dX10_clear_11 (by decide) ?_
  refine SW.nameOb (wz := fun z => w10 cI cZ qY z) (o := (pf oY_7n 5 (0 : Int32))) (fun oY_12n he => ?_)
  replace h := h oY_12n he
  refine SW.put (ws' := w10 cI cZ qY (pf oY_12n 6 (0 : Int32))) (T := TX10) (N := 25) C inX10_clear_X10 tyX10 tyX10_ok nmX10 0 rfl rfl 6 (by decide) lkX10_clear_63 rfl rfl rfl (Nat.le_of_ble_eq_true rfl) rfl dX10_clear_12 ?_
  refine SW.aload_n C dX10_clear_15 rfl 0 rfl ?_
  refine SW.iconst (v := (0 : Int32)) C dX10_clear_16 (by decide) ?_
  refine SW.nameOb (wz := fun z => w10 cI cZ qY z) (o := (pf oY_12n 6 (0 : Int32))) (fun oY_17n he => ?_)
  replace h := h oY_17n he
  refine SW.put (ws' := w10 cI cZ qY (pf oY_17n 8 (0 : Int32))) (T := TX10) (N := 25) C inX10_clear_X10 tyX10 tyX10_ok nmX10 0 rfl rfl 8 (by decide) lkX10_clear_66 rfl rfl rfl (Nat.le_of_ble_eq_true rfl) rfl dX10_clear_17 ?_
  refine SW.iconst (v := (0 : Int32)) C dX10_clear_20 (by decide) ?_
  refine SW.istore_n (lv' := [(1, .int (0 : Int32)), (0, .ref (qY 0))]) C dX10_clear_21 rfl (by decide) rfl ?_
  have L22 : ∀ (K48 : Ob → Prop) (hK48 : ∀ (oY_48 : Ob), K48 oY_48 → SW p l e { frames := 0, cells := 0, slots := 0, locals := 0 } s m args below meth c A D 2 0 0 (MQ below (va_Qv (fun (u : Ob) => post u) (ctB D A (fun u : Ob => w10 cI cZ qY u)) A) args s 0 0 A) (w10 cI cZ qY oY_48) 48 [] []) (fu : Nat) (v1_22 : Int32) (oY_22 : Ob), wpX10_clear_L22 K48 fu v1_22 oY_22 → SW p l e { frames := 0, cells := 0, slots := 0, locals := 0 } s m args below meth c A D 2 0 0 (MQ below (va_Qv (fun (u : Ob) => post u) (ctB D A (fun u : Ob => w10 cI cZ qY u)) A) args s 0 0 A) (w10 cI cZ qY oY_22) 22 [(0, .ref (qY 0)), (1, .int v1_22)] [] := by
    intro K48 hK48 fu
    induction fu with
    | zero =>
      intro v1_22 oY_22 h
      exact False.elim h
    | succ fu ih =>
      intro v1_22 oY_22 h
      unfold wpX10_clear_L22 at h
      refine SW.iload_n C dX10_clear_22 rfl 1 rfl ?_
      refine SW.bipush (v := (10 : Int32)) C dX10_clear_23 (by decide) ?_
      refine SW.icmp_ge (tgt := 48) C dX10_clear_25 (by decide) (fun hc => ?_) (fun hc => ?_)
      · replace h := h.1 hc
        refine SW.sub [] rfl ?_
        exact hK48 _ h
      · replace h := h.2 hc
        refine SW.aload_n C dX10_clear_28 rfl 0 rfl ?_
        refine SW.get (v := .ref (qY 1)) (T := TX10) (N := 25) C inX10_clear_X10 0 rfl rfl 1 (by decide) lkX10_clear_13 rfl dX10_clear_29 ?_
        refine SW.iload_n C dX10_clear_32 rfl 1 rfl ?_
        refine SW.iconst (v := (2 : Int32)) C dX10_clear_33 (by decide) ?_
        refine SW.iast (ws' := w10 cI cZ qY (pa oY_22 1 (nC v1_22) (2 : Int32))) C 1 0 rfl rfl h.1 rfl dX10_clear_34 ?_
        replace h := h.2
        refine SW.aload_n C dX10_clear_35 rfl 0 rfl ?_
        refine SW.get (v := .ref (qY 2)) (T := TX10) (N := 25) C inX10_clear_X10 0 rfl rfl 7 (by decide) lkX10_clear_26 rfl dX10_clear_36 ?_
        refine SW.iload_n C dX10_clear_39 rfl 1 rfl ?_
        refine SW.iconst (v := (0 : Int32)) C dX10_clear_40 (by decide) ?_
        refine SW.nameOb (wz := fun z => w10 cI cZ qY z) (o := (pa oY_22 1 (nC v1_22) (2 : Int32))) (fun oY_41n he => ?_)
        replace h := h oY_41n he
        refine SW.iast (ws' := w10 cI cZ qY (pa oY_41n 2 (nC v1_22) (0 : Int32))) C 2 0 rfl rfl h.1 rfl dX10_clear_41 ?_
        replace h := h.2
        refine SW.iinc (q := 1) (v := (v1_22 + (1 : Int32))) (lv' := [(1, .int (v1_22 + (1 : Int32))), (0, .ref (qY 0))]) C dX10_clear_42 rfl rfl (by decide) rfl ?_
        refine SW.goto (tgt := 22) C dX10_clear_45 (by decide) ?_
        refine SW.sub [1, 0] rfl ?_
        exact ih _ _ h
  obtain ⟨fu, h⟩ := h
  refine SW.sub [1, 0] rfl ?_
  refine L22 _ (fun oY_48 h => ?_) fu _ _ h
  · exact SW.vret C oY_48 rfl h dX10_clear_48
def wpX10_in (v0 : Int32) (v1 : Int32) (v2 : Int32) (post : Int32 → Prop) : Prop := jn0 (post (0 : Int32)) (fun J14 => ((v0 < v1) → J14) ∧ (¬ (v0 < v1) → ((v2 < v0) → J14) ∧ (¬ (v2 < v0) → post (1 : Int32))))
theorem pdX10_in : yX10_in.cls ≠ "java/lang/invoke/MethodHandle" ∧ yX10_in.cls ≠ "java/lang/invoke/VarHandle" ∧ (parseMethodDescriptor yX10_in.desc).map (fun d => d.parameters.length) = some 3 := by decide +kernel
set_option maxHeartbeats 4000000 in
set_option maxRecDepth 100000 in
theorem ctX10_in (l : Launch) (D : va_G) (cI cZ : ClassId) (v0 : Int32) (v1 : Int32) (v2 : Int32) (post : Int32 → Prop) (h : wpX10_in v0 v1 v2 post) : CTi l yX10_in wsX10_in { frames := 0, cells := 0, slots := 0, locals := 0 } D [(cI, .int), (cZ, .boolean)] [.int v0, .int v1, .int v2] (([] : va_W)) (fun _ : Unit => ([] : va_W)) (fun (r : Int32) (_ : Unit) => post r) := by
  refine CTi.of (cc := cX10_in) (own := RX10) (maxL := 3) (ret := (some .boolean)) (lv0 := [(0, .int v0), (1, .int v1), (2, .int v2)]) (by decide) rfl rfl (Nat.le_of_ble_eq_true rfl) rfl ?_
  intro p e s m args below meth c A C
  unfold wpX10_in at h
  refine SW.iload_n C dX10_in_0 rfl 0 rfl ?_
  refine SW.iload_n C dX10_in_1 rfl 1 rfl ?_
  refine jn0_elim (G := SW p l e { frames := 0, cells := 0, slots := 0, locals := 0 } s m args below meth c A D 3 0 0 (MQ below (va_Qi (fun (r : Int32) (_ : Unit) => post r) (ctB D A (fun _ : Unit => ([] : va_W))) A) args s 0 0 A) (([] : va_W)) 14 [] []) h (fun h => ?_) (fun J14 hJ14 h => ?_)
  · refine SW.iconst (v := (0 : Int32)) C dX10_in_14 (by decide) ?_
    exact SW.zret C () (by decide) rfl h dX10_in_15
  · refine SW.icmp_lt (tgt := 14) C dX10_in_2 (by decide) (fun hc => ?_) (fun hc => ?_)
    · replace h := h.1 hc
      refine SW.sub [] rfl ?_
      exact hJ14 h
    · replace h := h.2 hc
      refine SW.iload_n C dX10_in_5 rfl 0 rfl ?_
      refine SW.iload_n C dX10_in_6 rfl 2 rfl ?_
      refine SW.icmp_gt (tgt := 14) C dX10_in_7 (by decide) (fun hc => ?_) (fun hc => ?_)
      · replace h := h.1 hc
        refine SW.sub [] rfl ?_
        exact hJ14 h
      · replace h := h.2 hc
        refine SW.iconst (v := (1 : Int32)) C dX10_in_10 (by decide) ?_
        refine SW.goto (tgt := 15) C dX10_in_11 (by decide) ?_
        exact SW.zret C () (by decide) rfl h dX10_in_15
def wpX10_has (v0 : Int32) (v1 : Int32) (post : Int32 → Prop) : Prop := ((((jshr v0 v1) &&& (1 : Int32)) = (1 : Int32)) → post (1 : Int32)) ∧ (¬ (((jshr v0 v1) &&& (1 : Int32)) = (1 : Int32)) → post (0 : Int32))
theorem pdX10_has : yX10_has.cls ≠ "java/lang/invoke/MethodHandle" ∧ yX10_has.cls ≠ "java/lang/invoke/VarHandle" ∧ (parseMethodDescriptor yX10_has.desc).map (fun d => d.parameters.length) = some 2 := by decide +kernel
set_option maxHeartbeats 4000000 in
set_option maxRecDepth 100000 in
theorem ctX10_has (l : Launch) (D : va_G) (cI cZ : ClassId) (v0 : Int32) (v1 : Int32) (post : Int32 → Prop) (h : wpX10_has v0 v1 post) : CTi l yX10_has wsX10_has { frames := 0, cells := 0, slots := 0, locals := 0 } D [(cI, .int), (cZ, .boolean)] [.int v0, .int v1] (([] : va_W)) (fun _ : Unit => ([] : va_W)) (fun (r : Int32) (_ : Unit) => post r) := by
  refine CTi.of (cc := cX10_has) (own := RX10) (maxL := 2) (ret := (some .boolean)) (lv0 := [(0, .int v0), (1, .int v1)]) (by decide) rfl rfl (Nat.le_of_ble_eq_true rfl) rfl ?_
  intro p e s m args below meth c A C
  unfold wpX10_has at h
  refine SW.iload_n C dX10_has_0 rfl 0 rfl ?_
  refine SW.iload_n C dX10_has_1 rfl 1 rfl ?_
  refine SW.ishr C dX10_has_2 ?_
  refine SW.iconst (v := (1 : Int32)) C dX10_has_3 (by decide) ?_
  refine SW.iand C dX10_has_4 ?_
  refine SW.iconst (v := (1 : Int32)) C dX10_has_5 (by decide) ?_
  refine SW.icmp_ne (tgt := 13) C dX10_has_6 (by decide) (fun hc => ?_) (fun hc => ?_)
  · replace h := h.2 hc
    refine SW.iconst (v := (0 : Int32)) C dX10_has_13 (by decide) ?_
    exact SW.zret C () (by decide) rfl h dX10_has_14
  · replace h := h.1 hc
    refine SW.iconst (v := (1 : Int32)) C dX10_has_9 (by decide) ?_
    refine SW.goto (tgt := 14) C dX10_has_10 (by decide) ?_
    exact SW.zret C () (by decide) rfl h dX10_has_14
def wpX10_bits_L4 (c0_4 : Int32) (K24 : Int32 → Prop) : Nat → Int32 → Int32 → Prop
  | 0, _, _ => False
  | fu4 + 1, v1_4, v2_4 => (((17 : Int32) ≤ v2_4) → K24 v1_4) ∧ (¬ ((17 : Int32) ≤ v2_4) → wpX10_bits_L4 c0_4 K24 fu4 (v1_4 + ((jshr c0_4 v2_4) &&& (1 : Int32))) (v2_4 + (1 : Int32)))
def wpX10_bits (v0 : Int32) (post : Int32 → Prop) : Prop := ∃ fu4 : Nat, wpX10_bits_L4 v0 (fun (v1_24 : Int32) => post v1_24) fu4 (0 : Int32) (0 : Int32)
theorem pdX10_bits : yX10_bits.cls ≠ "java/lang/invoke/MethodHandle" ∧ yX10_bits.cls ≠ "java/lang/invoke/VarHandle" ∧ (parseMethodDescriptor yX10_bits.desc).map (fun d => d.parameters.length) = some 1 := by decide +kernel
set_option maxHeartbeats 4000000 in
set_option maxRecDepth 100000 in
theorem ctX10_bits (l : Launch) (D : va_G) (cI cZ : ClassId) (v0 : Int32) (post : Int32 → Prop) (h : wpX10_bits v0 post) : CTi l yX10_bits wsX10_bits { frames := 0, cells := 0, slots := 0, locals := 0 } D [(cI, .int), (cZ, .boolean)] [.int v0] (([] : va_W)) (fun _ : Unit => ([] : va_W)) (fun (r : Int32) (_ : Unit) => post r) := by
  refine CTi.of (cc := cX10_bits) (own := RX10) (maxL := 3) (ret := (some .int)) (lv0 := [(0, .int v0)]) (by decide) rfl rfl (Nat.le_of_ble_eq_true rfl) rfl ?_
  intro p e s m args below meth c A C
  unfold wpX10_bits at h
  refine SW.iconst (v := (0 : Int32)) C dX10_bits_0 (by decide) ?_
  refine SW.istore_n (lv' := [(1, .int (0 : Int32)), (0, .int v0)]) C dX10_bits_1 rfl (by decide) rfl ?_
  refine SW.iconst (v := (0 : Int32)) C dX10_bits_2 (by decide) ?_
  refine SW.istore_n (lv' := [(2, .int (0 : Int32)), (1, .int (0 : Int32)), (0, .int v0)]) C dX10_bits_3 rfl (by decide) rfl ?_
  have L4 : ∀ (K24 : Int32 → Prop) (hK24 : ∀ (v1_24 : Int32), K24 v1_24 → SW p l e { frames := 0, cells := 0, slots := 0, locals := 0 } s m args below meth c A D 3 0 0 (MQ below (va_Qi (fun (r : Int32) (_ : Unit) => post r) (ctB D A (fun _ : Unit => ([] : va_W))) A) args s 0 0 A) (([] : va_W)) 24 [(1, .int v1_24)] []) (fu : Nat) (v1_4 : Int32) (v2_4 : Int32), wpX10_bits_L4 v0 K24 fu v1_4 v2_4 → SW p l e { frames := 0, cells := 0, slots := 0, locals := 0 } s m args below meth c A D 3 0 0 (MQ below (va_Qi (fun (r : Int32) (_ : Unit) => post r) (ctB D A (fun _ : Unit => ([] : va_W))) A) args s 0 0 A) (([] : va_W)) 4 [(0, .int v0), (1, .int v1_4), (2, .int v2_4)] [] := by
    intro K24 hK24 fu
    induction fu with
    | zero =>
      intro v1_4 v2_4 h
      exact False.elim h
    | succ fu ih =>
      intro v1_4 v2_4 h
      unfold wpX10_bits_L4 at h
      refine SW.iload_n C dX10_bits_4 rfl 2 rfl ?_
      refine SW.bipush (v := (17 : Int32)) C dX10_bits_5 (by decide) ?_
      refine SW.icmp_ge (tgt := 24) C dX10_bits_7 (by decide) (fun hc => ?_) (fun hc => ?_)
      · replace h := h.1 hc
        refine SW.sub [1] rfl ?_
        exact hK24 _ h
      · replace h := h.2 hc
        refine SW.iload_n C dX10_bits_10 rfl 1 rfl ?_
        refine SW.iload_n C dX10_bits_11 rfl 0 rfl ?_
        refine SW.iload_n C dX10_bits_12 rfl 2 rfl ?_
        refine SW.ishr C dX10_bits_13 ?_
        refine SW.iconst (v := (1 : Int32)) C dX10_bits_14 (by decide) ?_
        refine SW.iand C dX10_bits_15 ?_
        refine SW.iadd C dX10_bits_16 ?_
        refine SW.istore_n (lv' := [(1, .int (v1_4 + ((jshr v0 v2_4) &&& (1 : Int32)))), (0, .int v0), (2, .int v2_4)]) C dX10_bits_17 rfl (by decide) rfl ?_
        refine SW.iinc (q := 2) (v := (v2_4 + (1 : Int32))) (lv' := [(2, .int (v2_4 + (1 : Int32))), (1, .int (v1_4 + ((jshr v0 v2_4) &&& (1 : Int32)))), (0, .int v0)]) C dX10_bits_18 rfl rfl (by decide) rfl ?_
        refine SW.goto (tgt := 4) C dX10_bits_21 (by decide) ?_
        refine SW.sub [2, 1, 0] rfl ?_
        exact ih _ _ h
  obtain ⟨fu, h⟩ := h
  refine SW.sub [2, 1, 0] rfl ?_
  refine L4 _ (fun v1_24 h => ?_) fu _ _ h
  · refine SW.iload_n C dX10_bits_24 rfl 0 rfl ?_
    exact SW.iret C () rfl h dX10_bits_25
def wpX10_isWindow (oY : Ob) (v1 : Int32) (post : Int32 → Prop) : Prop := wpX10_in v1 (0 : Int32) ((oY 0 0) - (1 : Int32)) (fun (r8 : Int32) => isB r8 ∧ post r8)
theorem pdX10_isWindow : yX10_isWindow.cls = RX10 ∧ yX10_isWindow.cls ≠ "java/lang/invoke/MethodHandle" ∧ yX10_isWindow.cls ≠ "java/lang/invoke/VarHandle" ∧ (parseMethodDescriptor yX10_isWindow.desc).map (fun d => d.parameters.length) = some 1 := by decide +kernel
theorem lkX10_isWindow_7 : Cond.fieldLink RX10 7 (TX10 0).1 (TX10 0).2.1 (TX10 0).2.2.1 ∈ wsX10_isWindow := by decide +kernel
theorem inX10_isWindow_X10 : ∀ w ∈ u_ws RX10 TX10 25, w ∈ wsX10_isWindow := by decide +kernel
set_option maxHeartbeats 4000000 in
set_option maxRecDepth 100000 in
theorem ctX10_isWindow (l : Launch) (D : va_G) (cI cZ : ClassId) (qY : Nat → Nat) (oY : Ob) (v1 : Int32) (post : Int32 → Prop) (h : wpX10_isWindow oY v1 post) : CTi l yX10_isWindow wsX10_isWindow { frames := 1, cells := 0, slots := 0, locals := 22 } D [(cI, .int), (cZ, .boolean)] [.ref (qY 0), .int v1] (w10 cI cZ qY oY) (fun _ : Unit => w10 cI cZ qY oY) (fun (r : Int32) (_ : Unit) => post r) := by
  refine CTi.of (cc := cX10_isWindow) (own := RX10) (maxL := 2) (ret := (some .boolean)) (lv0 := [(0, .ref (qY 0)), (1, .int v1)]) (by decide) rfl rfl (Nat.le_of_ble_eq_true rfl) rfl ?_
  intro p e s m args below meth c A C
  unfold wpX10_isWindow at h
  refine SW.iload_n C dX10_isWindow_0 rfl 1 rfl ?_
  refine SW.iconst (v := (0 : Int32)) C dX10_isWindow_1 (by decide) ?_
  refine SW.aload_n C dX10_isWindow_2 rfl 0 rfl ?_
  refine SW.get (v := .int (oY 0 0)) (T := TX10) (N := 25) C inX10_isWindow_X10 0 rfl rfl 0 (by decide) lkX10_isWindow_7 rfl dX10_isWindow_3 ?_
  refine SW.iconst (v := (1 : Int32)) C dX10_isWindow_6 (by decide) ?_
  refine SW.isub C dX10_isWindow_7 ?_
  refine SW.callSi_pure C (ctX10_in l D cI cZ v1 (0 : Int32) ((oY 0 0) - (1 : Int32)) _ h) gX10_isWindow_X10_in rfl rfl rfl pdX10_in ⟨by decide, by decide⟩ rfl rfl (Nat.le_of_ble_eq_true rfl) dX10_isWindow_8 (by decide) (fun r8 u h => ?_)
  try dsimp only at h
  exact SW.zret C () (isB_nar h.1) rfl h.2 dX10_isWindow_11
def wpX10_may (oY : Ob) (post : Int32 → Prop) : Prop := (((oY 0 0) = (2 : Int32)) → post (1 : Int32)) ∧ (¬ ((oY 0 0) = (2 : Int32)) → post ((oY 0 0) - (2 : Int32)))
theorem pdX10_may : yX10_may.cls = RX10 ∧ yX10_may.cls ≠ "java/lang/invoke/MethodHandle" ∧ yX10_may.cls ≠ "java/lang/invoke/VarHandle" ∧ (parseMethodDescriptor yX10_may.desc).map (fun d => d.parameters.length) = some 0 := by decide +kernel
theorem lkX10_may_7 : Cond.fieldLink RX10 7 (TX10 0).1 (TX10 0).2.1 (TX10 0).2.2.1 ∈ wsX10_may := by decide +kernel
theorem inX10_may_X10 : ∀ w ∈ u_ws RX10 TX10 25, w ∈ wsX10_may := by decide +kernel
set_option maxHeartbeats 4000000 in
set_option maxRecDepth 100000 in
theorem ctX10_may (l : Launch) (D : va_G) (cI cZ : ClassId) (qY : Nat → Nat) (oY : Ob) (post : Int32 → Prop) (h : wpX10_may oY post) : CTi l yX10_may wsX10_may { frames := 0, cells := 0, slots := 0, locals := 0 } D [(cI, .int), (cZ, .boolean)] [.ref (qY 0)] (w10 cI cZ qY oY) (fun _ : Unit => w10 cI cZ qY oY) (fun (r : Int32) (_ : Unit) => post r) := by
  refine CTi.of (cc := cX10_may) (own := RX10) (maxL := 1) (ret := (some .int)) (lv0 := [(0, .ref (qY 0))]) (by decide) rfl rfl (Nat.le_of_ble_eq_true rfl) rfl ?_
  intro p e s m args below meth c A C
  unfold wpX10_may at h
  refine SW.aload_n C dX10_may_0 rfl 0 rfl ?_
  refine SW.get (v := .int (oY 0 0)) (T := TX10) (N := 25) C inX10_may_X10 0 rfl rfl 0 (by decide) lkX10_may_7 rfl dX10_may_1 ?_
  refine SW.iconst (v := (2 : Int32)) C dX10_may_4 (by decide) ?_
  refine SW.icmp_ne (tgt := 12) C dX10_may_5 (by decide) (fun hc => ?_) (fun hc => ?_)
  · replace h := h.2 hc
    refine SW.aload_n C dX10_may_12 rfl 0 rfl ?_
    refine SW.get (v := .int (oY 0 0)) (T := TX10) (N := 25) C inX10_may_X10 0 rfl rfl 0 (by decide) lkX10_may_7 rfl dX10_may_13 ?_
    refine SW.iconst (v := (2 : Int32)) C dX10_may_16 (by decide) ?_
    refine SW.isub C dX10_may_17 ?_
    exact SW.iret C () rfl h dX10_may_18
  · replace h := h.1 hc
    refine SW.iconst (v := (1 : Int32)) C dX10_may_8 (by decide) ?_
    refine SW.goto (tgt := 18) C dX10_may_9 (by decide) ?_
    exact SW.iret C () rfl h dX10_may_18
def wpX10_windows (oY : Ob) (v1 : Int32) (post : Int32 → Ob → Prop) : Prop := wpX10_in v1 (2 : Int32) (10 : Int32) (fun (r4 : Int32) => ((r4 = 0) → post (-2 : Int32) oY) ∧ (¬ (r4 = 0) → wpX10_clear (pf oY 0 v1) (fun (oY_24 : Ob) => post (oY 0 0) oY_24)))
theorem pdX10_windows : yX10_windows.cls = RX10 ∧ yX10_windows.cls ≠ "java/lang/invoke/MethodHandle" ∧ yX10_windows.cls ≠ "java/lang/invoke/VarHandle" ∧ (parseMethodDescriptor yX10_windows.desc).map (fun d => d.parameters.length) = some 1 := by decide +kernel
theorem lkX10_windows_7 : Cond.fieldLink RX10 7 (TX10 0).1 (TX10 0).2.1 (TX10 0).2.2.1 ∈ wsX10_windows := by decide +kernel
theorem inX10_windows_X10 : ∀ w ∈ u_ws RX10 TX10 25, w ∈ wsX10_windows := by decide +kernel
set_option maxHeartbeats 4000000 in
set_option maxRecDepth 100000 in
theorem ctX10_windows (l : Launch) (D : va_G) (cI cZ : ClassId) (qY : Nat → Nat) (oY : Ob) (v1 : Int32) (post : Int32 → Ob → Prop) (h : wpX10_windows oY v1 post) : CTi l yX10_windows wsX10_windows { frames := 1, cells := 0, slots := 0, locals := 22 } D [(cI, .int), (cZ, .boolean)] [.ref (qY 0), .int v1] (w10 cI cZ qY oY) (fun u : Ob => w10 cI cZ qY u) (fun (r : Int32) (u : Ob) => post r u) := by
  refine CTi.of (cc := cX10_windows) (own := RX10) (maxL := 3) (ret := (some .int)) (lv0 := [(0, .ref (qY 0)), (1, .int v1)]) (by decide) rfl rfl (Nat.le_of_ble_eq_true rfl) rfl ?_
  intro p e s m args below meth c A C
  unfold wpX10_windows at h
  refine SW.iload_n C dX10_windows_0 rfl 1 rfl ?_
  refine SW.iconst (v := (2 : Int32)) C dX10_windows_1 (by decide) ?_
  refine SW.bipush (v := (10 : Int32)) C dX10_windows_2 (by decide) ?_
  refine SW.callSi_pure C (ctX10_in l D cI cZ v1 (2 : Int32) (10 : Int32) _ h) gX10_windows_X10_in rfl rfl rfl pdX10_in ⟨by decide, by decide⟩ rfl rfl (Nat.le_of_ble_eq_true rfl) dX10_windows_4 (by decide) (fun r4 u h => ?_)
  try dsimp only at h
  refine SW.if_ne (tgt := 13) C dX10_windows_7 (by decide) (fun hc => ?_) (fun hc => ?_)
  · replace h := h.2 hc
    refine SW.aload_n C dX10_windows_13 rfl 0 rfl ?_
    refine SW.get (v := .int (oY 0 0)) (T := TX10) (N := 25) C inX10_windows_X10 0 rfl rfl 0 (by decide) lkX10_windows_7 rfl dX10_windows_14 ?_
    refine SW.istore_n (lv' := [(2, .int (oY 0 0)), (0, .ref (qY 0)), (1, .int v1)]) C dX10_windows_17 rfl (by decide) rfl ?_
    refine SW.aload_n C dX10_windows_18 rfl 1 rfl ?_
    refine SW.iload_n C dX10_windows_19 rfl 2 rfl ?_
    refine SW.put (ws' := w10 cI cZ qY (pf oY 0 v1)) (T := TX10) (N := 25) C inX10_windows_X10 tyX10 tyX10_ok nmX10 0 rfl rfl 0 (by decide) lkX10_windows_7 rfl rfl rfl (Nat.le_of_ble_eq_true rfl) rfl dX10_windows_20 ?_
    refine SW.aload_n C dX10_windows_23 rfl 1 rfl ?_
    refine SW.callVv_same C (ctX10_clear l D cI cZ qY (pf oY 0 v1) _ h) gX10_windows_X10_clear rfl rfl rfl pdX10_clear ⟨by decide, by decide⟩ 0 rfl rfl rfl rfl rfl (Nat.le_of_ble_eq_true rfl) dX10_windows_24 (by decide) (fun u h => ?_)
    obtain ⟨oY_24, rfl⟩ : ∃ z, z = u := ⟨_, rfl⟩
    try dsimp only at h
    refine SW.iload_n C dX10_windows_27 rfl 0 rfl ?_
    exact SW.iret C oY_24 rfl h dX10_windows_28
  · replace h := h.1 hc
    refine SW.bipush (v := (-2 : Int32)) C dX10_windows_10 (by decide) ?_
    exact SW.iret C oY rfl h dX10_windows_12
def wpX10_gap (oY : Ob) (v1 : Int32) (v2 : Int32) (post : Int32 → Ob → Prop) : Prop := wpX10_isWindow oY v1 (fun (r2 : Int32) => ((r2 = 0) → post (-1 : Int32) oY) ∧ (¬ (r2 = 0) → wpX10_in v2 (1 : Int32) (9 : Int32) (fun (r14 : Int32) => ((r14 = 0) → post (-2 : Int32) oY) ∧ (¬ (r14 = 0) → (vp_in v1 10) ∧ ((vp_in v1 10) ∧ (post (jld (oY 1) v1) (pa oY 1 (nC v1) v2)))))))
theorem pdX10_gap : yX10_gap.cls = RX10 ∧ yX10_gap.cls ≠ "java/lang/invoke/MethodHandle" ∧ yX10_gap.cls ≠ "java/lang/invoke/VarHandle" ∧ (parseMethodDescriptor yX10_gap.desc).map (fun d => d.parameters.length) = some 2 := by decide +kernel
theorem lkX10_gap_13 : Cond.fieldLink RX10 13 (TX10 1).1 (TX10 1).2.1 (TX10 1).2.2.1 ∈ wsX10_gap := by decide +kernel
theorem inX10_gap_X10 : ∀ w ∈ u_ws RX10 TX10 25, w ∈ wsX10_gap := by decide +kernel
set_option maxHeartbeats 4000000 in
set_option maxRecDepth 100000 in
theorem ctX10_gap (l : Launch) (D : va_G) (cI cZ : ClassId) (qY : Nat → Nat) (oY : Ob) (v1 : Int32) (v2 : Int32) (post : Int32 → Ob → Prop) (h : wpX10_gap oY v1 v2 post) : CTi l yX10_gap wsX10_gap { frames := 2, cells := 0, slots := 0, locals := 43 } D [(cI, .int), (cZ, .boolean)] [.ref (qY 0), .int v1, .int v2] (w10 cI cZ qY oY) (fun u : Ob => w10 cI cZ qY u) (fun (r : Int32) (u : Ob) => post r u) := by
  refine CTi.of (cc := cX10_gap) (own := RX10) (maxL := 4) (ret := (some .int)) (lv0 := [(0, .ref (qY 0)), (1, .int v1), (2, .int v2)]) (by decide) rfl rfl (Nat.le_of_ble_eq_true rfl) rfl ?_
  intro p e s m args below meth c A C
  unfold wpX10_gap at h
  refine SW.aload_n C dX10_gap_0 rfl 0 rfl ?_
  refine SW.iload_n C dX10_gap_1 rfl 1 rfl ?_
  refine SW.callVi_same C (ctX10_isWindow l D cI cZ qY oY v1 _ h) gX10_gap_X10_isWindow rfl rfl rfl pdX10_isWindow ⟨by decide, by decide⟩ 0 rfl rfl rfl rfl rfl (Nat.le_of_ble_eq_true rfl) dX10_gap_2 (by decide) (fun r2 u h => ?_)
  try dsimp only at h
  refine SW.if_ne (tgt := 10) C dX10_gap_5 (by decide) (fun hc => ?_) (fun hc => ?_)
  · replace h := h.2 hc
    refine SW.iload_n C dX10_gap_10 rfl 2 rfl ?_
    refine SW.iconst (v := (1 : Int32)) C dX10_gap_11 (by decide) ?_
    refine SW.bipush (v := (9 : Int32)) C dX10_gap_12 (by decide) ?_
    refine SW.callSi_pure C (ctX10_in l D cI cZ v2 (1 : Int32) (9 : Int32) _ h) gX10_gap_X10_in rfl rfl rfl pdX10_in ⟨by decide, by decide⟩ rfl rfl (Nat.le_of_ble_eq_true rfl) dX10_gap_14 (by decide) (fun r14 u h => ?_)
    try dsimp only at h
    refine SW.if_ne (tgt := 23) C dX10_gap_17 (by decide) (fun hc => ?_) (fun hc => ?_)
    · replace h := h.2 hc
      refine SW.aload_n C dX10_gap_23 rfl 0 rfl ?_
      refine SW.get (v := .ref (qY 1)) (T := TX10) (N := 25) C inX10_gap_X10 0 rfl rfl 1 (by decide) lkX10_gap_13 rfl dX10_gap_24 ?_
      refine SW.iload_n C dX10_gap_27 rfl 1 rfl ?_
      refine SW.iald C 1 0 rfl rfl h.1 dX10_gap_28 ?_
      replace h := h.2
      refine SW.istore_n (lv' := [(3, .int (jld (oY 1) v1)), (0, .ref (qY 0)), (1, .int v1), (2, .int v2)]) C dX10_gap_29 rfl (by decide) rfl ?_
      refine SW.aload_n C dX10_gap_30 rfl 1 rfl ?_
      refine SW.get (v := .ref (qY 1)) (T := TX10) (N := 25) C inX10_gap_X10 0 rfl rfl 1 (by decide) lkX10_gap_13 rfl dX10_gap_31 ?_
      refine SW.iload_n C dX10_gap_34 rfl 2 rfl ?_
      refine SW.iload_n C dX10_gap_35 rfl 3 rfl ?_
      refine SW.iast (ws' := w10 cI cZ qY (pa oY 1 (nC v1) v2)) C 1 0 rfl rfl h.1 rfl dX10_gap_36 ?_
      replace h := h.2
      refine SW.iload_n C dX10_gap_37 rfl 0 rfl ?_
      exact SW.iret C (pa oY 1 (nC v1) v2) rfl h dX10_gap_38
    · replace h := h.1 hc
      refine SW.bipush (v := (-2 : Int32)) C dX10_gap_20 (by decide) ?_
      exact SW.iret C oY rfl h dX10_gap_22
  · replace h := h.1 hc
    refine SW.iconst (v := (-1 : Int32)) C dX10_gap_8 (by decide) ?_
    exact SW.iret C oY rfl h dX10_gap_9
def wpX10_set (oY : Ob) (v1 : Int32) (v2 : Int32) (post : Int32 → Ob → Prop) : Prop := jn1 (fun (p0_49 : Int32) => ((p0_49 = 0) → post (-2 : Int32) oY) ∧ (¬ (p0_49 = 0) → jn1 (fun (p0_84 : Int32) => jn1 (fun (p0_99 : Int32) => jn1 (fun (p0_116 : Int32) => ∀ oY_116n : Ob, oY_116n = (pf oY 2 p0_99) → (jn1 (fun (p0_133 : Int32) => ∀ oY_133n : Ob, oY_133n = (pf oY_116n 3 p0_116) → (post p0_84 (pf oY_133n 4 p0_133))) (fun J133 => ((v1 = (2 : Int32)) → J133 v2) ∧ (¬ (v1 = (2 : Int32)) → J133 (oY_116n 0 4))))) (fun J116 => ((v1 = (1 : Int32)) → J116 v2) ∧ (¬ (v1 = (1 : Int32)) → J116 (oY 0 3)))) (fun J99 => ((v1 = 0) → J99 v2) ∧ (¬ (v1 = 0) → J99 (oY 0 2)))) (fun J84 => ((v1 = 0) → J84 (oY 0 2)) ∧ (¬ (v1 = 0) → ((v1 = (1 : Int32)) → J84 (oY 0 3)) ∧ (¬ (v1 = (1 : Int32)) → J84 (oY 0 4)))))) (fun J49 => ((v1 = 0) → wpX10_in v2 (1 : Int32) (9 : Int32) (fun (r8 : Int32) => J49 r8)) ∧ (¬ (v1 = 0) → ((v1 = (1 : Int32)) → wpX10_in v2 (1 : Int32) (99 : Int32) (fun (r23 : Int32) => J49 r23)) ∧ (¬ (v1 = (1 : Int32)) → jn0 (J49 (0 : Int32)) (fun J48 => ((v1 = (2 : Int32)) → wpX10_in v2 (0 : Int32) (9 : Int32) (fun (r38 : Int32) => ((r38 = 0) → J48) ∧ (¬ (r38 = 0) → J49 (1 : Int32)))) ∧ (¬ (v1 = (2 : Int32)) → J48)))))
theorem pdX10_set : yX10_set.cls = RX10 ∧ yX10_set.cls ≠ "java/lang/invoke/MethodHandle" ∧ yX10_set.cls ≠ "java/lang/invoke/VarHandle" ∧ (parseMethodDescriptor yX10_set.desc).map (fun d => d.parameters.length) = some 2 := by decide +kernel
theorem lkX10_set_17 : Cond.fieldLink RX10 17 (TX10 2).1 (TX10 2).2.1 (TX10 2).2.2.1 ∈ wsX10_set := by decide +kernel
theorem inX10_set_X10 : ∀ w ∈ u_ws RX10 TX10 25, w ∈ wsX10_set := by decide +kernel
theorem lkX10_set_20 : Cond.fieldLink RX10 20 (TX10 3).1 (TX10 3).2.1 (TX10 3).2.2.1 ∈ wsX10_set := by decide +kernel
theorem lkX10_set_23 : Cond.fieldLink RX10 23 (TX10 4).1 (TX10 4).2.1 (TX10 4).2.2.1 ∈ wsX10_set := by decide +kernel
set_option maxHeartbeats 4000000 in
set_option maxRecDepth 100000 in
theorem ctX10_set (l : Launch) (D : va_G) (cI cZ : ClassId) (qY : Nat → Nat) (oY : Ob) (v1 : Int32) (v2 : Int32) (post : Int32 → Ob → Prop) (h : wpX10_set oY v1 v2 post) : CTi l yX10_set wsX10_set { frames := 1, cells := 0, slots := 0, locals := 22 } D [(cI, .int), (cZ, .boolean)] [.ref (qY 0), .int v1, .int v2] (w10 cI cZ qY oY) (fun u : Ob => w10 cI cZ qY u) (fun (r : Int32) (u : Ob) => post r u) := by
  refine CTi.of (cc := cX10_set) (own := RX10) (maxL := 5) (ret := (some .int)) (lv0 := [(0, .ref (qY 0)), (1, .int v1), (2, .int v2)]) (by decide) rfl rfl (Nat.le_of_ble_eq_true rfl) rfl ?_
  intro p e s m args below meth c A C
  unfold wpX10_set at h
  refine SW.iload_n C dX10_set_0 rfl 1 rfl ?_
  refine jn1_elim (G := fun p0_49 => SW p l e { frames := 1, cells := 0, slots := 0, locals := 22 } s m args below meth c A D 5 0 0 (MQ below (va_Qi (fun (r : Int32) (u : Ob) => post r u) (ctB D A (fun u : Ob => w10 cI cZ qY u)) A) args s 0 0 A) (w10 cI cZ qY oY) 49 [(0, .ref (qY 0)), (1, .int v1), (2, .int v2)] [.int p0_49]) h (fun p0_49 h => ?_) (fun J49 hJ49 h => ?_)
  · refine SW.istore_n (lv' := [(3, .int p0_49), (0, .ref (qY 0)), (1, .int v1), (2, .int v2)]) C dX10_set_49 rfl (by decide) rfl ?_
    refine SW.iload_n C dX10_set_50 rfl 0 rfl ?_
    refine SW.if_ne (tgt := 57) C dX10_set_51 (by decide) (fun hc => ?_) (fun hc => ?_)
    · replace h := h.2 hc
      refine SW.iload_n C dX10_set_57 rfl 2 rfl ?_
      refine jn1_elim (G := fun p0_84 => SW p l e { frames := 1, cells := 0, slots := 0, locals := 22 } s m args below meth c A D 5 0 0 (MQ below (va_Qi (fun (r : Int32) (u : Ob) => post r u) (ctB D A (fun u : Ob => w10 cI cZ qY u)) A) args s 0 0 A) (w10 cI cZ qY oY) 84 [(0, .ref (qY 0)), (1, .int v1), (2, .int v2)] [.int p0_84]) h (fun p0_84 h => ?_) (fun J84 hJ84 h => ?_)
      · refine SW.istore (lv' := [(4, .int p0_84), (0, .ref (qY 0)), (1, .int v1), (2, .int v2)]) C dX10_set_84 (by decide) rfl ?_
        refine SW.aload_n C dX10_set_86 rfl 1 rfl ?_
        refine SW.iload_n C dX10_set_87 rfl 2 rfl ?_
        refine jn1_elim (G := fun p0_99 => SW p l e { frames := 1, cells := 0, slots := 0, locals := 22 } s m args below meth c A D 5 0 0 (MQ below (va_Qi (fun (r : Int32) (u : Ob) => post r u) (ctB D A (fun u : Ob => w10 cI cZ qY u)) A) args s 0 0 A) (w10 cI cZ qY oY) 99 [(0, .ref (qY 0)), (1, .int v1), (2, .int v2), (4, .int p0_84)] [.int p0_99, .ref (qY 0)]) h (fun p0_99 h => ?_) (fun J99 hJ99 h => ?_)
        · refine SW.put (ws' := w10 cI cZ qY (pf oY 2 p0_99)) (T := TX10) (N := 25) C inX10_set_X10 tyX10 tyX10_ok nmX10 0 rfl rfl 2 (by decide) lkX10_set_17 rfl rfl rfl (Nat.le_of_ble_eq_true rfl) rfl dX10_set_99 ?_
          refine SW.aload_n C dX10_set_102 rfl 0 rfl ?_
          refine SW.iload_n C dX10_set_103 rfl 1 rfl ?_
          refine SW.iconst (v := (1 : Int32)) C dX10_set_104 (by decide) ?_
          refine jn1_elim (G := fun p0_116 => SW p l e { frames := 1, cells := 0, slots := 0, locals := 22 } s m args below meth c A D 5 0 0 (MQ below (va_Qi (fun (r : Int32) (u : Ob) => post r u) (ctB D A (fun u : Ob => w10 cI cZ qY u)) A) args s 0 0 A) (w10 cI cZ qY (pf oY 2 p0_99)) 116 [(0, .ref (qY 0)), (1, .int v1), (2, .int v2), (4, .int p0_84)] [.int p0_116, .ref (qY 0)]) h (fun p0_116 h => ?_) (fun J116 hJ116 h => ?_)
          · refine SW.nameOb (wz := fun z => w10 cI cZ qY z) (o := (pf oY 2 p0_99)) (fun oY_116n he => ?_)
            replace h := h oY_116n he
            refine SW.put (ws' := w10 cI cZ qY (pf oY_116n 3 p0_116)) (T := TX10) (N := 25) C inX10_set_X10 tyX10 tyX10_ok nmX10 0 rfl rfl 3 (by decide) lkX10_set_20 rfl rfl rfl (Nat.le_of_ble_eq_true rfl) rfl dX10_set_116 ?_
            refine SW.aload_n C dX10_set_119 rfl 0 rfl ?_
            refine SW.iload_n C dX10_set_120 rfl 1 rfl ?_
            refine SW.iconst (v := (2 : Int32)) C dX10_set_121 (by decide) ?_
            refine jn1_elim (G := fun p0_133 => SW p l e { frames := 1, cells := 0, slots := 0, locals := 22 } s m args below meth c A D 5 0 0 (MQ below (va_Qi (fun (r : Int32) (u : Ob) => post r u) (ctB D A (fun u : Ob => w10 cI cZ qY u)) A) args s 0 0 A) (w10 cI cZ qY (pf oY_116n 3 p0_116)) 133 [(4, .int p0_84)] [.int p0_133, .ref (qY 0)]) h (fun p0_133 h => ?_) (fun J133 hJ133 h => ?_)
            · refine SW.nameOb (wz := fun z => w10 cI cZ qY z) (o := (pf oY_116n 3 p0_116)) (fun oY_133n he => ?_)
              replace h := h oY_133n he
              refine SW.put (ws' := w10 cI cZ qY (pf oY_133n 4 p0_133)) (T := TX10) (N := 25) C inX10_set_X10 tyX10 tyX10_ok nmX10 0 rfl rfl 4 (by decide) lkX10_set_23 rfl rfl rfl (Nat.le_of_ble_eq_true rfl) rfl dX10_set_133 ?_
              refine SW.iload C dX10_set_136 0 rfl ?_
              exact SW.iret C (pf oY_133n 4 p0_133) rfl h dX10_set_138
            · refine SW.icmp_ne (tgt := 129) C dX10_set_122 (by decide) (fun hc => ?_) (fun hc => ?_)
              · replace h := h.2 hc
                refine SW.aload_n C dX10_set_129 rfl 0 rfl ?_
                refine SW.get (v := .int (oY_116n 0 4)) (T := TX10) (N := 25) C inX10_set_X10 0 rfl rfl 4 (by decide) lkX10_set_23 rfl dX10_set_130 ?_
                refine SW.sub [3] rfl ?_
                exact hJ133 _ h
              · replace h := h.1 hc
                refine SW.iload_n C dX10_set_125 rfl 2 rfl ?_
                refine SW.goto (tgt := 133) C dX10_set_126 (by decide) ?_
                refine SW.sub [3] rfl ?_
                exact hJ133 _ h
          · refine SW.icmp_ne (tgt := 112) C dX10_set_105 (by decide) (fun hc => ?_) (fun hc => ?_)
            · replace h := h.2 hc
              refine SW.aload_n C dX10_set_112 rfl 0 rfl ?_
              refine SW.get (v := .int (oY 0 3)) (T := TX10) (N := 25) C inX10_set_X10 0 rfl rfl 3 (by decide) lkX10_set_20 rfl dX10_set_113 ?_
              exact hJ116 _ h
            · replace h := h.1 hc
              refine SW.iload_n C dX10_set_108 rfl 2 rfl ?_
              refine SW.goto (tgt := 116) C dX10_set_109 (by decide) ?_
              exact hJ116 _ h
        · refine SW.if_ne (tgt := 95) C dX10_set_88 (by decide) (fun hc => ?_) (fun hc => ?_)
          · replace h := h.2 hc
            refine SW.aload_n C dX10_set_95 rfl 1 rfl ?_
            refine SW.get (v := .int (oY 0 2)) (T := TX10) (N := 25) C inX10_set_X10 0 rfl rfl 2 (by decide) lkX10_set_17 rfl dX10_set_96 ?_
            refine SW.sub [1, 2, 3, 0] rfl ?_
            exact hJ99 _ h
          · replace h := h.1 hc
            refine SW.iload_n C dX10_set_91 rfl 3 rfl ?_
            refine SW.goto (tgt := 99) C dX10_set_92 (by decide) ?_
            refine SW.sub [1, 2, 3, 0] rfl ?_
            exact hJ99 _ h
      · refine SW.if_ne (tgt := 68) C dX10_set_58 (by decide) (fun hc => ?_) (fun hc => ?_)
        · replace h := h.2 hc
          refine SW.iload_n C dX10_set_68 rfl 2 rfl ?_
          refine SW.iconst (v := (1 : Int32)) C dX10_set_69 (by decide) ?_
          refine SW.icmp_ne (tgt := 80) C dX10_set_70 (by decide) (fun hc => ?_) (fun hc => ?_)
          · replace h := h.2 hc
            refine SW.aload_n C dX10_set_80 rfl 1 rfl ?_
            refine SW.get (v := .int (oY 0 4)) (T := TX10) (N := 25) C inX10_set_X10 0 rfl rfl 4 (by decide) lkX10_set_23 rfl dX10_set_81 ?_
            refine SW.sub [1, 2, 3] rfl ?_
            exact hJ84 _ h
          · replace h := h.1 hc
            refine SW.aload_n C dX10_set_73 rfl 1 rfl ?_
            refine SW.get (v := .int (oY 0 3)) (T := TX10) (N := 25) C inX10_set_X10 0 rfl rfl 3 (by decide) lkX10_set_20 rfl dX10_set_74 ?_
            refine SW.goto (tgt := 84) C dX10_set_77 (by decide) ?_
            refine SW.sub [1, 2, 3] rfl ?_
            exact hJ84 _ h
        · replace h := h.1 hc
          refine SW.aload_n C dX10_set_61 rfl 1 rfl ?_
          refine SW.get (v := .int (oY 0 2)) (T := TX10) (N := 25) C inX10_set_X10 0 rfl rfl 2 (by decide) lkX10_set_17 rfl dX10_set_62 ?_
          refine SW.goto (tgt := 84) C dX10_set_65 (by decide) ?_
          refine SW.sub [1, 2, 3] rfl ?_
          exact hJ84 _ h
    · replace h := h.1 hc
      refine SW.bipush (v := (-2 : Int32)) C dX10_set_54 (by decide) ?_
      exact SW.iret C oY rfl h dX10_set_56
  · refine SW.if_ne (tgt := 14) C dX10_set_1 (by decide) (fun hc => ?_) (fun hc => ?_)
    · replace h := h.2 hc
      refine SW.iload_n C dX10_set_14 rfl 1 rfl ?_
      refine SW.iconst (v := (1 : Int32)) C dX10_set_15 (by decide) ?_
      refine SW.icmp_ne (tgt := 29) C dX10_set_16 (by decide) (fun hc => ?_) (fun hc => ?_)
      · replace h := h.2 hc
        refine SW.iload_n C dX10_set_29 rfl 1 rfl ?_
        refine SW.iconst (v := (2 : Int32)) C dX10_set_30 (by decide) ?_
        refine jn0_elim (G := SW p l e { frames := 1, cells := 0, slots := 0, locals := 22 } s m args below meth c A D 5 0 0 (MQ below (va_Qi (fun (r : Int32) (u : Ob) => post r u) (ctB D A (fun u : Ob => w10 cI cZ qY u)) A) args s 0 0 A) (w10 cI cZ qY oY) 48 [(0, .ref (qY 0)), (1, .int v1), (2, .int v2)] []) h (fun h => ?_) (fun J48 hJ48 h => ?_)
        · refine SW.iconst (v := (0 : Int32)) C dX10_set_48 (by decide) ?_
          exact hJ49 _ h
        · refine SW.icmp_ne (tgt := 48) C dX10_set_31 (by decide) (fun hc => ?_) (fun hc => ?_)
          · replace h := h.2 hc
            exact hJ48 h
          · replace h := h.1 hc
            refine SW.iload_n C dX10_set_34 rfl 2 rfl ?_
            refine SW.iconst (v := (0 : Int32)) C dX10_set_35 (by decide) ?_
            refine SW.bipush (v := (9 : Int32)) C dX10_set_36 (by decide) ?_
            refine SW.callSi_pure C (ctX10_in l D cI cZ v2 (0 : Int32) (9 : Int32) _ h) gX10_set_X10_in rfl rfl rfl pdX10_in ⟨by decide, by decide⟩ rfl rfl (Nat.le_of_ble_eq_true rfl) dX10_set_38 (by decide) (fun r38 u h => ?_)
            try dsimp only at h
            refine SW.if_eq (tgt := 48) C dX10_set_41 (by decide) (fun hc => ?_) (fun hc => ?_)
            · replace h := h.1 hc
              exact hJ48 h
            · replace h := h.2 hc
              refine SW.iconst (v := (1 : Int32)) C dX10_set_44 (by decide) ?_
              refine SW.goto (tgt := 49) C dX10_set_45 (by decide) ?_
              exact hJ49 _ h
      · replace h := h.1 hc
        refine SW.iload_n C dX10_set_19 rfl 2 rfl ?_
        refine SW.iconst (v := (1 : Int32)) C dX10_set_20 (by decide) ?_
        refine SW.bipush (v := (99 : Int32)) C dX10_set_21 (by decide) ?_
        refine SW.callSi_pure C (ctX10_in l D cI cZ v2 (1 : Int32) (99 : Int32) _ h) gX10_set_X10_in rfl rfl rfl pdX10_in ⟨by decide, by decide⟩ rfl rfl (Nat.le_of_ble_eq_true rfl) dX10_set_23 (by decide) (fun r23 u h => ?_)
        try dsimp only at h
        refine SW.goto (tgt := 49) C dX10_set_26 (by decide) ?_
        exact hJ49 _ h
    · replace h := h.1 hc
      refine SW.iload_n C dX10_set_4 rfl 2 rfl ?_
      refine SW.iconst (v := (1 : Int32)) C dX10_set_5 (by decide) ?_
      refine SW.bipush (v := (9 : Int32)) C dX10_set_6 (by decide) ?_
      refine SW.callSi_pure C (ctX10_in l D cI cZ v2 (1 : Int32) (9 : Int32) _ h) gX10_set_X10_in rfl rfl rfl pdX10_in ⟨by decide, by decide⟩ rfl rfl (Nat.le_of_ble_eq_true rfl) dX10_set_8 (by decide) (fun r8 u h => ?_)
      try dsimp only at h
      refine SW.goto (tgt := 49) C dX10_set_11 (by decide) ?_
      exact hJ49 _ h
def wpX10_say (oY : Ob) (v1 : Int32) (post : Int32 → Ob → Prop) : Prop := wpX10_in v1 (33 : Int32) (126 : Int32) (fun (r5 : Int32) => ((r5 = 0) → post (-2 : Int32) oY) ∧ (¬ (r5 = 0) → (((oY 0 10) = (60 : Int32)) → post (-4 : Int32) oY) ∧ (¬ ((oY 0 10) = (60 : Int32)) → (vp_in (oY 0 10) 60) ∧ (∀ oY_43n : Ob, oY_43n = (pa oY 4 (nC (oY 0 10)) v1) → (post ((oY 0 10) + (1 : Int32)) (pf oY_43n 10 ((oY 0 10) + (1 : Int32))))))))
theorem pdX10_say : yX10_say.cls = RX10 ∧ yX10_say.cls ≠ "java/lang/invoke/MethodHandle" ∧ yX10_say.cls ≠ "java/lang/invoke/VarHandle" ∧ (parseMethodDescriptor yX10_say.desc).map (fun d => d.parameters.length) = some 1 := by decide +kernel
theorem lkX10_say_77 : Cond.fieldLink RX10 77 (TX10 10).1 (TX10 10).2.1 (TX10 10).2.2.1 ∈ wsX10_say := by decide +kernel
theorem inX10_say_X10 : ∀ w ∈ u_ws RX10 TX10 25, w ∈ wsX10_say := by decide +kernel
theorem lkX10_say_32 : Cond.fieldLink RX10 32 (TX10 11).1 (TX10 11).2.1 (TX10 11).2.2.1 ∈ wsX10_say := by decide +kernel
set_option maxHeartbeats 4000000 in
set_option maxRecDepth 100000 in
theorem ctX10_say (l : Launch) (D : va_G) (cI cZ : ClassId) (qY : Nat → Nat) (oY : Ob) (v1 : Int32) (post : Int32 → Ob → Prop) (h : wpX10_say oY v1 post) : CTi l yX10_say wsX10_say { frames := 1, cells := 0, slots := 0, locals := 22 } D [(cI, .int), (cZ, .boolean)] [.ref (qY 0), .int v1] (w10 cI cZ qY oY) (fun u : Ob => w10 cI cZ qY u) (fun (r : Int32) (u : Ob) => post r u) := by
  refine CTi.of (cc := cX10_say) (own := RX10) (maxL := 2) (ret := (some .int)) (lv0 := [(0, .ref (qY 0)), (1, .int v1)]) (by decide) rfl rfl (Nat.le_of_ble_eq_true rfl) rfl ?_
  intro p e s m args below meth c A C
  unfold wpX10_say at h
  refine SW.iload_n C dX10_say_0 rfl 1 rfl ?_
  refine SW.bipush (v := (33 : Int32)) C dX10_say_1 (by decide) ?_
  refine SW.bipush (v := (126 : Int32)) C dX10_say_3 (by decide) ?_
  refine SW.callSi_pure C (ctX10_in l D cI cZ v1 (33 : Int32) (126 : Int32) _ h) gX10_say_X10_in rfl rfl rfl pdX10_in ⟨by decide, by decide⟩ rfl rfl (Nat.le_of_ble_eq_true rfl) dX10_say_5 (by decide) (fun r5 u h => ?_)
  try dsimp only at h
  refine SW.if_ne (tgt := 14) C dX10_say_8 (by decide) (fun hc => ?_) (fun hc => ?_)
  · replace h := h.2 hc
    refine SW.aload_n C dX10_say_14 rfl 0 rfl ?_
    refine SW.get (v := .int (oY 0 10)) (T := TX10) (N := 25) C inX10_say_X10 0 rfl rfl 10 (by decide) lkX10_say_77 rfl dX10_say_15 ?_
    refine SW.bipush (v := (60 : Int32)) C dX10_say_18 (by decide) ?_
    refine SW.icmp_ne (tgt := 26) C dX10_say_20 (by decide) (fun hc => ?_) (fun hc => ?_)
    · replace h := h.2 hc
      refine SW.aload_n C dX10_say_26 rfl 0 rfl ?_
      refine SW.get (v := .ref (qY 4)) (T := TX10) (N := 25) C inX10_say_X10 0 rfl rfl 11 (by decide) lkX10_say_32 rfl dX10_say_27 ?_
      refine SW.aload_n C dX10_say_30 rfl 0 rfl ?_
      refine SW.get (v := .int (oY 0 10)) (T := TX10) (N := 25) C inX10_say_X10 0 rfl rfl 10 (by decide) lkX10_say_77 rfl dX10_say_31 ?_
      refine SW.iload_n C dX10_say_34 rfl 1 rfl ?_
      refine SW.iast (ws' := w10 cI cZ qY (pa oY 4 (nC (oY 0 10)) v1)) C 4 0 rfl rfl h.1 rfl dX10_say_35 ?_
      replace h := h.2
      refine SW.aload_n C dX10_say_36 rfl 0 rfl ?_
      refine SW.dup C dX10_say_37 rfl ?_
      refine SW.get (v := .int (oY 0 10)) (T := TX10) (N := 25) C inX10_say_X10 0 rfl rfl 10 (by decide) lkX10_say_77 rfl dX10_say_38 ?_
      refine SW.iconst (v := (1 : Int32)) C dX10_say_41 (by decide) ?_
      refine SW.iadd C dX10_say_42 ?_
      refine SW.nameOb (wz := fun z => w10 cI cZ qY z) (o := (pa oY 4 (nC (oY 0 10)) v1)) (fun oY_43n he => ?_)
      replace h := h oY_43n he
      refine SW.put (ws' := w10 cI cZ qY (pf oY_43n 10 ((oY 0 10) + (1 : Int32)))) (T := TX10) (N := 25) C inX10_say_X10 tyX10 tyX10_ok nmX10 0 rfl rfl 10 (by decide) lkX10_say_77 rfl rfl rfl (Nat.le_of_ble_eq_true rfl) rfl dX10_say_43 ?_
      refine SW.aload_n C dX10_say_46 rfl 0 rfl ?_
      refine SW.get (v := .int ((oY 0 10) + (1 : Int32))) (T := TX10) (N := 25) C inX10_say_X10 0 rfl rfl 10 (by decide) lkX10_say_77 rfl dX10_say_47 ?_
      exact SW.iret C (pf oY_43n 10 ((oY 0 10) + (1 : Int32))) rfl h dX10_say_50
    · replace h := h.1 hc
      refine SW.bipush (v := (-4 : Int32)) C dX10_say_23 (by decide) ?_
      exact SW.iret C oY rfl h dX10_say_25
  · replace h := h.1 hc
    refine SW.bipush (v := (-2 : Int32)) C dX10_say_11 (by decide) ?_
    exact SW.iret C oY rfl h dX10_say_13
def wpX10_wipe (oY : Ob) (post : Int32 → Ob → Prop) : Prop := post (oY 0 10) (pf oY 10 (0 : Int32))
theorem pdX10_wipe : yX10_wipe.cls = RX10 ∧ yX10_wipe.cls ≠ "java/lang/invoke/MethodHandle" ∧ yX10_wipe.cls ≠ "java/lang/invoke/VarHandle" ∧ (parseMethodDescriptor yX10_wipe.desc).map (fun d => d.parameters.length) = some 0 := by decide +kernel
theorem lkX10_wipe_77 : Cond.fieldLink RX10 77 (TX10 10).1 (TX10 10).2.1 (TX10 10).2.2.1 ∈ wsX10_wipe := by decide +kernel
theorem inX10_wipe_X10 : ∀ w ∈ u_ws RX10 TX10 25, w ∈ wsX10_wipe := by decide +kernel
set_option maxHeartbeats 4000000 in
set_option maxRecDepth 100000 in
theorem ctX10_wipe (l : Launch) (D : va_G) (cI cZ : ClassId) (qY : Nat → Nat) (oY : Ob) (post : Int32 → Ob → Prop) (h : wpX10_wipe oY post) : CTi l yX10_wipe wsX10_wipe { frames := 0, cells := 0, slots := 0, locals := 0 } D [(cI, .int), (cZ, .boolean)] [.ref (qY 0)] (w10 cI cZ qY oY) (fun u : Ob => w10 cI cZ qY u) (fun (r : Int32) (u : Ob) => post r u) := by
  refine CTi.of (cc := cX10_wipe) (own := RX10) (maxL := 2) (ret := (some .int)) (lv0 := [(0, .ref (qY 0))]) (by decide) rfl rfl (Nat.le_of_ble_eq_true rfl) rfl ?_
  intro p e s m args below meth c A C
  unfold wpX10_wipe at h
  refine SW.aload_n C dX10_wipe_0 rfl 0 rfl ?_
  refine SW.get (v := .int (oY 0 10)) (T := TX10) (N := 25) C inX10_wipe_X10 0 rfl rfl 10 (by decide) lkX10_wipe_77 rfl dX10_wipe_1 ?_
  refine SW.istore_n (lv' := [(1, .int (oY 0 10)), (0, .ref (qY 0))]) C dX10_wipe_4 rfl (by decide) rfl ?_
  refine SW.aload_n C dX10_wipe_5 rfl 1 rfl ?_
  refine SW.iconst (v := (0 : Int32)) C dX10_wipe_6 (by decide) ?_
  refine SW.put (ws' := w10 cI cZ qY (pf oY 10 (0 : Int32))) (T := TX10) (N := 25) C inX10_wipe_X10 tyX10 tyX10_ok nmX10 0 rfl rfl 10 (by decide) lkX10_wipe_77 rfl rfl rfl (Nat.le_of_ble_eq_true rfl) rfl dX10_wipe_7 ?_
  refine SW.iload_n C dX10_wipe_10 rfl 0 rfl ?_
  exact SW.iret C (pf oY 10 (0 : Int32)) rfl h dX10_wipe_11
def wpX10_eveningFault_L2 (oYc_2 : Ob) (post : Int32 → Prop) (K54 : Prop) : Nat → Int32 → Prop
  | 0, _ => False
  | fu2 + 1, v1_2 => (((oYc_2 0 10) ≤ v1_2) → K54) ∧ (¬ ((oYc_2 0 10) ≤ v1_2) → (vp_in v1_2 60) ∧ (wpX10_isWindow oYc_2 ((jld (oYc_2 4) v1_2) - (97 : Int32)) (fun (r22 : Int32) => jn0 (wpX10_eveningFault_L2 oYc_2 post K54 fu2 (v1_2 + (1 : Int32))) (fun J48 => ((r22 = 0) → (((jld (oYc_2 4) v1_2) = (43 : Int32)) → J48) ∧ (¬ ((jld (oYc_2 4) v1_2) = (43 : Int32)) → (((jld (oYc_2 4) v1_2) = (45 : Int32)) → J48) ∧ (¬ ((jld (oYc_2 4) v1_2) = (45 : Int32)) → (((jld (oYc_2 4) v1_2) = (46 : Int32)) → J48) ∧ (¬ ((jld (oYc_2 4) v1_2) = (46 : Int32)) → post v1_2)))) ∧ (¬ (r22 = 0) → J48)))))
def wpX10_eveningFault (oY : Ob) (post : Int32 → Prop) : Prop := ∃ fu2 : Nat, wpX10_eveningFault_L2 oY post (post (-6 : Int32)) fu2 (0 : Int32)
theorem pdX10_eveningFault : yX10_eveningFault.cls = RX10 ∧ yX10_eveningFault.cls ≠ "java/lang/invoke/MethodHandle" ∧ yX10_eveningFault.cls ≠ "java/lang/invoke/VarHandle" ∧ (parseMethodDescriptor yX10_eveningFault.desc).map (fun d => d.parameters.length) = some 0 := by decide +kernel
theorem lkX10_eveningFault_77 : Cond.fieldLink RX10 77 (TX10 10).1 (TX10 10).2.1 (TX10 10).2.2.1 ∈ wsX10_eveningFault := by decide +kernel
theorem inX10_eveningFault_X10 : ∀ w ∈ u_ws RX10 TX10 25, w ∈ wsX10_eveningFault := by decide +kernel
theorem lkX10_eveningFault_32 : Cond.fieldLink RX10 32 (TX10 11).1 (TX10 11).2.1 (TX10 11).2.2.1 ∈ wsX10_eveningFault := by decide +kernel
set_option maxHeartbeats 4000000 in
set_option maxRecDepth 100000 in
theorem ctX10_eveningFault (l : Launch) (D : va_G) (cI cZ : ClassId) (qY : Nat → Nat) (oY : Ob) (post : Int32 → Prop) (h : wpX10_eveningFault oY post) : CTi l yX10_eveningFault wsX10_eveningFault { frames := 2, cells := 0, slots := 0, locals := 43 } D [(cI, .int), (cZ, .boolean)] [.ref (qY 0)] (w10 cI cZ qY oY) (fun _ : Unit => w10 cI cZ qY oY) (fun (r : Int32) (_ : Unit) => post r) := by
  refine CTi.of (cc := cX10_eveningFault) (own := RX10) (maxL := 3) (ret := (some .int)) (lv0 := [(0, .ref (qY 0))]) (by decide) rfl rfl (Nat.le_of_ble_eq_true rfl) rfl ?_
  intro p e s m args below meth c A C
  unfold wpX10_eveningFault at h
  refine SW.iconst (v := (0 : Int32)) C dX10_eveningFault_0 (by decide) ?_
  refine SW.istore_n (lv' := [(1, .int (0 : Int32)), (0, .ref (qY 0))]) C dX10_eveningFault_1 rfl (by decide) rfl ?_
  have L2 : ∀ (K54 : Prop) (hK54 : K54 → SW p l e { frames := 2, cells := 0, slots := 0, locals := 43 } s m args below meth c A D 3 0 0 (MQ below (va_Qi (fun (r : Int32) (_ : Unit) => post r) (ctB D A (fun _ : Unit => w10 cI cZ qY oY)) A) args s 0 0 A) (w10 cI cZ qY oY) 54 [] []) (fu : Nat) (v1_2 : Int32), wpX10_eveningFault_L2 oY post K54 fu v1_2 → SW p l e { frames := 2, cells := 0, slots := 0, locals := 43 } s m args below meth c A D 3 0 0 (MQ below (va_Qi (fun (r : Int32) (_ : Unit) => post r) (ctB D A (fun _ : Unit => w10 cI cZ qY oY)) A) args s 0 0 A) (w10 cI cZ qY oY) 2 [(0, .ref (qY 0)), (1, .int v1_2)] [] := by
    intro K54 hK54 fu
    induction fu with
    | zero =>
      intro v1_2 h
      exact False.elim h
    | succ fu ih =>
      intro v1_2 h
      unfold wpX10_eveningFault_L2 at h
      refine SW.iload_n C dX10_eveningFault_2 rfl 1 rfl ?_
      refine SW.aload_n C dX10_eveningFault_3 rfl 0 rfl ?_
      refine SW.get (v := .int (oY 0 10)) (T := TX10) (N := 25) C inX10_eveningFault_X10 0 rfl rfl 10 (by decide) lkX10_eveningFault_77 rfl dX10_eveningFault_4 ?_
      refine SW.icmp_ge (tgt := 54) C dX10_eveningFault_7 (by decide) (fun hc => ?_) (fun hc => ?_)
      · replace h := h.1 hc
        refine SW.sub [] rfl ?_
        exact hK54 h
      · replace h := h.2 hc
        refine SW.aload_n C dX10_eveningFault_10 rfl 0 rfl ?_
        refine SW.get (v := .ref (qY 4)) (T := TX10) (N := 25) C inX10_eveningFault_X10 0 rfl rfl 11 (by decide) lkX10_eveningFault_32 rfl dX10_eveningFault_11 ?_
        refine SW.iload_n C dX10_eveningFault_14 rfl 1 rfl ?_
        refine SW.iald C 4 0 rfl rfl h.1 dX10_eveningFault_15 ?_
        replace h := h.2
        refine SW.istore_n (lv' := [(2, .int (jld (oY 4) v1_2)), (0, .ref (qY 0)), (1, .int v1_2)]) C dX10_eveningFault_16 rfl (by decide) rfl ?_
        refine SW.aload_n C dX10_eveningFault_17 rfl 1 rfl ?_
        refine SW.iload_n C dX10_eveningFault_18 rfl 0 rfl ?_
        refine SW.bipush (v := (97 : Int32)) C dX10_eveningFault_19 (by decide) ?_
        refine SW.isub C dX10_eveningFault_21 ?_
        refine SW.callVi_same C (ctX10_isWindow l D cI cZ qY oY ((jld (oY 4) v1_2) - (97 : Int32)) _ h) gX10_eveningFault_X10_isWindow rfl rfl rfl pdX10_isWindow ⟨by decide, by decide⟩ 0 rfl rfl rfl rfl rfl (Nat.le_of_ble_eq_true rfl) dX10_eveningFault_22 (by decide) (fun r22 u h => ?_)
        try dsimp only at h
        refine jn0_elim (G := SW p l e { frames := 2, cells := 0, slots := 0, locals := 43 } s m args below meth c A D 3 0 0 (MQ below (va_Qi (fun (r : Int32) (_ : Unit) => post r) (ctB D A (fun _ : Unit => w10 cI cZ qY oY)) A) args s 0 0 A) (w10 cI cZ qY oY) 48 [(0, .ref (qY 0)), (1, .int v1_2)] []) h (fun h => ?_) (fun J48 hJ48 h => ?_)
        · refine SW.iinc (q := 1) (v := (v1_2 + (1 : Int32))) (lv' := [(1, .int (v1_2 + (1 : Int32))), (0, .ref (qY 0))]) C dX10_eveningFault_48 rfl rfl (by decide) rfl ?_
          refine SW.goto (tgt := 2) C dX10_eveningFault_51 (by decide) ?_
          refine SW.sub [1, 0] rfl ?_
          exact ih _ h
        · refine SW.if_ne (tgt := 48) C dX10_eveningFault_25 (by decide) (fun hc => ?_) (fun hc => ?_)
          · replace h := h.2 hc
            refine SW.sub [1, 2] rfl ?_
            exact hJ48 h
          · replace h := h.1 hc
            refine SW.iload_n C dX10_eveningFault_28 rfl 0 rfl ?_
            refine SW.bipush (v := (43 : Int32)) C dX10_eveningFault_29 (by decide) ?_
            refine SW.icmp_eq (tgt := 48) C dX10_eveningFault_31 (by decide) (fun hc => ?_) (fun hc => ?_)
            · replace h := h.1 hc
              refine SW.sub [1, 2] rfl ?_
              exact hJ48 h
            · replace h := h.2 hc
              refine SW.iload_n C dX10_eveningFault_34 rfl 0 rfl ?_
              refine SW.bipush (v := (45 : Int32)) C dX10_eveningFault_35 (by decide) ?_
              refine SW.icmp_eq (tgt := 48) C dX10_eveningFault_37 (by decide) (fun hc => ?_) (fun hc => ?_)
              · replace h := h.1 hc
                refine SW.sub [1, 2] rfl ?_
                exact hJ48 h
              · replace h := h.2 hc
                refine SW.iload_n C dX10_eveningFault_40 rfl 0 rfl ?_
                refine SW.bipush (v := (46 : Int32)) C dX10_eveningFault_41 (by decide) ?_
                refine SW.icmp_eq (tgt := 48) C dX10_eveningFault_43 (by decide) (fun hc => ?_) (fun hc => ?_)
                · replace h := h.1 hc
                  refine SW.sub [1, 2] rfl ?_
                  exact hJ48 h
                · replace h := h.2 hc
                  refine SW.iload_n C dX10_eveningFault_46 rfl 2 rfl ?_
                  exact SW.iret C () rfl h dX10_eveningFault_47
  obtain ⟨fu, h⟩ := h
  refine SW.sub [1, 0] rfl ?_
  refine L2 _ (fun h => ?_) fu _ h
  · refine SW.bipush (v := (-6 : Int32)) C dX10_eveningFault_54 (by decide) ?_
    exact SW.iret C () rfl h dX10_eveningFault_56
def wpX10_tuneFault_L2 (oYc_2 : Ob) (post : Int32 → Prop) (K104 : Prop) : Nat → Int32 → Prop
  | 0, _ => False
  | fu2 + 1, v1_2 => (((oYc_2 0 10) ≤ v1_2) → K104) ∧ (¬ ((oYc_2 0 10) ≤ v1_2) → jn1 (fun (p0_21 : Int32) => jn1 (fun (p0_91 : Int32) => ((p0_91 = 0) → post v1_2) ∧ (¬ (p0_91 = 0) → wpX10_tuneFault_L2 oYc_2 post K104 fu2 (v1_2 + (1 : Int32)))) (fun J91 => ((p0_21 = 0) → (vp_in v1_2 60) ∧ ((vp_in (v1_2 - (1 : Int32)) 60) ∧ (jn2 (fun (p0_68 : Int32) (p1_68 : Int32) => (vp_in (v1_2 - (1 : Int32)) 60) ∧ (jn3 (fun (p0_88 : Int32) (p1_88 : Int32) (p2_88 : Int32) => wpX10_in p2_88 p1_88 p0_88 (fun (r88 : Int32) => J91 r88)) (fun J88 => (((jld (oYc_2 4) (v1_2 - (1 : Int32))) = (50 : Int32)) → J88 (48 : Int32) p0_68 p1_68) ∧ (¬ ((jld (oYc_2 4) (v1_2 - (1 : Int32))) = (50 : Int32)) → J88 (57 : Int32) p0_68 p1_68)))) (fun J68 => (((jld (oYc_2 4) (v1_2 - (1 : Int32))) = (48 : Int32)) → J68 (49 : Int32) (jld (oYc_2 4) v1_2)) ∧ (¬ ((jld (oYc_2 4) (v1_2 - (1 : Int32))) = (48 : Int32)) → J68 (48 : Int32) (jld (oYc_2 4) v1_2)))))) ∧ (¬ (p0_21 = 0) → (vp_in v1_2 60) ∧ (wpX10_in (jld (oYc_2 4) v1_2) (48 : Int32) (50 : Int32) (fun (r36 : Int32) => J91 r36))))) (fun J21 => (((jrem v1_2 (2 : Int32)) = 0) → J21 (1 : Int32)) ∧ (¬ ((jrem v1_2 (2 : Int32)) = 0) → J21 (0 : Int32))))
def wpX10_tuneFault (oY : Ob) (post : Int32 → Prop) : Prop := ∃ fu2 : Nat, wpX10_tuneFault_L2 oY post (jn0 (post (oY 0 10)) (fun J121 => (((oY 0 10) = 0) → J121) ∧ (¬ ((oY 0 10) = 0) → (((jrem (oY 0 10) (2 : Int32)) = (1 : Int32)) → J121) ∧ (¬ ((jrem (oY 0 10) (2 : Int32)) = (1 : Int32)) → post (-6 : Int32))))) fu2 (0 : Int32)
theorem pdX10_tuneFault : yX10_tuneFault.cls = RX10 ∧ yX10_tuneFault.cls ≠ "java/lang/invoke/MethodHandle" ∧ yX10_tuneFault.cls ≠ "java/lang/invoke/VarHandle" ∧ (parseMethodDescriptor yX10_tuneFault.desc).map (fun d => d.parameters.length) = some 0 := by decide +kernel
theorem lkX10_tuneFault_77 : Cond.fieldLink RX10 77 (TX10 10).1 (TX10 10).2.1 (TX10 10).2.2.1 ∈ wsX10_tuneFault := by decide +kernel
theorem inX10_tuneFault_X10 : ∀ w ∈ u_ws RX10 TX10 25, w ∈ wsX10_tuneFault := by decide +kernel
theorem lkX10_tuneFault_32 : Cond.fieldLink RX10 32 (TX10 11).1 (TX10 11).2.1 (TX10 11).2.2.1 ∈ wsX10_tuneFault := by decide +kernel
set_option maxHeartbeats 4000000 in
set_option maxRecDepth 100000 in
theorem ctX10_tuneFault (l : Launch) (D : va_G) (cI cZ : ClassId) (qY : Nat → Nat) (oY : Ob) (post : Int32 → Prop) (h : wpX10_tuneFault oY post) : CTi l yX10_tuneFault wsX10_tuneFault { frames := 1, cells := 0, slots := 0, locals := 22 } D [(cI, .int), (cZ, .boolean)] [.ref (qY 0)] (w10 cI cZ qY oY) (fun _ : Unit => w10 cI cZ qY oY) (fun (r : Int32) (_ : Unit) => post r) := by
  refine CTi.of (cc := cX10_tuneFault) (own := RX10) (maxL := 4) (ret := (some .int)) (lv0 := [(0, .ref (qY 0))]) (by decide) rfl rfl (Nat.le_of_ble_eq_true rfl) rfl ?_
  intro p e s m args below meth c A C
  unfold wpX10_tuneFault at h
  refine SW.iconst (v := (0 : Int32)) C dX10_tuneFault_0 (by decide) ?_
  refine SW.istore_n (lv' := [(1, .int (0 : Int32)), (0, .ref (qY 0))]) C dX10_tuneFault_1 rfl (by decide) rfl ?_
  have L2 : ∀ (K104 : Prop) (hK104 : K104 → SW p l e { frames := 1, cells := 0, slots := 0, locals := 22 } s m args below meth c A D 4 0 0 (MQ below (va_Qi (fun (r : Int32) (_ : Unit) => post r) (ctB D A (fun _ : Unit => w10 cI cZ qY oY)) A) args s 0 0 A) (w10 cI cZ qY oY) 104 [(0, .ref (qY 0))] []) (fu : Nat) (v1_2 : Int32), wpX10_tuneFault_L2 oY post K104 fu v1_2 → SW p l e { frames := 1, cells := 0, slots := 0, locals := 22 } s m args below meth c A D 4 0 0 (MQ below (va_Qi (fun (r : Int32) (_ : Unit) => post r) (ctB D A (fun _ : Unit => w10 cI cZ qY oY)) A) args s 0 0 A) (w10 cI cZ qY oY) 2 [(0, .ref (qY 0)), (1, .int v1_2)] [] := by
    intro K104 hK104 fu
    induction fu with
    | zero =>
      intro v1_2 h
      exact False.elim h
    | succ fu ih =>
      intro v1_2 h
      unfold wpX10_tuneFault_L2 at h
      refine SW.iload_n C dX10_tuneFault_2 rfl 1 rfl ?_
      refine SW.aload_n C dX10_tuneFault_3 rfl 0 rfl ?_
      refine SW.get (v := .int (oY 0 10)) (T := TX10) (N := 25) C inX10_tuneFault_X10 0 rfl rfl 10 (by decide) lkX10_tuneFault_77 rfl dX10_tuneFault_4 ?_
      refine SW.icmp_ge (tgt := 104) C dX10_tuneFault_7 (by decide) (fun hc => ?_) (fun hc => ?_)
      · replace h := h.1 hc
        refine SW.sub [0] rfl ?_
        exact hK104 h
      · replace h := h.2 hc
        refine SW.iload_n C dX10_tuneFault_10 rfl 1 rfl ?_
        refine SW.iconst (v := (2 : Int32)) C dX10_tuneFault_11 (by decide) ?_
        refine SW.irem C dX10_tuneFault_12 (by decide) ?_
        refine jn1_elim (G := fun p0_21 => SW p l e { frames := 1, cells := 0, slots := 0, locals := 22 } s m args below meth c A D 4 0 0 (MQ below (va_Qi (fun (r : Int32) (_ : Unit) => post r) (ctB D A (fun _ : Unit => w10 cI cZ qY oY)) A) args s 0 0 A) (w10 cI cZ qY oY) 21 [(0, .ref (qY 0)), (1, .int v1_2)] [.int p0_21]) h (fun p0_21 h => ?_) (fun J21 hJ21 h => ?_)
        · refine SW.istore_n (lv' := [(2, .int p0_21), (0, .ref (qY 0)), (1, .int v1_2)]) C dX10_tuneFault_21 rfl (by decide) rfl ?_
          refine SW.iload_n C dX10_tuneFault_22 rfl 0 rfl ?_
          refine jn1_elim (G := fun p0_91 => SW p l e { frames := 1, cells := 0, slots := 0, locals := 22 } s m args below meth c A D 4 0 0 (MQ below (va_Qi (fun (r : Int32) (_ : Unit) => post r) (ctB D A (fun _ : Unit => w10 cI cZ qY oY)) A) args s 0 0 A) (w10 cI cZ qY oY) 91 [(0, .ref (qY 0)), (1, .int v1_2)] [.int p0_91]) h (fun p0_91 h => ?_) (fun J91 hJ91 h => ?_)
          · refine SW.istore_n (lv' := [(3, .int p0_91), (0, .ref (qY 0)), (1, .int v1_2)]) C dX10_tuneFault_91 rfl (by decide) rfl ?_
            refine SW.iload_n C dX10_tuneFault_92 rfl 0 rfl ?_
            refine SW.if_ne (tgt := 98) C dX10_tuneFault_93 (by decide) (fun hc => ?_) (fun hc => ?_)
            · replace h := h.2 hc
              refine SW.iinc (q := 2) (v := (v1_2 + (1 : Int32))) (lv' := [(1, .int (v1_2 + (1 : Int32))), (3, .int p0_91), (0, .ref (qY 0))]) C dX10_tuneFault_98 rfl rfl (by decide) rfl ?_
              refine SW.goto (tgt := 2) C dX10_tuneFault_101 (by decide) ?_
              refine SW.sub [2, 0] rfl ?_
              exact ih _ h
            · replace h := h.1 hc
              refine SW.iload_n C dX10_tuneFault_96 rfl 2 rfl ?_
              exact SW.iret C () rfl h dX10_tuneFault_97
          · refine SW.if_eq (tgt := 42) C dX10_tuneFault_23 (by decide) (fun hc => ?_) (fun hc => ?_)
            · replace h := h.1 hc
              refine SW.aload_n C dX10_tuneFault_42 rfl 1 rfl ?_
              refine SW.get (v := .ref (qY 4)) (T := TX10) (N := 25) C inX10_tuneFault_X10 0 rfl rfl 11 (by decide) lkX10_tuneFault_32 rfl dX10_tuneFault_43 ?_
              refine SW.iload_n C dX10_tuneFault_46 rfl 2 rfl ?_
              refine SW.iald C 4 0 rfl rfl h.1 dX10_tuneFault_47 ?_
              replace h := h.2
              refine SW.aload_n C dX10_tuneFault_48 rfl 1 rfl ?_
              refine SW.get (v := .ref (qY 4)) (T := TX10) (N := 25) C inX10_tuneFault_X10 0 rfl rfl 11 (by decide) lkX10_tuneFault_32 rfl dX10_tuneFault_49 ?_
              refine SW.iload_n C dX10_tuneFault_52 rfl 2 rfl ?_
              refine SW.iconst (v := (1 : Int32)) C dX10_tuneFault_53 (by decide) ?_
              refine SW.isub C dX10_tuneFault_54 ?_
              refine SW.iald C 4 0 rfl rfl h.1 dX10_tuneFault_55 ?_
              replace h := h.2
              refine SW.bipush (v := (48 : Int32)) C dX10_tuneFault_56 (by decide) ?_
              refine jn2_elim (G := fun p0_68 p1_68 => SW p l e { frames := 1, cells := 0, slots := 0, locals := 22 } s m args below meth c A D 4 0 0 (MQ below (va_Qi (fun (r : Int32) (_ : Unit) => post r) (ctB D A (fun _ : Unit => w10 cI cZ qY oY)) A) args s 0 0 A) (w10 cI cZ qY oY) 68 [(0, .ref (qY 0)), (1, .int v1_2)] [.int p0_68, .int p1_68]) h (fun p0_68 p1_68 h => ?_) (fun J68 hJ68 h => ?_)
              · refine SW.aload_n C dX10_tuneFault_68 rfl 0 rfl ?_
                refine SW.get (v := .ref (qY 4)) (T := TX10) (N := 25) C inX10_tuneFault_X10 0 rfl rfl 11 (by decide) lkX10_tuneFault_32 rfl dX10_tuneFault_69 ?_
                refine SW.iload_n C dX10_tuneFault_72 rfl 1 rfl ?_
                refine SW.iconst (v := (1 : Int32)) C dX10_tuneFault_73 (by decide) ?_
                refine SW.isub C dX10_tuneFault_74 ?_
                refine SW.iald C 4 0 rfl rfl h.1 dX10_tuneFault_75 ?_
                replace h := h.2
                refine SW.bipush (v := (50 : Int32)) C dX10_tuneFault_76 (by decide) ?_
                refine jn3_elim (G := fun p0_88 p1_88 p2_88 => SW p l e { frames := 1, cells := 0, slots := 0, locals := 22 } s m args below meth c A D 4 0 0 (MQ below (va_Qi (fun (r : Int32) (_ : Unit) => post r) (ctB D A (fun _ : Unit => w10 cI cZ qY oY)) A) args s 0 0 A) (w10 cI cZ qY oY) 88 [(0, .ref (qY 0)), (1, .int v1_2)] [.int p0_88, .int p1_88, .int p2_88]) h (fun p0_88 p1_88 p2_88 h => ?_) (fun J88 hJ88 h => ?_)
                · refine SW.callSi_pure C (ctX10_in l D cI cZ p2_88 p1_88 p0_88 _ h) gX10_tuneFault_X10_in rfl rfl rfl pdX10_in ⟨by decide, by decide⟩ rfl rfl (Nat.le_of_ble_eq_true rfl) dX10_tuneFault_88 (by decide) (fun r88 u h => ?_)
                  try dsimp only at h
                  exact hJ91 _ h
                · refine SW.icmp_ne (tgt := 86) C dX10_tuneFault_78 (by decide) (fun hc => ?_) (fun hc => ?_)
                  · replace h := h.2 hc
                    refine SW.bipush (v := (57 : Int32)) C dX10_tuneFault_86 (by decide) ?_
                    exact hJ88 _ _ _ h
                  · replace h := h.1 hc
                    refine SW.bipush (v := (48 : Int32)) C dX10_tuneFault_81 (by decide) ?_
                    refine SW.goto (tgt := 88) C dX10_tuneFault_83 (by decide) ?_
                    exact hJ88 _ _ _ h
              · refine SW.icmp_ne (tgt := 66) C dX10_tuneFault_58 (by decide) (fun hc => ?_) (fun hc => ?_)
                · replace h := h.2 hc
                  refine SW.bipush (v := (48 : Int32)) C dX10_tuneFault_66 (by decide) ?_
                  refine SW.sub [1, 2] rfl ?_
                  exact hJ68 _ _ h
                · replace h := h.1 hc
                  refine SW.bipush (v := (49 : Int32)) C dX10_tuneFault_61 (by decide) ?_
                  refine SW.goto (tgt := 68) C dX10_tuneFault_63 (by decide) ?_
                  refine SW.sub [1, 2] rfl ?_
                  exact hJ68 _ _ h
            · replace h := h.2 hc
              refine SW.aload_n C dX10_tuneFault_26 rfl 1 rfl ?_
              refine SW.get (v := .ref (qY 4)) (T := TX10) (N := 25) C inX10_tuneFault_X10 0 rfl rfl 11 (by decide) lkX10_tuneFault_32 rfl dX10_tuneFault_27 ?_
              refine SW.iload_n C dX10_tuneFault_30 rfl 2 rfl ?_
              refine SW.iald C 4 0 rfl rfl h.1 dX10_tuneFault_31 ?_
              replace h := h.2
              refine SW.bipush (v := (48 : Int32)) C dX10_tuneFault_32 (by decide) ?_
              refine SW.bipush (v := (50 : Int32)) C dX10_tuneFault_34 (by decide) ?_
              refine SW.callSi_pure C (ctX10_in l D cI cZ (jld (oY 4) v1_2) (48 : Int32) (50 : Int32) _ h) gX10_tuneFault_X10_in rfl rfl rfl pdX10_in ⟨by decide, by decide⟩ rfl rfl (Nat.le_of_ble_eq_true rfl) dX10_tuneFault_36 (by decide) (fun r36 u h => ?_)
              try dsimp only at h
              refine SW.goto (tgt := 91) C dX10_tuneFault_39 (by decide) ?_
              refine SW.sub [1, 2] rfl ?_
              exact hJ91 _ h
        · refine SW.if_ne (tgt := 20) C dX10_tuneFault_13 (by decide) (fun hc => ?_) (fun hc => ?_)
          · replace h := h.2 hc
            refine SW.iconst (v := (0 : Int32)) C dX10_tuneFault_20 (by decide) ?_
            exact hJ21 _ h
          · replace h := h.1 hc
            refine SW.iconst (v := (1 : Int32)) C dX10_tuneFault_16 (by decide) ?_
            refine SW.goto (tgt := 21) C dX10_tuneFault_17 (by decide) ?_
            exact hJ21 _ h
  obtain ⟨fu, h⟩ := h
  refine SW.sub [1, 0] rfl ?_
  refine L2 _ (fun h => ?_) fu _ h
  · refine SW.aload_n C dX10_tuneFault_104 rfl 0 rfl ?_
    refine SW.get (v := .int (oY 0 10)) (T := TX10) (N := 25) C inX10_tuneFault_X10 0 rfl rfl 10 (by decide) lkX10_tuneFault_77 rfl dX10_tuneFault_105 ?_
    refine jn0_elim (G := SW p l e { frames := 1, cells := 0, slots := 0, locals := 22 } s m args below meth c A D 4 0 0 (MQ below (va_Qi (fun (r : Int32) (_ : Unit) => post r) (ctB D A (fun _ : Unit => w10 cI cZ qY oY)) A) args s 0 0 A) (w10 cI cZ qY oY) 121 [(0, .ref (qY 0))] []) h (fun h => ?_) (fun J121 hJ121 h => ?_)
    · refine SW.aload_n C dX10_tuneFault_121 rfl 0 rfl ?_
      refine SW.get (v := .int (oY 0 10)) (T := TX10) (N := 25) C inX10_tuneFault_X10 0 rfl rfl 10 (by decide) lkX10_tuneFault_77 rfl dX10_tuneFault_122 ?_
      refine SW.goto (tgt := 130) C dX10_tuneFault_125 (by decide) ?_
      exact SW.iret C () rfl h dX10_tuneFault_130
    · refine SW.if_eq (tgt := 121) C dX10_tuneFault_108 (by decide) (fun hc => ?_) (fun hc => ?_)
      · replace h := h.1 hc
        exact hJ121 h
      · replace h := h.2 hc
        refine SW.aload_n C dX10_tuneFault_111 rfl 0 rfl ?_
        refine SW.get (v := .int (oY 0 10)) (T := TX10) (N := 25) C inX10_tuneFault_X10 0 rfl rfl 10 (by decide) lkX10_tuneFault_77 rfl dX10_tuneFault_112 ?_
        refine SW.iconst (v := (2 : Int32)) C dX10_tuneFault_115 (by decide) ?_
        refine SW.irem C dX10_tuneFault_116 (by decide) ?_
        refine SW.iconst (v := (1 : Int32)) C dX10_tuneFault_117 (by decide) ?_
        refine SW.icmp_ne (tgt := 128) C dX10_tuneFault_118 (by decide) (fun hc => ?_) (fun hc => ?_)
        · replace h := h.2 hc
          refine SW.bipush (v := (-6 : Int32)) C dX10_tuneFault_128 (by decide) ?_
          exact SW.iret C () rfl h dX10_tuneFault_130
        · replace h := h.1 hc
          exact hJ121 h
def wpX10_fault (oY : Ob) (v1 : Int32) (post : Int32 → Prop) : Prop := ((v1 = 0) → wpX10_eveningFault oY (fun (r5 : Int32) => post r5)) ∧ (¬ (v1 = 0) → ((v1 = (1 : Int32)) → wpX10_tuneFault oY (fun (r17 : Int32) => post r17)) ∧ (¬ (v1 = (1 : Int32)) → post (-2 : Int32)))
theorem pdX10_fault : yX10_fault.cls = RX10 ∧ yX10_fault.cls ≠ "java/lang/invoke/MethodHandle" ∧ yX10_fault.cls ≠ "java/lang/invoke/VarHandle" ∧ (parseMethodDescriptor yX10_fault.desc).map (fun d => d.parameters.length) = some 1 := by decide +kernel
set_option maxHeartbeats 4000000 in
set_option maxRecDepth 100000 in
theorem ctX10_fault (l : Launch) (D : va_G) (cI cZ : ClassId) (qY : Nat → Nat) (oY : Ob) (v1 : Int32) (post : Int32 → Prop) (h : wpX10_fault oY v1 post) : CTi l yX10_fault wsX10_fault { frames := 3, cells := 0, slots := 0, locals := 65 } D [(cI, .int), (cZ, .boolean)] [.ref (qY 0), .int v1] (w10 cI cZ qY oY) (fun _ : Unit => w10 cI cZ qY oY) (fun (r : Int32) (_ : Unit) => post r) := by
  refine CTi.of (cc := cX10_fault) (own := RX10) (maxL := 2) (ret := (some .int)) (lv0 := [(0, .ref (qY 0)), (1, .int v1)]) (by decide) rfl rfl (Nat.le_of_ble_eq_true rfl) rfl ?_
  intro p e s m args below meth c A C
  unfold wpX10_fault at h
  refine SW.iload_n C dX10_fault_0 rfl 1 rfl ?_
  refine SW.if_ne (tgt := 11) C dX10_fault_1 (by decide) (fun hc => ?_) (fun hc => ?_)
  · replace h := h.2 hc
    refine SW.iload_n C dX10_fault_11 rfl 1 rfl ?_
    refine SW.iconst (v := (1 : Int32)) C dX10_fault_12 (by decide) ?_
    refine SW.icmp_ne (tgt := 23) C dX10_fault_13 (by decide) (fun hc => ?_) (fun hc => ?_)
    · replace h := h.2 hc
      refine SW.bipush (v := (-2 : Int32)) C dX10_fault_23 (by decide) ?_
      exact SW.iret C () rfl h dX10_fault_25
    · replace h := h.1 hc
      refine SW.aload_n C dX10_fault_16 rfl 0 rfl ?_
      refine SW.callVi_same C (ctX10_tuneFault l D cI cZ qY oY _ h) gX10_fault_X10_tuneFault rfl rfl rfl pdX10_tuneFault ⟨by decide, by decide⟩ 0 rfl rfl rfl rfl rfl (Nat.le_of_ble_eq_true rfl) dX10_fault_17 (by decide) (fun r17 u h => ?_)
      try dsimp only at h
      refine SW.goto (tgt := 25) C dX10_fault_20 (by decide) ?_
      exact SW.iret C () rfl h dX10_fault_25
  · replace h := h.1 hc
    refine SW.aload_n C dX10_fault_4 rfl 0 rfl ?_
    refine SW.callVi_same C (ctX10_eveningFault l D cI cZ qY oY _ h) gX10_fault_X10_eveningFault rfl rfl rfl pdX10_eveningFault ⟨by decide, by decide⟩ 0 rfl rfl rfl rfl rfl (Nat.le_of_ble_eq_true rfl) dX10_fault_5 (by decide) (fun r5 u h => ?_)
    try dsimp only at h
    refine SW.goto (tgt := 25) C dX10_fault_8 (by decide) ?_
    exact SW.iret C () rfl h dX10_fault_25
def wpX10_at_L4 (c1_4 : Int32) (oYc_4 : Ob) (K24 : Int32 → Prop) : Nat → Int32 → Int32 → Prop
  | 0, _, _ => False
  | fu4 + 1, v2_4, v3_4 => ((c1_4 < v3_4) → K24 v2_4) ∧ (¬ (c1_4 < v3_4) → (vp_in v3_4 10) ∧ (wpX10_at_L4 c1_4 oYc_4 K24 fu4 (v2_4 + (jld (oYc_4 1) v3_4)) (v3_4 + (1 : Int32))))
def wpX10_at (oY : Ob) (v1 : Int32) (post : Int32 → Prop) : Prop := ∃ fu4 : Nat, wpX10_at_L4 v1 oY (fun (v2_24 : Int32) => post v2_24) fu4 (0 : Int32) (0 : Int32)
theorem pdX10_at : yX10_at.cls = RX10 ∧ yX10_at.cls ≠ "java/lang/invoke/MethodHandle" ∧ yX10_at.cls ≠ "java/lang/invoke/VarHandle" ∧ (parseMethodDescriptor yX10_at.desc).map (fun d => d.parameters.length) = some 1 := by decide +kernel
theorem lkX10_at_13 : Cond.fieldLink RX10 13 (TX10 1).1 (TX10 1).2.1 (TX10 1).2.2.1 ∈ wsX10_at := by decide +kernel
theorem inX10_at_X10 : ∀ w ∈ u_ws RX10 TX10 25, w ∈ wsX10_at := by decide +kernel
set_option maxHeartbeats 4000000 in
set_option maxRecDepth 100000 in
theorem ctX10_at (l : Launch) (D : va_G) (cI cZ : ClassId) (qY : Nat → Nat) (oY : Ob) (v1 : Int32) (post : Int32 → Prop) (h : wpX10_at oY v1 post) : CTi l yX10_at wsX10_at { frames := 0, cells := 0, slots := 0, locals := 0 } D [(cI, .int), (cZ, .boolean)] [.ref (qY 0), .int v1] (w10 cI cZ qY oY) (fun _ : Unit => w10 cI cZ qY oY) (fun (r : Int32) (_ : Unit) => post r) := by
  refine CTi.of (cc := cX10_at) (own := RX10) (maxL := 4) (ret := (some .int)) (lv0 := [(0, .ref (qY 0)), (1, .int v1)]) (by decide) rfl rfl (Nat.le_of_ble_eq_true rfl) rfl ?_
  intro p e s m args below meth c A C
  unfold wpX10_at at h
  refine SW.iconst (v := (0 : Int32)) C dX10_at_0 (by decide) ?_
  refine SW.istore_n (lv' := [(2, .int (0 : Int32)), (0, .ref (qY 0)), (1, .int v1)]) C dX10_at_1 rfl (by decide) rfl ?_
  refine SW.iconst (v := (0 : Int32)) C dX10_at_2 (by decide) ?_
  refine SW.istore_n (lv' := [(3, .int (0 : Int32)), (2, .int (0 : Int32)), (0, .ref (qY 0)), (1, .int v1)]) C dX10_at_3 rfl (by decide) rfl ?_
  have L4 : ∀ (K24 : Int32 → Prop) (hK24 : ∀ (v2_24 : Int32), K24 v2_24 → SW p l e { frames := 0, cells := 0, slots := 0, locals := 0 } s m args below meth c A D 4 0 0 (MQ below (va_Qi (fun (r : Int32) (_ : Unit) => post r) (ctB D A (fun _ : Unit => w10 cI cZ qY oY)) A) args s 0 0 A) (w10 cI cZ qY oY) 24 [(2, .int v2_24)] []) (fu : Nat) (v2_4 : Int32) (v3_4 : Int32), wpX10_at_L4 v1 oY K24 fu v2_4 v3_4 → SW p l e { frames := 0, cells := 0, slots := 0, locals := 0 } s m args below meth c A D 4 0 0 (MQ below (va_Qi (fun (r : Int32) (_ : Unit) => post r) (ctB D A (fun _ : Unit => w10 cI cZ qY oY)) A) args s 0 0 A) (w10 cI cZ qY oY) 4 [(0, .ref (qY 0)), (1, .int v1), (2, .int v2_4), (3, .int v3_4)] [] := by
    intro K24 hK24 fu
    induction fu with
    | zero =>
      intro v2_4 v3_4 h
      exact False.elim h
    | succ fu ih =>
      intro v2_4 v3_4 h
      unfold wpX10_at_L4 at h
      refine SW.iload_n C dX10_at_4 rfl 3 rfl ?_
      refine SW.iload_n C dX10_at_5 rfl 1 rfl ?_
      refine SW.icmp_gt (tgt := 24) C dX10_at_6 (by decide) (fun hc => ?_) (fun hc => ?_)
      · replace h := h.1 hc
        refine SW.sub [2] rfl ?_
        exact hK24 _ h
      · replace h := h.2 hc
        refine SW.iload_n C dX10_at_9 rfl 2 rfl ?_
        refine SW.aload_n C dX10_at_10 rfl 0 rfl ?_
        refine SW.get (v := .ref (qY 1)) (T := TX10) (N := 25) C inX10_at_X10 0 rfl rfl 1 (by decide) lkX10_at_13 rfl dX10_at_11 ?_
        refine SW.iload_n C dX10_at_14 rfl 3 rfl ?_
        refine SW.iald C 1 0 rfl rfl h.1 dX10_at_15 ?_
        replace h := h.2
        refine SW.iadd C dX10_at_16 ?_
        refine SW.istore_n (lv' := [(2, .int (v2_4 + (jld (oY 1) v3_4))), (0, .ref (qY 0)), (1, .int v1), (3, .int v3_4)]) C dX10_at_17 rfl (by decide) rfl ?_
        refine SW.iinc (q := 3) (v := (v3_4 + (1 : Int32))) (lv' := [(3, .int (v3_4 + (1 : Int32))), (2, .int (v2_4 + (jld (oY 1) v3_4))), (0, .ref (qY 0)), (1, .int v1)]) C dX10_at_18 rfl rfl (by decide) rfl ?_
        refine SW.goto (tgt := 4) C dX10_at_21 (by decide) ?_
        refine SW.sub [2, 3, 1, 0] rfl ?_
        exact ih _ _ h
  obtain ⟨fu, h⟩ := h
  refine SW.sub [2, 3, 1, 0] rfl ?_
  refine L4 _ (fun v2_24 h => ?_) fu _ _ h
  · refine SW.iload_n C dX10_at_24 rfl 0 rfl ?_
    exact SW.iret C () rfl h dX10_at_25
def wpX10_lengthOf_L25 (c1_25 : Int32) (c2_25 : Int32) (oYc_25 : Ob) (K68 : Int32 → Prop) : Nat → Int32 → Int32 → Prop
  | 0, _, _ => False
  | fu25 + 1, v4_25, v6_25 => (((oYc_25 0 0) ≤ v6_25) → K68 v4_25) ∧ (¬ ((oYc_25 0 0) ≤ v6_25) → wpX10_has c2_25 v6_25 (fun (r37 : Int32) => jn1 (fun (p0_60 : Int32) => wpX10_lengthOf_L25 c1_25 c2_25 oYc_25 K68 fu25 p0_60 (v6_25 + (1 : Int32))) (fun J60 => jn0 (J60 v4_25) (fun J58 => ((r37 = 0) → J58) ∧ (¬ (r37 = 0) → ((c1_25 < v6_25) → J58) ∧ (¬ (c1_25 < v6_25) → wpX10_at oYc_25 v6_25 (fun (r52 : Int32) => J60 r52)))))))
def wpX10_lengthOf_L76 (c1_76 : Int32) (c2_76 : Int32) (oYc_76 : Ob) (K110 : Int32 → Prop) : Nat → Int32 → Int32 → Prop
  | 0, _, _ => False
  | fu76 + 1, v5_76, v6_76 => ((v6_76 ≤ c1_76) → K110 v5_76) ∧ (¬ (v6_76 ≤ c1_76) → wpX10_has c2_76 v6_76 (fun (r85 : Int32) => jn1 (fun (p0_102 : Int32) => wpX10_lengthOf_L76 c1_76 c2_76 oYc_76 K110 fu76 p0_102 (v6_76 + (-1 : Int32))) (fun J102 => ((r85 = 0) → J102 v5_76) ∧ (¬ (r85 = 0) → wpX10_at oYc_76 v6_76 (fun (r94 : Int32) => J102 r94)))))
def wpX10_lengthOf (oY : Ob) (v1 : Int32) (v2 : Int32) (v3 : Int32) (post : Int32 → Prop) : Prop := wpX10_at oY ((oY 0 0) - (1 : Int32)) (fun (r10 : Int32) => ∃ fu25 : Nat, wpX10_lengthOf_L25 v1 v2 oY (fun (v4_68 : Int32) => ∃ fu76 : Nat, wpX10_lengthOf_L76 v1 v2 oY (fun (v5_110 : Int32) => post (v5_110 - v4_68)) fu76 ((r10 + (oY 0 2)) + v3) ((oY 0 0) - (1 : Int32))) fu25 (0 : Int32) (0 : Int32))
theorem pdX10_lengthOf : yX10_lengthOf.cls = RX10 ∧ yX10_lengthOf.cls ≠ "java/lang/invoke/MethodHandle" ∧ yX10_lengthOf.cls ≠ "java/lang/invoke/VarHandle" ∧ (parseMethodDescriptor yX10_lengthOf.desc).map (fun d => d.parameters.length) = some 3 := by decide +kernel
theorem lkX10_lengthOf_7 : Cond.fieldLink RX10 7 (TX10 0).1 (TX10 0).2.1 (TX10 0).2.2.1 ∈ wsX10_lengthOf := by decide +kernel
theorem inX10_lengthOf_X10 : ∀ w ∈ u_ws RX10 TX10 25, w ∈ wsX10_lengthOf := by decide +kernel
theorem lkX10_lengthOf_17 : Cond.fieldLink RX10 17 (TX10 2).1 (TX10 2).2.1 (TX10 2).2.2.1 ∈ wsX10_lengthOf := by decide +kernel
set_option maxHeartbeats 4000000 in
set_option maxRecDepth 100000 in
theorem ctX10_lengthOf (l : Launch) (D : va_G) (cI cZ : ClassId) (qY : Nat → Nat) (oY : Ob) (v1 : Int32) (v2 : Int32) (v3 : Int32) (post : Int32 → Prop) (h : wpX10_lengthOf oY v1 v2 v3 post) : CTi l yX10_lengthOf wsX10_lengthOf { frames := 1, cells := 0, slots := 0, locals := 23 } D [(cI, .int), (cZ, .boolean)] [.ref (qY 0), .int v1, .int v2, .int v3] (w10 cI cZ qY oY) (fun _ : Unit => w10 cI cZ qY oY) (fun (r : Int32) (_ : Unit) => post r) := by
  refine CTi.of (cc := cX10_lengthOf) (own := RX10) (maxL := 7) (ret := (some .int)) (lv0 := [(0, .ref (qY 0)), (1, .int v1), (2, .int v2), (3, .int v3)]) (by decide) rfl rfl (Nat.le_of_ble_eq_true rfl) rfl ?_
  intro p e s m args below meth c A C
  unfold wpX10_lengthOf at h
  refine SW.iconst (v := (0 : Int32)) C dX10_lengthOf_0 (by decide) ?_
  refine SW.istore (lv' := [(4, .int (0 : Int32)), (0, .ref (qY 0)), (1, .int v1), (2, .int v2), (3, .int v3)]) C dX10_lengthOf_1 (by decide) rfl ?_
  refine SW.aload_n C dX10_lengthOf_3 rfl 1 rfl ?_
  refine SW.aload_n C dX10_lengthOf_4 rfl 1 rfl ?_
  refine SW.get (v := .int (oY 0 0)) (T := TX10) (N := 25) C inX10_lengthOf_X10 0 rfl rfl 0 (by decide) lkX10_lengthOf_7 rfl dX10_lengthOf_5 ?_
  refine SW.iconst (v := (1 : Int32)) C dX10_lengthOf_8 (by decide) ?_
  refine SW.isub C dX10_lengthOf_9 ?_
  refine SW.callVi_same C (ctX10_at l D cI cZ qY oY ((oY 0 0) - (1 : Int32)) _ h) gX10_lengthOf_X10_at rfl rfl rfl pdX10_at ⟨by decide, by decide⟩ 0 rfl rfl rfl rfl rfl (Nat.le_of_ble_eq_true rfl) dX10_lengthOf_10 (by decide) (fun r10 u h => ?_)
  try dsimp only at h
  refine SW.aload_n C dX10_lengthOf_13 rfl 1 rfl ?_
  refine SW.get (v := .int (oY 0 2)) (T := TX10) (N := 25) C inX10_lengthOf_X10 0 rfl rfl 2 (by decide) lkX10_lengthOf_17 rfl dX10_lengthOf_14 ?_
  refine SW.iadd C dX10_lengthOf_17 ?_
  refine SW.iload_n C dX10_lengthOf_18 rfl 4 rfl ?_
  refine SW.iadd C dX10_lengthOf_19 ?_
  refine SW.istore (lv' := [(5, .int ((r10 + (oY 0 2)) + v3)), (4, .int (0 : Int32)), (0, .ref (qY 0)), (1, .int v1), (2, .int v2), (3, .int v3)]) C dX10_lengthOf_20 (by decide) rfl ?_
  refine SW.iconst (v := (0 : Int32)) C dX10_lengthOf_22 (by decide) ?_
  refine SW.istore (lv' := [(6, .int (0 : Int32)), (5, .int ((r10 + (oY 0 2)) + v3)), (4, .int (0 : Int32)), (0, .ref (qY 0)), (1, .int v1), (2, .int v2), (3, .int v3)]) C dX10_lengthOf_23 (by decide) rfl ?_
  have L25 : ∀ (K68 : Int32 → Prop) (hK68 : ∀ (v4_68 : Int32), K68 v4_68 → SW p l e { frames := 1, cells := 0, slots := 0, locals := 23 } s m args below meth c A D 7 0 0 (MQ below (va_Qi (fun (r : Int32) (_ : Unit) => post r) (ctB D A (fun _ : Unit => w10 cI cZ qY oY)) A) args s 0 0 A) (w10 cI cZ qY oY) 68 [(0, .ref (qY 0)), (1, .int v1), (2, .int v2), (4, .int v4_68), (5, .int ((r10 + (oY 0 2)) + v3))] []) (fu : Nat) (v4_25 : Int32) (v6_25 : Int32), wpX10_lengthOf_L25 v1 v2 oY K68 fu v4_25 v6_25 → SW p l e { frames := 1, cells := 0, slots := 0, locals := 23 } s m args below meth c A D 7 0 0 (MQ below (va_Qi (fun (r : Int32) (_ : Unit) => post r) (ctB D A (fun _ : Unit => w10 cI cZ qY oY)) A) args s 0 0 A) (w10 cI cZ qY oY) 25 [(0, .ref (qY 0)), (1, .int v1), (2, .int v2), (4, .int v4_25), (5, .int ((r10 + (oY 0 2)) + v3)), (6, .int v6_25)] [] := by
    intro K68 hK68 fu
    induction fu with
    | zero =>
      intro v4_25 v6_25 h
      exact False.elim h
    | succ fu ih =>
      intro v4_25 v6_25 h
      unfold wpX10_lengthOf_L25 at h
      refine SW.iload C dX10_lengthOf_25 5 rfl ?_
      refine SW.aload_n C dX10_lengthOf_27 rfl 0 rfl ?_
      refine SW.get (v := .int (oY 0 0)) (T := TX10) (N := 25) C inX10_lengthOf_X10 0 rfl rfl 0 (by decide) lkX10_lengthOf_7 rfl dX10_lengthOf_28 ?_
      refine SW.icmp_ge (tgt := 68) C dX10_lengthOf_31 (by decide) (fun hc => ?_) (fun hc => ?_)
      · replace h := h.1 hc
        refine SW.sub [0, 1, 2, 3, 4] rfl ?_
        exact hK68 _ h
      · replace h := h.2 hc
        refine SW.iload_n C dX10_lengthOf_34 rfl 2 rfl ?_
        refine SW.iload C dX10_lengthOf_35 5 rfl ?_
        refine SW.callSi_pure C (ctX10_has l D cI cZ v2 v6_25 _ h) gX10_lengthOf_X10_has rfl rfl rfl pdX10_has ⟨by decide, by decide⟩ rfl rfl (Nat.le_of_ble_eq_true rfl) dX10_lengthOf_37 (by decide) (fun r37 u h => ?_)
        try dsimp only at h
        refine jn1_elim (G := fun p0_60 => SW p l e { frames := 1, cells := 0, slots := 0, locals := 23 } s m args below meth c A D 7 0 0 (MQ below (va_Qi (fun (r : Int32) (_ : Unit) => post r) (ctB D A (fun _ : Unit => w10 cI cZ qY oY)) A) args s 0 0 A) (w10 cI cZ qY oY) 60 [(0, .ref (qY 0)), (1, .int v1), (2, .int v2), (5, .int ((r10 + (oY 0 2)) + v3)), (6, .int v6_25)] [.int p0_60]) h (fun p0_60 h => ?_) (fun J60 hJ60 h => ?_)
        · refine SW.istore (lv' := [(4, .int p0_60), (0, .ref (qY 0)), (1, .int v1), (2, .int v2), (5, .int ((r10 + (oY 0 2)) + v3)), (6, .int v6_25)]) C dX10_lengthOf_60 (by decide) rfl ?_
          refine SW.iinc (q := 5) (v := (v6_25 + (1 : Int32))) (lv' := [(6, .int (v6_25 + (1 : Int32))), (4, .int p0_60), (0, .ref (qY 0)), (1, .int v1), (2, .int v2), (5, .int ((r10 + (oY 0 2)) + v3))]) C dX10_lengthOf_62 rfl rfl (by decide) rfl ?_
          refine SW.goto (tgt := 25) C dX10_lengthOf_65 (by decide) ?_
          refine SW.sub [2, 3, 4, 1, 5, 0] rfl ?_
          exact ih _ _ h
        · refine jn0_elim (G := SW p l e { frames := 1, cells := 0, slots := 0, locals := 23 } s m args below meth c A D 7 0 0 (MQ below (va_Qi (fun (r : Int32) (_ : Unit) => post r) (ctB D A (fun _ : Unit => w10 cI cZ qY oY)) A) args s 0 0 A) (w10 cI cZ qY oY) 58 [(0, .ref (qY 0)), (1, .int v1), (2, .int v2), (4, .int v4_25), (5, .int ((r10 + (oY 0 2)) + v3)), (6, .int v6_25)] []) h (fun h => ?_) (fun J58 hJ58 h => ?_)
          · refine SW.iload C dX10_lengthOf_58 3 rfl ?_
            refine SW.sub [0, 1, 2, 4, 5] rfl ?_
            exact hJ60 _ h
          · refine SW.if_eq (tgt := 58) C dX10_lengthOf_40 (by decide) (fun hc => ?_) (fun hc => ?_)
            · replace h := h.1 hc
              exact hJ58 h
            · replace h := h.2 hc
              refine SW.iload C dX10_lengthOf_43 5 rfl ?_
              refine SW.iload_n C dX10_lengthOf_45 rfl 1 rfl ?_
              refine SW.icmp_gt (tgt := 58) C dX10_lengthOf_46 (by decide) (fun hc => ?_) (fun hc => ?_)
              · replace h := h.1 hc
                exact hJ58 h
              · replace h := h.2 hc
                refine SW.aload_n C dX10_lengthOf_49 rfl 0 rfl ?_
                refine SW.iload C dX10_lengthOf_50 5 rfl ?_
                refine SW.callVi_same C (ctX10_at l D cI cZ qY oY v6_25 _ h) gX10_lengthOf_X10_at rfl rfl rfl pdX10_at ⟨by decide, by decide⟩ 0 rfl rfl rfl rfl rfl (Nat.le_of_ble_eq_true rfl) dX10_lengthOf_52 (by decide) (fun r52 u h => ?_)
                try dsimp only at h
                refine SW.goto (tgt := 60) C dX10_lengthOf_55 (by decide) ?_
                refine SW.sub [0, 1, 2, 4, 5] rfl ?_
                exact hJ60 _ h
  obtain ⟨fu, h⟩ := h
  refine SW.sub [3, 4, 5, 2, 1, 0] rfl ?_
  refine L25 _ (fun v4_68 h => ?_) fu _ _ h
  · refine SW.aload_n C dX10_lengthOf_68 rfl 0 rfl ?_
    refine SW.get (v := .int (oY 0 0)) (T := TX10) (N := 25) C inX10_lengthOf_X10 0 rfl rfl 0 (by decide) lkX10_lengthOf_7 rfl dX10_lengthOf_69 ?_
    refine SW.iconst (v := (1 : Int32)) C dX10_lengthOf_72 (by decide) ?_
    refine SW.isub C dX10_lengthOf_73 ?_
    refine SW.istore (lv' := [(6, .int ((oY 0 0) - (1 : Int32))), (0, .ref (qY 0)), (1, .int v1), (2, .int v2), (4, .int v4_68), (5, .int ((r10 + (oY 0 2)) + v3))]) C dX10_lengthOf_74 (by decide) rfl ?_
    have L76 : ∀ (K110 : Int32 → Prop) (hK110 : ∀ (v5_110 : Int32), K110 v5_110 → SW p l e { frames := 1, cells := 0, slots := 0, locals := 23 } s m args below meth c A D 7 0 0 (MQ below (va_Qi (fun (r : Int32) (_ : Unit) => post r) (ctB D A (fun _ : Unit => w10 cI cZ qY oY)) A) args s 0 0 A) (w10 cI cZ qY oY) 110 [(4, .int v4_68), (5, .int v5_110)] []) (fu : Nat) (v5_76 : Int32) (v6_76 : Int32), wpX10_lengthOf_L76 v1 v2 oY K110 fu v5_76 v6_76 → SW p l e { frames := 1, cells := 0, slots := 0, locals := 23 } s m args below meth c A D 7 0 0 (MQ below (va_Qi (fun (r : Int32) (_ : Unit) => post r) (ctB D A (fun _ : Unit => w10 cI cZ qY oY)) A) args s 0 0 A) (w10 cI cZ qY oY) 76 [(0, .ref (qY 0)), (1, .int v1), (2, .int v2), (4, .int v4_68), (5, .int v5_76), (6, .int v6_76)] [] := by
      intro K110 hK110 fu
      induction fu with
      | zero =>
        intro v5_76 v6_76 h
        exact False.elim h
      | succ fu ih =>
        intro v5_76 v6_76 h
        unfold wpX10_lengthOf_L76 at h
        refine SW.iload C dX10_lengthOf_76 5 rfl ?_
        refine SW.iload_n C dX10_lengthOf_78 rfl 1 rfl ?_
        refine SW.icmp_le (tgt := 110) C dX10_lengthOf_79 (by decide) (fun hc => ?_) (fun hc => ?_)
        · replace h := h.1 hc
          refine SW.sub [3, 4] rfl ?_
          exact hK110 _ h
        · replace h := h.2 hc
          refine SW.iload_n C dX10_lengthOf_82 rfl 2 rfl ?_
          refine SW.iload C dX10_lengthOf_83 5 rfl ?_
          refine SW.callSi_pure C (ctX10_has l D cI cZ v2 v6_76 _ h) gX10_lengthOf_X10_has rfl rfl rfl pdX10_has ⟨by decide, by decide⟩ rfl rfl (Nat.le_of_ble_eq_true rfl) dX10_lengthOf_85 (by decide) (fun r85 u h => ?_)
          try dsimp only at h
          refine jn1_elim (G := fun p0_102 => SW p l e { frames := 1, cells := 0, slots := 0, locals := 23 } s m args below meth c A D 7 0 0 (MQ below (va_Qi (fun (r : Int32) (_ : Unit) => post r) (ctB D A (fun _ : Unit => w10 cI cZ qY oY)) A) args s 0 0 A) (w10 cI cZ qY oY) 102 [(0, .ref (qY 0)), (1, .int v1), (2, .int v2), (4, .int v4_68), (6, .int v6_76)] [.int p0_102]) h (fun p0_102 h => ?_) (fun J102 hJ102 h => ?_)
          · refine SW.istore (lv' := [(5, .int p0_102), (0, .ref (qY 0)), (1, .int v1), (2, .int v2), (4, .int v4_68), (6, .int v6_76)]) C dX10_lengthOf_102 (by decide) rfl ?_
            refine SW.iinc (q := 5) (v := (v6_76 + (-1 : Int32))) (lv' := [(6, .int (v6_76 + (-1 : Int32))), (5, .int p0_102), (0, .ref (qY 0)), (1, .int v1), (2, .int v2), (4, .int v4_68)]) C dX10_lengthOf_104 rfl rfl (by decide) rfl ?_
            refine SW.goto (tgt := 76) C dX10_lengthOf_107 (by decide) ?_
            refine SW.sub [2, 3, 4, 5, 1, 0] rfl ?_
            exact ih _ _ h
          · refine SW.if_eq (tgt := 100) C dX10_lengthOf_88 (by decide) (fun hc => ?_) (fun hc => ?_)
            · replace h := h.1 hc
              refine SW.iload C dX10_lengthOf_100 4 rfl ?_
              refine SW.sub [0, 1, 2, 3, 5] rfl ?_
              exact hJ102 _ h
            · replace h := h.2 hc
              refine SW.aload_n C dX10_lengthOf_91 rfl 0 rfl ?_
              refine SW.iload C dX10_lengthOf_92 5 rfl ?_
              refine SW.callVi_same C (ctX10_at l D cI cZ qY oY v6_76 _ h) gX10_lengthOf_X10_at rfl rfl rfl pdX10_at ⟨by decide, by decide⟩ 0 rfl rfl rfl rfl rfl (Nat.le_of_ble_eq_true rfl) dX10_lengthOf_94 (by decide) (fun r94 u h => ?_)
              try dsimp only at h
              refine SW.goto (tgt := 102) C dX10_lengthOf_97 (by decide) ?_
              refine SW.sub [0, 1, 2, 3, 5] rfl ?_
              exact hJ102 _ h
    obtain ⟨fu, h⟩ := h
    refine SW.sub [1, 2, 3, 4, 5, 0] rfl ?_
    refine L76 _ (fun v5_110 h => ?_) fu _ _ h
    · refine SW.iload C dX10_lengthOf_110 1 rfl ?_
      refine SW.iload C dX10_lengthOf_112 0 rfl ?_
      refine SW.isub C dX10_lengthOf_114 ?_
      exact SW.iret C () rfl h dX10_lengthOf_115
def wpX10_divisor_L4 (K21 : Int32 → Prop) : Nat → Int32 → Int32 → Prop
  | 0, _, _ => False
  | fu4 + 1, v2_4, v3_4 => ((v3_4 = 0) → K21 v2_4) ∧ (¬ (v3_4 = 0) → (¬ v3_4 = 0) ∧ (wpX10_divisor_L4 K21 fu4 v3_4 (jrem v2_4 v3_4)))
def wpX10_divisor (v0 : Int32) (v1 : Int32) (post : Int32 → Prop) : Prop := ∃ fu4 : Nat, wpX10_divisor_L4 (fun (v2_21 : Int32) => post v2_21) fu4 v0 v1
theorem pdX10_divisor : yX10_divisor.cls ≠ "java/lang/invoke/MethodHandle" ∧ yX10_divisor.cls ≠ "java/lang/invoke/VarHandle" ∧ (parseMethodDescriptor yX10_divisor.desc).map (fun d => d.parameters.length) = some 2 := by decide +kernel
set_option maxHeartbeats 4000000 in
set_option maxRecDepth 100000 in
theorem ctX10_divisor (l : Launch) (D : va_G) (cI cZ : ClassId) (v0 : Int32) (v1 : Int32) (post : Int32 → Prop) (h : wpX10_divisor v0 v1 post) : CTi l yX10_divisor wsX10_divisor { frames := 0, cells := 0, slots := 0, locals := 0 } D [(cI, .int), (cZ, .boolean)] [.int v0, .int v1] (([] : va_W)) (fun _ : Unit => ([] : va_W)) (fun (r : Int32) (_ : Unit) => post r) := by
  refine CTi.of (cc := cX10_divisor) (own := RX10) (maxL := 5) (ret := (some .int)) (lv0 := [(0, .int v0), (1, .int v1)]) (by decide) rfl rfl (Nat.le_of_ble_eq_true rfl) rfl ?_
  intro p e s m args below meth c A C
  unfold wpX10_divisor at h
  refine SW.iload_n C dX10_divisor_0 rfl 0 rfl ?_
  refine SW.istore_n (lv' := [(2, .int v0), (0, .int v0), (1, .int v1)]) C dX10_divisor_1 rfl (by decide) rfl ?_
  refine SW.iload_n C dX10_divisor_2 rfl 2 rfl ?_
  refine SW.istore_n (lv' := [(3, .int v1), (2, .int v0), (0, .int v0), (1, .int v1)]) C dX10_divisor_3 rfl (by decide) rfl ?_
  have L4 : ∀ (K21 : Int32 → Prop) (hK21 : ∀ (v2_21 : Int32), K21 v2_21 → SW p l e { frames := 0, cells := 0, slots := 0, locals := 0 } s m args below meth c A D 5 0 0 (MQ below (va_Qi (fun (r : Int32) (_ : Unit) => post r) (ctB D A (fun _ : Unit => ([] : va_W))) A) args s 0 0 A) (([] : va_W)) 21 [(2, .int v2_21)] []) (fu : Nat) (v2_4 : Int32) (v3_4 : Int32), wpX10_divisor_L4 K21 fu v2_4 v3_4 → SW p l e { frames := 0, cells := 0, slots := 0, locals := 0 } s m args below meth c A D 5 0 0 (MQ below (va_Qi (fun (r : Int32) (_ : Unit) => post r) (ctB D A (fun _ : Unit => ([] : va_W))) A) args s 0 0 A) (([] : va_W)) 4 [(2, .int v2_4), (3, .int v3_4)] [] := by
    intro K21 hK21 fu
    induction fu with
    | zero =>
      intro v2_4 v3_4 h
      exact False.elim h
    | succ fu ih =>
      intro v2_4 v3_4 h
      unfold wpX10_divisor_L4 at h
      refine SW.iload_n C dX10_divisor_4 rfl 1 rfl ?_
      refine SW.if_eq (tgt := 21) C dX10_divisor_5 (by decide) (fun hc => ?_) (fun hc => ?_)
      · replace h := h.1 hc
        refine SW.sub [0] rfl ?_
        exact hK21 _ h
      · replace h := h.2 hc
        refine SW.iload_n C dX10_divisor_8 rfl 0 rfl ?_
        refine SW.iload_n C dX10_divisor_9 rfl 1 rfl ?_
        refine SW.irem C dX10_divisor_10 h.1 ?_
        replace h := h.2
        refine SW.istore (lv' := [(4, .int (jrem v2_4 v3_4)), (2, .int v2_4), (3, .int v3_4)]) C dX10_divisor_11 (by decide) rfl ?_
        refine SW.iload_n C dX10_divisor_13 rfl 2 rfl ?_
        refine SW.istore_n (lv' := [(2, .int v3_4), (4, .int (jrem v2_4 v3_4)), (3, .int v3_4)]) C dX10_divisor_14 rfl (by decide) rfl ?_
        refine SW.iload C dX10_divisor_15 1 rfl ?_
        refine SW.istore_n (lv' := [(3, .int (jrem v2_4 v3_4)), (2, .int v3_4), (4, .int (jrem v2_4 v3_4))]) C dX10_divisor_17 rfl (by decide) rfl ?_
        refine SW.goto (tgt := 4) C dX10_divisor_18 (by decide) ?_
        refine SW.sub [1, 0] rfl ?_
        exact ih _ _ h
  obtain ⟨fu, h⟩ := h
  refine SW.sub [1, 0] rfl ?_
  refine L4 _ (fun v2_21 h => ?_) fu _ _ h
  · refine SW.iload_n C dX10_divisor_21 rfl 0 rfl ?_
    exact SW.iret C () rfl h dX10_divisor_22
def wpX10_doClash (oY : Ob) (v1 : Int32) (v2 : Int32) (post : Int32 → Prop) : Prop := jn1 (fun (p0_10 : Int32) => wpX10_divisor v1 v2 (fun (r14 : Int32) => (¬ r14 = 0) ∧ ((((p0_10 / r14) ≤ (oY 0 3)) → post (0 : Int32)) ∧ (¬ ((p0_10 / r14) ≤ (oY 0 3)) → post (1 : Int32))))) (fun J10 => ((v1 ≤ v2) → J10 v2) ∧ (¬ (v1 ≤ v2) → J10 v1))
theorem pdX10_doClash : yX10_doClash.cls = RX10 ∧ yX10_doClash.cls ≠ "java/lang/invoke/MethodHandle" ∧ yX10_doClash.cls ≠ "java/lang/invoke/VarHandle" ∧ (parseMethodDescriptor yX10_doClash.desc).map (fun d => d.parameters.length) = some 2 := by decide +kernel
theorem lkX10_doClash_20 : Cond.fieldLink RX10 20 (TX10 3).1 (TX10 3).2.1 (TX10 3).2.2.1 ∈ wsX10_doClash := by decide +kernel
theorem inX10_doClash_X10 : ∀ w ∈ u_ws RX10 TX10 25, w ∈ wsX10_doClash := by decide +kernel
set_option maxHeartbeats 4000000 in
set_option maxRecDepth 100000 in
theorem ctX10_doClash (l : Launch) (D : va_G) (cI cZ : ClassId) (qY : Nat → Nat) (oY : Ob) (v1 : Int32) (v2 : Int32) (post : Int32 → Prop) (h : wpX10_doClash oY v1 v2 post) : CTi l yX10_doClash wsX10_doClash { frames := 1, cells := 0, slots := 0, locals := 24 } D [(cI, .int), (cZ, .boolean)] [.ref (qY 0), .int v1, .int v2] (w10 cI cZ qY oY) (fun _ : Unit => w10 cI cZ qY oY) (fun (r : Int32) (_ : Unit) => post r) := by
  refine CTi.of (cc := cX10_doClash) (own := RX10) (maxL := 4) (ret := (some .boolean)) (lv0 := [(0, .ref (qY 0)), (1, .int v1), (2, .int v2)]) (by decide) rfl rfl (Nat.le_of_ble_eq_true rfl) rfl ?_
  intro p e s m args below meth c A C
  unfold wpX10_doClash at h
  refine SW.iload_n C dX10_doClash_0 rfl 1 rfl ?_
  refine SW.iload_n C dX10_doClash_1 rfl 2 rfl ?_
  refine jn1_elim (G := fun p0_10 => SW p l e { frames := 1, cells := 0, slots := 0, locals := 24 } s m args below meth c A D 4 0 0 (MQ below (va_Qi (fun (r : Int32) (_ : Unit) => post r) (ctB D A (fun _ : Unit => w10 cI cZ qY oY)) A) args s 0 0 A) (w10 cI cZ qY oY) 10 [(0, .ref (qY 0)), (1, .int v1), (2, .int v2)] [.int p0_10]) h (fun p0_10 h => ?_) (fun J10 hJ10 h => ?_)
  · refine SW.istore_n (lv' := [(3, .int p0_10), (0, .ref (qY 0)), (1, .int v1), (2, .int v2)]) C dX10_doClash_10 rfl (by decide) rfl ?_
    refine SW.iload_n C dX10_doClash_11 rfl 0 rfl ?_
    refine SW.iload_n C dX10_doClash_12 rfl 2 rfl ?_
    refine SW.iload_n C dX10_doClash_13 rfl 3 rfl ?_
    refine SW.callSi_pure C (ctX10_divisor l D cI cZ v1 v2 _ h) gX10_doClash_X10_divisor rfl rfl rfl pdX10_divisor ⟨by decide, by decide⟩ rfl rfl (Nat.le_of_ble_eq_true rfl) dX10_doClash_14 (by decide) (fun r14 u h => ?_)
    try dsimp only at h
    refine SW.idiv C dX10_doClash_17 h.1 ?_
    replace h := h.2
    refine SW.aload_n C dX10_doClash_18 rfl 1 rfl ?_
    refine SW.get (v := .int (oY 0 3)) (T := TX10) (N := 25) C inX10_doClash_X10 0 rfl rfl 3 (by decide) lkX10_doClash_20 rfl dX10_doClash_19 ?_
    refine SW.icmp_le (tgt := 29) C dX10_doClash_22 (by decide) (fun hc => ?_) (fun hc => ?_)
    · replace h := h.1 hc
      refine SW.iconst (v := (0 : Int32)) C dX10_doClash_29 (by decide) ?_
      exact SW.zret C () (by decide) rfl h dX10_doClash_30
    · replace h := h.2 hc
      refine SW.iconst (v := (1 : Int32)) C dX10_doClash_25 (by decide) ?_
      refine SW.goto (tgt := 30) C dX10_doClash_26 (by decide) ?_
      exact SW.zret C () (by decide) rfl h dX10_doClash_30
  · refine SW.icmp_le (tgt := 9) C dX10_doClash_2 (by decide) (fun hc => ?_) (fun hc => ?_)
    · replace h := h.1 hc
      refine SW.iload_n C dX10_doClash_9 rfl 2 rfl ?_
      exact hJ10 _ h
    · replace h := h.2 hc
      refine SW.iload_n C dX10_doClash_5 rfl 1 rfl ?_
      refine SW.goto (tgt := 10) C dX10_doClash_6 (by decide) ?_
      exact hJ10 _ h
def wpX10_clashes_L20 (c1_20 : Int32) (c2_20 : Int32) (c4_20 : Int32) (oYc_20 : Ob) (K68 : Int32 → Prop) : Nat → Int32 → Int32 → Prop
  | 0, _, _ => False
  | fu20 + 1, v3_20, v5_20 => (((oYc_20 0 0) ≤ v5_20) → K68 v3_20) ∧ (¬ ((oYc_20 0 0) ≤ v5_20) → jn1 (fun (p0_61 : Int32) => wpX10_clashes_L20 c1_20 c2_20 c4_20 oYc_20 K68 fu20 p0_61 (v5_20 + (1 : Int32))) (fun J61 => jn0 (J61 (1 : Int32)) (fun J56 => ((v3_20 = 0) → wpX10_lengthOf oYc_20 c4_20 c1_20 c2_20 (fun (r39 : Int32) => wpX10_lengthOf oYc_20 v5_20 c1_20 c2_20 (fun (r47 : Int32) => wpX10_doClash oYc_20 r39 r47 (fun (r50 : Int32) => ((r50 = 0) → J61 (0 : Int32)) ∧ (¬ (r50 = 0) → J56))))) ∧ (¬ (v3_20 = 0) → J56))))
def wpX10_clashes_L5 (c1_5 : Int32) (c2_5 : Int32) (oYc_5 : Ob) (K74 : Int32 → Prop) : Nat → Int32 → Int32 → Prop
  | 0, _, _ => False
  | fu5 + 1, v3_5, v4_5 => (((oYc_5 0 0) ≤ v4_5) → K74 v3_5) ∧ (¬ ((oYc_5 0 0) ≤ v4_5) → ∃ fu20 : Nat, wpX10_clashes_L20 c1_5 c2_5 v4_5 oYc_5 (fun (v3_68 : Int32) => wpX10_clashes_L5 c1_5 c2_5 oYc_5 K74 fu5 v3_68 (v4_5 + (1 : Int32))) fu20 v3_5 (v4_5 + (1 : Int32)))
def wpX10_clashes (oY : Ob) (v1 : Int32) (v2 : Int32) (post : Int32 → Prop) : Prop := ∃ fu5 : Nat, wpX10_clashes_L5 v1 v2 oY (fun (v3_74 : Int32) => isB v3_74 ∧ post v3_74) fu5 (0 : Int32) (0 : Int32)
theorem pdX10_clashes : yX10_clashes.cls = RX10 ∧ yX10_clashes.cls ≠ "java/lang/invoke/MethodHandle" ∧ yX10_clashes.cls ≠ "java/lang/invoke/VarHandle" ∧ (parseMethodDescriptor yX10_clashes.desc).map (fun d => d.parameters.length) = some 2 := by decide +kernel
theorem lkX10_clashes_7 : Cond.fieldLink RX10 7 (TX10 0).1 (TX10 0).2.1 (TX10 0).2.2.1 ∈ wsX10_clashes := by decide +kernel
theorem inX10_clashes_X10 : ∀ w ∈ u_ws RX10 TX10 25, w ∈ wsX10_clashes := by decide +kernel
set_option maxHeartbeats 4000000 in
set_option maxRecDepth 100000 in
theorem ctX10_clashes (l : Launch) (D : va_G) (cI cZ : ClassId) (qY : Nat → Nat) (oY : Ob) (v1 : Int32) (v2 : Int32) (post : Int32 → Prop) (h : wpX10_clashes oY v1 v2 post) : CTi l yX10_clashes wsX10_clashes { frames := 2, cells := 0, slots := 0, locals := 49 } D [(cI, .int), (cZ, .boolean)] [.ref (qY 0), .int v1, .int v2] (w10 cI cZ qY oY) (fun _ : Unit => w10 cI cZ qY oY) (fun (r : Int32) (_ : Unit) => post r) := by
  refine CTi.of (cc := cX10_clashes) (own := RX10) (maxL := 6) (ret := (some .boolean)) (lv0 := [(0, .ref (qY 0)), (1, .int v1), (2, .int v2)]) (by decide) rfl rfl (Nat.le_of_ble_eq_true rfl) rfl ?_
  intro p e s m args below meth c A C
  unfold wpX10_clashes at h
  refine SW.iconst (v := (0 : Int32)) C dX10_clashes_0 (by decide) ?_
  refine SW.istore_n (lv' := [(3, .int (0 : Int32)), (0, .ref (qY 0)), (1, .int v1), (2, .int v2)]) C dX10_clashes_1 rfl (by decide) rfl ?_
  refine SW.iconst (v := (0 : Int32)) C dX10_clashes_2 (by decide) ?_
  refine SW.istore (lv' := [(4, .int (0 : Int32)), (3, .int (0 : Int32)), (0, .ref (qY 0)), (1, .int v1), (2, .int v2)]) C dX10_clashes_3 (by decide) rfl ?_
  have L5 : ∀ (K74 : Int32 → Prop) (hK74 : ∀ (v3_74 : Int32), K74 v3_74 → SW p l e { frames := 2, cells := 0, slots := 0, locals := 49 } s m args below meth c A D 6 0 0 (MQ below (va_Qi (fun (r : Int32) (_ : Unit) => post r) (ctB D A (fun _ : Unit => w10 cI cZ qY oY)) A) args s 0 0 A) (w10 cI cZ qY oY) 74 [(3, .int v3_74)] []) (fu : Nat) (v3_5 : Int32) (v4_5 : Int32), wpX10_clashes_L5 v1 v2 oY K74 fu v3_5 v4_5 → SW p l e { frames := 2, cells := 0, slots := 0, locals := 49 } s m args below meth c A D 6 0 0 (MQ below (va_Qi (fun (r : Int32) (_ : Unit) => post r) (ctB D A (fun _ : Unit => w10 cI cZ qY oY)) A) args s 0 0 A) (w10 cI cZ qY oY) 5 [(0, .ref (qY 0)), (1, .int v1), (2, .int v2), (3, .int v3_5), (4, .int v4_5)] [] := by
    intro K74 hK74 fu
    induction fu with
    | zero =>
      intro v3_5 v4_5 h
      exact False.elim h
    | succ fu ih =>
      intro v3_5 v4_5 h
      unfold wpX10_clashes_L5 at h
      refine SW.iload C dX10_clashes_5 4 rfl ?_
      refine SW.aload_n C dX10_clashes_7 rfl 0 rfl ?_
      refine SW.get (v := .int (oY 0 0)) (T := TX10) (N := 25) C inX10_clashes_X10 0 rfl rfl 0 (by decide) lkX10_clashes_7 rfl dX10_clashes_8 ?_
      refine SW.icmp_ge (tgt := 74) C dX10_clashes_11 (by decide) (fun hc => ?_) (fun hc => ?_)
      · replace h := h.1 hc
        refine SW.sub [3] rfl ?_
        exact hK74 _ h
      · replace h := h.2 hc
        refine SW.iload C dX10_clashes_14 4 rfl ?_
        refine SW.iconst (v := (1 : Int32)) C dX10_clashes_16 (by decide) ?_
        refine SW.iadd C dX10_clashes_17 ?_
        refine SW.istore (lv' := [(5, .int (v4_5 + (1 : Int32))), (0, .ref (qY 0)), (1, .int v1), (2, .int v2), (3, .int v3_5), (4, .int v4_5)]) C dX10_clashes_18 (by decide) rfl ?_
        have L20 : ∀ (K68 : Int32 → Prop) (hK68 : ∀ (v3_68 : Int32), K68 v3_68 → SW p l e { frames := 2, cells := 0, slots := 0, locals := 49 } s m args below meth c A D 6 0 0 (MQ below (va_Qi (fun (r : Int32) (_ : Unit) => post r) (ctB D A (fun _ : Unit => w10 cI cZ qY oY)) A) args s 0 0 A) (w10 cI cZ qY oY) 68 [(0, .ref (qY 0)), (1, .int v1), (2, .int v2), (3, .int v3_68), (4, .int v4_5)] []) (fu : Nat) (v3_20 : Int32) (v5_20 : Int32), wpX10_clashes_L20 v1 v2 v4_5 oY K68 fu v3_20 v5_20 → SW p l e { frames := 2, cells := 0, slots := 0, locals := 49 } s m args below meth c A D 6 0 0 (MQ below (va_Qi (fun (r : Int32) (_ : Unit) => post r) (ctB D A (fun _ : Unit => w10 cI cZ qY oY)) A) args s 0 0 A) (w10 cI cZ qY oY) 20 [(0, .ref (qY 0)), (1, .int v1), (2, .int v2), (3, .int v3_20), (4, .int v4_5), (5, .int v5_20)] [] := by
          intro K68 hK68 fu
          induction fu with
          | zero =>
            intro v3_20 v5_20 h
            exact False.elim h
          | succ fu ih =>
            intro v3_20 v5_20 h
            unfold wpX10_clashes_L20 at h
            refine SW.iload C dX10_clashes_20 5 rfl ?_
            refine SW.aload_n C dX10_clashes_22 rfl 0 rfl ?_
            refine SW.get (v := .int (oY 0 0)) (T := TX10) (N := 25) C inX10_clashes_X10 0 rfl rfl 0 (by decide) lkX10_clashes_7 rfl dX10_clashes_23 ?_
            refine SW.icmp_ge (tgt := 68) C dX10_clashes_26 (by decide) (fun hc => ?_) (fun hc => ?_)
            · replace h := h.1 hc
              refine SW.sub [0, 1, 2, 3, 4] rfl ?_
              exact hK68 _ h
            · replace h := h.2 hc
              refine SW.iload_n C dX10_clashes_29 rfl 3 rfl ?_
              refine jn1_elim (G := fun p0_61 => SW p l e { frames := 2, cells := 0, slots := 0, locals := 49 } s m args below meth c A D 6 0 0 (MQ below (va_Qi (fun (r : Int32) (_ : Unit) => post r) (ctB D A (fun _ : Unit => w10 cI cZ qY oY)) A) args s 0 0 A) (w10 cI cZ qY oY) 61 [(0, .ref (qY 0)), (1, .int v1), (2, .int v2), (4, .int v4_5), (5, .int v5_20)] [.int p0_61]) h (fun p0_61 h => ?_) (fun J61 hJ61 h => ?_)
              · refine SW.istore_n (lv' := [(3, .int p0_61), (0, .ref (qY 0)), (1, .int v1), (2, .int v2), (4, .int v4_5), (5, .int v5_20)]) C dX10_clashes_61 rfl (by decide) rfl ?_
                refine SW.iinc (q := 5) (v := (v5_20 + (1 : Int32))) (lv' := [(5, .int (v5_20 + (1 : Int32))), (3, .int p0_61), (0, .ref (qY 0)), (1, .int v1), (2, .int v2), (4, .int v4_5)]) C dX10_clashes_62 rfl rfl (by decide) rfl ?_
                refine SW.goto (tgt := 20) C dX10_clashes_65 (by decide) ?_
                refine SW.sub [2, 3, 4, 1, 5, 0] rfl ?_
                exact ih _ _ h
              · refine jn0_elim (G := SW p l e { frames := 2, cells := 0, slots := 0, locals := 49 } s m args below meth c A D 6 0 0 (MQ below (va_Qi (fun (r : Int32) (_ : Unit) => post r) (ctB D A (fun _ : Unit => w10 cI cZ qY oY)) A) args s 0 0 A) (w10 cI cZ qY oY) 56 [(0, .ref (qY 0)), (1, .int v1), (2, .int v2), (4, .int v4_5), (5, .int v5_20)] []) h (fun h => ?_) (fun J56 hJ56 h => ?_)
                · refine SW.iconst (v := (1 : Int32)) C dX10_clashes_56 (by decide) ?_
                  refine SW.goto (tgt := 61) C dX10_clashes_57 (by decide) ?_
                  exact hJ61 _ h
                · refine SW.if_ne (tgt := 56) C dX10_clashes_30 (by decide) (fun hc => ?_) (fun hc => ?_)
                  · replace h := h.2 hc
                    refine SW.sub [0, 1, 2, 4, 5] rfl ?_
                    exact hJ56 h
                  · replace h := h.1 hc
                    refine SW.aload_n C dX10_clashes_33 rfl 0 rfl ?_
                    refine SW.aload_n C dX10_clashes_34 rfl 0 rfl ?_
                    refine SW.iload C dX10_clashes_35 4 rfl ?_
                    refine SW.iload_n C dX10_clashes_37 rfl 1 rfl ?_
                    refine SW.iload_n C dX10_clashes_38 rfl 2 rfl ?_
                    refine SW.callVi_same C (ctX10_lengthOf l D cI cZ qY oY v4_5 v1 v2 _ h) gX10_clashes_X10_lengthOf rfl rfl rfl pdX10_lengthOf ⟨by decide, by decide⟩ 0 rfl rfl rfl rfl rfl (Nat.le_of_ble_eq_true rfl) dX10_clashes_39 (by decide) (fun r39 u h => ?_)
                    try dsimp only at h
                    refine SW.aload_n C dX10_clashes_42 rfl 0 rfl ?_
                    refine SW.iload C dX10_clashes_43 5 rfl ?_
                    refine SW.iload_n C dX10_clashes_45 rfl 1 rfl ?_
                    refine SW.iload_n C dX10_clashes_46 rfl 2 rfl ?_
                    refine SW.callVi_same C (ctX10_lengthOf l D cI cZ qY oY v5_20 v1 v2 _ h) gX10_clashes_X10_lengthOf rfl rfl rfl pdX10_lengthOf ⟨by decide, by decide⟩ 0 rfl rfl rfl rfl rfl (Nat.le_of_ble_eq_true rfl) dX10_clashes_47 (by decide) (fun r47 u h => ?_)
                    try dsimp only at h
                    refine SW.callVi_same C (ctX10_doClash l D cI cZ qY oY r39 r47 _ h) gX10_clashes_X10_doClash rfl rfl rfl pdX10_doClash ⟨by decide, by decide⟩ 0 rfl rfl rfl rfl rfl (Nat.le_of_ble_eq_true rfl) dX10_clashes_50 (by decide) (fun r50 u h => ?_)
                    try dsimp only at h
                    refine SW.if_eq (tgt := 60) C dX10_clashes_53 (by decide) (fun hc => ?_) (fun hc => ?_)
                    · replace h := h.1 hc
                      refine SW.iconst (v := (0 : Int32)) C dX10_clashes_60 (by decide) ?_
                      refine SW.sub [0, 1, 2, 4, 5] rfl ?_
                      exact hJ61 _ h
                    · replace h := h.2 hc
                      refine SW.sub [0, 1, 2, 4, 5] rfl ?_
                      exact hJ56 h
        obtain ⟨fu, h⟩ := h
        refine SW.sub [1, 2, 3, 4, 5, 0] rfl ?_
        refine L20 _ (fun v3_68 h => ?_) fu _ _ h
        · refine SW.iinc (q := 4) (v := (v4_5 + (1 : Int32))) (lv' := [(4, .int (v4_5 + (1 : Int32))), (0, .ref (qY 0)), (1, .int v1), (2, .int v2), (3, .int v3_68)]) C dX10_clashes_68 rfl rfl (by decide) rfl ?_
          refine SW.goto (tgt := 5) C dX10_clashes_71 (by decide) ?_
          refine SW.sub [1, 2, 3, 4, 0] rfl ?_
          exact ih _ _ h
  obtain ⟨fu, h⟩ := h
  refine SW.sub [2, 3, 4, 1, 0] rfl ?_
  refine L5 _ (fun v3_74 h => ?_) fu _ _ h
  · refine SW.iload_n C dX10_clashes_74 rfl 0 rfl ?_
    exact SW.zret C () (isB_nar h.1) rfl h.2 dX10_clashes_75
def wpX10_whyNot (oY : Ob) (v1 : Int32) (post : Int32 → Prop) : Prop := ((v1 = (43 : Int32)) → (((oY 0 13) = (9 : Int32)) → post (1 : Int32)) ∧ (¬ ((oY 0 13) = (9 : Int32)) → post (0 : Int32))) ∧ (¬ (v1 = (43 : Int32)) → ((v1 = (45 : Int32)) → (((oY 0 13) = 0) → post (2 : Int32)) ∧ (¬ ((oY 0 13) = 0) → post (0 : Int32))) ∧ (¬ (v1 = (45 : Int32)) → wpX10_has (oY 0 12) (v1 - (97 : Int32)) (fun (r52 : Int32) => jn0 (post (0 : Int32)) (fun J76 => ((r52 = 0) → wpX10_bits (oY 0 12) (fun (r62 : Int32) => wpX10_may oY (fun (r66 : Int32) => ((r62 < r66) → J76) ∧ (¬ (r62 < r66) → post (3 : Int32))))) ∧ (¬ (r52 = 0) → J76)))))
theorem pdX10_whyNot : yX10_whyNot.cls = RX10 ∧ yX10_whyNot.cls ≠ "java/lang/invoke/MethodHandle" ∧ yX10_whyNot.cls ≠ "java/lang/invoke/VarHandle" ∧ (parseMethodDescriptor yX10_whyNot.desc).map (fun d => d.parameters.length) = some 1 := by decide +kernel
theorem lkX10_whyNot_109 : Cond.fieldLink RX10 109 (TX10 12).1 (TX10 12).2.1 (TX10 12).2.2.1 ∈ wsX10_whyNot := by decide +kernel
theorem inX10_whyNot_X10 : ∀ w ∈ u_ws RX10 TX10 25, w ∈ wsX10_whyNot := by decide +kernel
theorem lkX10_whyNot_106 : Cond.fieldLink RX10 106 (TX10 13).1 (TX10 13).2.1 (TX10 13).2.2.1 ∈ wsX10_whyNot := by decide +kernel
set_option maxHeartbeats 4000000 in
set_option maxRecDepth 100000 in
theorem ctX10_whyNot (l : Launch) (D : va_G) (cI cZ : ClassId) (qY : Nat → Nat) (oY : Ob) (v1 : Int32) (post : Int32 → Prop) (h : wpX10_whyNot oY v1 post) : CTi l yX10_whyNot wsX10_whyNot { frames := 1, cells := 0, slots := 0, locals := 22 } D [(cI, .int), (cZ, .boolean)] [.ref (qY 0), .int v1] (w10 cI cZ qY oY) (fun _ : Unit => w10 cI cZ qY oY) (fun (r : Int32) (_ : Unit) => post r) := by
  refine CTi.of (cc := cX10_whyNot) (own := RX10) (maxL := 2) (ret := (some .int)) (lv0 := [(0, .ref (qY 0)), (1, .int v1)]) (by decide) rfl rfl (Nat.le_of_ble_eq_true rfl) rfl ?_
  intro p e s m args below meth c A C
  unfold wpX10_whyNot at h
  refine SW.iload_n C dX10_whyNot_0 rfl 1 rfl ?_
  refine SW.bipush (v := (43 : Int32)) C dX10_whyNot_1 (by decide) ?_
  refine SW.icmp_ne (tgt := 23) C dX10_whyNot_3 (by decide) (fun hc => ?_) (fun hc => ?_)
  · replace h := h.2 hc
    refine SW.iload_n C dX10_whyNot_23 rfl 1 rfl ?_
    refine SW.bipush (v := (45 : Int32)) C dX10_whyNot_24 (by decide) ?_
    refine SW.icmp_ne (tgt := 44) C dX10_whyNot_26 (by decide) (fun hc => ?_) (fun hc => ?_)
    · replace h := h.2 hc
      refine SW.aload_n C dX10_whyNot_44 rfl 0 rfl ?_
      refine SW.get (v := .int (oY 0 12)) (T := TX10) (N := 25) C inX10_whyNot_X10 0 rfl rfl 12 (by decide) lkX10_whyNot_109 rfl dX10_whyNot_45 ?_
      refine SW.iload_n C dX10_whyNot_48 rfl 1 rfl ?_
      refine SW.bipush (v := (97 : Int32)) C dX10_whyNot_49 (by decide) ?_
      refine SW.isub C dX10_whyNot_51 ?_
      refine SW.callSi_pure C (ctX10_has l D cI cZ (oY 0 12) (v1 - (97 : Int32)) _ h) gX10_whyNot_X10_has rfl rfl rfl pdX10_has ⟨by decide, by decide⟩ rfl rfl (Nat.le_of_ble_eq_true rfl) dX10_whyNot_52 (by decide) (fun r52 u h => ?_)
      try dsimp only at h
      refine jn0_elim (G := SW p l e { frames := 1, cells := 0, slots := 0, locals := 22 } s m args below meth c A D 2 0 0 (MQ below (va_Qi (fun (r : Int32) (_ : Unit) => post r) (ctB D A (fun _ : Unit => w10 cI cZ qY oY)) A) args s 0 0 A) (w10 cI cZ qY oY) 76 [] []) h (fun h => ?_) (fun J76 hJ76 h => ?_)
      · refine SW.iconst (v := (0 : Int32)) C dX10_whyNot_76 (by decide) ?_
        exact SW.iret C () rfl h dX10_whyNot_77
      · refine SW.if_ne (tgt := 76) C dX10_whyNot_55 (by decide) (fun hc => ?_) (fun hc => ?_)
        · replace h := h.2 hc
          refine SW.sub [] rfl ?_
          exact hJ76 h
        · replace h := h.1 hc
          refine SW.aload_n C dX10_whyNot_58 rfl 0 rfl ?_
          refine SW.get (v := .int (oY 0 12)) (T := TX10) (N := 25) C inX10_whyNot_X10 0 rfl rfl 12 (by decide) lkX10_whyNot_109 rfl dX10_whyNot_59 ?_
          refine SW.callSi_pure C (ctX10_bits l D cI cZ (oY 0 12) _ h) gX10_whyNot_X10_bits rfl rfl rfl pdX10_bits ⟨by decide, by decide⟩ rfl rfl (Nat.le_of_ble_eq_true rfl) dX10_whyNot_62 (by decide) (fun r62 u h => ?_)
          try dsimp only at h
          refine SW.aload_n C dX10_whyNot_65 rfl 0 rfl ?_
          refine SW.callVi_same C (ctX10_may l D cI cZ qY oY _ h) gX10_whyNot_X10_may rfl rfl rfl pdX10_may ⟨by decide, by decide⟩ 0 rfl rfl rfl rfl rfl (Nat.le_of_ble_eq_true rfl) dX10_whyNot_66 (by decide) (fun r66 u h => ?_)
          try dsimp only at h
          refine SW.icmp_lt (tgt := 76) C dX10_whyNot_69 (by decide) (fun hc => ?_) (fun hc => ?_)
          · replace h := h.1 hc
            refine SW.sub [] rfl ?_
            exact hJ76 h
          · replace h := h.2 hc
            refine SW.iconst (v := (3 : Int32)) C dX10_whyNot_72 (by decide) ?_
            refine SW.goto (tgt := 77) C dX10_whyNot_73 (by decide) ?_
            exact SW.iret C () rfl h dX10_whyNot_77
    · replace h := h.1 hc
      refine SW.aload_n C dX10_whyNot_29 rfl 0 rfl ?_
      refine SW.get (v := .int (oY 0 13)) (T := TX10) (N := 25) C inX10_whyNot_X10 0 rfl rfl 13 (by decide) lkX10_whyNot_106 rfl dX10_whyNot_30 ?_
      refine SW.if_ne (tgt := 40) C dX10_whyNot_33 (by decide) (fun hc => ?_) (fun hc => ?_)
      · replace h := h.2 hc
        refine SW.iconst (v := (0 : Int32)) C dX10_whyNot_40 (by decide) ?_
        refine SW.goto (tgt := 77) C dX10_whyNot_41 (by decide) ?_
        exact SW.iret C () rfl h dX10_whyNot_77
      · replace h := h.1 hc
        refine SW.iconst (v := (2 : Int32)) C dX10_whyNot_36 (by decide) ?_
        refine SW.goto (tgt := 77) C dX10_whyNot_37 (by decide) ?_
        exact SW.iret C () rfl h dX10_whyNot_77
  · replace h := h.1 hc
    refine SW.aload_n C dX10_whyNot_6 rfl 0 rfl ?_
    refine SW.get (v := .int (oY 0 13)) (T := TX10) (N := 25) C inX10_whyNot_X10 0 rfl rfl 13 (by decide) lkX10_whyNot_106 rfl dX10_whyNot_7 ?_
    refine SW.bipush (v := (9 : Int32)) C dX10_whyNot_10 (by decide) ?_
    refine SW.icmp_ne (tgt := 19) C dX10_whyNot_12 (by decide) (fun hc => ?_) (fun hc => ?_)
    · replace h := h.2 hc
      refine SW.iconst (v := (0 : Int32)) C dX10_whyNot_19 (by decide) ?_
      refine SW.goto (tgt := 77) C dX10_whyNot_20 (by decide) ?_
      exact SW.iret C () rfl h dX10_whyNot_77
    · replace h := h.1 hc
      refine SW.iconst (v := (1 : Int32)) C dX10_whyNot_15 (by decide) ?_
      refine SW.goto (tgt := 77) C dX10_whyNot_16 (by decide) ?_
      exact SW.iret C () rfl h dX10_whyNot_77
def wpX10_act (oY : Ob) (v1 : Int32) (post : Ob → Prop) : Prop := jn0 (jn2 (fun (p0_28 : Int32) (p1_28 : Int32) => post (pf oY 13 (p1_28 + p0_28))) (fun J28 => ((v1 = (43 : Int32)) → J28 (1 : Int32) (oY 0 13)) ∧ (¬ (v1 = (43 : Int32)) → J28 (-1 : Int32) (oY 0 13)))) (fun J12 => ((v1 = (43 : Int32)) → J12) ∧ (¬ (v1 = (43 : Int32)) → ((v1 = (45 : Int32)) → J12) ∧ (¬ (v1 = (45 : Int32)) → post (pf oY 12 ((oY 0 12) ^^^ (jshl (1 : Int32) (v1 - (97 : Int32))))))))
theorem pdX10_act : yX10_act.cls = RX10 ∧ yX10_act.cls ≠ "java/lang/invoke/MethodHandle" ∧ yX10_act.cls ≠ "java/lang/invoke/VarHandle" ∧ (parseMethodDescriptor yX10_act.desc).map (fun d => d.parameters.length) = some 1 := by decide +kernel
theorem lkX10_act_106 : Cond.fieldLink RX10 106 (TX10 13).1 (TX10 13).2.1 (TX10 13).2.2.1 ∈ wsX10_act := by decide +kernel
theorem inX10_act_X10 : ∀ w ∈ u_ws RX10 TX10 25, w ∈ wsX10_act := by decide +kernel
theorem lkX10_act_109 : Cond.fieldLink RX10 109 (TX10 12).1 (TX10 12).2.1 (TX10 12).2.2.1 ∈ wsX10_act := by decide +kernel
set_option maxHeartbeats 4000000 in
set_option maxRecDepth 100000 in
theorem ctX10_act (l : Launch) (D : va_G) (cI cZ : ClassId) (qY : Nat → Nat) (oY : Ob) (v1 : Int32) (post : Ob → Prop) (h : wpX10_act oY v1 post) : CTv l yX10_act wsX10_act { frames := 0, cells := 0, slots := 0, locals := 0 } D [(cI, .int), (cZ, .boolean)] [.ref (qY 0), .int v1] (w10 cI cZ qY oY) (fun u : Ob => w10 cI cZ qY u) (fun (u : Ob) => post u) := by
  refine CTv.of (cc := cX10_act) (own := RX10) (maxL := 2) (ret := none) (lv0 := [(0, .ref (qY 0)), (1, .int v1)]) (by decide) rfl rfl (Nat.le_of_ble_eq_true rfl) rfl ?_
  intro p e s m args below meth c A C
  unfold wpX10_act at h
  refine SW.iload_n C dX10_act_0 rfl 1 rfl ?_
  refine SW.bipush (v := (43 : Int32)) C dX10_act_1 (by decide) ?_
  refine jn0_elim (G := SW p l e { frames := 0, cells := 0, slots := 0, locals := 0 } s m args below meth c A D 2 0 0 (MQ below (va_Qv (fun (u : Ob) => post u) (ctB D A (fun u : Ob => w10 cI cZ qY u)) A) args s 0 0 A) (w10 cI cZ qY oY) 12 [(0, .ref (qY 0)), (1, .int v1)] []) h (fun h => ?_) (fun J12 hJ12 h => ?_)
  · refine SW.aload_n C dX10_act_12 rfl 0 rfl ?_
    refine SW.dup C dX10_act_13 rfl ?_
    refine SW.get (v := .int (oY 0 13)) (T := TX10) (N := 25) C inX10_act_X10 0 rfl rfl 13 (by decide) lkX10_act_106 rfl dX10_act_14 ?_
    refine SW.iload_n C dX10_act_17 rfl 1 rfl ?_
    refine SW.bipush (v := (43 : Int32)) C dX10_act_18 (by decide) ?_
    refine jn2_elim (G := fun p0_28 p1_28 => SW p l e { frames := 0, cells := 0, slots := 0, locals := 0 } s m args below meth c A D 2 0 0 (MQ below (va_Qv (fun (u : Ob) => post u) (ctB D A (fun u : Ob => w10 cI cZ qY u)) A) args s 0 0 A) (w10 cI cZ qY oY) 28 [] [.int p0_28, .int p1_28, .ref (qY 0)]) h (fun p0_28 p1_28 h => ?_) (fun J28 hJ28 h => ?_)
    · refine SW.iadd C dX10_act_28 ?_
      refine SW.put (ws' := w10 cI cZ qY (pf oY 13 (p1_28 + p0_28))) (T := TX10) (N := 25) C inX10_act_X10 tyX10 tyX10_ok nmX10 0 rfl rfl 13 (by decide) lkX10_act_106 rfl rfl rfl (Nat.le_of_ble_eq_true rfl) rfl dX10_act_29 ?_
      refine SW.goto (tgt := 50) C dX10_act_32 (by decide) ?_
      exact SW.vret C (pf oY 13 (p1_28 + p0_28)) rfl h dX10_act_50
    · refine SW.icmp_ne (tgt := 27) C dX10_act_20 (by decide) (fun hc => ?_) (fun hc => ?_)
      · replace h := h.2 hc
        refine SW.iconst (v := (-1 : Int32)) C dX10_act_27 (by decide) ?_
        refine SW.sub [] rfl ?_
        exact hJ28 _ _ h
      · replace h := h.1 hc
        refine SW.iconst (v := (1 : Int32)) C dX10_act_23 (by decide) ?_
        refine SW.goto (tgt := 28) C dX10_act_24 (by decide) ?_
        refine SW.sub [] rfl ?_
        exact hJ28 _ _ h
  · refine SW.icmp_eq (tgt := 12) C dX10_act_3 (by decide) (fun hc => ?_) (fun hc => ?_)
    · replace h := h.1 hc
      exact hJ12 h
    · replace h := h.2 hc
      refine SW.iload_n C dX10_act_6 rfl 1 rfl ?_
      refine SW.bipush (v := (45 : Int32)) C dX10_act_7 (by decide) ?_
      refine SW.icmp_ne (tgt := 35) C dX10_act_9 (by decide) (fun hc => ?_) (fun hc => ?_)
      · replace h := h.2 hc
        refine SW.aload_n C dX10_act_35 rfl 0 rfl ?_
        refine SW.dup C dX10_act_36 rfl ?_
        refine SW.get (v := .int (oY 0 12)) (T := TX10) (N := 25) C inX10_act_X10 0 rfl rfl 12 (by decide) lkX10_act_109 rfl dX10_act_37 ?_
        refine SW.iconst (v := (1 : Int32)) C dX10_act_40 (by decide) ?_
        refine SW.iload_n C dX10_act_41 rfl 1 rfl ?_
        refine SW.bipush (v := (97 : Int32)) C dX10_act_42 (by decide) ?_
        refine SW.isub C dX10_act_44 ?_
        refine SW.ishl C dX10_act_45 ?_
        refine SW.ixor C dX10_act_46 ?_
        refine SW.put (ws' := w10 cI cZ qY (pf oY 12 ((oY 0 12) ^^^ (jshl (1 : Int32) (v1 - (97 : Int32)))))) (T := TX10) (N := 25) C inX10_act_X10 tyX10 tyX10_ok nmX10 0 rfl rfl 12 (by decide) lkX10_act_109 rfl rfl rfl (Nat.le_of_ble_eq_true rfl) rfl dX10_act_47 ?_
        exact SW.vret C (pf oY 12 ((oY 0 12) ^^^ (jshl (1 : Int32) (v1 - (97 : Int32))))) rfl h dX10_act_50
      · replace h := h.1 hc
        exact hJ12 h
def wpX10_goEvening_L32 (post : Int32 → Ob → Prop) (K158 : Ob → Prop) : Nat → Ob → Prop
  | 0, _ => False
  | fu32 + 1, oY_32 => (((oY_32 0 10) ≤ (oY_32 0 15)) → K158 oY_32) ∧ (¬ ((oY_32 0 10) ≤ (oY_32 0 15)) → (vp_in (oY_32 0 15) 60) ∧ (jn1 (fun (p0_69 : Int32) => ((p0_69 ≤ 0) → jn1 (fun (oY_145 : Ob) => wpX10_goEvening_L32 post K158 fu32 (pf oY_145 15 ((oY_145 0 15) + (1 : Int32)))) (fun J145 => (((jld (oY_32 4) (oY_32 0 15)) = (46 : Int32)) → wpX10_clashes (pf oY_32 14 p0_69) (oY_32 0 12) (oY_32 0 13) (fun (r107 : Int32) => ((r107 = 0) → J145 (pf oY_32 14 p0_69)) ∧ (¬ (r107 = 0) → jn1 (fun (p0_132 : Int32) => ∀ oY_132n : Ob, oY_132n = (pf oY_32 14 p0_69) → (∀ oY_142n : Ob, oY_142n = (pf oY_132n 17 p0_132) → (J145 (pf oY_142n 16 ((oY_132n 0 16) + (1 : Int32)))))) (fun J132 => (((oY_32 0 16) = 0) → J132 (oY_32 0 15)) ∧ (¬ ((oY_32 0 16) = 0) → J132 (oY_32 0 17)))))) ∧ (¬ ((jld (oY_32 4) (oY_32 0 15)) = (46 : Int32)) → wpX10_act (pf oY_32 14 p0_69) (jld (oY_32 4) (oY_32 0 15)) (fun (oY_92 : Ob) => J145 oY_92)))) ∧ (¬ (p0_69 ≤ 0) → post (oY_32 0 15) (pf oY_32 14 p0_69))) (fun J69 => (((jld (oY_32 4) (oY_32 0 15)) = (46 : Int32)) → J69 (0 : Int32)) ∧ (¬ ((jld (oY_32 4) (oY_32 0 15)) = (46 : Int32)) → wpX10_whyNot oY_32 (jld (oY_32 4) (oY_32 0 15)) (fun (r66 : Int32) => J69 r66)))))
def wpX10_goEvening (oY : Ob) (post : Int32 → Ob → Prop) : Prop := ∀ oY_13n : Ob, oY_13n = (pf oY 12 (oY 0 6)) → (∀ oY_18n : Ob, oY_18n = (pf oY_13n 13 (oY 0 5)) → (∀ oY_24n : Ob, oY_24n = (pf oY_18n 16 (0 : Int32)) → (∀ oY_29n : Ob, oY_29n = (pf oY_24n 17 (-6 : Int32)) → (∃ fu32 : Nat, wpX10_goEvening_L32 post (fun (oY_158 : Ob) => post (-6 : Int32) oY_158) fu32 (pf oY_29n 15 (0 : Int32))))))
theorem pdX10_goEvening : yX10_goEvening.cls = RX10 ∧ yX10_goEvening.cls ≠ "java/lang/invoke/MethodHandle" ∧ yX10_goEvening.cls ≠ "java/lang/invoke/VarHandle" ∧ (parseMethodDescriptor yX10_goEvening.desc).map (fun d => d.parameters.length) = some 0 := by decide +kernel
theorem lkX10_goEvening_63 : Cond.fieldLink RX10 63 (TX10 6).1 (TX10 6).2.1 (TX10 6).2.2.1 ∈ wsX10_goEvening := by decide +kernel
theorem inX10_goEvening_X10 : ∀ w ∈ u_ws RX10 TX10 25, w ∈ wsX10_goEvening := by decide +kernel
theorem lkX10_goEvening_109 : Cond.fieldLink RX10 109 (TX10 12).1 (TX10 12).2.1 (TX10 12).2.2.1 ∈ wsX10_goEvening := by decide +kernel
theorem lkX10_goEvening_60 : Cond.fieldLink RX10 60 (TX10 5).1 (TX10 5).2.1 (TX10 5).2.2.1 ∈ wsX10_goEvening := by decide +kernel
theorem lkX10_goEvening_106 : Cond.fieldLink RX10 106 (TX10 13).1 (TX10 13).2.1 (TX10 13).2.2.1 ∈ wsX10_goEvening := by decide +kernel
theorem lkX10_goEvening_118 : Cond.fieldLink RX10 118 (TX10 16).1 (TX10 16).2.1 (TX10 16).2.2.1 ∈ wsX10_goEvening := by decide +kernel
theorem lkX10_goEvening_121 : Cond.fieldLink RX10 121 (TX10 17).1 (TX10 17).2.1 (TX10 17).2.2.1 ∈ wsX10_goEvening := by decide +kernel
theorem lkX10_goEvening_124 : Cond.fieldLink RX10 124 (TX10 15).1 (TX10 15).2.1 (TX10 15).2.2.1 ∈ wsX10_goEvening := by decide +kernel
theorem lkX10_goEvening_77 : Cond.fieldLink RX10 77 (TX10 10).1 (TX10 10).2.1 (TX10 10).2.2.1 ∈ wsX10_goEvening := by decide +kernel
theorem lkX10_goEvening_32 : Cond.fieldLink RX10 32 (TX10 11).1 (TX10 11).2.1 (TX10 11).2.2.1 ∈ wsX10_goEvening := by decide +kernel
theorem lkX10_goEvening_130 : Cond.fieldLink RX10 130 (TX10 14).1 (TX10 14).2.1 (TX10 14).2.2.1 ∈ wsX10_goEvening := by decide +kernel
set_option maxHeartbeats 4000000 in
set_option maxRecDepth 100000 in
theorem ctX10_goEvening (l : Launch) (D : va_G) (cI cZ : ClassId) (qY : Nat → Nat) (oY : Ob) (post : Int32 → Ob → Prop) (h : wpX10_goEvening oY post) : CTi l yX10_goEvening wsX10_goEvening { frames := 3, cells := 0, slots := 0, locals := 74 } D [(cI, .int), (cZ, .boolean)] [.ref (qY 0)] (w10 cI cZ qY oY) (fun u : Ob => w10 cI cZ qY u) (fun (r : Int32) (u : Ob) => post r u) := by
  refine CTi.of (cc := cX10_goEvening) (own := RX10) (maxL := 2) (ret := (some .int)) (lv0 := [(0, .ref (qY 0))]) (by decide) rfl rfl (Nat.le_of_ble_eq_true rfl) rfl ?_
  intro p e s m args below meth c A C
  unfold wpX10_goEvening at h
  refine SW.aload_n C dX10_goEvening_0 rfl 0 rfl ?_
  refine SW.aload_n C dX10_goEvening_1 rfl 0 rfl ?_
  refine SW.get (v := .int (oY 0 6)) (T := TX10) (N := 25) C inX10_goEvening_X10 0 rfl rfl 6 (by decide) lkX10_goEvening_63 rfl dX10_goEvening_2 ?_
  refine SW.put (ws' := w10 cI cZ qY (pf oY 12 (oY 0 6))) (T := TX10) (N := 25) C inX10_goEvening_X10 tyX10 tyX10_ok nmX10 0 rfl rfl 12 (by decide) lkX10_goEvening_109 rfl rfl rfl (Nat.le_of_ble_eq_true rfl) rfl dX10_goEvening_5 ?_
  refine SW.aload_n C dX10_goEvening_8 rfl 0 rfl ?_
  refine SW.aload_n C dX10_goEvening_9 rfl 0 rfl ?_
  refine SW.get (v := .int (oY 0 5)) (T := TX10) (N := 25) C inX10_goEvening_X10 0 rfl rfl 5 (by decide) lkX10_goEvening_60 rfl dX10_goEvening_10 ?_
  refine SW.nameOb (wz := fun z => w10 cI cZ qY z) (o := (pf oY 12 (oY 0 6))) (fun oY_13n he => ?_)
  replace h := h oY_13n he
  refine SW.put (ws' := w10 cI cZ qY (pf oY_13n 13 (oY 0 5))) (T := TX10) (N := 25) C inX10_goEvening_X10 tyX10 tyX10_ok nmX10 0 rfl rfl 13 (by decide) lkX10_goEvening_106 rfl rfl rfl (Nat.le_of_ble_eq_true rfl) rfl dX10_goEvening_13 ?_
  refine SW.aload_n C dX10_goEvening_16 rfl 0 rfl ?_
  refine SW.iconst (v := (0 : Int32)) C dX10_goEvening_17 (by decide) ?_
  refine SW.nameOb (wz := fun z => w10 cI cZ qY z) (o := (pf oY_13n 13 (oY 0 5))) (fun oY_18n he => ?_)
  replace h := h oY_18n he
  refine SW.put (ws' := w10 cI cZ qY (pf oY_18n 16 (0 : Int32))) (T := TX10) (N := 25) C inX10_goEvening_X10 tyX10 tyX10_ok nmX10 0 rfl rfl 16 (by decide) lkX10_goEvening_118 rfl rfl rfl (Nat.le_of_ble_eq_true rfl) rfl dX10_goEvening_18 ?_
  refine SW.aload_n C dX10_goEvening_21 rfl 0 rfl ?_
  refine SW.bipush (v := (-6 : Int32)) C dX10_goEvening_22 (by decide) ?_
  refine SW.nameOb (wz := fun z => w10 cI cZ qY z) (o := (pf oY_18n 16 (0 : Int32))) (fun oY_24n he => ?_)
  replace h := h oY_24n he
  refine SW.put (ws' := w10 cI cZ qY (pf oY_24n 17 (-6 : Int32))) (T := TX10) (N := 25) C inX10_goEvening_X10 tyX10 tyX10_ok nmX10 0 rfl rfl 17 (by decide) lkX10_goEvening_121 rfl rfl rfl (Nat.le_of_ble_eq_true rfl) rfl dX10_goEvening_24 ?_
  refine SW.aload_n C dX10_goEvening_27 rfl 0 rfl ?_
  refine SW.iconst (v := (0 : Int32)) C dX10_goEvening_28 (by decide) ?_
  refine SW.nameOb (wz := fun z => w10 cI cZ qY z) (o := (pf oY_24n 17 (-6 : Int32))) (fun oY_29n he => ?_)
  replace h := h oY_29n he
  refine SW.put (ws' := w10 cI cZ qY (pf oY_29n 15 (0 : Int32))) (T := TX10) (N := 25) C inX10_goEvening_X10 tyX10 tyX10_ok nmX10 0 rfl rfl 15 (by decide) lkX10_goEvening_124 rfl rfl rfl (Nat.le_of_ble_eq_true rfl) rfl dX10_goEvening_29 ?_
  have L32 : ∀ (K158 : Ob → Prop) (hK158 : ∀ (oY_158 : Ob), K158 oY_158 → SW p l e { frames := 3, cells := 0, slots := 0, locals := 74 } s m args below meth c A D 2 0 0 (MQ below (va_Qi (fun (r : Int32) (u : Ob) => post r u) (ctB D A (fun u : Ob => w10 cI cZ qY u)) A) args s 0 0 A) (w10 cI cZ qY oY_158) 158 [] []) (fu : Nat) (oY_32 : Ob), wpX10_goEvening_L32 post K158 fu oY_32 → SW p l e { frames := 3, cells := 0, slots := 0, locals := 74 } s m args below meth c A D 2 0 0 (MQ below (va_Qi (fun (r : Int32) (u : Ob) => post r u) (ctB D A (fun u : Ob => w10 cI cZ qY u)) A) args s 0 0 A) (w10 cI cZ qY oY_32) 32 [(0, .ref (qY 0))] [] := by
    intro K158 hK158 fu
    induction fu with
    | zero =>
      intro oY_32 h
      exact False.elim h
    | succ fu ih =>
      intro oY_32 h
      unfold wpX10_goEvening_L32 at h
      refine SW.aload_n C dX10_goEvening_32 rfl 0 rfl ?_
      refine SW.get (v := .int (oY_32 0 15)) (T := TX10) (N := 25) C inX10_goEvening_X10 0 rfl rfl 15 (by decide) lkX10_goEvening_124 rfl dX10_goEvening_33 ?_
      refine SW.aload_n C dX10_goEvening_36 rfl 0 rfl ?_
      refine SW.get (v := .int (oY_32 0 10)) (T := TX10) (N := 25) C inX10_goEvening_X10 0 rfl rfl 10 (by decide) lkX10_goEvening_77 rfl dX10_goEvening_37 ?_
      refine SW.icmp_ge (tgt := 158) C dX10_goEvening_40 (by decide) (fun hc => ?_) (fun hc => ?_)
      · replace h := h.1 hc
        refine SW.sub [] rfl ?_
        exact hK158 _ h
      · replace h := h.2 hc
        refine SW.aload_n C dX10_goEvening_43 rfl 0 rfl ?_
        refine SW.get (v := .ref (qY 4)) (T := TX10) (N := 25) C inX10_goEvening_X10 0 rfl rfl 11 (by decide) lkX10_goEvening_32 rfl dX10_goEvening_44 ?_
        refine SW.aload_n C dX10_goEvening_47 rfl 0 rfl ?_
        refine SW.get (v := .int (oY_32 0 15)) (T := TX10) (N := 25) C inX10_goEvening_X10 0 rfl rfl 15 (by decide) lkX10_goEvening_124 rfl dX10_goEvening_48 ?_
        refine SW.iald C 4 0 rfl rfl h.1 dX10_goEvening_51 ?_
        replace h := h.2
        refine SW.istore_n (lv' := [(1, .int (jld (oY_32 4) (oY_32 0 15))), (0, .ref (qY 0))]) C dX10_goEvening_52 rfl (by decide) rfl ?_
        refine SW.aload_n C dX10_goEvening_53 rfl 1 rfl ?_
        refine SW.iload_n C dX10_goEvening_54 rfl 0 rfl ?_
        refine SW.bipush (v := (46 : Int32)) C dX10_goEvening_55 (by decide) ?_
        refine jn1_elim (G := fun p0_69 => SW p l e { frames := 3, cells := 0, slots := 0, locals := 74 } s m args below meth c A D 2 0 0 (MQ below (va_Qi (fun (r : Int32) (u : Ob) => post r u) (ctB D A (fun u : Ob => w10 cI cZ qY u)) A) args s 0 0 A) (w10 cI cZ qY oY_32) 69 [(0, .ref (qY 0)), (1, .int (jld (oY_32 4) (oY_32 0 15)))] [.int p0_69, .ref (qY 0)]) h (fun p0_69 h => ?_) (fun J69 hJ69 h => ?_)
        · refine SW.put (ws' := w10 cI cZ qY (pf oY_32 14 p0_69)) (T := TX10) (N := 25) C inX10_goEvening_X10 tyX10 tyX10_ok nmX10 0 rfl rfl 14 (by decide) lkX10_goEvening_130 rfl rfl rfl (Nat.le_of_ble_eq_true rfl) rfl dX10_goEvening_69 ?_
          refine SW.aload_n C dX10_goEvening_72 rfl 0 rfl ?_
          refine SW.get (v := .int p0_69) (T := TX10) (N := 25) C inX10_goEvening_X10 0 rfl rfl 14 (by decide) lkX10_goEvening_130 rfl dX10_goEvening_73 ?_
          refine SW.if_le (tgt := 84) C dX10_goEvening_76 (by decide) (fun hc => ?_) (fun hc => ?_)
          · replace h := h.1 hc
            refine SW.iload_n C dX10_goEvening_84 rfl 1 rfl ?_
            refine SW.bipush (v := (46 : Int32)) C dX10_goEvening_85 (by decide) ?_
            refine jn1_elim (G := fun oY_145 => SW p l e { frames := 3, cells := 0, slots := 0, locals := 74 } s m args below meth c A D 2 0 0 (MQ below (va_Qi (fun (r : Int32) (u : Ob) => post r u) (ctB D A (fun u : Ob => w10 cI cZ qY u)) A) args s 0 0 A) (w10 cI cZ qY oY_145) 145 [(0, .ref (qY 0))] []) h (fun oY_145 h => ?_) (fun J145 hJ145 h => ?_)
            · refine SW.aload_n C dX10_goEvening_145 rfl 0 rfl ?_
              refine SW.dup C dX10_goEvening_146 rfl ?_
              refine SW.get (v := .int (oY_145 0 15)) (T := TX10) (N := 25) C inX10_goEvening_X10 0 rfl rfl 15 (by decide) lkX10_goEvening_124 rfl dX10_goEvening_147 ?_
              refine SW.iconst (v := (1 : Int32)) C dX10_goEvening_150 (by decide) ?_
              refine SW.iadd C dX10_goEvening_151 ?_
              refine SW.put (ws' := w10 cI cZ qY (pf oY_145 15 ((oY_145 0 15) + (1 : Int32)))) (T := TX10) (N := 25) C inX10_goEvening_X10 tyX10 tyX10_ok nmX10 0 rfl rfl 15 (by decide) lkX10_goEvening_124 rfl rfl rfl (Nat.le_of_ble_eq_true rfl) rfl dX10_goEvening_152 ?_
              refine SW.goto (tgt := 32) C dX10_goEvening_155 (by decide) ?_
              exact ih _ h
            · refine SW.icmp_eq (tgt := 98) C dX10_goEvening_87 (by decide) (fun hc => ?_) (fun hc => ?_)
              · replace h := h.1 hc
                refine SW.aload_n C dX10_goEvening_98 rfl 0 rfl ?_
                refine SW.aload_n C dX10_goEvening_99 rfl 0 rfl ?_
                refine SW.get (v := .int (oY_32 0 12)) (T := TX10) (N := 25) C inX10_goEvening_X10 0 rfl rfl 12 (by decide) lkX10_goEvening_109 rfl dX10_goEvening_100 ?_
                refine SW.aload_n C dX10_goEvening_103 rfl 0 rfl ?_
                refine SW.get (v := .int (oY_32 0 13)) (T := TX10) (N := 25) C inX10_goEvening_X10 0 rfl rfl 13 (by decide) lkX10_goEvening_106 rfl dX10_goEvening_104 ?_
                refine SW.callVi_same C (ctX10_clashes l D cI cZ qY (pf oY_32 14 p0_69) (oY_32 0 12) (oY_32 0 13) _ h) gX10_goEvening_X10_clashes rfl rfl rfl pdX10_clashes ⟨by decide, by decide⟩ 0 rfl rfl rfl rfl rfl (Nat.le_of_ble_eq_true rfl) dX10_goEvening_107 (by decide) (fun r107 u h => ?_)
                try dsimp only at h
                refine SW.if_eq (tgt := 145) C dX10_goEvening_110 (by decide) (fun hc => ?_) (fun hc => ?_)
                · replace h := h.1 hc
                  refine SW.sub [0] rfl ?_
                  exact hJ145 _ h
                · replace h := h.2 hc
                  refine SW.aload_n C dX10_goEvening_113 rfl 0 rfl ?_
                  refine SW.aload_n C dX10_goEvening_114 rfl 0 rfl ?_
                  refine SW.get (v := .int (oY_32 0 16)) (T := TX10) (N := 25) C inX10_goEvening_X10 0 rfl rfl 16 (by decide) lkX10_goEvening_118 rfl dX10_goEvening_115 ?_
                  refine jn1_elim (G := fun p0_132 => SW p l e { frames := 3, cells := 0, slots := 0, locals := 74 } s m args below meth c A D 2 0 0 (MQ below (va_Qi (fun (r : Int32) (u : Ob) => post r u) (ctB D A (fun u : Ob => w10 cI cZ qY u)) A) args s 0 0 A) (w10 cI cZ qY (pf oY_32 14 p0_69)) 132 [(0, .ref (qY 0))] [.int p0_132, .ref (qY 0)]) h (fun p0_132 h => ?_) (fun J132 hJ132 h => ?_)
                  · refine SW.nameOb (wz := fun z => w10 cI cZ qY z) (o := (pf oY_32 14 p0_69)) (fun oY_132n he => ?_)
                    replace h := h oY_132n he
                    refine SW.put (ws' := w10 cI cZ qY (pf oY_132n 17 p0_132)) (T := TX10) (N := 25) C inX10_goEvening_X10 tyX10 tyX10_ok nmX10 0 rfl rfl 17 (by decide) lkX10_goEvening_121 rfl rfl rfl (Nat.le_of_ble_eq_true rfl) rfl dX10_goEvening_132 ?_
                    refine SW.aload_n C dX10_goEvening_135 rfl 0 rfl ?_
                    refine SW.dup C dX10_goEvening_136 rfl ?_
                    refine SW.get (v := .int (oY_132n 0 16)) (T := TX10) (N := 25) C inX10_goEvening_X10 0 rfl rfl 16 (by decide) lkX10_goEvening_118 rfl dX10_goEvening_137 ?_
                    refine SW.iconst (v := (1 : Int32)) C dX10_goEvening_140 (by decide) ?_
                    refine SW.iadd C dX10_goEvening_141 ?_
                    refine SW.nameOb (wz := fun z => w10 cI cZ qY z) (o := (pf oY_132n 17 p0_132)) (fun oY_142n he => ?_)
                    replace h := h oY_142n he
                    refine SW.put (ws' := w10 cI cZ qY (pf oY_142n 16 ((oY_132n 0 16) + (1 : Int32)))) (T := TX10) (N := 25) C inX10_goEvening_X10 tyX10 tyX10_ok nmX10 0 rfl rfl 16 (by decide) lkX10_goEvening_118 rfl rfl rfl (Nat.le_of_ble_eq_true rfl) rfl dX10_goEvening_142 ?_
                    exact hJ145 _ h
                  · refine SW.if_ne (tgt := 128) C dX10_goEvening_118 (by decide) (fun hc => ?_) (fun hc => ?_)
                    · replace h := h.2 hc
                      refine SW.aload_n C dX10_goEvening_128 rfl 0 rfl ?_
                      refine SW.get (v := .int (oY_32 0 17)) (T := TX10) (N := 25) C inX10_goEvening_X10 0 rfl rfl 17 (by decide) lkX10_goEvening_121 rfl dX10_goEvening_129 ?_
                      refine SW.sub [0] rfl ?_
                      exact hJ132 _ h
                    · replace h := h.1 hc
                      refine SW.aload_n C dX10_goEvening_121 rfl 0 rfl ?_
                      refine SW.get (v := .int (oY_32 0 15)) (T := TX10) (N := 25) C inX10_goEvening_X10 0 rfl rfl 15 (by decide) lkX10_goEvening_124 rfl dX10_goEvening_122 ?_
                      refine SW.goto (tgt := 132) C dX10_goEvening_125 (by decide) ?_
                      refine SW.sub [0] rfl ?_
                      exact hJ132 _ h
              · replace h := h.2 hc
                refine SW.aload_n C dX10_goEvening_90 rfl 0 rfl ?_
                refine SW.iload_n C dX10_goEvening_91 rfl 1 rfl ?_
                refine SW.callVv_same C (ctX10_act l D cI cZ qY (pf oY_32 14 p0_69) (jld (oY_32 4) (oY_32 0 15)) _ h) gX10_goEvening_X10_act rfl rfl rfl pdX10_act ⟨by decide, by decide⟩ 0 rfl rfl rfl rfl rfl (Nat.le_of_ble_eq_true rfl) dX10_goEvening_92 (by decide) (fun u h => ?_)
                obtain ⟨oY_92, rfl⟩ : ∃ z, z = u := ⟨_, rfl⟩
                try dsimp only at h
                refine SW.goto (tgt := 145) C dX10_goEvening_95 (by decide) ?_
                refine SW.sub [0] rfl ?_
                exact hJ145 _ h
          · replace h := h.2 hc
            refine SW.aload_n C dX10_goEvening_79 rfl 0 rfl ?_
            refine SW.get (v := .int (oY_32 0 15)) (T := TX10) (N := 25) C inX10_goEvening_X10 0 rfl rfl 15 (by decide) lkX10_goEvening_124 rfl dX10_goEvening_80 ?_
            exact SW.iret C (pf oY_32 14 p0_69) rfl h dX10_goEvening_83
        · refine SW.icmp_ne (tgt := 64) C dX10_goEvening_57 (by decide) (fun hc => ?_) (fun hc => ?_)
          · replace h := h.2 hc
            refine SW.aload_n C dX10_goEvening_64 rfl 1 rfl ?_
            refine SW.iload_n C dX10_goEvening_65 rfl 0 rfl ?_
            refine SW.callVi_same C (ctX10_whyNot l D cI cZ qY oY_32 (jld (oY_32 4) (oY_32 0 15)) _ h) gX10_goEvening_X10_whyNot rfl rfl rfl pdX10_whyNot ⟨by decide, by decide⟩ 0 rfl rfl rfl rfl rfl (Nat.le_of_ble_eq_true rfl) dX10_goEvening_66 (by decide) (fun r66 u h => ?_)
            try dsimp only at h
            refine SW.sub [1, 0] rfl ?_
            exact hJ69 _ h
          · replace h := h.1 hc
            refine SW.iconst (v := (0 : Int32)) C dX10_goEvening_60 (by decide) ?_
            refine SW.goto (tgt := 69) C dX10_goEvening_61 (by decide) ?_
            refine SW.sub [1, 0] rfl ?_
            exact hJ69 _ h
  obtain ⟨fu, h⟩ := h
  refine L32 _ (fun oY_158 h => ?_) fu _ h
  · refine SW.bipush (v := (-6 : Int32)) C dX10_goEvening_158 (by decide) ?_
    exact SW.iret C oY_158 rfl h dX10_goEvening_160
def wpX10_judge (oY : Ob) (v1 : Int32) (post : Int32 → Ob → Prop) : Prop := wpX10_in v1 (0 : Int32) (1 : Int32) (fun (r3 : Int32) => ((r3 = 0) → post (-2 : Int32) oY) ∧ (¬ (r3 = 0) → wpX10_eveningFault oY (fun (r13 : Int32) => ((r13 < 0) → wpX10_goEvening oY (fun (r23 : Int32) (oY_23 : Ob) => jn0 (post r23 oY_23) (fun J35 => ((r23 < 0) → J35) ∧ (¬ (r23 < 0) → ((v1 = 0) → J35) ∧ (¬ (v1 = 0) → post (oY_23 0 14) oY_23))))) ∧ (¬ (r13 < 0) → post (-5 : Int32) oY))))
theorem pdX10_judge : yX10_judge.cls = RX10 ∧ yX10_judge.cls ≠ "java/lang/invoke/MethodHandle" ∧ yX10_judge.cls ≠ "java/lang/invoke/VarHandle" ∧ (parseMethodDescriptor yX10_judge.desc).map (fun d => d.parameters.length) = some 1 := by decide +kernel
theorem lkX10_judge_130 : Cond.fieldLink RX10 130 (TX10 14).1 (TX10 14).2.1 (TX10 14).2.2.1 ∈ wsX10_judge := by decide +kernel
theorem inX10_judge_X10 : ∀ w ∈ u_ws RX10 TX10 25, w ∈ wsX10_judge := by decide +kernel
set_option maxHeartbeats 4000000 in
set_option maxRecDepth 100000 in
theorem ctX10_judge (l : Launch) (D : va_G) (cI cZ : ClassId) (qY : Nat → Nat) (oY : Ob) (v1 : Int32) (post : Int32 → Ob → Prop) (h : wpX10_judge oY v1 post) : CTi l yX10_judge wsX10_judge { frames := 4, cells := 0, slots := 0, locals := 95 } D [(cI, .int), (cZ, .boolean)] [.ref (qY 0), .int v1] (w10 cI cZ qY oY) (fun u : Ob => w10 cI cZ qY u) (fun (r : Int32) (u : Ob) => post r u) := by
  refine CTi.of (cc := cX10_judge) (own := RX10) (maxL := 3) (ret := (some .int)) (lv0 := [(0, .ref (qY 0)), (1, .int v1)]) (by decide) rfl rfl (Nat.le_of_ble_eq_true rfl) rfl ?_
  intro p e s m args below meth c A C
  unfold wpX10_judge at h
  refine SW.iload_n C dX10_judge_0 rfl 1 rfl ?_
  refine SW.iconst (v := (0 : Int32)) C dX10_judge_1 (by decide) ?_
  refine SW.iconst (v := (1 : Int32)) C dX10_judge_2 (by decide) ?_
  refine SW.callSi_pure C (ctX10_in l D cI cZ v1 (0 : Int32) (1 : Int32) _ h) gX10_judge_X10_in rfl rfl rfl pdX10_in ⟨by decide, by decide⟩ rfl rfl (Nat.le_of_ble_eq_true rfl) dX10_judge_3 (by decide) (fun r3 u h => ?_)
  try dsimp only at h
  refine SW.if_ne (tgt := 12) C dX10_judge_6 (by decide) (fun hc => ?_) (fun hc => ?_)
  · replace h := h.2 hc
    refine SW.aload_n C dX10_judge_12 rfl 0 rfl ?_
    refine SW.callVi_same C (ctX10_eveningFault l D cI cZ qY oY _ h) gX10_judge_X10_eveningFault rfl rfl rfl pdX10_eveningFault ⟨by decide, by decide⟩ 0 rfl rfl rfl rfl rfl (Nat.le_of_ble_eq_true rfl) dX10_judge_13 (by decide) (fun r13 u h => ?_)
    try dsimp only at h
    refine SW.if_lt (tgt := 22) C dX10_judge_16 (by decide) (fun hc => ?_) (fun hc => ?_)
    · replace h := h.1 hc
      refine SW.aload_n C dX10_judge_22 rfl 0 rfl ?_
      refine SW.callVi_same C (ctX10_goEvening l D cI cZ qY oY _ h) gX10_judge_X10_goEvening rfl rfl rfl pdX10_goEvening ⟨by decide, by decide⟩ 0 rfl rfl rfl rfl rfl (Nat.le_of_ble_eq_true rfl) dX10_judge_23 (by decide) (fun r23 u h => ?_)
      obtain ⟨oY_23, rfl⟩ : ∃ z, z = u := ⟨_, rfl⟩
      try dsimp only at h
      refine SW.istore_n (lv' := [(2, .int r23), (0, .ref (qY 0)), (1, .int v1)]) C dX10_judge_26 rfl (by decide) rfl ?_
      refine SW.iload_n C dX10_judge_27 rfl 0 rfl ?_
      refine jn0_elim (G := SW p l e { frames := 4, cells := 0, slots := 0, locals := 95 } s m args below meth c A D 3 0 0 (MQ below (va_Qi (fun (r : Int32) (u : Ob) => post r u) (ctB D A (fun u : Ob => w10 cI cZ qY u)) A) args s 0 0 A) (w10 cI cZ qY oY_23) 35 [(2, .int r23)] []) h (fun h => ?_) (fun J35 hJ35 h => ?_)
      · refine SW.iload_n C dX10_judge_35 rfl 0 rfl ?_
        refine SW.goto (tgt := 43) C dX10_judge_36 (by decide) ?_
        exact SW.iret C oY_23 rfl h dX10_judge_43
      · refine SW.if_lt (tgt := 35) C dX10_judge_28 (by decide) (fun hc => ?_) (fun hc => ?_)
        · replace h := h.1 hc
          refine SW.sub [0] rfl ?_
          exact hJ35 h
        · replace h := h.2 hc
          refine SW.iload_n C dX10_judge_31 rfl 2 rfl ?_
          refine SW.if_ne (tgt := 39) C dX10_judge_32 (by decide) (fun hc => ?_) (fun hc => ?_)
          · replace h := h.2 hc
            refine SW.aload_n C dX10_judge_39 rfl 1 rfl ?_
            refine SW.get (v := .int (oY_23 0 14)) (T := TX10) (N := 25) C inX10_judge_X10 0 rfl rfl 14 (by decide) lkX10_judge_130 rfl dX10_judge_40 ?_
            exact SW.iret C oY_23 rfl h dX10_judge_43
          · replace h := h.1 hc
            refine SW.sub [0] rfl ?_
            exact hJ35 h
    · replace h := h.2 hc
      refine SW.bipush (v := (-5 : Int32)) C dX10_judge_19 (by decide) ?_
      exact SW.iret C oY rfl h dX10_judge_21
  · replace h := h.1 hc
    refine SW.bipush (v := (-2 : Int32)) C dX10_judge_9 (by decide) ?_
    exact SW.iret C oY rfl h dX10_judge_11
def wpX10_barOfEvening (oY : Ob) (post : Int32 → Ob → Prop) : Prop := wpX10_eveningFault oY (fun (r1 : Int32) => jn1 (fun (oY_14 : Ob) => post (-5 : Int32) oY_14) (fun J14 => ((0 ≤ r1) → J14 oY) ∧ (¬ (0 ≤ r1) → wpX10_goEvening oY (fun (r8 : Int32) (oY_8 : Ob) => ((r8 < 0) → post (0 : Int32) oY_8) ∧ (¬ (r8 < 0) → J14 oY_8)))))
theorem pdX10_barOfEvening : yX10_barOfEvening.cls = RX10 ∧ yX10_barOfEvening.cls ≠ "java/lang/invoke/MethodHandle" ∧ yX10_barOfEvening.cls ≠ "java/lang/invoke/VarHandle" ∧ (parseMethodDescriptor yX10_barOfEvening.desc).map (fun d => d.parameters.length) = some 0 := by decide +kernel
set_option maxHeartbeats 4000000 in
set_option maxRecDepth 100000 in
theorem ctX10_barOfEvening (l : Launch) (D : va_G) (cI cZ : ClassId) (qY : Nat → Nat) (oY : Ob) (post : Int32 → Ob → Prop) (h : wpX10_barOfEvening oY post) : CTi l yX10_barOfEvening wsX10_barOfEvening { frames := 4, cells := 0, slots := 0, locals := 95 } D [(cI, .int), (cZ, .boolean)] [.ref (qY 0)] (w10 cI cZ qY oY) (fun u : Ob => w10 cI cZ qY u) (fun (r : Int32) (u : Ob) => post r u) := by
  refine CTi.of (cc := cX10_barOfEvening) (own := RX10) (maxL := 1) (ret := (some .int)) (lv0 := [(0, .ref (qY 0))]) (by decide) rfl rfl (Nat.le_of_ble_eq_true rfl) rfl ?_
  intro p e s m args below meth c A C
  unfold wpX10_barOfEvening at h
  refine SW.aload_n C dX10_barOfEvening_0 rfl 0 rfl ?_
  refine SW.callVi_same C (ctX10_eveningFault l D cI cZ qY oY _ h) gX10_barOfEvening_X10_eveningFault rfl rfl rfl pdX10_eveningFault ⟨by decide, by decide⟩ 0 rfl rfl rfl rfl rfl (Nat.le_of_ble_eq_true rfl) dX10_barOfEvening_1 (by decide) (fun r1 u h => ?_)
  try dsimp only at h
  refine jn1_elim (G := fun oY_14 => SW p l e { frames := 4, cells := 0, slots := 0, locals := 95 } s m args below meth c A D 1 0 0 (MQ below (va_Qi (fun (r : Int32) (u : Ob) => post r u) (ctB D A (fun u : Ob => w10 cI cZ qY u)) A) args s 0 0 A) (w10 cI cZ qY oY_14) 14 [] []) h (fun oY_14 h => ?_) (fun J14 hJ14 h => ?_)
  · refine SW.bipush (v := (-5 : Int32)) C dX10_barOfEvening_14 (by decide) ?_
    refine SW.goto (tgt := 20) C dX10_barOfEvening_16 (by decide) ?_
    exact SW.iret C oY_14 rfl h dX10_barOfEvening_20
  · refine SW.if_ge (tgt := 14) C dX10_barOfEvening_4 (by decide) (fun hc => ?_) (fun hc => ?_)
    · replace h := h.1 hc
      refine SW.sub [] rfl ?_
      exact hJ14 _ h
    · replace h := h.2 hc
      refine SW.aload_n C dX10_barOfEvening_7 rfl 0 rfl ?_
      refine SW.callVi_same C (ctX10_goEvening l D cI cZ qY oY _ h) gX10_barOfEvening_X10_goEvening rfl rfl rfl pdX10_goEvening ⟨by decide, by decide⟩ 0 rfl rfl rfl rfl rfl (Nat.le_of_ble_eq_true rfl) dX10_barOfEvening_8 (by decide) (fun r8 u h => ?_)
      obtain ⟨oY_8, rfl⟩ : ∃ z, z = u := ⟨_, rfl⟩
      try dsimp only at h
      refine SW.if_lt (tgt := 19) C dX10_barOfEvening_11 (by decide) (fun hc => ?_) (fun hc => ?_)
      · replace h := h.1 hc
        refine SW.iconst (v := (0 : Int32)) C dX10_barOfEvening_19 (by decide) ?_
        exact SW.iret C oY_8 rfl h dX10_barOfEvening_20
      · replace h := h.2 hc
        refine SW.sub [] rfl ?_
        exact hJ14 _ h
def wpX10_done (oY : Ob) (post : Int32 → Ob → Prop) : Prop := wpX10_barOfEvening oY (fun (r1 : Int32) (oY_1 : Ob) => ((0 ≤ r1) → ∀ oY_23n : Ob, oY_23n = (pf oY_1 6 (oY_1 0 12)) → (∀ oY_28n : Ob, oY_28n = (pf oY_23n 5 (oY_1 0 13)) → (post (oY_28n 0 15) (pf oY_28n 10 (0 : Int32))))) ∧ (¬ (0 ≤ r1) → post (-5 : Int32) oY_1))
theorem pdX10_done : yX10_done.cls = RX10 ∧ yX10_done.cls ≠ "java/lang/invoke/MethodHandle" ∧ yX10_done.cls ≠ "java/lang/invoke/VarHandle" ∧ (parseMethodDescriptor yX10_done.desc).map (fun d => d.parameters.length) = some 0 := by decide +kernel
theorem lkX10_done_109 : Cond.fieldLink RX10 109 (TX10 12).1 (TX10 12).2.1 (TX10 12).2.2.1 ∈ wsX10_done := by decide +kernel
theorem inX10_done_X10 : ∀ w ∈ u_ws RX10 TX10 25, w ∈ wsX10_done := by decide +kernel
theorem lkX10_done_63 : Cond.fieldLink RX10 63 (TX10 6).1 (TX10 6).2.1 (TX10 6).2.2.1 ∈ wsX10_done := by decide +kernel
theorem lkX10_done_106 : Cond.fieldLink RX10 106 (TX10 13).1 (TX10 13).2.1 (TX10 13).2.2.1 ∈ wsX10_done := by decide +kernel
theorem lkX10_done_60 : Cond.fieldLink RX10 60 (TX10 5).1 (TX10 5).2.1 (TX10 5).2.2.1 ∈ wsX10_done := by decide +kernel
theorem lkX10_done_77 : Cond.fieldLink RX10 77 (TX10 10).1 (TX10 10).2.1 (TX10 10).2.2.1 ∈ wsX10_done := by decide +kernel
theorem lkX10_done_124 : Cond.fieldLink RX10 124 (TX10 15).1 (TX10 15).2.1 (TX10 15).2.2.1 ∈ wsX10_done := by decide +kernel
set_option maxHeartbeats 4000000 in
set_option maxRecDepth 100000 in
theorem ctX10_done (l : Launch) (D : va_G) (cI cZ : ClassId) (qY : Nat → Nat) (oY : Ob) (post : Int32 → Ob → Prop) (h : wpX10_done oY post) : CTi l yX10_done wsX10_done { frames := 5, cells := 0, slots := 0, locals := 115 } D [(cI, .int), (cZ, .boolean)] [.ref (qY 0)] (w10 cI cZ qY oY) (fun u : Ob => w10 cI cZ qY u) (fun (r : Int32) (u : Ob) => post r u) := by
  refine CTi.of (cc := cX10_done) (own := RX10) (maxL := 1) (ret := (some .int)) (lv0 := [(0, .ref (qY 0))]) (by decide) rfl rfl (Nat.le_of_ble_eq_true rfl) rfl ?_
  intro p e s m args below meth c A C
  unfold wpX10_done at h
  refine SW.aload_n C dX10_done_0 rfl 0 rfl ?_
  refine SW.callVi_same C (ctX10_barOfEvening l D cI cZ qY oY _ h) gX10_done_X10_barOfEvening rfl rfl rfl pdX10_barOfEvening ⟨by decide, by decide⟩ 0 rfl rfl rfl rfl rfl (Nat.le_of_ble_eq_true rfl) dX10_done_1 (by decide) (fun r1 u h => ?_)
  obtain ⟨oY_1, rfl⟩ : ∃ z, z = u := ⟨_, rfl⟩
  try dsimp only at h
  refine SW.if_ge (tgt := 10) C dX10_done_4 (by decide) (fun hc => ?_) (fun hc => ?_)
  · replace h := h.1 hc
    refine SW.aload_n C dX10_done_10 rfl 0 rfl ?_
    refine SW.aload_n C dX10_done_11 rfl 0 rfl ?_
    refine SW.get (v := .int (oY_1 0 12)) (T := TX10) (N := 25) C inX10_done_X10 0 rfl rfl 12 (by decide) lkX10_done_109 rfl dX10_done_12 ?_
    refine SW.put (ws' := w10 cI cZ qY (pf oY_1 6 (oY_1 0 12))) (T := TX10) (N := 25) C inX10_done_X10 tyX10 tyX10_ok nmX10 0 rfl rfl 6 (by decide) lkX10_done_63 rfl rfl rfl (Nat.le_of_ble_eq_true rfl) rfl dX10_done_15 ?_
    refine SW.aload_n C dX10_done_18 rfl 0 rfl ?_
    refine SW.aload_n C dX10_done_19 rfl 0 rfl ?_
    refine SW.get (v := .int (oY_1 0 13)) (T := TX10) (N := 25) C inX10_done_X10 0 rfl rfl 13 (by decide) lkX10_done_106 rfl dX10_done_20 ?_
    refine SW.nameOb (wz := fun z => w10 cI cZ qY z) (o := (pf oY_1 6 (oY_1 0 12))) (fun oY_23n he => ?_)
    replace h := h oY_23n he
    refine SW.put (ws' := w10 cI cZ qY (pf oY_23n 5 (oY_1 0 13))) (T := TX10) (N := 25) C inX10_done_X10 tyX10 tyX10_ok nmX10 0 rfl rfl 5 (by decide) lkX10_done_60 rfl rfl rfl (Nat.le_of_ble_eq_true rfl) rfl dX10_done_23 ?_
    refine SW.aload_n C dX10_done_26 rfl 0 rfl ?_
    refine SW.iconst (v := (0 : Int32)) C dX10_done_27 (by decide) ?_
    refine SW.nameOb (wz := fun z => w10 cI cZ qY z) (o := (pf oY_23n 5 (oY_1 0 13))) (fun oY_28n he => ?_)
    replace h := h oY_28n he
    refine SW.put (ws' := w10 cI cZ qY (pf oY_28n 10 (0 : Int32))) (T := TX10) (N := 25) C inX10_done_X10 tyX10 tyX10_ok nmX10 0 rfl rfl 10 (by decide) lkX10_done_77 rfl rfl rfl (Nat.le_of_ble_eq_true rfl) rfl dX10_done_28 ?_
    refine SW.aload_n C dX10_done_31 rfl 0 rfl ?_
    refine SW.get (v := .int (oY_28n 0 15)) (T := TX10) (N := 25) C inX10_done_X10 0 rfl rfl 15 (by decide) lkX10_done_124 rfl dX10_done_32 ?_
    exact SW.iret C (pf oY_28n 10 (0 : Int32)) rfl h dX10_done_35
  · replace h := h.2 hc
    refine SW.bipush (v := (-5 : Int32)) C dX10_done_7 (by decide) ?_
    exact SW.iret C oY_1 rfl h dX10_done_9
def wpX10_hears (oY : Ob) (v1 : Int32) (post : Int32 → Prop) : Prop := wpX10_isWindow oY v1 (fun (r2 : Int32) => ((r2 = 0) → post (-1 : Int32)) ∧ (¬ (r2 = 0) → wpX10_lengthOf oY v1 (oY 0 6) (oY 0 5) (fun (r18 : Int32) => post r18)))
theorem pdX10_hears : yX10_hears.cls = RX10 ∧ yX10_hears.cls ≠ "java/lang/invoke/MethodHandle" ∧ yX10_hears.cls ≠ "java/lang/invoke/VarHandle" ∧ (parseMethodDescriptor yX10_hears.desc).map (fun d => d.parameters.length) = some 1 := by decide +kernel
theorem lkX10_hears_63 : Cond.fieldLink RX10 63 (TX10 6).1 (TX10 6).2.1 (TX10 6).2.2.1 ∈ wsX10_hears := by decide +kernel
theorem inX10_hears_X10 : ∀ w ∈ u_ws RX10 TX10 25, w ∈ wsX10_hears := by decide +kernel
theorem lkX10_hears_60 : Cond.fieldLink RX10 60 (TX10 5).1 (TX10 5).2.1 (TX10 5).2.2.1 ∈ wsX10_hears := by decide +kernel
set_option maxHeartbeats 4000000 in
set_option maxRecDepth 100000 in
theorem ctX10_hears (l : Launch) (D : va_G) (cI cZ : ClassId) (qY : Nat → Nat) (oY : Ob) (v1 : Int32) (post : Int32 → Prop) (h : wpX10_hears oY v1 post) : CTi l yX10_hears wsX10_hears { frames := 2, cells := 0, slots := 0, locals := 49 } D [(cI, .int), (cZ, .boolean)] [.ref (qY 0), .int v1] (w10 cI cZ qY oY) (fun _ : Unit => w10 cI cZ qY oY) (fun (r : Int32) (_ : Unit) => post r) := by
  refine CTi.of (cc := cX10_hears) (own := RX10) (maxL := 2) (ret := (some .int)) (lv0 := [(0, .ref (qY 0)), (1, .int v1)]) (by decide) rfl rfl (Nat.le_of_ble_eq_true rfl) rfl ?_
  intro p e s m args below meth c A C
  unfold wpX10_hears at h
  refine SW.aload_n C dX10_hears_0 rfl 0 rfl ?_
  refine SW.iload_n C dX10_hears_1 rfl 1 rfl ?_
  refine SW.callVi_same C (ctX10_isWindow l D cI cZ qY oY v1 _ h) gX10_hears_X10_isWindow rfl rfl rfl pdX10_isWindow ⟨by decide, by decide⟩ 0 rfl rfl rfl rfl rfl (Nat.le_of_ble_eq_true rfl) dX10_hears_2 (by decide) (fun r2 u h => ?_)
  try dsimp only at h
  refine SW.if_eq (tgt := 24) C dX10_hears_5 (by decide) (fun hc => ?_) (fun hc => ?_)
  · replace h := h.1 hc
    refine SW.iconst (v := (-1 : Int32)) C dX10_hears_24 (by decide) ?_
    exact SW.iret C () rfl h dX10_hears_25
  · replace h := h.2 hc
    refine SW.aload_n C dX10_hears_8 rfl 0 rfl ?_
    refine SW.iload_n C dX10_hears_9 rfl 1 rfl ?_
    refine SW.aload_n C dX10_hears_10 rfl 0 rfl ?_
    refine SW.get (v := .int (oY 0 6)) (T := TX10) (N := 25) C inX10_hears_X10 0 rfl rfl 6 (by decide) lkX10_hears_63 rfl dX10_hears_11 ?_
    refine SW.aload_n C dX10_hears_14 rfl 0 rfl ?_
    refine SW.get (v := .int (oY 0 5)) (T := TX10) (N := 25) C inX10_hears_X10 0 rfl rfl 5 (by decide) lkX10_hears_60 rfl dX10_hears_15 ?_
    refine SW.callVi_same C (ctX10_lengthOf l D cI cZ qY oY v1 (oY 0 6) (oY 0 5) _ h) gX10_hears_X10_lengthOf rfl rfl rfl pdX10_lengthOf ⟨by decide, by decide⟩ 0 rfl rfl rfl rfl rfl (Nat.le_of_ble_eq_true rfl) dX10_hears_18 (by decide) (fun r18 u h => ?_)
    try dsimp only at h
    refine SW.goto (tgt := 25) C dX10_hears_21 (by decide) ?_
    exact SW.iret C () rfl h dX10_hears_25
def wpX10_behind (oY : Ob) (v1 : Int32) (post : Int32 → Ob → Prop) : Prop := wpX10_isWindow oY v1 (fun (r2 : Int32) => ((r2 = 0) → post (-1 : Int32) oY) ∧ (¬ (r2 = 0) → wpX10_barOfEvening oY (fun (r11 : Int32) (oY_11 : Ob) => ((0 ≤ r11) → wpX10_lengthOf oY_11 v1 (oY_11 0 12) (oY_11 0 13) (fun (r32 : Int32) => post r32 oY_11)) ∧ (¬ (0 ≤ r11) → post (-5 : Int32) oY_11))))
theorem pdX10_behind : yX10_behind.cls = RX10 ∧ yX10_behind.cls ≠ "java/lang/invoke/MethodHandle" ∧ yX10_behind.cls ≠ "java/lang/invoke/VarHandle" ∧ (parseMethodDescriptor yX10_behind.desc).map (fun d => d.parameters.length) = some 1 := by decide +kernel
theorem lkX10_behind_109 : Cond.fieldLink RX10 109 (TX10 12).1 (TX10 12).2.1 (TX10 12).2.2.1 ∈ wsX10_behind := by decide +kernel
theorem inX10_behind_X10 : ∀ w ∈ u_ws RX10 TX10 25, w ∈ wsX10_behind := by decide +kernel
theorem lkX10_behind_106 : Cond.fieldLink RX10 106 (TX10 13).1 (TX10 13).2.1 (TX10 13).2.2.1 ∈ wsX10_behind := by decide +kernel
set_option maxHeartbeats 4000000 in
set_option maxRecDepth 100000 in
theorem ctX10_behind (l : Launch) (D : va_G) (cI cZ : ClassId) (qY : Nat → Nat) (oY : Ob) (v1 : Int32) (post : Int32 → Ob → Prop) (h : wpX10_behind oY v1 post) : CTi l yX10_behind wsX10_behind { frames := 5, cells := 0, slots := 0, locals := 115 } D [(cI, .int), (cZ, .boolean)] [.ref (qY 0), .int v1] (w10 cI cZ qY oY) (fun u : Ob => w10 cI cZ qY u) (fun (r : Int32) (u : Ob) => post r u) := by
  refine CTi.of (cc := cX10_behind) (own := RX10) (maxL := 2) (ret := (some .int)) (lv0 := [(0, .ref (qY 0)), (1, .int v1)]) (by decide) rfl rfl (Nat.le_of_ble_eq_true rfl) rfl ?_
  intro p e s m args below meth c A C
  unfold wpX10_behind at h
  refine SW.aload_n C dX10_behind_0 rfl 0 rfl ?_
  refine SW.iload_n C dX10_behind_1 rfl 1 rfl ?_
  refine SW.callVi_same C (ctX10_isWindow l D cI cZ qY oY v1 _ h) gX10_behind_X10_isWindow rfl rfl rfl pdX10_isWindow ⟨by decide, by decide⟩ 0 rfl rfl rfl rfl rfl (Nat.le_of_ble_eq_true rfl) dX10_behind_2 (by decide) (fun r2 u h => ?_)
  try dsimp only at h
  refine SW.if_ne (tgt := 10) C dX10_behind_5 (by decide) (fun hc => ?_) (fun hc => ?_)
  · replace h := h.2 hc
    refine SW.aload_n C dX10_behind_10 rfl 0 rfl ?_
    refine SW.callVi_same C (ctX10_barOfEvening l D cI cZ qY oY _ h) gX10_behind_X10_barOfEvening rfl rfl rfl pdX10_barOfEvening ⟨by decide, by decide⟩ 0 rfl rfl rfl rfl rfl (Nat.le_of_ble_eq_true rfl) dX10_behind_11 (by decide) (fun r11 u h => ?_)
    obtain ⟨oY_11, rfl⟩ : ∃ z, z = u := ⟨_, rfl⟩
    try dsimp only at h
    refine SW.if_ge (tgt := 22) C dX10_behind_14 (by decide) (fun hc => ?_) (fun hc => ?_)
    · replace h := h.1 hc
      refine SW.aload_n C dX10_behind_22 rfl 0 rfl ?_
      refine SW.iload_n C dX10_behind_23 rfl 1 rfl ?_
      refine SW.aload_n C dX10_behind_24 rfl 0 rfl ?_
      refine SW.get (v := .int (oY_11 0 12)) (T := TX10) (N := 25) C inX10_behind_X10 0 rfl rfl 12 (by decide) lkX10_behind_109 rfl dX10_behind_25 ?_
      refine SW.aload_n C dX10_behind_28 rfl 0 rfl ?_
      refine SW.get (v := .int (oY_11 0 13)) (T := TX10) (N := 25) C inX10_behind_X10 0 rfl rfl 13 (by decide) lkX10_behind_106 rfl dX10_behind_29 ?_
      refine SW.callVi_same C (ctX10_lengthOf l D cI cZ qY oY_11 v1 (oY_11 0 12) (oY_11 0 13) _ h) gX10_behind_X10_lengthOf rfl rfl rfl pdX10_lengthOf ⟨by decide, by decide⟩ 0 rfl rfl rfl rfl rfl (Nat.le_of_ble_eq_true rfl) dX10_behind_32 (by decide) (fun r32 u h => ?_)
      try dsimp only at h
      exact SW.iret C oY_11 rfl h dX10_behind_35
    · replace h := h.2 hc
      refine SW.bipush (v := (-5 : Int32)) C dX10_behind_17 (by decide) ?_
      refine SW.goto (tgt := 35) C dX10_behind_19 (by decide) ?_
      exact SW.iret C oY_11 rfl h dX10_behind_35
  · replace h := h.1 hc
    refine SW.iconst (v := (-1 : Int32)) C dX10_behind_8 (by decide) ?_
    exact SW.iret C oY rfl h dX10_behind_9
def wpX10_clashed (oY : Ob) (v1 : Int32) (post : Int32 → Ob → Prop) : Prop := wpX10_in v1 (0 : Int32) (1 : Int32) (fun (r3 : Int32) => ((r3 = 0) → post (-2 : Int32) oY) ∧ (¬ (r3 = 0) → wpX10_barOfEvening oY (fun (r13 : Int32) (oY_13 : Ob) => ((0 ≤ r13) → ((v1 = 0) → post (oY_13 0 17) oY_13) ∧ (¬ (v1 = 0) → post (oY_13 0 16) oY_13)) ∧ (¬ (0 ≤ r13) → post (-5 : Int32) oY_13))))
theorem pdX10_clashed : yX10_clashed.cls = RX10 ∧ yX10_clashed.cls ≠ "java/lang/invoke/MethodHandle" ∧ yX10_clashed.cls ≠ "java/lang/invoke/VarHandle" ∧ (parseMethodDescriptor yX10_clashed.desc).map (fun d => d.parameters.length) = some 1 := by decide +kernel
theorem lkX10_clashed_118 : Cond.fieldLink RX10 118 (TX10 16).1 (TX10 16).2.1 (TX10 16).2.2.1 ∈ wsX10_clashed := by decide +kernel
theorem inX10_clashed_X10 : ∀ w ∈ u_ws RX10 TX10 25, w ∈ wsX10_clashed := by decide +kernel
theorem lkX10_clashed_121 : Cond.fieldLink RX10 121 (TX10 17).1 (TX10 17).2.1 (TX10 17).2.2.1 ∈ wsX10_clashed := by decide +kernel
set_option maxHeartbeats 4000000 in
set_option maxRecDepth 100000 in
theorem ctX10_clashed (l : Launch) (D : va_G) (cI cZ : ClassId) (qY : Nat → Nat) (oY : Ob) (v1 : Int32) (post : Int32 → Ob → Prop) (h : wpX10_clashed oY v1 post) : CTi l yX10_clashed wsX10_clashed { frames := 5, cells := 0, slots := 0, locals := 115 } D [(cI, .int), (cZ, .boolean)] [.ref (qY 0), .int v1] (w10 cI cZ qY oY) (fun u : Ob => w10 cI cZ qY u) (fun (r : Int32) (u : Ob) => post r u) := by
  refine CTi.of (cc := cX10_clashed) (own := RX10) (maxL := 2) (ret := (some .int)) (lv0 := [(0, .ref (qY 0)), (1, .int v1)]) (by decide) rfl rfl (Nat.le_of_ble_eq_true rfl) rfl ?_
  intro p e s m args below meth c A C
  unfold wpX10_clashed at h
  refine SW.iload_n C dX10_clashed_0 rfl 1 rfl ?_
  refine SW.iconst (v := (0 : Int32)) C dX10_clashed_1 (by decide) ?_
  refine SW.iconst (v := (1 : Int32)) C dX10_clashed_2 (by decide) ?_
  refine SW.callSi_pure C (ctX10_in l D cI cZ v1 (0 : Int32) (1 : Int32) _ h) gX10_clashed_X10_in rfl rfl rfl pdX10_in ⟨by decide, by decide⟩ rfl rfl (Nat.le_of_ble_eq_true rfl) dX10_clashed_3 (by decide) (fun r3 u h => ?_)
  try dsimp only at h
  refine SW.if_ne (tgt := 12) C dX10_clashed_6 (by decide) (fun hc => ?_) (fun hc => ?_)
  · replace h := h.2 hc
    refine SW.aload_n C dX10_clashed_12 rfl 0 rfl ?_
    refine SW.callVi_same C (ctX10_barOfEvening l D cI cZ qY oY _ h) gX10_clashed_X10_barOfEvening rfl rfl rfl pdX10_barOfEvening ⟨by decide, by decide⟩ 0 rfl rfl rfl rfl rfl (Nat.le_of_ble_eq_true rfl) dX10_clashed_13 (by decide) (fun r13 u h => ?_)
    obtain ⟨oY_13, rfl⟩ : ∃ z, z = u := ⟨_, rfl⟩
    try dsimp only at h
    refine SW.if_ge (tgt := 22) C dX10_clashed_16 (by decide) (fun hc => ?_) (fun hc => ?_)
    · replace h := h.1 hc
      refine SW.iload_n C dX10_clashed_22 rfl 1 rfl ?_
      refine SW.if_ne (tgt := 33) C dX10_clashed_23 (by decide) (fun hc => ?_) (fun hc => ?_)
      · replace h := h.2 hc
        refine SW.aload_n C dX10_clashed_33 rfl 0 rfl ?_
        refine SW.get (v := .int (oY_13 0 16)) (T := TX10) (N := 25) C inX10_clashed_X10 0 rfl rfl 16 (by decide) lkX10_clashed_118 rfl dX10_clashed_34 ?_
        exact SW.iret C oY_13 rfl h dX10_clashed_37
      · replace h := h.1 hc
        refine SW.aload_n C dX10_clashed_26 rfl 0 rfl ?_
        refine SW.get (v := .int (oY_13 0 17)) (T := TX10) (N := 25) C inX10_clashed_X10 0 rfl rfl 17 (by decide) lkX10_clashed_121 rfl dX10_clashed_27 ?_
        refine SW.goto (tgt := 37) C dX10_clashed_30 (by decide) ?_
        exact SW.iret C oY_13 rfl h dX10_clashed_37
    · replace h := h.2 hc
      refine SW.bipush (v := (-5 : Int32)) C dX10_clashed_19 (by decide) ?_
      exact SW.iret C oY_13 rfl h dX10_clashed_21
  · replace h := h.1 hc
    refine SW.bipush (v := (-2 : Int32)) C dX10_clashed_9 (by decide) ?_
    exact SW.iret C oY rfl h dX10_clashed_11
