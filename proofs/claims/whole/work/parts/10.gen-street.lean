def wpJ6_bitCount_0f7a4 (v0 : Int32) (post : Int32 → Prop) : Prop := ∀ y23 : Int32, y23 = (((v0 - ((jush v0 (1 : Int32)) &&& (1431655765 : Int32))) &&& (858993459 : Int32)) + ((jush (v0 - ((jush v0 (1 : Int32)) &&& (1431655765 : Int32))) (2 : Int32)) &&& (858993459 : Int32))) → (∀ y40 : Int32, y40 = (((y23 + (jush y23 (4 : Int32))) &&& (252645135 : Int32)) + (jush ((y23 + (jush y23 (4 : Int32))) &&& (252645135 : Int32)) (8 : Int32))) → (post ((y40 + (jush y40 (16 : Int32))) &&& (63 : Int32))))
theorem pdJ6_bitCount_0f7a4 : yJ6_bitCount_0f7a4.cls ≠ "java/lang/invoke/MethodHandle" ∧ yJ6_bitCount_0f7a4.cls ≠ "java/lang/invoke/VarHandle" ∧ (parseMethodDescriptor yJ6_bitCount_0f7a4.desc).map (fun d => d.parameters.length) = some 1 := by decide +kernel
set_option maxHeartbeats 4000000 in
set_option maxRecDepth 100000 in
theorem ctJ6_bitCount_0f7a4 (l : Launch) (D : va_G) (cI cZ : ClassId) (v0 : Int32) (post : Int32 → Prop) (h : wpJ6_bitCount_0f7a4 v0 post) : CTi l yJ6_bitCount_0f7a4 wsJ6_bitCount_0f7a4 { frames := 0, cells := 0, slots := 0, locals := 0 } D [(cI, .int), (cZ, .boolean)] [.int v0] (([] : va_W)) (fun _ : Unit => ([] : va_W)) (fun (r : Int32) (_ : Unit) => post r) := by
  refine CTi.of (cc := cJ6_bitCount_0f7a4) (own := RJ6) (maxL := 1) (ret := (some .int)) (lv0 := [(0, .int v0)]) (by decide) rfl rfl (Nat.le_of_ble_eq_true rfl) rfl ?_
  intro p e s m args below meth c A C
  unfold wpJ6_bitCount_0f7a4 at h
  refine SW.iload_n C dJ6_bitCount_0f7a4_0 rfl 0 rfl ?_
  refine SW.iload_n C dJ6_bitCount_0f7a4_1 rfl 0 rfl ?_
  refine SW.iconst (v := (1 : Int32)) C dJ6_bitCount_0f7a4_2 (by decide) ?_
  refine SW.iushr C dJ6_bitCount_0f7a4_3 ?_
  refine SW.ldcw (v := (1431655765 : Int32)) C (by decide +kernel) dJ6_bitCount_0f7a4_4 ?_
  refine SW.iand C dJ6_bitCount_0f7a4_7 ?_
  refine SW.isub C dJ6_bitCount_0f7a4_8 ?_
  refine SW.istore_n (lv' := [(0, .int (v0 - ((jush v0 (1 : Int32)) &&& (1431655765 : Int32))))]) C dJ6_bitCount_0f7a4_9 rfl (by decide) rfl ?_
  refine SW.iload_n C dJ6_bitCount_0f7a4_10 rfl 0 rfl ?_
  refine SW.ldcw (v := (858993459 : Int32)) C (by decide +kernel) dJ6_bitCount_0f7a4_11 ?_
  refine SW.iand C dJ6_bitCount_0f7a4_14 ?_
  refine SW.iload_n C dJ6_bitCount_0f7a4_15 rfl 0 rfl ?_
  refine SW.iconst (v := (2 : Int32)) C dJ6_bitCount_0f7a4_16 (by decide) ?_
  refine SW.iushr C dJ6_bitCount_0f7a4_17 ?_
  refine SW.ldcw (v := (858993459 : Int32)) C (by decide +kernel) dJ6_bitCount_0f7a4_18 ?_
  refine SW.iand C dJ6_bitCount_0f7a4_21 ?_
  refine SW.iadd C dJ6_bitCount_0f7a4_22 ?_
  refine SW.topi (fun y23 he => ?_)
  replace h := h y23 he
  refine SW.istore_n (lv' := [(0, .int y23)]) C dJ6_bitCount_0f7a4_23 rfl (by decide) rfl ?_
  refine SW.iload_n C dJ6_bitCount_0f7a4_24 rfl 0 rfl ?_
  refine SW.iload_n C dJ6_bitCount_0f7a4_25 rfl 0 rfl ?_
  refine SW.iconst (v := (4 : Int32)) C dJ6_bitCount_0f7a4_26 (by decide) ?_
  refine SW.iushr C dJ6_bitCount_0f7a4_27 ?_
  refine SW.iadd C dJ6_bitCount_0f7a4_28 ?_
  refine SW.ldcw (v := (252645135 : Int32)) C (by decide +kernel) dJ6_bitCount_0f7a4_29 ?_
  refine SW.iand C dJ6_bitCount_0f7a4_32 ?_
  refine SW.istore_n (lv' := [(0, .int ((y23 + (jush y23 (4 : Int32))) &&& (252645135 : Int32)))]) C dJ6_bitCount_0f7a4_33 rfl (by decide) rfl ?_
  refine SW.iload_n C dJ6_bitCount_0f7a4_34 rfl 0 rfl ?_
  refine SW.iload_n C dJ6_bitCount_0f7a4_35 rfl 0 rfl ?_
  refine SW.bipush (v := (8 : Int32)) C dJ6_bitCount_0f7a4_36 (by decide) ?_
  refine SW.iushr C dJ6_bitCount_0f7a4_38 ?_
  refine SW.iadd C dJ6_bitCount_0f7a4_39 ?_
  refine SW.topi (fun y40 he => ?_)
  replace h := h y40 he
  refine SW.istore_n (lv' := [(0, .int y40)]) C dJ6_bitCount_0f7a4_40 rfl (by decide) rfl ?_
  refine SW.iload_n C dJ6_bitCount_0f7a4_41 rfl 0 rfl ?_
  refine SW.iload_n C dJ6_bitCount_0f7a4_42 rfl 0 rfl ?_
  refine SW.bipush (v := (16 : Int32)) C dJ6_bitCount_0f7a4_43 (by decide) ?_
  refine SW.iushr C dJ6_bitCount_0f7a4_45 ?_
  refine SW.iadd C dJ6_bitCount_0f7a4_46 ?_
  refine SW.istore_n (lv' := [(0, .int (y40 + (jush y40 (16 : Int32))))]) C dJ6_bitCount_0f7a4_47 rfl (by decide) rfl ?_
  refine SW.iload_n C dJ6_bitCount_0f7a4_48 rfl 0 rfl ?_
  refine SW.bipush (v := (63 : Int32)) C dJ6_bitCount_0f7a4_49 (by decide) ?_
  refine SW.iand C dJ6_bitCount_0f7a4_51 ?_
  exact SW.iret C () rfl h dJ6_bitCount_0f7a4_52
def wpX8_has (oS : Ob) (v1 : Int32) (post : Int32 → Prop) : Prop := jn0 (post (0 : Int32)) (fun J22 => ((v1 < 0) → J22) ∧ (¬ (v1 < 0) → (((oS 0 0) ≤ v1) → J22) ∧ (¬ ((oS 0 0) ≤ v1) → (((10 : Int32) ≤ v1) → J22) ∧ (¬ ((10 : Int32) ≤ v1) → post (1 : Int32)))))
theorem pdX8_has : yX8_has.cls = RX8 ∧ yX8_has.cls ≠ "java/lang/invoke/MethodHandle" ∧ yX8_has.cls ≠ "java/lang/invoke/VarHandle" ∧ (parseMethodDescriptor yX8_has.desc).map (fun d => d.parameters.length) = some 1 := by decide +kernel
theorem lkX8_has_41 : Cond.fieldLink RX8 41 (TX8 0).1 (TX8 0).2.1 (TX8 0).2.2.1 ∈ wsX8_has := by decide +kernel
theorem inX8_has_X8 : ∀ w ∈ u_ws RX8 TX8 13, w ∈ wsX8_has := by decide +kernel
set_option maxHeartbeats 4000000 in
set_option maxRecDepth 100000 in
theorem ctX8_has (l : Launch) (D : va_G) (cI cZ : ClassId) (qS : Nat → Nat) (oS : Ob) (v1 : Int32) (post : Int32 → Prop) (h : wpX8_has oS v1 post) : CTi l yX8_has wsX8_has { frames := 0, cells := 0, slots := 0, locals := 0 } D [(cI, .int), (cZ, .boolean)] [.ref (qS 0), .int v1] (w8 cI cZ qS oS) (fun _ : Unit => w8 cI cZ qS oS) (fun (r : Int32) (_ : Unit) => post r) := by
  refine CTi.of (cc := cX8_has) (own := RX8) (maxL := 2) (ret := (some .boolean)) (lv0 := [(0, .ref (qS 0)), (1, .int v1)]) (by decide) rfl rfl (Nat.le_of_ble_eq_true rfl) rfl ?_
  intro p e s m args below meth c A C
  unfold wpX8_has at h
  refine SW.iload_n C dX8_has_0 rfl 1 rfl ?_
  refine jn0_elim (G := SW p l e { frames := 0, cells := 0, slots := 0, locals := 0 } s m args below meth c A D 2 0 0 (MQ below (va_Qi (fun (r : Int32) (_ : Unit) => post r) (ctB D A (fun _ : Unit => w8 cI cZ qS oS)) A) args s 0 0 A) (w8 cI cZ qS oS) 22 [] []) h (fun h => ?_) (fun J22 hJ22 h => ?_)
  · refine SW.iconst (v := (0 : Int32)) C dX8_has_22 (by decide) ?_
    exact SW.zret C () (by decide) rfl h dX8_has_23
  · refine SW.if_lt (tgt := 22) C dX8_has_1 (by decide) (fun hc => ?_) (fun hc => ?_)
    · replace h := h.1 hc
      refine SW.sub [] rfl ?_
      exact hJ22 h
    · replace h := h.2 hc
      refine SW.iload_n C dX8_has_4 rfl 1 rfl ?_
      refine SW.aload_n C dX8_has_5 rfl 0 rfl ?_
      refine SW.get (v := .int (oS 0 0)) (T := TX8) (N := 13) C inX8_has_X8 0 rfl rfl 0 (by decide) lkX8_has_41 rfl dX8_has_6 ?_
      refine SW.icmp_ge (tgt := 22) C dX8_has_9 (by decide) (fun hc => ?_) (fun hc => ?_)
      · replace h := h.1 hc
        refine SW.sub [] rfl ?_
        exact hJ22 h
      · replace h := h.2 hc
        refine SW.iload_n C dX8_has_12 rfl 1 rfl ?_
        refine SW.bipush (v := (10 : Int32)) C dX8_has_13 (by decide) ?_
        refine SW.icmp_ge (tgt := 22) C dX8_has_15 (by decide) (fun hc => ?_) (fun hc => ?_)
        · replace h := h.1 hc
          refine SW.sub [] rfl ?_
          exact hJ22 h
        · replace h := h.2 hc
          refine SW.iconst (v := (1 : Int32)) C dX8_has_18 (by decide) ?_
          refine SW.goto (tgt := 23) C dX8_has_19 (by decide) ?_
          exact SW.zret C () (by decide) rfl h dX8_has_23
def wpX8_bottom (oS : Ob) (post : Int32 → Prop) : Prop := wpX8_has oS ((oS 0 0) - (1 : Int32)) (fun (r9 : Int32) => ((r9 = 0) → post ((oS 0 1) + (oS 0 4))) ∧ (¬ (r9 = 0) → (vp_in ((oS 0 0) - (1 : Int32)) 10) ∧ (post (((jld (oS 2) ((oS 0 0) - (1 : Int32))) + (oS 0 1)) + (oS 0 4)))))
theorem pdX8_bottom : yX8_bottom.cls = RX8 ∧ yX8_bottom.cls ≠ "java/lang/invoke/MethodHandle" ∧ yX8_bottom.cls ≠ "java/lang/invoke/VarHandle" ∧ (parseMethodDescriptor yX8_bottom.desc).map (fun d => d.parameters.length) = some 0 := by decide +kernel
theorem lkX8_bottom_41 : Cond.fieldLink RX8 41 (TX8 0).1 (TX8 0).2.1 (TX8 0).2.2.1 ∈ wsX8_bottom := by decide +kernel
theorem inX8_bottom_X8 : ∀ w ∈ u_ws RX8 TX8 13, w ∈ wsX8_bottom := by decide +kernel
theorem lkX8_bottom_44 : Cond.fieldLink RX8 44 (TX8 1).1 (TX8 1).2.1 (TX8 1).2.2.1 ∈ wsX8_bottom := by decide +kernel
theorem lkX8_bottom_47 : Cond.fieldLink RX8 47 (TX8 4).1 (TX8 4).2.1 (TX8 4).2.2.1 ∈ wsX8_bottom := by decide +kernel
theorem lkX8_bottom_22 : Cond.fieldLink RX8 22 (TX8 8).1 (TX8 8).2.1 (TX8 8).2.2.1 ∈ wsX8_bottom := by decide +kernel
set_option maxHeartbeats 4000000 in
set_option maxRecDepth 100000 in
theorem ctX8_bottom (l : Launch) (D : va_G) (cI cZ : ClassId) (qS : Nat → Nat) (oS : Ob) (post : Int32 → Prop) (h : wpX8_bottom oS post) : CTi l yX8_bottom wsX8_bottom { frames := 1, cells := 0, slots := 0, locals := 21 } D [(cI, .int), (cZ, .boolean)] [.ref (qS 0)] (w8 cI cZ qS oS) (fun _ : Unit => w8 cI cZ qS oS) (fun (r : Int32) (_ : Unit) => post r) := by
  refine CTi.of (cc := cX8_bottom) (own := RX8) (maxL := 2) (ret := (some .int)) (lv0 := [(0, .ref (qS 0))]) (by decide) rfl rfl (Nat.le_of_ble_eq_true rfl) rfl ?_
  intro p e s m args below meth c A C
  unfold wpX8_bottom at h
  refine SW.aload_n C dX8_bottom_0 rfl 0 rfl ?_
  refine SW.get (v := .int (oS 0 0)) (T := TX8) (N := 13) C inX8_bottom_X8 0 rfl rfl 0 (by decide) lkX8_bottom_41 rfl dX8_bottom_1 ?_
  refine SW.iconst (v := (1 : Int32)) C dX8_bottom_4 (by decide) ?_
  refine SW.isub C dX8_bottom_5 ?_
  refine SW.istore_n (lv' := [(1, .int ((oS 0 0) - (1 : Int32))), (0, .ref (qS 0))]) C dX8_bottom_6 rfl (by decide) rfl ?_
  refine SW.aload_n C dX8_bottom_7 rfl 1 rfl ?_
  refine SW.iload_n C dX8_bottom_8 rfl 0 rfl ?_
  refine SW.callVi_same C (ctX8_has l D cI cZ qS oS ((oS 0 0) - (1 : Int32)) _ h) gX8_bottom_X8_has rfl rfl rfl pdX8_has ⟨by decide, by decide⟩ 0 rfl rfl rfl rfl rfl (Nat.le_of_ble_eq_true rfl) dX8_bottom_9 (by decide) (fun r9 u h => ?_)
  try dsimp only at h
  refine SW.if_eq (tgt := 34) C dX8_bottom_12 (by decide) (fun hc => ?_) (fun hc => ?_)
  · replace h := h.1 hc
    refine SW.aload_n C dX8_bottom_34 rfl 1 rfl ?_
    refine SW.get (v := .int (oS 0 1)) (T := TX8) (N := 13) C inX8_bottom_X8 0 rfl rfl 1 (by decide) lkX8_bottom_44 rfl dX8_bottom_35 ?_
    refine SW.aload_n C dX8_bottom_38 rfl 1 rfl ?_
    refine SW.get (v := .int (oS 0 4)) (T := TX8) (N := 13) C inX8_bottom_X8 0 rfl rfl 4 (by decide) lkX8_bottom_47 rfl dX8_bottom_39 ?_
    refine SW.iadd C dX8_bottom_42 ?_
    exact SW.iret C () rfl h dX8_bottom_43
  · replace h := h.2 hc
    refine SW.aload_n C dX8_bottom_15 rfl 1 rfl ?_
    refine SW.get (v := .ref (qS 2)) (T := TX8) (N := 13) C inX8_bottom_X8 0 rfl rfl 8 (by decide) lkX8_bottom_22 rfl dX8_bottom_16 ?_
    refine SW.iload_n C dX8_bottom_19 rfl 0 rfl ?_
    refine SW.iald C 2 0 rfl rfl h.1 dX8_bottom_20 ?_
    replace h := h.2
    refine SW.aload_n C dX8_bottom_21 rfl 1 rfl ?_
    refine SW.get (v := .int (oS 0 1)) (T := TX8) (N := 13) C inX8_bottom_X8 0 rfl rfl 1 (by decide) lkX8_bottom_44 rfl dX8_bottom_22 ?_
    refine SW.iadd C dX8_bottom_25 ?_
    refine SW.aload_n C dX8_bottom_26 rfl 1 rfl ?_
    refine SW.get (v := .int (oS 0 4)) (T := TX8) (N := 13) C inX8_bottom_X8 0 rfl rfl 4 (by decide) lkX8_bottom_47 rfl dX8_bottom_27 ?_
    refine SW.iadd C dX8_bottom_30 ?_
    refine SW.goto (tgt := 43) C dX8_bottom_31 (by decide) ?_
    exact SW.iret C () rfl h dX8_bottom_43
def wpX8_lengthAt_L15 (c2_15 : Int32) (c3_15 : Int32) (oSc_15 : Ob) (K46 : Int32 → Prop) : Nat → Int32 → Prop
  | 0, _ => False
  | fu15 + 1, v4_15 => ((v4_15 < 0) → K46 c3_15) ∧ (¬ (v4_15 < 0) → ((((jush c2_15 v4_15) &&& (1 : Int32)) = 0) → wpX8_lengthAt_L15 c2_15 c3_15 oSc_15 K46 fu15 (v4_15 + (-1 : Int32))) ∧ (¬ (((jush c2_15 v4_15) &&& (1 : Int32)) = 0) → (vp_in v4_15 10) ∧ (K46 (jld (oSc_15 2) v4_15))))
def wpX8_lengthAt_L51 (c2_51 : Int32) (c3_51 : Int32) (oSc_51 : Ob) (post : Int32 → Prop) (K85 : Prop) : Nat → Int32 → Prop
  | 0, _ => False
  | fu51 + 1, v4_51 => (((oSc_51 0 0) ≤ v4_51) → K85) ∧ (¬ ((oSc_51 0 0) ≤ v4_51) → ((((jush c2_51 v4_51) &&& (1 : Int32)) = 0) → wpX8_lengthAt_L51 c2_51 c3_51 oSc_51 post K85 fu51 (v4_51 + (1 : Int32))) ∧ (¬ (((jush c2_51 v4_51) &&& (1 : Int32)) = 0) → (vp_in v4_51 10) ∧ (post ((jld (oSc_51 2) v4_51) - c3_51))))
def wpX8_lengthAt (oS : Ob) (v1 : Int32) (v2 : Int32) (post : Int32 → Prop) : Prop := wpX8_has oS v1 (fun (r2 : Int32) => ((r2 = 0) → post (0 : Int32)) ∧ (¬ (r2 = 0) → ∃ fu15 : Nat, wpX8_lengthAt_L15 v2 (0 : Int32) oS (fun (v3_46 : Int32) => ∃ fu51 : Nat, wpX8_lengthAt_L51 v2 v3_46 oS post (wpX8_bottom oS (fun (r86 : Int32) => post (r86 - v3_46))) fu51 (v1 + (1 : Int32))) fu15 v1))
theorem pdX8_lengthAt : yX8_lengthAt.cls = RX8 ∧ yX8_lengthAt.cls ≠ "java/lang/invoke/MethodHandle" ∧ yX8_lengthAt.cls ≠ "java/lang/invoke/VarHandle" ∧ (parseMethodDescriptor yX8_lengthAt.desc).map (fun d => d.parameters.length) = some 2 := by decide +kernel
theorem lkX8_lengthAt_22 : Cond.fieldLink RX8 22 (TX8 8).1 (TX8 8).2.1 (TX8 8).2.2.1 ∈ wsX8_lengthAt := by decide +kernel
theorem inX8_lengthAt_X8 : ∀ w ∈ u_ws RX8 TX8 13, w ∈ wsX8_lengthAt := by decide +kernel
theorem lkX8_lengthAt_41 : Cond.fieldLink RX8 41 (TX8 0).1 (TX8 0).2.1 (TX8 0).2.2.1 ∈ wsX8_lengthAt := by decide +kernel
set_option maxHeartbeats 4000000 in
set_option maxRecDepth 100000 in
theorem ctX8_lengthAt (l : Launch) (D : va_G) (cI cZ : ClassId) (qS : Nat → Nat) (oS : Ob) (v1 : Int32) (v2 : Int32) (post : Int32 → Prop) (h : wpX8_lengthAt oS v1 v2 post) : CTi l yX8_lengthAt wsX8_lengthAt { frames := 2, cells := 0, slots := 0, locals := 42 } D [(cI, .int), (cZ, .boolean)] [.ref (qS 0), .int v1, .int v2] (w8 cI cZ qS oS) (fun _ : Unit => w8 cI cZ qS oS) (fun (r : Int32) (_ : Unit) => post r) := by
  refine CTi.of (cc := cX8_lengthAt) (own := RX8) (maxL := 5) (ret := (some .int)) (lv0 := [(0, .ref (qS 0)), (1, .int v1), (2, .int v2)]) (by decide) rfl rfl (Nat.le_of_ble_eq_true rfl) rfl ?_
  intro p e s m args below meth c A C
  unfold wpX8_lengthAt at h
  refine SW.aload_n C dX8_lengthAt_0 rfl 0 rfl ?_
  refine SW.iload_n C dX8_lengthAt_1 rfl 1 rfl ?_
  refine SW.callVi_same C (ctX8_has l D cI cZ qS oS v1 _ h) gX8_lengthAt_X8_has rfl rfl rfl pdX8_has ⟨by decide, by decide⟩ 0 rfl rfl rfl rfl rfl (Nat.le_of_ble_eq_true rfl) dX8_lengthAt_2 (by decide) (fun r2 u h => ?_)
  try dsimp only at h
  refine SW.if_ne (tgt := 10) C dX8_lengthAt_5 (by decide) (fun hc => ?_) (fun hc => ?_)
  · replace h := h.2 hc
    refine SW.iconst (v := (0 : Int32)) C dX8_lengthAt_10 (by decide) ?_
    refine SW.istore_n (lv' := [(3, .int (0 : Int32)), (0, .ref (qS 0)), (1, .int v1), (2, .int v2)]) C dX8_lengthAt_11 rfl (by decide) rfl ?_
    refine SW.iload_n C dX8_lengthAt_12 rfl 2 rfl ?_
    refine SW.istore (lv' := [(4, .int v1), (3, .int (0 : Int32)), (0, .ref (qS 0)), (1, .int v1), (2, .int v2)]) C dX8_lengthAt_13 (by decide) rfl ?_
    have L15 : ∀ (K46 : Int32 → Prop) (hK46 : ∀ (v3_46 : Int32), K46 v3_46 → SW p l e { frames := 2, cells := 0, slots := 0, locals := 42 } s m args below meth c A D 5 0 0 (MQ below (va_Qi (fun (r : Int32) (_ : Unit) => post r) (ctB D A (fun _ : Unit => w8 cI cZ qS oS)) A) args s 0 0 A) (w8 cI cZ qS oS) 46 [(0, .ref (qS 0)), (1, .int v1), (2, .int v2), (3, .int v3_46)] []) (fu : Nat) (v4_15 : Int32), wpX8_lengthAt_L15 v2 (0 : Int32) oS K46 fu v4_15 → SW p l e { frames := 2, cells := 0, slots := 0, locals := 42 } s m args below meth c A D 5 0 0 (MQ below (va_Qi (fun (r : Int32) (_ : Unit) => post r) (ctB D A (fun _ : Unit => w8 cI cZ qS oS)) A) args s 0 0 A) (w8 cI cZ qS oS) 15 [(0, .ref (qS 0)), (1, .int v1), (2, .int v2), (3, .int (0 : Int32)), (4, .int v4_15)] [] := by
      intro K46 hK46 fu
      induction fu with
      | zero =>
        intro v4_15 h
        exact False.elim h
      | succ fu ih =>
        intro v4_15 h
        unfold wpX8_lengthAt_L15 at h
        refine SW.iload C dX8_lengthAt_15 4 rfl ?_
        refine SW.if_lt (tgt := 46) C dX8_lengthAt_17 (by decide) (fun hc => ?_) (fun hc => ?_)
        · replace h := h.1 hc
          refine SW.sub [0, 1, 2, 3] rfl ?_
          exact hK46 _ h
        · replace h := h.2 hc
          refine SW.iload_n C dX8_lengthAt_20 rfl 2 rfl ?_
          refine SW.iload C dX8_lengthAt_21 4 rfl ?_
          refine SW.iushr C dX8_lengthAt_23 ?_
          refine SW.iconst (v := (1 : Int32)) C dX8_lengthAt_24 (by decide) ?_
          refine SW.iand C dX8_lengthAt_25 ?_
          refine SW.if_eq (tgt := 40) C dX8_lengthAt_26 (by decide) (fun hc => ?_) (fun hc => ?_)
          · replace h := h.1 hc
            refine SW.iinc (q := 4) (v := (v4_15 + (-1 : Int32))) (lv' := [(4, .int (v4_15 + (-1 : Int32))), (0, .ref (qS 0)), (1, .int v1), (2, .int v2), (3, .int (0 : Int32))]) C dX8_lengthAt_40 rfl rfl (by decide) rfl ?_
            refine SW.goto (tgt := 15) C dX8_lengthAt_43 (by decide) ?_
            refine SW.sub [1, 2, 3, 4, 0] rfl ?_
            exact ih _ h
          · replace h := h.2 hc
            refine SW.aload_n C dX8_lengthAt_29 rfl 0 rfl ?_
            refine SW.get (v := .ref (qS 2)) (T := TX8) (N := 13) C inX8_lengthAt_X8 0 rfl rfl 8 (by decide) lkX8_lengthAt_22 rfl dX8_lengthAt_30 ?_
            refine SW.iload C dX8_lengthAt_33 4 rfl ?_
            refine SW.iald C 2 0 rfl rfl h.1 dX8_lengthAt_35 ?_
            replace h := h.2
            refine SW.istore_n (lv' := [(3, .int (jld (oS 2) v4_15)), (0, .ref (qS 0)), (1, .int v1), (2, .int v2), (4, .int v4_15)]) C dX8_lengthAt_36 rfl (by decide) rfl ?_
            refine SW.goto (tgt := 46) C dX8_lengthAt_37 (by decide) ?_
            refine SW.sub [1, 2, 3, 0] rfl ?_
            exact hK46 _ h
    obtain ⟨fu, h⟩ := h
    refine SW.sub [2, 3, 4, 1, 0] rfl ?_
    refine L15 _ (fun v3_46 h => ?_) fu _ h
    · refine SW.iload_n C dX8_lengthAt_46 rfl 1 rfl ?_
      refine SW.iconst (v := (1 : Int32)) C dX8_lengthAt_47 (by decide) ?_
      refine SW.iadd C dX8_lengthAt_48 ?_
      refine SW.istore (lv' := [(4, .int (v1 + (1 : Int32))), (0, .ref (qS 0)), (1, .int v1), (2, .int v2), (3, .int v3_46)]) C dX8_lengthAt_49 (by decide) rfl ?_
      have L51 : ∀ (K85 : Prop) (hK85 : K85 → SW p l e { frames := 2, cells := 0, slots := 0, locals := 42 } s m args below meth c A D 5 0 0 (MQ below (va_Qi (fun (r : Int32) (_ : Unit) => post r) (ctB D A (fun _ : Unit => w8 cI cZ qS oS)) A) args s 0 0 A) (w8 cI cZ qS oS) 85 [(0, .ref (qS 0)), (3, .int v3_46)] []) (fu : Nat) (v4_51 : Int32), wpX8_lengthAt_L51 v2 v3_46 oS post K85 fu v4_51 → SW p l e { frames := 2, cells := 0, slots := 0, locals := 42 } s m args below meth c A D 5 0 0 (MQ below (va_Qi (fun (r : Int32) (_ : Unit) => post r) (ctB D A (fun _ : Unit => w8 cI cZ qS oS)) A) args s 0 0 A) (w8 cI cZ qS oS) 51 [(0, .ref (qS 0)), (2, .int v2), (3, .int v3_46), (4, .int v4_51)] [] := by
        intro K85 hK85 fu
        induction fu with
        | zero =>
          intro v4_51 h
          exact False.elim h
        | succ fu ih =>
          intro v4_51 h
          unfold wpX8_lengthAt_L51 at h
          refine SW.iload C dX8_lengthAt_51 3 rfl ?_
          refine SW.aload_n C dX8_lengthAt_53 rfl 0 rfl ?_
          refine SW.get (v := .int (oS 0 0)) (T := TX8) (N := 13) C inX8_lengthAt_X8 0 rfl rfl 0 (by decide) lkX8_lengthAt_41 rfl dX8_lengthAt_54 ?_
          refine SW.icmp_ge (tgt := 85) C dX8_lengthAt_57 (by decide) (fun hc => ?_) (fun hc => ?_)
          · replace h := h.1 hc
            refine SW.sub [0, 2] rfl ?_
            exact hK85 h
          · replace h := h.2 hc
            refine SW.iload_n C dX8_lengthAt_60 rfl 1 rfl ?_
            refine SW.iload C dX8_lengthAt_61 3 rfl ?_
            refine SW.iushr C dX8_lengthAt_63 ?_
            refine SW.iconst (v := (1 : Int32)) C dX8_lengthAt_64 (by decide) ?_
            refine SW.iand C dX8_lengthAt_65 ?_
            refine SW.if_eq (tgt := 79) C dX8_lengthAt_66 (by decide) (fun hc => ?_) (fun hc => ?_)
            · replace h := h.1 hc
              refine SW.iinc (q := 3) (v := (v4_51 + (1 : Int32))) (lv' := [(4, .int (v4_51 + (1 : Int32))), (0, .ref (qS 0)), (2, .int v2), (3, .int v3_46)]) C dX8_lengthAt_79 rfl rfl (by decide) rfl ?_
              refine SW.goto (tgt := 51) C dX8_lengthAt_82 (by decide) ?_
              refine SW.sub [1, 2, 3, 0] rfl ?_
              exact ih _ h
            · replace h := h.2 hc
              refine SW.aload_n C dX8_lengthAt_69 rfl 0 rfl ?_
              refine SW.get (v := .ref (qS 2)) (T := TX8) (N := 13) C inX8_lengthAt_X8 0 rfl rfl 8 (by decide) lkX8_lengthAt_22 rfl dX8_lengthAt_70 ?_
              refine SW.iload C dX8_lengthAt_73 3 rfl ?_
              refine SW.iald C 2 0 rfl rfl h.1 dX8_lengthAt_75 ?_
              replace h := h.2
              refine SW.iload_n C dX8_lengthAt_76 rfl 2 rfl ?_
              refine SW.isub C dX8_lengthAt_77 ?_
              exact SW.iret C () rfl h dX8_lengthAt_78
      obtain ⟨fu, h⟩ := h
      refine SW.sub [1, 3, 4, 0] rfl ?_
      refine L51 _ (fun h => ?_) fu _ h
      · refine SW.aload_n C dX8_lengthAt_85 rfl 0 rfl ?_
        refine SW.callVi_same C (ctX8_bottom l D cI cZ qS oS _ h) gX8_lengthAt_X8_bottom rfl rfl rfl pdX8_bottom ⟨by decide, by decide⟩ 0 rfl rfl rfl rfl rfl (Nat.le_of_ble_eq_true rfl) dX8_lengthAt_86 (by decide) (fun r86 u h => ?_)
        try dsimp only at h
        refine SW.iload_n C dX8_lengthAt_89 rfl 1 rfl ?_
        refine SW.isub C dX8_lengthAt_90 ?_
        exact SW.iret C () rfl h dX8_lengthAt_91
  · replace h := h.1 hc
    refine SW.iconst (v := (0 : Int32)) C dX8_lengthAt_8 (by decide) ?_
    exact SW.iret C () rfl h dX8_lengthAt_9
def wpX9_commonDivisor_L9 (K45 : Int64 → Prop) : Nat → Int64 → Int64 → Int32 → Prop
  | 0, _, _, _ => False
  | fu9 + 1, v4_9, v6_9, v8_9 => (((200 : Int32) ≤ v8_9) → K45 v4_9) ∧ (¬ ((200 : Int32) ≤ v8_9) → (((lg_cmp v6_9 (0 : Int64)) = 0) → K45 v4_9) ∧ (¬ ((lg_cmp v6_9 (0 : Int64)) = 0) → (¬ v6_9 = 0) ∧ (wpX9_commonDivisor_L9 K45 fu9 v6_9 (jremL v4_9 v6_9) (v8_9 + (1 : Int32)))))
def wpX9_commonDivisor (v0 : Int64) (v2 : Int64) (post : Int64 → Prop) : Prop := ∃ fu9 : Nat, wpX9_commonDivisor_L9 (fun (v4_45 : Int64) => post v4_45) fu9 v0 v2 (0 : Int32)
theorem pdX9_commonDivisor : yX9_commonDivisor.cls ≠ "java/lang/invoke/MethodHandle" ∧ yX9_commonDivisor.cls ≠ "java/lang/invoke/VarHandle" ∧ (parseMethodDescriptor yX9_commonDivisor.desc).map (fun d => d.parameters.length) = some 2 := by decide +kernel
set_option maxHeartbeats 4000000 in
set_option maxRecDepth 100000 in
theorem ctX9_commonDivisor (l : Launch) (D : va_G) (cI cZ : ClassId) (v0 : Int64) (v2 : Int64) (post : Int64 → Prop) (h : wpX9_commonDivisor v0 v2 post) : CTl l yX9_commonDivisor wsX9_commonDivisor { frames := 0, cells := 0, slots := 0, locals := 0 } D [(cI, .int), (cZ, .boolean)] [.long v0, .long v2] (([] : va_W)) (fun _ : Unit => ([] : va_W)) (fun (r : Int64) (_ : Unit) => post r) := by
  refine CTl.of (cc := cX9_commonDivisor) (own := RX9) (maxL := 11) (ret := (some .long)) (lv0 := [(0, .long v0), (2, .long v2)]) (by decide) rfl rfl (Nat.le_of_ble_eq_true rfl) rfl ?_
  intro p e s m args below meth c A C
  unfold wpX9_commonDivisor at h
  refine SW.lload_n C dX9_commonDivisor_0 rfl 0 rfl ?_
  refine SW.lstore (lv' := [(4, .long v0), (0, .long v0), (2, .long v2)]) C dX9_commonDivisor_1 (by decide) rfl ?_
  refine SW.lload_n C dX9_commonDivisor_3 rfl 2 rfl ?_
  refine SW.lstore (lv' := [(6, .long v2), (4, .long v0), (0, .long v0), (2, .long v2)]) C dX9_commonDivisor_4 (by decide) rfl ?_
  refine SW.iconst (v := (0 : Int32)) C dX9_commonDivisor_6 (by decide) ?_
  refine SW.istore (lv' := [(8, .int (0 : Int32)), (6, .long v2), (4, .long v0), (0, .long v0), (2, .long v2)]) C dX9_commonDivisor_7 (by decide) rfl ?_
  have L9 : ∀ (K45 : Int64 → Prop) (hK45 : ∀ (v4_45 : Int64), K45 v4_45 → SW p l e { frames := 0, cells := 0, slots := 0, locals := 0 } s m args below meth c A D 11 0 0 (MQ below (va_Ql (fun (r : Int64) (_ : Unit) => post r) (ctB D A (fun _ : Unit => ([] : va_W))) A) args s 0 0 A) (([] : va_W)) 45 [(4, .long v4_45)] []) (fu : Nat) (v4_9 : Int64) (v6_9 : Int64) (v8_9 : Int32), wpX9_commonDivisor_L9 K45 fu v4_9 v6_9 v8_9 → SW p l e { frames := 0, cells := 0, slots := 0, locals := 0 } s m args below meth c A D 11 0 0 (MQ below (va_Ql (fun (r : Int64) (_ : Unit) => post r) (ctB D A (fun _ : Unit => ([] : va_W))) A) args s 0 0 A) (([] : va_W)) 9 [(4, .long v4_9), (6, .long v6_9), (8, .int v8_9)] [] := by
    intro K45 hK45 fu
    induction fu with
    | zero =>
      intro v4_9 v6_9 v8_9 h
      exact False.elim h
    | succ fu ih =>
      intro v4_9 v6_9 v8_9 h
      unfold wpX9_commonDivisor_L9 at h
      refine SW.iload C dX9_commonDivisor_9 2 rfl ?_
      refine SW.sipush (v := (200 : Int32)) C dX9_commonDivisor_11 (by decide) ?_
      refine SW.icmp_ge (tgt := 45) C dX9_commonDivisor_14 (by decide) (fun hc => ?_) (fun hc => ?_)
      · replace h := h.1 hc
        refine SW.sub [0] rfl ?_
        exact hK45 _ h
      · replace h := h.2 hc
        refine SW.lload C dX9_commonDivisor_17 1 rfl ?_
        refine SW.lconst (v := (0 : Int64)) C dX9_commonDivisor_19 (by decide) ?_
        refine SW.lcmp C dX9_commonDivisor_20 ?_
        refine SW.if_eq (tgt := 45) C dX9_commonDivisor_21 (by decide) (fun hc => ?_) (fun hc => ?_)
        · replace h := h.1 hc
          refine SW.sub [0] rfl ?_
          exact hK45 _ h
        · replace h := h.2 hc
          refine SW.lload C dX9_commonDivisor_24 0 rfl ?_
          refine SW.lload C dX9_commonDivisor_26 1 rfl ?_
          refine SW.lrem C dX9_commonDivisor_28 h.1 ?_
          replace h := h.2
          refine SW.lstore (lv' := [(9, .long (jremL v4_9 v6_9)), (4, .long v4_9), (6, .long v6_9), (8, .int v8_9)]) C dX9_commonDivisor_29 (by decide) rfl ?_
          refine SW.lload C dX9_commonDivisor_31 2 rfl ?_
          refine SW.lstore (lv' := [(4, .long v6_9), (9, .long (jremL v4_9 v6_9)), (6, .long v6_9), (8, .int v8_9)]) C dX9_commonDivisor_33 (by decide) rfl ?_
          refine SW.lload C dX9_commonDivisor_35 1 rfl ?_
          refine SW.lstore (lv' := [(6, .long (jremL v4_9 v6_9)), (4, .long v6_9), (9, .long (jremL v4_9 v6_9)), (8, .int v8_9)]) C dX9_commonDivisor_37 (by decide) rfl ?_
          refine SW.iinc (q := 3) (v := (v8_9 + (1 : Int32))) (lv' := [(8, .int (v8_9 + (1 : Int32))), (6, .long (jremL v4_9 v6_9)), (4, .long v6_9), (9, .long (jremL v4_9 v6_9))]) C dX9_commonDivisor_39 rfl rfl (by decide) rfl ?_
          refine SW.goto (tgt := 9) C dX9_commonDivisor_42 (by decide) ?_
          refine SW.sub [2, 1, 0] rfl ?_
          exact ih _ _ _ h
  obtain ⟨fu, h⟩ := h
  refine SW.sub [2, 1, 0] rfl ?_
  refine L9 _ (fun v4_45 h => ?_) fu _ _ _ h
  · refine SW.lload C dX9_commonDivisor_45 0 rfl ?_
    exact SW.lret C () rfl h dX9_commonDivisor_47
def wpX8_isClash (oS : Ob) (v1 : Int32) (v2 : Int32) (post : Int32 → Prop) : Prop := ∀ y5 : Int32, y5 = (jmax v1 v2) → (((v1 = v2) → post (0 : Int32)) ∧ (¬ (v1 = v2) → (((oS 0 2) < y5) → wpX9_commonDivisor (Int32.toInt64 y5) (Int32.toInt64 (jmin v1 v2)) (fun (r29 : Int64) => jn0 (post (0 : Int32)) (fun J59 => (((lg_cmp r29 (0 : Int64)) ≤ 0) → J59) ∧ (¬ ((lg_cmp r29 (0 : Int64)) ≤ 0) → (¬ r29 = 0) ∧ ((((lg_cmp ((Int32.toInt64 y5) / r29) (Int32.toInt64 (oS 0 2))) ≤ 0) → J59) ∧ (¬ ((lg_cmp ((Int32.toInt64 y5) / r29) (Int32.toInt64 (oS 0 2))) ≤ 0) → post (1 : Int32))))))) ∧ (¬ ((oS 0 2) < y5) → post (0 : Int32))))
theorem pdX8_isClash : yX8_isClash.cls = RX8 ∧ yX8_isClash.cls ≠ "java/lang/invoke/MethodHandle" ∧ yX8_isClash.cls ≠ "java/lang/invoke/VarHandle" ∧ (parseMethodDescriptor yX8_isClash.desc).map (fun d => d.parameters.length) = some 2 := by decide +kernel
theorem lkX8_isClash_9 : Cond.fieldLink RX8 9 (TX8 2).1 (TX8 2).2.1 (TX8 2).2.2.1 ∈ wsX8_isClash := by decide +kernel
theorem inX8_isClash_X8 : ∀ w ∈ u_ws RX8 TX8 13, w ∈ wsX8_isClash := by decide +kernel
set_option maxHeartbeats 4000000 in
set_option maxRecDepth 100000 in
theorem ctX8_isClash (l : Launch) (D : va_G) (cI cZ : ClassId) (qS : Nat → Nat) (oS : Ob) (v1 : Int32) (v2 : Int32) (post : Int32 → Prop) (h : wpX8_isClash oS v1 v2 post) : CTi l yX8_isClash wsX8_isClash { frames := 1, cells := 0, slots := 0, locals := 30 } D [(cI, .int), (cZ, .boolean)] [.ref (qS 0), .int v1, .int v2] (w8 cI cZ qS oS) (fun _ : Unit => w8 cI cZ qS oS) (fun (r : Int32) (_ : Unit) => post r) := by
  refine CTi.of (cc := cX8_isClash) (own := RX8) (maxL := 6) (ret := (some .boolean)) (lv0 := [(0, .ref (qS 0)), (1, .int v1), (2, .int v2)]) (by decide) rfl rfl (Nat.le_of_ble_eq_true rfl) rfl ?_
  intro p e s m args below meth c A C
  unfold wpX8_isClash at h
  refine SW.iload_n C dX8_isClash_0 rfl 1 rfl ?_
  refine SW.iload_n C dX8_isClash_1 rfl 2 rfl ?_
  refine SW.mmax C (by decide +kernel) (by decide +kernel) (by decide +kernel) (by decide +kernel) (by decide) (Nat.le_of_ble_eq_true rfl) (by decide) (by decide) dX8_isClash_2 ?_
  refine SW.topi (fun y5 he => ?_)
  replace h := h y5 he
  refine SW.istore_n (lv' := [(3, .int y5), (0, .ref (qS 0)), (1, .int v1), (2, .int v2)]) C dX8_isClash_5 rfl (by decide) rfl ?_
  refine SW.iload_n C dX8_isClash_6 rfl 2 rfl ?_
  refine SW.iload_n C dX8_isClash_7 rfl 3 rfl ?_
  refine SW.icmp_eq (tgt := 19) C dX8_isClash_8 (by decide) (fun hc => ?_) (fun hc => ?_)
  · replace h := h.1 hc
    refine SW.iconst (v := (0 : Int32)) C dX8_isClash_19 (by decide) ?_
    exact SW.zret C () (by decide) rfl h dX8_isClash_20
  · replace h := h.2 hc
    refine SW.iload_n C dX8_isClash_11 rfl 0 rfl ?_
    refine SW.aload_n C dX8_isClash_12 rfl 1 rfl ?_
    refine SW.get (v := .int (oS 0 2)) (T := TX8) (N := 13) C inX8_isClash_X8 0 rfl rfl 2 (by decide) lkX8_isClash_9 rfl dX8_isClash_13 ?_
    refine SW.icmp_gt (tgt := 21) C dX8_isClash_16 (by decide) (fun hc => ?_) (fun hc => ?_)
    · replace h := h.1 hc
      refine SW.iload_n C dX8_isClash_21 rfl 0 rfl ?_
      refine SW.i2l C dX8_isClash_22 ?_
      refine SW.iload_n C dX8_isClash_23 rfl 2 rfl ?_
      refine SW.iload_n C dX8_isClash_24 rfl 3 rfl ?_
      refine SW.mmin C (by decide +kernel) (by decide +kernel) (by decide +kernel) (by decide +kernel) (by decide) (Nat.le_of_ble_eq_true rfl) (by decide) (by decide) dX8_isClash_25 ?_
      refine SW.i2l C dX8_isClash_28 ?_
      refine SW.callNl_pure C (ctX9_commonDivisor l D cI cZ (Int32.toInt64 y5) (Int32.toInt64 (jmin v1 v2)) _ h) gX8_isClash_X9_commonDivisor_n89 rfl (by decide +kernel) (by decide +kernel) rfl rfl rfl pdX9_commonDivisor ⟨by decide, by decide⟩ rfl rfl (Nat.le_of_ble_eq_true rfl) dX8_isClash_29 (by decide) (fun r29 u h => ?_)
      try dsimp only at h
      refine SW.lstore (lv' := [(4, .long r29), (3, .int y5), (0, .ref (qS 0)), (1, .int v1), (2, .int v2)]) C dX8_isClash_32 (by decide) rfl ?_
      refine SW.lload C dX8_isClash_34 0 rfl ?_
      refine SW.lconst (v := (0 : Int64)) C dX8_isClash_36 (by decide) ?_
      refine SW.lcmp C dX8_isClash_37 ?_
      refine jn0_elim (G := SW p l e { frames := 1, cells := 0, slots := 0, locals := 30 } s m args below meth c A D 6 0 0 (MQ below (va_Qi (fun (r : Int32) (_ : Unit) => post r) (ctB D A (fun _ : Unit => w8 cI cZ qS oS)) A) args s 0 0 A) (w8 cI cZ qS oS) 59 [] []) h (fun h => ?_) (fun J59 hJ59 h => ?_)
      · refine SW.iconst (v := (0 : Int32)) C dX8_isClash_59 (by decide) ?_
        exact SW.zret C () (by decide) rfl h dX8_isClash_60
      · refine SW.if_le (tgt := 59) C dX8_isClash_38 (by decide) (fun hc => ?_) (fun hc => ?_)
        · replace h := h.1 hc
          refine SW.sub [] rfl ?_
          exact hJ59 h
        · replace h := h.2 hc
          refine SW.iload_n C dX8_isClash_41 rfl 1 rfl ?_
          refine SW.i2l C dX8_isClash_42 ?_
          refine SW.lload C dX8_isClash_43 0 rfl ?_
          refine SW.ldiv C dX8_isClash_45 h.1 ?_
          replace h := h.2
          refine SW.aload_n C dX8_isClash_46 rfl 2 rfl ?_
          refine SW.get (v := .int (oS 0 2)) (T := TX8) (N := 13) C inX8_isClash_X8 0 rfl rfl 2 (by decide) lkX8_isClash_9 rfl dX8_isClash_47 ?_
          refine SW.i2l C dX8_isClash_50 ?_
          refine SW.lcmp C dX8_isClash_51 ?_
          refine SW.if_le (tgt := 59) C dX8_isClash_52 (by decide) (fun hc => ?_) (fun hc => ?_)
          · replace h := h.1 hc
            refine SW.sub [] rfl ?_
            exact hJ59 h
          · replace h := h.2 hc
            refine SW.iconst (v := (1 : Int32)) C dX8_isClash_55 (by decide) ?_
            refine SW.goto (tgt := 60) C dX8_isClash_56 (by decide) ?_
            exact SW.zret C () (by decide) rfl h dX8_isClash_60
    · replace h := h.2 hc
      refine SW.iconst (v := (0 : Int32)) C dX8_isClash_19 (by decide) ?_
      exact SW.zret C () (by decide) rfl h dX8_isClash_20
def wpX8_clashesBy_L83 (c2_83 : Int32) (c3_83 : Int32) (c5_83 : Int32) (oSc_83 : Ob) (post : Int32 → Ob → Prop) (K115 : Prop) : Nat → Int32 → Prop
  | 0, _ => False
  | fu83 + 1, v6_83 => ((c3_83 ≤ v6_83) → K115) ∧ (¬ (c3_83 ≤ v6_83) → (vp_in v6_83 10) ∧ (wpX8_isClash oSc_83 (c5_83 - c2_83) (jld (oSc_83 6) v6_83) (fun (r101 : Int32) => ((r101 = 0) → wpX8_clashesBy_L83 c2_83 c3_83 c5_83 oSc_83 post K115 fu83 (v6_83 + (1 : Int32))) ∧ (¬ (r101 = 0) → post (1 : Int32) oSc_83))))
def wpX8_clashesBy_L22 (c1_22 : Int32) (post : Int32 → Ob → Prop) (K137 : Ob → Prop) : Nat → Int32 → Int32 → Int32 → Ob → Prop
  | 0, _, _, _, _ => False
  | fu22 + 1, v2_22, v3_22, v4_22, oS_22 => (((oS_22 0 0) < v4_22) → K137 oS_22) ∧ (¬ ((oS_22 0 0) < v4_22) → (((10 : Int32) ≤ v3_22) → K137 oS_22) ∧ (¬ ((10 : Int32) ≤ v3_22) → jn3 (fun (v2_131 : Int32) (v3_131 : Int32) (oS_131 : Ob) => wpX8_clashesBy_L22 c1_22 post K137 fu22 v2_131 v3_131 (v4_22 + (1 : Int32)) oS_131) (fun J131 => jn0 (wpX8_has oS_22 v4_22 (fun (r58 : Int32) => jn1 (fun (p0_78 : Int32) => ∃ fu83 : Nat, wpX8_clashesBy_L83 v2_22 v3_22 p0_78 oS_22 post ((vp_in v3_22 10) ∧ (J131 p0_78 (v3_22 + (1 : Int32)) (pa oS_22 6 (nC v3_22) (p0_78 - v2_22)))) fu83 (0 : Int32)) (fun J78 => ((r58 = 0) → wpX8_bottom oS_22 (fun (r75 : Int32) => J78 r75)) ∧ (¬ (r58 = 0) → (vp_in v4_22 10) ∧ (J78 (jld (oS_22 2) v4_22)))))) (fun J55 => ((v4_22 = (oS_22 0 0)) → J55) ∧ (¬ (v4_22 = (oS_22 0 0)) → ((((jush c1_22 v4_22) &&& (1 : Int32)) = 0) → J131 v2_22 v3_22 oS_22) ∧ (¬ (((jush c1_22 v4_22) &&& (1 : Int32)) = 0) → J55))))))
def wpX8_clashesBy (oS : Ob) (v1 : Int32) (post : Int32 → Ob → Prop) : Prop := jn1 (fun (p0_16 : Int32) => ∃ fu22 : Nat, wpX8_clashesBy_L22 v1 post (fun (oS_137 : Ob) => post (0 : Int32) oS_137) fu22 p0_16 (0 : Int32) (1 : Int32) oS) (fun J16 => (((v1 &&& (1 : Int32)) = 0) → J16 (0 : Int32)) ∧ (¬ ((v1 &&& (1 : Int32)) = 0) → J16 (jld (oS 2) (0 : Int32))))
theorem pdX8_clashesBy : yX8_clashesBy.cls = RX8 ∧ yX8_clashesBy.cls ≠ "java/lang/invoke/MethodHandle" ∧ yX8_clashesBy.cls ≠ "java/lang/invoke/VarHandle" ∧ (parseMethodDescriptor yX8_clashesBy.desc).map (fun d => d.parameters.length) = some 1 := by decide +kernel
theorem lkX8_clashesBy_41 : Cond.fieldLink RX8 41 (TX8 0).1 (TX8 0).2.1 (TX8 0).2.2.1 ∈ wsX8_clashesBy := by decide +kernel
theorem inX8_clashesBy_X8 : ∀ w ∈ u_ws RX8 TX8 13, w ∈ wsX8_clashesBy := by decide +kernel
theorem lkX8_clashesBy_34 : Cond.fieldLink RX8 34 (TX8 12).1 (TX8 12).2.1 (TX8 12).2.2.1 ∈ wsX8_clashesBy := by decide +kernel
theorem lkX8_clashesBy_22 : Cond.fieldLink RX8 22 (TX8 8).1 (TX8 8).2.1 (TX8 8).2.2.1 ∈ wsX8_clashesBy := by decide +kernel
set_option maxHeartbeats 4000000 in
set_option maxRecDepth 100000 in
theorem ctX8_clashesBy (l : Launch) (D : va_G) (cI cZ : ClassId) (qS : Nat → Nat) (oS : Ob) (v1 : Int32) (post : Int32 → Ob → Prop) (h : wpX8_clashesBy oS v1 post) : CTi l yX8_clashesBy wsX8_clashesBy { frames := 2, cells := 0, slots := 0, locals := 55 } D [(cI, .int), (cZ, .boolean)] [.ref (qS 0), .int v1] (w8 cI cZ qS oS) (fun u : Ob => w8 cI cZ qS u) (fun (r : Int32) (u : Ob) => post r u) := by
  refine CTi.of (cc := cX8_clashesBy) (own := RX8) (maxL := 7) (ret := (some .boolean)) (lv0 := [(0, .ref (qS 0)), (1, .int v1)]) (by decide) rfl rfl (Nat.le_of_ble_eq_true rfl) rfl ?_
  intro p e s m args below meth c A C
  unfold wpX8_clashesBy at h
  refine SW.iload_n C dX8_clashesBy_0 rfl 1 rfl ?_
  refine SW.iconst (v := (1 : Int32)) C dX8_clashesBy_1 (by decide) ?_
  refine SW.iand C dX8_clashesBy_2 ?_
  refine jn1_elim (G := fun p0_16 => SW p l e { frames := 2, cells := 0, slots := 0, locals := 55 } s m args below meth c A D 7 0 0 (MQ below (va_Qi (fun (r : Int32) (u : Ob) => post r u) (ctB D A (fun u : Ob => w8 cI cZ qS u)) A) args s 0 0 A) (w8 cI cZ qS oS) 16 [(0, .ref (qS 0)), (1, .int v1)] [.int p0_16]) h (fun p0_16 h => ?_) (fun J16 hJ16 h => ?_)
  · refine SW.istore_n (lv' := [(2, .int p0_16), (0, .ref (qS 0)), (1, .int v1)]) C dX8_clashesBy_16 rfl (by decide) rfl ?_
    refine SW.iconst (v := (0 : Int32)) C dX8_clashesBy_17 (by decide) ?_
    refine SW.istore_n (lv' := [(3, .int (0 : Int32)), (2, .int p0_16), (0, .ref (qS 0)), (1, .int v1)]) C dX8_clashesBy_18 rfl (by decide) rfl ?_
    refine SW.iconst (v := (1 : Int32)) C dX8_clashesBy_19 (by decide) ?_
    refine SW.istore (lv' := [(4, .int (1 : Int32)), (3, .int (0 : Int32)), (2, .int p0_16), (0, .ref (qS 0)), (1, .int v1)]) C dX8_clashesBy_20 (by decide) rfl ?_
    have L22 : ∀ (K137 : Ob → Prop) (hK137 : ∀ (oS_137 : Ob), K137 oS_137 → SW p l e { frames := 2, cells := 0, slots := 0, locals := 55 } s m args below meth c A D 7 0 0 (MQ below (va_Qi (fun (r : Int32) (u : Ob) => post r u) (ctB D A (fun u : Ob => w8 cI cZ qS u)) A) args s 0 0 A) (w8 cI cZ qS oS_137) 137 [] []) (fu : Nat) (v2_22 : Int32) (v3_22 : Int32) (v4_22 : Int32) (oS_22 : Ob), wpX8_clashesBy_L22 v1 post K137 fu v2_22 v3_22 v4_22 oS_22 → SW p l e { frames := 2, cells := 0, slots := 0, locals := 55 } s m args below meth c A D 7 0 0 (MQ below (va_Qi (fun (r : Int32) (u : Ob) => post r u) (ctB D A (fun u : Ob => w8 cI cZ qS u)) A) args s 0 0 A) (w8 cI cZ qS oS_22) 22 [(0, .ref (qS 0)), (1, .int v1), (2, .int v2_22), (3, .int v3_22), (4, .int v4_22)] [] := by
      intro K137 hK137 fu
      induction fu with
      | zero =>
        intro v2_22 v3_22 v4_22 oS_22 h
        exact False.elim h
      | succ fu ih =>
        intro v2_22 v3_22 v4_22 oS_22 h
        unfold wpX8_clashesBy_L22 at h
        refine SW.iload C dX8_clashesBy_22 4 rfl ?_
        refine SW.aload_n C dX8_clashesBy_24 rfl 0 rfl ?_
        refine SW.get (v := .int (oS_22 0 0)) (T := TX8) (N := 13) C inX8_clashesBy_X8 0 rfl rfl 0 (by decide) lkX8_clashesBy_41 rfl dX8_clashesBy_25 ?_
        refine SW.icmp_gt (tgt := 137) C dX8_clashesBy_28 (by decide) (fun hc => ?_) (fun hc => ?_)
        · replace h := h.1 hc
          refine SW.sub [] rfl ?_
          exact hK137 _ h
        · replace h := h.2 hc
          refine SW.iload_n C dX8_clashesBy_31 rfl 3 rfl ?_
          refine SW.bipush (v := (10 : Int32)) C dX8_clashesBy_32 (by decide) ?_
          refine SW.icmp_ge (tgt := 137) C dX8_clashesBy_34 (by decide) (fun hc => ?_) (fun hc => ?_)
          · replace h := h.1 hc
            refine SW.sub [] rfl ?_
            exact hK137 _ h
          · replace h := h.2 hc
            refine SW.iload C dX8_clashesBy_37 4 rfl ?_
            refine SW.aload_n C dX8_clashesBy_39 rfl 0 rfl ?_
            refine SW.get (v := .int (oS_22 0 0)) (T := TX8) (N := 13) C inX8_clashesBy_X8 0 rfl rfl 0 (by decide) lkX8_clashesBy_41 rfl dX8_clashesBy_40 ?_
            refine jn3_elim (G := fun v2_131 v3_131 oS_131 => SW p l e { frames := 2, cells := 0, slots := 0, locals := 55 } s m args below meth c A D 7 0 0 (MQ below (va_Qi (fun (r : Int32) (u : Ob) => post r u) (ctB D A (fun u : Ob => w8 cI cZ qS u)) A) args s 0 0 A) (w8 cI cZ qS oS_131) 131 [(0, .ref (qS 0)), (1, .int v1), (2, .int v2_131), (3, .int v3_131), (4, .int v4_22)] []) h (fun v2_131 v3_131 oS_131 h => ?_) (fun J131 hJ131 h => ?_)
            · refine SW.iinc (q := 4) (v := (v4_22 + (1 : Int32))) (lv' := [(4, .int (v4_22 + (1 : Int32))), (0, .ref (qS 0)), (1, .int v1), (2, .int v2_131), (3, .int v3_131)]) C dX8_clashesBy_131 rfl rfl (by decide) rfl ?_
              refine SW.goto (tgt := 22) C dX8_clashesBy_134 (by decide) ?_
              refine SW.sub [1, 2, 3, 4, 0] rfl ?_
              exact ih _ _ _ _ h
            · refine jn0_elim (G := SW p l e { frames := 2, cells := 0, slots := 0, locals := 55 } s m args below meth c A D 7 0 0 (MQ below (va_Qi (fun (r : Int32) (u : Ob) => post r u) (ctB D A (fun u : Ob => w8 cI cZ qS u)) A) args s 0 0 A) (w8 cI cZ qS oS_22) 55 [(0, .ref (qS 0)), (1, .int v1), (2, .int v2_22), (3, .int v3_22), (4, .int v4_22)] []) h (fun h => ?_) (fun J55 hJ55 h => ?_)
              · refine SW.aload_n C dX8_clashesBy_55 rfl 0 rfl ?_
                refine SW.iload C dX8_clashesBy_56 4 rfl ?_
                refine SW.callVi_same C (ctX8_has l D cI cZ qS oS_22 v4_22 _ h) gX8_clashesBy_X8_has rfl rfl rfl pdX8_has ⟨by decide, by decide⟩ 0 rfl rfl rfl rfl rfl (Nat.le_of_ble_eq_true rfl) dX8_clashesBy_58 (by decide) (fun r58 u h => ?_)
                try dsimp only at h
                refine jn1_elim (G := fun p0_78 => SW p l e { frames := 2, cells := 0, slots := 0, locals := 55 } s m args below meth c A D 7 0 0 (MQ below (va_Qi (fun (r : Int32) (u : Ob) => post r u) (ctB D A (fun u : Ob => w8 cI cZ qS u)) A) args s 0 0 A) (w8 cI cZ qS oS_22) 78 [(0, .ref (qS 0)), (1, .int v1), (2, .int v2_22), (3, .int v3_22), (4, .int v4_22)] [.int p0_78]) h (fun p0_78 h => ?_) (fun J78 hJ78 h => ?_)
                · refine SW.istore (lv' := [(5, .int p0_78), (0, .ref (qS 0)), (1, .int v1), (2, .int v2_22), (3, .int v3_22), (4, .int v4_22)]) C dX8_clashesBy_78 (by decide) rfl ?_
                  refine SW.iconst (v := (0 : Int32)) C dX8_clashesBy_80 (by decide) ?_
                  refine SW.istore (lv' := [(6, .int (0 : Int32)), (5, .int p0_78), (0, .ref (qS 0)), (1, .int v1), (2, .int v2_22), (3, .int v3_22), (4, .int v4_22)]) C dX8_clashesBy_81 (by decide) rfl ?_
                  have L83 : ∀ (K115 : Prop) (hK115 : K115 → SW p l e { frames := 2, cells := 0, slots := 0, locals := 55 } s m args below meth c A D 7 0 0 (MQ below (va_Qi (fun (r : Int32) (u : Ob) => post r u) (ctB D A (fun u : Ob => w8 cI cZ qS u)) A) args s 0 0 A) (w8 cI cZ qS oS_22) 115 [(0, .ref (qS 0)), (1, .int v1), (2, .int v2_22), (3, .int v3_22), (4, .int v4_22), (5, .int p0_78)] []) (fu : Nat) (v6_83 : Int32), wpX8_clashesBy_L83 v2_22 v3_22 p0_78 oS_22 post K115 fu v6_83 → SW p l e { frames := 2, cells := 0, slots := 0, locals := 55 } s m args below meth c A D 7 0 0 (MQ below (va_Qi (fun (r : Int32) (u : Ob) => post r u) (ctB D A (fun u : Ob => w8 cI cZ qS u)) A) args s 0 0 A) (w8 cI cZ qS oS_22) 83 [(0, .ref (qS 0)), (1, .int v1), (2, .int v2_22), (3, .int v3_22), (4, .int v4_22), (5, .int p0_78), (6, .int v6_83)] [] := by
                    intro K115 hK115 fu
                    induction fu with
                    | zero =>
                      intro v6_83 h
                      exact False.elim h
                    | succ fu ih =>
                      intro v6_83 h
                      unfold wpX8_clashesBy_L83 at h
                      refine SW.iload C dX8_clashesBy_83 6 rfl ?_
                      refine SW.iload_n C dX8_clashesBy_85 rfl 3 rfl ?_
                      refine SW.icmp_ge (tgt := 115) C dX8_clashesBy_86 (by decide) (fun hc => ?_) (fun hc => ?_)
                      · replace h := h.1 hc
                        refine SW.sub [0, 1, 2, 3, 4, 5] rfl ?_
                        exact hK115 h
                      · replace h := h.2 hc
                        refine SW.aload_n C dX8_clashesBy_89 rfl 0 rfl ?_
                        refine SW.iload C dX8_clashesBy_90 5 rfl ?_
                        refine SW.iload_n C dX8_clashesBy_92 rfl 2 rfl ?_
                        refine SW.isub C dX8_clashesBy_93 ?_
                        refine SW.aload_n C dX8_clashesBy_94 rfl 0 rfl ?_
                        refine SW.get (v := .ref (qS 6)) (T := TX8) (N := 13) C inX8_clashesBy_X8 0 rfl rfl 12 (by decide) lkX8_clashesBy_34 rfl dX8_clashesBy_95 ?_
                        refine SW.iload C dX8_clashesBy_98 6 rfl ?_
                        refine SW.iald C 6 0 rfl rfl h.1 dX8_clashesBy_100 ?_
                        replace h := h.2
                        refine SW.callVi_same C (ctX8_isClash l D cI cZ qS oS_22 (p0_78 - v2_22) (jld (oS_22 6) v6_83) _ h) gX8_clashesBy_X8_isClash rfl rfl rfl pdX8_isClash ⟨by decide, by decide⟩ 0 rfl rfl rfl rfl rfl (Nat.le_of_ble_eq_true rfl) dX8_clashesBy_101 (by decide) (fun r101 u h => ?_)
                        try dsimp only at h
                        refine SW.if_eq (tgt := 109) C dX8_clashesBy_104 (by decide) (fun hc => ?_) (fun hc => ?_)
                        · replace h := h.1 hc
                          refine SW.iinc (q := 6) (v := (v6_83 + (1 : Int32))) (lv' := [(6, .int (v6_83 + (1 : Int32))), (0, .ref (qS 0)), (1, .int v1), (2, .int v2_22), (3, .int v3_22), (4, .int v4_22), (5, .int p0_78)]) C dX8_clashesBy_109 rfl rfl (by decide) rfl ?_
                          refine SW.goto (tgt := 83) C dX8_clashesBy_112 (by decide) ?_
                          refine SW.sub [1, 2, 3, 4, 5, 6, 0] rfl ?_
                          exact ih _ h
                        · replace h := h.2 hc
                          refine SW.iconst (v := (1 : Int32)) C dX8_clashesBy_107 (by decide) ?_
                          exact SW.zret C oS_22 (by decide) rfl h dX8_clashesBy_108
                  obtain ⟨fu, h⟩ := h
                  refine SW.sub [2, 3, 4, 5, 6, 1, 0] rfl ?_
                  refine L83 _ (fun h => ?_) fu _ h
                  · refine SW.aload_n C dX8_clashesBy_115 rfl 0 rfl ?_
                    refine SW.get (v := .ref (qS 6)) (T := TX8) (N := 13) C inX8_clashesBy_X8 0 rfl rfl 12 (by decide) lkX8_clashesBy_34 rfl dX8_clashesBy_116 ?_
                    refine SW.iload_n C dX8_clashesBy_119 rfl 3 rfl ?_
                    refine SW.iload C dX8_clashesBy_120 5 rfl ?_
                    refine SW.iload_n C dX8_clashesBy_122 rfl 2 rfl ?_
                    refine SW.isub C dX8_clashesBy_123 ?_
                    refine SW.iast (ws' := w8 cI cZ qS (pa oS_22 6 (nC v3_22) (p0_78 - v2_22))) C 6 0 rfl rfl h.1 rfl dX8_clashesBy_124 ?_
                    replace h := h.2
                    refine SW.iinc (q := 3) (v := (v3_22 + (1 : Int32))) (lv' := [(3, .int (v3_22 + (1 : Int32))), (0, .ref (qS 0)), (1, .int v1), (2, .int v2_22), (4, .int v4_22), (5, .int p0_78)]) C dX8_clashesBy_125 rfl rfl (by decide) rfl ?_
                    refine SW.iload C dX8_clashesBy_128 5 rfl ?_
                    refine SW.istore_n (lv' := [(2, .int p0_78), (3, .int (v3_22 + (1 : Int32))), (0, .ref (qS 0)), (1, .int v1), (4, .int v4_22), (5, .int p0_78)]) C dX8_clashesBy_130 rfl (by decide) rfl ?_
                    refine SW.sub [2, 3, 0, 1, 4] rfl ?_
                    exact hJ131 _ _ _ h
                · refine SW.if_eq (tgt := 74) C dX8_clashesBy_61 (by decide) (fun hc => ?_) (fun hc => ?_)
                  · replace h := h.1 hc
                    refine SW.aload_n C dX8_clashesBy_74 rfl 0 rfl ?_
                    refine SW.callVi_same C (ctX8_bottom l D cI cZ qS oS_22 _ h) gX8_clashesBy_X8_bottom rfl rfl rfl pdX8_bottom ⟨by decide, by decide⟩ 0 rfl rfl rfl rfl rfl (Nat.le_of_ble_eq_true rfl) dX8_clashesBy_75 (by decide) (fun r75 u h => ?_)
                    try dsimp only at h
                    exact hJ78 _ h
                  · replace h := h.2 hc
                    refine SW.aload_n C dX8_clashesBy_64 rfl 0 rfl ?_
                    refine SW.get (v := .ref (qS 2)) (T := TX8) (N := 13) C inX8_clashesBy_X8 0 rfl rfl 8 (by decide) lkX8_clashesBy_22 rfl dX8_clashesBy_65 ?_
                    refine SW.iload C dX8_clashesBy_68 4 rfl ?_
                    refine SW.iald C 2 0 rfl rfl h.1 dX8_clashesBy_70 ?_
                    replace h := h.2
                    refine SW.goto (tgt := 78) C dX8_clashesBy_71 (by decide) ?_
                    exact hJ78 _ h
              · refine SW.icmp_eq (tgt := 55) C dX8_clashesBy_43 (by decide) (fun hc => ?_) (fun hc => ?_)
                · replace h := h.1 hc
                  exact hJ55 h
                · replace h := h.2 hc
                  refine SW.iload_n C dX8_clashesBy_46 rfl 1 rfl ?_
                  refine SW.iload C dX8_clashesBy_47 4 rfl ?_
                  refine SW.iushr C dX8_clashesBy_49 ?_
                  refine SW.iconst (v := (1 : Int32)) C dX8_clashesBy_50 (by decide) ?_
                  refine SW.iand C dX8_clashesBy_51 ?_
                  refine SW.if_eq (tgt := 131) C dX8_clashesBy_52 (by decide) (fun hc => ?_) (fun hc => ?_)
                  · replace h := h.1 hc
                    exact hJ131 _ _ _ h
                  · replace h := h.2 hc
                    exact hJ55 h
    obtain ⟨fu, h⟩ := h
    refine SW.sub [3, 4, 2, 1, 0] rfl ?_
    refine L22 _ (fun oS_137 h => ?_) fu _ _ _ _ h
    · refine SW.iconst (v := (0 : Int32)) C dX8_clashesBy_137 (by decide) ?_
      exact SW.zret C oS_137 (by decide) rfl h dX8_clashesBy_138
  · refine SW.if_eq (tgt := 15) C dX8_clashesBy_3 (by decide) (fun hc => ?_) (fun hc => ?_)
    · replace h := h.1 hc
      refine SW.iconst (v := (0 : Int32)) C dX8_clashesBy_15 (by decide) ?_
      exact hJ16 _ h
    · replace h := h.2 hc
      refine SW.aload_n C dX8_clashesBy_6 rfl 0 rfl ?_
      refine SW.get (v := .ref (qS 2)) (T := TX8) (N := 13) C inX8_clashesBy_X8 0 rfl rfl 8 (by decide) lkX8_clashesBy_22 rfl dX8_clashesBy_7 ?_
      refine SW.iconst (v := (0 : Int32)) C dX8_clashesBy_10 (by decide) ?_
      refine SW.iald C 2 0 rfl rfl (by unfold vp_in; decide) dX8_clashesBy_11 ?_
      refine SW.goto (tgt := 16) C dX8_clashesBy_12 (by decide) ?_
      exact hJ16 _ h
def wpX8_measure_L4 (K32 : Ob → Prop) : Nat → Int32 → Int32 → Ob → Prop
  | 0, _, _, _ => False
  | fu4 + 1, v1_4, v2_4, oS_4 => (((10 : Int32) ≤ v2_4) → K32 oS_4) ∧ (¬ ((10 : Int32) ≤ v2_4) → (vp_in v2_4 10) ∧ ((vp_in v2_4 10) ∧ (wpX8_measure_L4 K32 fu4 (v1_4 + (jld (oS_4 1) v2_4)) (v2_4 + (1 : Int32)) (pa oS_4 2 (nC v2_4) (v1_4 + (jld (oS_4 1) v2_4))))))
def wpX8_measure (oS : Ob) (post : Ob → Prop) : Prop := ∃ fu4 : Nat, wpX8_measure_L4 (fun (oS_32 : Ob) => post oS_32) fu4 (0 : Int32) (0 : Int32) oS
theorem pdX8_measure : yX8_measure.cls = RX8 ∧ yX8_measure.cls ≠ "java/lang/invoke/MethodHandle" ∧ yX8_measure.cls ≠ "java/lang/invoke/VarHandle" ∧ (parseMethodDescriptor yX8_measure.desc).map (fun d => d.parameters.length) = some 0 := by decide +kernel
theorem lkX8_measure_18 : Cond.fieldLink RX8 18 (TX8 7).1 (TX8 7).2.1 (TX8 7).2.2.1 ∈ wsX8_measure := by decide +kernel
theorem inX8_measure_X8 : ∀ w ∈ u_ws RX8 TX8 13, w ∈ wsX8_measure := by decide +kernel
theorem lkX8_measure_22 : Cond.fieldLink RX8 22 (TX8 8).1 (TX8 8).2.1 (TX8 8).2.2.1 ∈ wsX8_measure := by decide +kernel
set_option maxHeartbeats 4000000 in
set_option maxRecDepth 100000 in
theorem ctX8_measure (l : Launch) (D : va_G) (cI cZ : ClassId) (qS : Nat → Nat) (oS : Ob) (post : Ob → Prop) (h : wpX8_measure oS post) : CTv l yX8_measure wsX8_measure { frames := 0, cells := 0, slots := 0, locals := 0 } D [(cI, .int), (cZ, .boolean)] [.ref (qS 0)] (w8 cI cZ qS oS) (fun u : Ob => w8 cI cZ qS u) (fun (u : Ob) => post u) := by
  refine CTv.of (cc := cX8_measure) (own := RX8) (maxL := 3) (ret := none) (lv0 := [(0, .ref (qS 0))]) (by decide) rfl rfl (Nat.le_of_ble_eq_true rfl) rfl ?_
  intro p e s m args below meth c A C
  unfold wpX8_measure at h
  refine SW.iconst (v := (0 : Int32)) C dX8_measure_0 (by decide) ?_
  refine SW.istore_n (lv' := [(1, .int (0 : Int32)), (0, .ref (qS 0))]) C dX8_measure_1 rfl (by decide) rfl ?_
  refine SW.iconst (v := (0 : Int32)) C dX8_measure_2 (by decide) ?_
  refine SW.istore_n (lv' := [(2, .int (0 : Int32)), (1, .int (0 : Int32)), (0, .ref (qS 0))]) C dX8_measure_3 rfl (by decide) rfl ?_
  have L4 : ∀ (K32 : Ob → Prop) (hK32 : ∀ (oS_32 : Ob), K32 oS_32 → SW p l e { frames := 0, cells := 0, slots := 0, locals := 0 } s m args below meth c A D 3 0 0 (MQ below (va_Qv (fun (u : Ob) => post u) (ctB D A (fun u : Ob => w8 cI cZ qS u)) A) args s 0 0 A) (w8 cI cZ qS oS_32) 32 [] []) (fu : Nat) (v1_4 : Int32) (v2_4 : Int32) (oS_4 : Ob), wpX8_measure_L4 K32 fu v1_4 v2_4 oS_4 → SW p l e { frames := 0, cells := 0, slots := 0, locals := 0 } s m args below meth c A D 3 0 0 (MQ below (va_Qv (fun (u : Ob) => post u) (ctB D A (fun u : Ob => w8 cI cZ qS u)) A) args s 0 0 A) (w8 cI cZ qS oS_4) 4 [(0, .ref (qS 0)), (1, .int v1_4), (2, .int v2_4)] [] := by
    intro K32 hK32 fu
    induction fu with
    | zero =>
      intro v1_4 v2_4 oS_4 h
      exact False.elim h
    | succ fu ih =>
      intro v1_4 v2_4 oS_4 h
      unfold wpX8_measure_L4 at h
      refine SW.iload_n C dX8_measure_4 rfl 2 rfl ?_
      refine SW.bipush (v := (10 : Int32)) C dX8_measure_5 (by decide) ?_
      refine SW.icmp_ge (tgt := 32) C dX8_measure_7 (by decide) (fun hc => ?_) (fun hc => ?_)
      · replace h := h.1 hc
        refine SW.sub [] rfl ?_
        exact hK32 _ h
      · replace h := h.2 hc
        refine SW.iload_n C dX8_measure_10 rfl 1 rfl ?_
        refine SW.aload_n C dX8_measure_11 rfl 0 rfl ?_
        refine SW.get (v := .ref (qS 1)) (T := TX8) (N := 13) C inX8_measure_X8 0 rfl rfl 7 (by decide) lkX8_measure_18 rfl dX8_measure_12 ?_
        refine SW.iload_n C dX8_measure_15 rfl 2 rfl ?_
        refine SW.iald C 1 0 rfl rfl h.1 dX8_measure_16 ?_
        replace h := h.2
        refine SW.iadd C dX8_measure_17 ?_
        refine SW.istore_n (lv' := [(1, .int (v1_4 + (jld (oS_4 1) v2_4))), (0, .ref (qS 0)), (2, .int v2_4)]) C dX8_measure_18 rfl (by decide) rfl ?_
        refine SW.aload_n C dX8_measure_19 rfl 1 rfl ?_
        refine SW.get (v := .ref (qS 2)) (T := TX8) (N := 13) C inX8_measure_X8 0 rfl rfl 8 (by decide) lkX8_measure_22 rfl dX8_measure_20 ?_
        refine SW.iload_n C dX8_measure_23 rfl 2 rfl ?_
        refine SW.iload_n C dX8_measure_24 rfl 0 rfl ?_
        refine SW.iast (ws' := w8 cI cZ qS (pa oS_4 2 (nC v2_4) (v1_4 + (jld (oS_4 1) v2_4)))) C 2 0 rfl rfl h.1 rfl dX8_measure_25 ?_
        replace h := h.2
        refine SW.iinc (q := 2) (v := (v2_4 + (1 : Int32))) (lv' := [(2, .int (v2_4 + (1 : Int32))), (1, .int (v1_4 + (jld (oS_4 1) v2_4))), (0, .ref (qS 0))]) C dX8_measure_26 rfl rfl (by decide) rfl ?_
        refine SW.goto (tgt := 4) C dX8_measure_29 (by decide) ?_
        refine SW.sub [2, 1, 0] rfl ?_
        exact ih _ _ _ h
  obtain ⟨fu, h⟩ := h
  refine SW.sub [2, 1, 0] rfl ?_
  refine L4 _ (fun oS_32 h => ?_) fu _ _ _ h
  · exact SW.vret C oS_32 rfl h dX8_measure_32
def wpX8_beginAnew_L27 (K53 : Ob → Prop) : Nat → Int32 → Ob → Prop
  | 0, _, _ => False
  | fu27 + 1, v2_27, oS_27 => (((10 : Int32) ≤ v2_27) → K53 oS_27) ∧ (¬ ((10 : Int32) ≤ v2_27) → (vp_in v2_27 10) ∧ (∀ oS_46n : Ob, oS_46n = (pa oS_27 1 (nC v2_27) (2 : Int32)) → ((vp_in v2_27 10) ∧ (wpX8_beginAnew_L27 K53 fu27 (v2_27 + (1 : Int32)) (pa oS_46n 5 (nC v2_27) (0 : Int32))))))
def wpX8_beginAnew (oS : Ob) (v1 : Int32) (post : Ob → Prop) : Prop := ∃ fu27 : Nat, wpX8_beginAnew_L27 (fun (oS_53 : Ob) => wpX8_measure oS_53 (fun (oS_54 : Ob) => post oS_54)) fu27 (0 : Int32) (pf (pf (pf (pf (pf oS 0 v1) 1 (2 : Int32)) 4 (0 : Int32)) 5 (0 : Int32)) 6 (0 : Int32))
theorem pdX8_beginAnew : yX8_beginAnew.cls = RX8 ∧ yX8_beginAnew.cls ≠ "java/lang/invoke/MethodHandle" ∧ yX8_beginAnew.cls ≠ "java/lang/invoke/VarHandle" ∧ (parseMethodDescriptor yX8_beginAnew.desc).map (fun d => d.parameters.length) = some 1 := by decide +kernel
theorem lkX8_beginAnew_41 : Cond.fieldLink RX8 41 (TX8 0).1 (TX8 0).2.1 (TX8 0).2.2.1 ∈ wsX8_beginAnew := by decide +kernel
theorem inX8_beginAnew_X8 : ∀ w ∈ u_ws RX8 TX8 13, w ∈ wsX8_beginAnew := by decide +kernel
theorem lkX8_beginAnew_44 : Cond.fieldLink RX8 44 (TX8 1).1 (TX8 1).2.1 (TX8 1).2.2.1 ∈ wsX8_beginAnew := by decide +kernel
theorem lkX8_beginAnew_47 : Cond.fieldLink RX8 47 (TX8 4).1 (TX8 4).2.1 (TX8 4).2.2.1 ∈ wsX8_beginAnew := by decide +kernel
theorem lkX8_beginAnew_50 : Cond.fieldLink RX8 50 (TX8 5).1 (TX8 5).2.1 (TX8 5).2.2.1 ∈ wsX8_beginAnew := by decide +kernel
theorem lkX8_beginAnew_53 : Cond.fieldLink RX8 53 (TX8 6).1 (TX8 6).2.1 (TX8 6).2.2.1 ∈ wsX8_beginAnew := by decide +kernel
theorem lkX8_beginAnew_18 : Cond.fieldLink RX8 18 (TX8 7).1 (TX8 7).2.1 (TX8 7).2.2.1 ∈ wsX8_beginAnew := by decide +kernel
theorem lkX8_beginAnew_31 : Cond.fieldLink RX8 31 (TX8 11).1 (TX8 11).2.1 (TX8 11).2.2.1 ∈ wsX8_beginAnew := by decide +kernel
set_option maxHeartbeats 4000000 in
set_option maxRecDepth 100000 in
theorem ctX8_beginAnew (l : Launch) (D : va_G) (cI cZ : ClassId) (qS : Nat → Nat) (oS : Ob) (v1 : Int32) (post : Ob → Prop) (h : wpX8_beginAnew oS v1 post) : CTv l yX8_beginAnew wsX8_beginAnew { frames := 1, cells := 0, slots := 0, locals := 22 } D [(cI, .int), (cZ, .boolean)] [.ref (qS 0), .int v1] (w8 cI cZ qS oS) (fun u : Ob => w8 cI cZ qS u) (fun (u : Ob) => post u) := by
  refine CTv.of (cc := cX8_beginAnew) (own := RX8) (maxL := 3) (ret := none) (lv0 := [(0, .ref (qS 0)), (1, .int v1)]) (by decide) rfl rfl (Nat.le_of_ble_eq_true rfl) rfl ?_
  intro p e s m args below meth c A C
  unfold wpX8_beginAnew at h
  refine SW.aload_n C dX8_beginAnew_0 rfl 0 rfl ?_
  refine SW.iload_n C dX8_beginAnew_1 rfl 1 rfl ?_
  refine SW.put (ws' := w8 cI cZ qS (pf oS 0 v1)) (T := TX8) (N := 13) C inX8_beginAnew_X8 tyX8 tyX8_ok nmX8 0 rfl rfl 0 (by decide) lkX8_beginAnew_41 rfl rfl rfl (Nat.le_of_ble_eq_true rfl) rfl dX8_beginAnew_2 ?_
  refine SW.aload_n C dX8_beginAnew_5 rfl 0 rfl ?_
  refine SW.iconst (v := (2 : Int32)) C dX8_beginAnew_6 (by decide) ?_
  refine SW.put (ws' := w8 cI cZ qS (pf (pf oS 0 v1) 1 (2 : Int32))) (T := TX8) (N := 13) C inX8_beginAnew_X8 tyX8 tyX8_ok nmX8 0 rfl rfl 1 (by decide) lkX8_beginAnew_44 rfl rfl rfl (Nat.le_of_ble_eq_true rfl) rfl dX8_beginAnew_7 ?_
  refine SW.aload_n C dX8_beginAnew_10 rfl 0 rfl ?_
  refine SW.iconst (v := (0 : Int32)) C dX8_beginAnew_11 (by decide) ?_
  refine SW.put (ws' := w8 cI cZ qS (pf (pf (pf oS 0 v1) 1 (2 : Int32)) 4 (0 : Int32))) (T := TX8) (N := 13) C inX8_beginAnew_X8 tyX8 tyX8_ok nmX8 0 rfl rfl 4 (by decide) lkX8_beginAnew_47 rfl rfl rfl (Nat.le_of_ble_eq_true rfl) rfl dX8_beginAnew_12 ?_
  refine SW.aload_n C dX8_beginAnew_15 rfl 0 rfl ?_
  refine SW.iconst (v := (0 : Int32)) C dX8_beginAnew_16 (by decide) ?_
  refine SW.put (ws' := w8 cI cZ qS (pf (pf (pf (pf oS 0 v1) 1 (2 : Int32)) 4 (0 : Int32)) 5 (0 : Int32))) (T := TX8) (N := 13) C inX8_beginAnew_X8 tyX8 tyX8_ok nmX8 0 rfl rfl 5 (by decide) lkX8_beginAnew_50 rfl rfl rfl (Nat.le_of_ble_eq_true rfl) rfl dX8_beginAnew_17 ?_
  refine SW.aload_n C dX8_beginAnew_20 rfl 0 rfl ?_
  refine SW.iconst (v := (0 : Int32)) C dX8_beginAnew_21 (by decide) ?_
  refine SW.put (ws' := w8 cI cZ qS (pf (pf (pf (pf (pf oS 0 v1) 1 (2 : Int32)) 4 (0 : Int32)) 5 (0 : Int32)) 6 (0 : Int32))) (T := TX8) (N := 13) C inX8_beginAnew_X8 tyX8 tyX8_ok nmX8 0 rfl rfl 6 (by decide) lkX8_beginAnew_53 rfl rfl rfl (Nat.le_of_ble_eq_true rfl) rfl dX8_beginAnew_22 ?_
  refine SW.iconst (v := (0 : Int32)) C dX8_beginAnew_25 (by decide) ?_
  refine SW.istore_n (lv' := [(2, .int (0 : Int32)), (0, .ref (qS 0)), (1, .int v1)]) C dX8_beginAnew_26 rfl (by decide) rfl ?_
  have L27 : ∀ (K53 : Ob → Prop) (hK53 : ∀ (oS_53 : Ob), K53 oS_53 → SW p l e { frames := 1, cells := 0, slots := 0, locals := 22 } s m args below meth c A D 3 0 0 (MQ below (va_Qv (fun (u : Ob) => post u) (ctB D A (fun u : Ob => w8 cI cZ qS u)) A) args s 0 0 A) (w8 cI cZ qS oS_53) 53 [(0, .ref (qS 0))] []) (fu : Nat) (v2_27 : Int32) (oS_27 : Ob), wpX8_beginAnew_L27 K53 fu v2_27 oS_27 → SW p l e { frames := 1, cells := 0, slots := 0, locals := 22 } s m args below meth c A D 3 0 0 (MQ below (va_Qv (fun (u : Ob) => post u) (ctB D A (fun u : Ob => w8 cI cZ qS u)) A) args s 0 0 A) (w8 cI cZ qS oS_27) 27 [(0, .ref (qS 0)), (2, .int v2_27)] [] := by
    intro K53 hK53 fu
    induction fu with
    | zero =>
      intro v2_27 oS_27 h
      exact False.elim h
    | succ fu ih =>
      intro v2_27 oS_27 h
      unfold wpX8_beginAnew_L27 at h
      refine SW.iload_n C dX8_beginAnew_27 rfl 1 rfl ?_
      refine SW.bipush (v := (10 : Int32)) C dX8_beginAnew_28 (by decide) ?_
      refine SW.icmp_ge (tgt := 53) C dX8_beginAnew_30 (by decide) (fun hc => ?_) (fun hc => ?_)
      · replace h := h.1 hc
        refine SW.sub [0] rfl ?_
        exact hK53 _ h
      · replace h := h.2 hc
        refine SW.aload_n C dX8_beginAnew_33 rfl 0 rfl ?_
        refine SW.get (v := .ref (qS 1)) (T := TX8) (N := 13) C inX8_beginAnew_X8 0 rfl rfl 7 (by decide) lkX8_beginAnew_18 rfl dX8_beginAnew_34 ?_
        refine SW.iload_n C dX8_beginAnew_37 rfl 1 rfl ?_
        refine SW.iconst (v := (2 : Int32)) C dX8_beginAnew_38 (by decide) ?_
        refine SW.iast (ws' := w8 cI cZ qS (pa oS_27 1 (nC v2_27) (2 : Int32))) C 1 0 rfl rfl h.1 rfl dX8_beginAnew_39 ?_
        replace h := h.2
        refine SW.aload_n C dX8_beginAnew_40 rfl 0 rfl ?_
        refine SW.get (v := .ref (qS 5)) (T := TX8) (N := 13) C inX8_beginAnew_X8 0 rfl rfl 11 (by decide) lkX8_beginAnew_31 rfl dX8_beginAnew_41 ?_
        refine SW.iload_n C dX8_beginAnew_44 rfl 1 rfl ?_
        refine SW.iconst (v := (0 : Int32)) C dX8_beginAnew_45 (by decide) ?_
        refine SW.nameOb (wz := fun z => w8 cI cZ qS z) (o := (pa oS_27 1 (nC v2_27) (2 : Int32))) (fun oS_46n he => ?_)
        replace h := h oS_46n he
        refine SW.iast (ws' := w8 cI cZ qS (pa oS_46n 5 (nC v2_27) (0 : Int32))) C 5 0 rfl rfl h.1 rfl dX8_beginAnew_46 ?_
        replace h := h.2
        refine SW.iinc (q := 1) (v := (v2_27 + (1 : Int32))) (lv' := [(2, .int (v2_27 + (1 : Int32))), (0, .ref (qS 0))]) C dX8_beginAnew_47 rfl rfl (by decide) rfl ?_
        refine SW.goto (tgt := 27) C dX8_beginAnew_50 (by decide) ?_
        refine SW.sub [1, 0] rfl ?_
        exact ih _ _ h
  obtain ⟨fu, h⟩ := h
  refine SW.sub [1, 0] rfl ?_
  refine L27 _ (fun oS_53 h => ?_) fu _ _ h
  · refine SW.aload_n C dX8_beginAnew_53 rfl 0 rfl ?_
    refine SW.callVv_same C (ctX8_measure l D cI cZ qS oS_53 _ h) gX8_beginAnew_X8_measure rfl rfl rfl pdX8_measure ⟨by decide, by decide⟩ 0 rfl rfl rfl rfl rfl (Nat.le_of_ble_eq_true rfl) dX8_beginAnew_54 (by decide) (fun u h => ?_)
    obtain ⟨oS_54, rfl⟩ : ∃ z, z = u := ⟨_, rfl⟩
    try dsimp only at h
    exact SW.vret C oS_54 rfl h dX8_beginAnew_57
def wpX8_copyFrom_L58 (oRc_58 : Ob) (K94 : Ob → Prop) : Nat → Int32 → Ob → Prop
  | 0, _, _ => False
  | fu58 + 1, v2_58, oS_58 => (((10 : Int32) ≤ v2_58) → K94 oS_58) ∧ (¬ ((10 : Int32) ≤ v2_58) → (vp_in v2_58 10) ∧ ((vp_in v2_58 10) ∧ ((vp_in v2_58 10) ∧ (∀ oS_87n : Ob, oS_87n = (pa oS_58 1 (nC v2_58) (jld (oRc_58 1) v2_58)) → ((vp_in v2_58 10) ∧ (wpX8_copyFrom_L58 oRc_58 K94 fu58 (v2_58 + (1 : Int32)) (pa oS_87n 5 (nC v2_58) (jld (oRc_58 5) v2_58))))))))
def wpX8_copyFrom_L96 (oRc_96 : Ob) (K132 : Ob → Prop) : Nat → Int32 → Ob → Prop
  | 0, _, _ => False
  | fu96 + 1, v2_96, oS_96 => (((8 : Int32) ≤ v2_96) → K132 oS_96) ∧ (¬ ((8 : Int32) ≤ v2_96) → (vp_in v2_96 8) ∧ ((vp_in v2_96 8) ∧ ((vp_in v2_96 8) ∧ (∀ oS_125n : Ob, oS_125n = (pa oS_96 3 (nC v2_96) (jld (oRc_96 3) v2_96)) → ((vp_in v2_96 8) ∧ (wpX8_copyFrom_L96 oRc_96 K132 fu96 (v2_96 + (1 : Int32)) (pa oS_125n 4 (nC v2_96) (jld (oRc_96 4) v2_96))))))))
def wpX8_copyFrom (oS : Ob) (oR : Ob) (post : Ob → Prop) : Prop := ∃ fu58 : Nat, wpX8_copyFrom_L58 oR (fun (oS_94 : Ob) => ∃ fu96 : Nat, wpX8_copyFrom_L96 oR (fun (oS_132 : Ob) => wpX8_measure oS_132 (fun (oS_133 : Ob) => post oS_133)) fu96 (0 : Int32) oS_94) fu58 (0 : Int32) (pf (pf (pf (pf (pf (pf (pf oS 0 (oR 0 0)) 1 (oR 0 1)) 2 (oR 0 2)) 3 (oR 0 3)) 4 (oR 0 4)) 5 (oR 0 5)) 6 (oR 0 6))
theorem pdX8_copyFrom : yX8_copyFrom.cls = RX8 ∧ yX8_copyFrom.cls ≠ "java/lang/invoke/MethodHandle" ∧ yX8_copyFrom.cls ≠ "java/lang/invoke/VarHandle" ∧ (parseMethodDescriptor yX8_copyFrom.desc).map (fun d => d.parameters.length) = some 1 := by decide +kernel
theorem lkX8_copyFrom_41 : Cond.fieldLink RX8 41 (TX8 0).1 (TX8 0).2.1 (TX8 0).2.2.1 ∈ wsX8_copyFrom := by decide +kernel
theorem inX8_copyFrom_X8 : ∀ w ∈ u_ws RX8 TX8 13, w ∈ wsX8_copyFrom := by decide +kernel
theorem lkX8_copyFrom_44 : Cond.fieldLink RX8 44 (TX8 1).1 (TX8 1).2.1 (TX8 1).2.2.1 ∈ wsX8_copyFrom := by decide +kernel
theorem lkX8_copyFrom_9 : Cond.fieldLink RX8 9 (TX8 2).1 (TX8 2).2.1 (TX8 2).2.2.1 ∈ wsX8_copyFrom := by decide +kernel
theorem lkX8_copyFrom_15 : Cond.fieldLink RX8 15 (TX8 3).1 (TX8 3).2.1 (TX8 3).2.2.1 ∈ wsX8_copyFrom := by decide +kernel
theorem lkX8_copyFrom_47 : Cond.fieldLink RX8 47 (TX8 4).1 (TX8 4).2.1 (TX8 4).2.2.1 ∈ wsX8_copyFrom := by decide +kernel
theorem lkX8_copyFrom_50 : Cond.fieldLink RX8 50 (TX8 5).1 (TX8 5).2.1 (TX8 5).2.2.1 ∈ wsX8_copyFrom := by decide +kernel
theorem lkX8_copyFrom_53 : Cond.fieldLink RX8 53 (TX8 6).1 (TX8 6).2.1 (TX8 6).2.2.1 ∈ wsX8_copyFrom := by decide +kernel
theorem lkX8_copyFrom_18 : Cond.fieldLink RX8 18 (TX8 7).1 (TX8 7).2.1 (TX8 7).2.2.1 ∈ wsX8_copyFrom := by decide +kernel
theorem lkX8_copyFrom_31 : Cond.fieldLink RX8 31 (TX8 11).1 (TX8 11).2.1 (TX8 11).2.2.1 ∈ wsX8_copyFrom := by decide +kernel
theorem lkX8_copyFrom_25 : Cond.fieldLink RX8 25 (TX8 9).1 (TX8 9).2.1 (TX8 9).2.2.1 ∈ wsX8_copyFrom := by decide +kernel
theorem lkX8_copyFrom_28 : Cond.fieldLink RX8 28 (TX8 10).1 (TX8 10).2.1 (TX8 10).2.2.1 ∈ wsX8_copyFrom := by decide +kernel
set_option maxHeartbeats 4000000 in
set_option maxRecDepth 100000 in
theorem ctX8_copyFrom (l : Launch) (D : va_G) (cI cZ : ClassId) (qS : Nat → Nat) (qR : Nat → Nat) (oS : Ob) (oR : Ob) (post : Ob → Prop) (h : wpX8_copyFrom oS oR post) : CTv l yX8_copyFrom wsX8_copyFrom { frames := 1, cells := 0, slots := 0, locals := 22 } D [(cI, .int), (cZ, .boolean)] [.ref (qS 0), .ref (qR 0)] (w8 cI cZ qS oS ++ w8 cI cZ qR oR) (fun u : Ob => w8 cI cZ qS u ++ w8 cI cZ qR oR) (fun (u : Ob) => post u) := by
  refine CTv.of (cc := cX8_copyFrom) (own := RX8) (maxL := 3) (ret := none) (lv0 := [(0, .ref (qS 0)), (1, .ref (qR 0))]) (by decide) rfl rfl (Nat.le_of_ble_eq_true rfl) rfl ?_
  intro p e s m args below meth c A C
  unfold wpX8_copyFrom at h
  refine SW.aload_n C dX8_copyFrom_0 rfl 0 rfl ?_
  refine SW.aload_n C dX8_copyFrom_1 rfl 1 rfl ?_
  refine SW.get (v := .int (oR 0 0)) (T := TX8) (N := 13) C inX8_copyFrom_X8 7 rfl rfl 0 (by decide) lkX8_copyFrom_41 rfl dX8_copyFrom_2 ?_
  refine SW.put (ws' := w8 cI cZ qS (pf oS 0 (oR 0 0)) ++ w8 cI cZ qR oR) (T := TX8) (N := 13) C inX8_copyFrom_X8 tyX8 tyX8_ok nmX8 0 rfl rfl 0 (by decide) lkX8_copyFrom_41 rfl rfl rfl (Nat.le_of_ble_eq_true rfl) rfl dX8_copyFrom_5 ?_
  refine SW.aload_n C dX8_copyFrom_8 rfl 0 rfl ?_
  refine SW.aload_n C dX8_copyFrom_9 rfl 1 rfl ?_
  refine SW.get (v := .int (oR 0 1)) (T := TX8) (N := 13) C inX8_copyFrom_X8 7 rfl rfl 1 (by decide) lkX8_copyFrom_44 rfl dX8_copyFrom_10 ?_
  refine SW.put (ws' := w8 cI cZ qS (pf (pf oS 0 (oR 0 0)) 1 (oR 0 1)) ++ w8 cI cZ qR oR) (T := TX8) (N := 13) C inX8_copyFrom_X8 tyX8 tyX8_ok nmX8 0 rfl rfl 1 (by decide) lkX8_copyFrom_44 rfl rfl rfl (Nat.le_of_ble_eq_true rfl) rfl dX8_copyFrom_13 ?_
  refine SW.aload_n C dX8_copyFrom_16 rfl 0 rfl ?_
  refine SW.aload_n C dX8_copyFrom_17 rfl 1 rfl ?_
  refine SW.get (v := .int (oR 0 2)) (T := TX8) (N := 13) C inX8_copyFrom_X8 7 rfl rfl 2 (by decide) lkX8_copyFrom_9 rfl dX8_copyFrom_18 ?_
  refine SW.put (ws' := w8 cI cZ qS (pf (pf (pf oS 0 (oR 0 0)) 1 (oR 0 1)) 2 (oR 0 2)) ++ w8 cI cZ qR oR) (T := TX8) (N := 13) C inX8_copyFrom_X8 tyX8 tyX8_ok nmX8 0 rfl rfl 2 (by decide) lkX8_copyFrom_9 rfl rfl rfl (Nat.le_of_ble_eq_true rfl) rfl dX8_copyFrom_21 ?_
  refine SW.aload_n C dX8_copyFrom_24 rfl 0 rfl ?_
  refine SW.aload_n C dX8_copyFrom_25 rfl 1 rfl ?_
  refine SW.get (v := .int (oR 0 3)) (T := TX8) (N := 13) C inX8_copyFrom_X8 7 rfl rfl 3 (by decide) lkX8_copyFrom_15 rfl dX8_copyFrom_26 ?_
  refine SW.put (ws' := w8 cI cZ qS (pf (pf (pf (pf oS 0 (oR 0 0)) 1 (oR 0 1)) 2 (oR 0 2)) 3 (oR 0 3)) ++ w8 cI cZ qR oR) (T := TX8) (N := 13) C inX8_copyFrom_X8 tyX8 tyX8_ok nmX8 0 rfl rfl 3 (by decide) lkX8_copyFrom_15 rfl rfl rfl (Nat.le_of_ble_eq_true rfl) rfl dX8_copyFrom_29 ?_
  refine SW.aload_n C dX8_copyFrom_32 rfl 0 rfl ?_
  refine SW.aload_n C dX8_copyFrom_33 rfl 1 rfl ?_
  refine SW.get (v := .int (oR 0 4)) (T := TX8) (N := 13) C inX8_copyFrom_X8 7 rfl rfl 4 (by decide) lkX8_copyFrom_47 rfl dX8_copyFrom_34 ?_
  refine SW.put (ws' := w8 cI cZ qS (pf (pf (pf (pf (pf oS 0 (oR 0 0)) 1 (oR 0 1)) 2 (oR 0 2)) 3 (oR 0 3)) 4 (oR 0 4)) ++ w8 cI cZ qR oR) (T := TX8) (N := 13) C inX8_copyFrom_X8 tyX8 tyX8_ok nmX8 0 rfl rfl 4 (by decide) lkX8_copyFrom_47 rfl rfl rfl (Nat.le_of_ble_eq_true rfl) rfl dX8_copyFrom_37 ?_
  refine SW.aload_n C dX8_copyFrom_40 rfl 0 rfl ?_
  refine SW.aload_n C dX8_copyFrom_41 rfl 1 rfl ?_
  refine SW.get (v := .int (oR 0 5)) (T := TX8) (N := 13) C inX8_copyFrom_X8 7 rfl rfl 5 (by decide) lkX8_copyFrom_50 rfl dX8_copyFrom_42 ?_
  refine SW.put (ws' := w8 cI cZ qS (pf (pf (pf (pf (pf (pf oS 0 (oR 0 0)) 1 (oR 0 1)) 2 (oR 0 2)) 3 (oR 0 3)) 4 (oR 0 4)) 5 (oR 0 5)) ++ w8 cI cZ qR oR) (T := TX8) (N := 13) C inX8_copyFrom_X8 tyX8 tyX8_ok nmX8 0 rfl rfl 5 (by decide) lkX8_copyFrom_50 rfl rfl rfl (Nat.le_of_ble_eq_true rfl) rfl dX8_copyFrom_45 ?_
  refine SW.aload_n C dX8_copyFrom_48 rfl 0 rfl ?_
  refine SW.aload_n C dX8_copyFrom_49 rfl 1 rfl ?_
  refine SW.get (v := .int (oR 0 6)) (T := TX8) (N := 13) C inX8_copyFrom_X8 7 rfl rfl 6 (by decide) lkX8_copyFrom_53 rfl dX8_copyFrom_50 ?_
  refine SW.put (ws' := w8 cI cZ qS (pf (pf (pf (pf (pf (pf (pf oS 0 (oR 0 0)) 1 (oR 0 1)) 2 (oR 0 2)) 3 (oR 0 3)) 4 (oR 0 4)) 5 (oR 0 5)) 6 (oR 0 6)) ++ w8 cI cZ qR oR) (T := TX8) (N := 13) C inX8_copyFrom_X8 tyX8 tyX8_ok nmX8 0 rfl rfl 6 (by decide) lkX8_copyFrom_53 rfl rfl rfl (Nat.le_of_ble_eq_true rfl) rfl dX8_copyFrom_53 ?_
  refine SW.iconst (v := (0 : Int32)) C dX8_copyFrom_56 (by decide) ?_
  refine SW.istore_n (lv' := [(2, .int (0 : Int32)), (0, .ref (qS 0)), (1, .ref (qR 0))]) C dX8_copyFrom_57 rfl (by decide) rfl ?_
  have L58 : ∀ (K94 : Ob → Prop) (hK94 : ∀ (oS_94 : Ob), K94 oS_94 → SW p l e { frames := 1, cells := 0, slots := 0, locals := 22 } s m args below meth c A D 3 0 0 (MQ below (va_Qv (fun (u : Ob) => post u) (ctB D A (fun u : Ob => w8 cI cZ qS u ++ w8 cI cZ qR oR)) A) args s 0 0 A) (w8 cI cZ qS oS_94 ++ w8 cI cZ qR oR) 94 [(0, .ref (qS 0)), (1, .ref (qR 0))] []) (fu : Nat) (v2_58 : Int32) (oS_58 : Ob), wpX8_copyFrom_L58 oR K94 fu v2_58 oS_58 → SW p l e { frames := 1, cells := 0, slots := 0, locals := 22 } s m args below meth c A D 3 0 0 (MQ below (va_Qv (fun (u : Ob) => post u) (ctB D A (fun u : Ob => w8 cI cZ qS u ++ w8 cI cZ qR oR)) A) args s 0 0 A) (w8 cI cZ qS oS_58 ++ w8 cI cZ qR oR) 58 [(0, .ref (qS 0)), (1, .ref (qR 0)), (2, .int v2_58)] [] := by
    intro K94 hK94 fu
    induction fu with
    | zero =>
      intro v2_58 oS_58 h
      exact False.elim h
    | succ fu ih =>
      intro v2_58 oS_58 h
      unfold wpX8_copyFrom_L58 at h
      refine SW.iload_n C dX8_copyFrom_58 rfl 2 rfl ?_
      refine SW.bipush (v := (10 : Int32)) C dX8_copyFrom_59 (by decide) ?_
      refine SW.icmp_ge (tgt := 94) C dX8_copyFrom_61 (by decide) (fun hc => ?_) (fun hc => ?_)
      · replace h := h.1 hc
        refine SW.sub [0, 1] rfl ?_
        exact hK94 _ h
      · replace h := h.2 hc
        refine SW.aload_n C dX8_copyFrom_64 rfl 0 rfl ?_
        refine SW.get (v := .ref (qS 1)) (T := TX8) (N := 13) C inX8_copyFrom_X8 0 rfl rfl 7 (by decide) lkX8_copyFrom_18 rfl dX8_copyFrom_65 ?_
        refine SW.iload_n C dX8_copyFrom_68 rfl 2 rfl ?_
        refine SW.aload_n C dX8_copyFrom_69 rfl 1 rfl ?_
        refine SW.get (v := .ref (qR 1)) (T := TX8) (N := 13) C inX8_copyFrom_X8 7 rfl rfl 7 (by decide) lkX8_copyFrom_18 rfl dX8_copyFrom_70 ?_
        refine SW.iload_n C dX8_copyFrom_73 rfl 2 rfl ?_
        refine SW.iald C 8 0 rfl rfl h.1 dX8_copyFrom_74 ?_
        replace h := h.2
        refine SW.iast (ws' := w8 cI cZ qS (pa oS_58 1 (nC v2_58) (jld (oR 1) v2_58)) ++ w8 cI cZ qR oR) C 1 0 rfl rfl h.1 rfl dX8_copyFrom_75 ?_
        replace h := h.2
        refine SW.aload_n C dX8_copyFrom_76 rfl 0 rfl ?_
        refine SW.get (v := .ref (qS 5)) (T := TX8) (N := 13) C inX8_copyFrom_X8 0 rfl rfl 11 (by decide) lkX8_copyFrom_31 rfl dX8_copyFrom_77 ?_
        refine SW.iload_n C dX8_copyFrom_80 rfl 2 rfl ?_
        refine SW.aload_n C dX8_copyFrom_81 rfl 1 rfl ?_
        refine SW.get (v := .ref (qR 5)) (T := TX8) (N := 13) C inX8_copyFrom_X8 7 rfl rfl 11 (by decide) lkX8_copyFrom_31 rfl dX8_copyFrom_82 ?_
        refine SW.iload_n C dX8_copyFrom_85 rfl 2 rfl ?_
        refine SW.iald C 12 0 rfl rfl h.1 dX8_copyFrom_86 ?_
        replace h := h.2
        refine SW.nameOb (wz := fun z => w8 cI cZ qS z ++ w8 cI cZ qR oR) (o := (pa oS_58 1 (nC v2_58) (jld (oR 1) v2_58))) (fun oS_87n he => ?_)
        replace h := h oS_87n he
        refine SW.iast (ws' := w8 cI cZ qS (pa oS_87n 5 (nC v2_58) (jld (oR 5) v2_58)) ++ w8 cI cZ qR oR) C 5 0 rfl rfl h.1 rfl dX8_copyFrom_87 ?_
        replace h := h.2
        refine SW.iinc (q := 2) (v := (v2_58 + (1 : Int32))) (lv' := [(2, .int (v2_58 + (1 : Int32))), (0, .ref (qS 0)), (1, .ref (qR 0))]) C dX8_copyFrom_88 rfl rfl (by decide) rfl ?_
        refine SW.goto (tgt := 58) C dX8_copyFrom_91 (by decide) ?_
        refine SW.sub [1, 2, 0] rfl ?_
        exact ih _ _ h
  obtain ⟨fu, h⟩ := h
  refine SW.sub [1, 2, 0] rfl ?_
  refine L58 _ (fun oS_94 h => ?_) fu _ _ h
  · refine SW.iconst (v := (0 : Int32)) C dX8_copyFrom_94 (by decide) ?_
    refine SW.istore_n (lv' := [(2, .int (0 : Int32)), (0, .ref (qS 0)), (1, .ref (qR 0))]) C dX8_copyFrom_95 rfl (by decide) rfl ?_
    have L96 : ∀ (K132 : Ob → Prop) (hK132 : ∀ (oS_132 : Ob), K132 oS_132 → SW p l e { frames := 1, cells := 0, slots := 0, locals := 22 } s m args below meth c A D 3 0 0 (MQ below (va_Qv (fun (u : Ob) => post u) (ctB D A (fun u : Ob => w8 cI cZ qS u ++ w8 cI cZ qR oR)) A) args s 0 0 A) (w8 cI cZ qS oS_132 ++ w8 cI cZ qR oR) 132 [(0, .ref (qS 0))] []) (fu : Nat) (v2_96 : Int32) (oS_96 : Ob), wpX8_copyFrom_L96 oR K132 fu v2_96 oS_96 → SW p l e { frames := 1, cells := 0, slots := 0, locals := 22 } s m args below meth c A D 3 0 0 (MQ below (va_Qv (fun (u : Ob) => post u) (ctB D A (fun u : Ob => w8 cI cZ qS u ++ w8 cI cZ qR oR)) A) args s 0 0 A) (w8 cI cZ qS oS_96 ++ w8 cI cZ qR oR) 96 [(0, .ref (qS 0)), (1, .ref (qR 0)), (2, .int v2_96)] [] := by
      intro K132 hK132 fu
      induction fu with
      | zero =>
        intro v2_96 oS_96 h
        exact False.elim h
      | succ fu ih =>
        intro v2_96 oS_96 h
        unfold wpX8_copyFrom_L96 at h
        refine SW.iload_n C dX8_copyFrom_96 rfl 2 rfl ?_
        refine SW.bipush (v := (8 : Int32)) C dX8_copyFrom_97 (by decide) ?_
        refine SW.icmp_ge (tgt := 132) C dX8_copyFrom_99 (by decide) (fun hc => ?_) (fun hc => ?_)
        · replace h := h.1 hc
          refine SW.sub [0] rfl ?_
          exact hK132 _ h
        · replace h := h.2 hc
          refine SW.aload_n C dX8_copyFrom_102 rfl 0 rfl ?_
          refine SW.get (v := .ref (qS 3)) (T := TX8) (N := 13) C inX8_copyFrom_X8 0 rfl rfl 9 (by decide) lkX8_copyFrom_25 rfl dX8_copyFrom_103 ?_
          refine SW.iload_n C dX8_copyFrom_106 rfl 2 rfl ?_
          refine SW.aload_n C dX8_copyFrom_107 rfl 1 rfl ?_
          refine SW.get (v := .ref (qR 3)) (T := TX8) (N := 13) C inX8_copyFrom_X8 7 rfl rfl 9 (by decide) lkX8_copyFrom_25 rfl dX8_copyFrom_108 ?_
          refine SW.iload_n C dX8_copyFrom_111 rfl 2 rfl ?_
          refine SW.iald C 10 0 rfl rfl h.1 dX8_copyFrom_112 ?_
          replace h := h.2
          refine SW.iast (ws' := w8 cI cZ qS (pa oS_96 3 (nC v2_96) (jld (oR 3) v2_96)) ++ w8 cI cZ qR oR) C 3 0 rfl rfl h.1 rfl dX8_copyFrom_113 ?_
          replace h := h.2
          refine SW.aload_n C dX8_copyFrom_114 rfl 0 rfl ?_
          refine SW.get (v := .ref (qS 4)) (T := TX8) (N := 13) C inX8_copyFrom_X8 0 rfl rfl 10 (by decide) lkX8_copyFrom_28 rfl dX8_copyFrom_115 ?_
          refine SW.iload_n C dX8_copyFrom_118 rfl 2 rfl ?_
          refine SW.aload_n C dX8_copyFrom_119 rfl 1 rfl ?_
          refine SW.get (v := .ref (qR 4)) (T := TX8) (N := 13) C inX8_copyFrom_X8 7 rfl rfl 10 (by decide) lkX8_copyFrom_28 rfl dX8_copyFrom_120 ?_
          refine SW.iload_n C dX8_copyFrom_123 rfl 2 rfl ?_
          refine SW.iald C 11 0 rfl rfl h.1 dX8_copyFrom_124 ?_
          replace h := h.2
          refine SW.nameOb (wz := fun z => w8 cI cZ qS z ++ w8 cI cZ qR oR) (o := (pa oS_96 3 (nC v2_96) (jld (oR 3) v2_96))) (fun oS_125n he => ?_)
          replace h := h oS_125n he
          refine SW.iast (ws' := w8 cI cZ qS (pa oS_125n 4 (nC v2_96) (jld (oR 4) v2_96)) ++ w8 cI cZ qR oR) C 4 0 rfl rfl h.1 rfl dX8_copyFrom_125 ?_
          replace h := h.2
          refine SW.iinc (q := 2) (v := (v2_96 + (1 : Int32))) (lv' := [(2, .int (v2_96 + (1 : Int32))), (0, .ref (qS 0)), (1, .ref (qR 0))]) C dX8_copyFrom_126 rfl rfl (by decide) rfl ?_
          refine SW.goto (tgt := 96) C dX8_copyFrom_129 (by decide) ?_
          refine SW.sub [1, 2, 0] rfl ?_
          exact ih _ _ h
    obtain ⟨fu, h⟩ := h
    refine SW.sub [1, 2, 0] rfl ?_
    refine L96 _ (fun oS_132 h => ?_) fu _ _ h
    · refine SW.aload_n C dX8_copyFrom_132 rfl 0 rfl ?_
      refine SW.callVv_sub (wr := w8 cI cZ qR oR) (wn := fun u : Ob => w8 cI cZ qS u ++ w8 cI cZ qR oR) C (ctX8_measure l D cI cZ qS oS_132 _ h) gX8_copyFrom_X8_measure rfl rfl rfl pdX8_measure ⟨by decide, by decide⟩ [0, 1, 2, 3, 4, 5, 6] [7, 8, 9, 10, 11, 12, 13] [7, 8, 9, 10, 11, 12, 13, 0, 1, 2, 3, 4, 5, 6] rfl rfl (by decide) (by decide) (by decide) (by decide) (fun _ => rfl) 0 rfl rfl rfl rfl rfl (Nat.le_of_ble_eq_true rfl) dX8_copyFrom_133 (by decide) (fun u h => ?_)
      obtain ⟨oS_133, rfl⟩ : ∃ z, z = u := ⟨_, rfl⟩
      try dsimp only at h
      exact SW.vret C oS_133 rfl h dX8_copyFrom_136
def wpX8_moreDamp (oS : Ob) (post : Int32 → Ob → Prop) : Prop := (((oS 0 4) < (9 : Int32)) → post (0 : Int32) (pf oS 4 ((oS 0 4) + (1 : Int32)))) ∧ (¬ ((oS 0 4) < (9 : Int32)) → post (1 : Int32) oS)
theorem pdX8_moreDamp : yX8_moreDamp.cls = RX8 ∧ yX8_moreDamp.cls ≠ "java/lang/invoke/MethodHandle" ∧ yX8_moreDamp.cls ≠ "java/lang/invoke/VarHandle" ∧ (parseMethodDescriptor yX8_moreDamp.desc).map (fun d => d.parameters.length) = some 0 := by decide +kernel
theorem lkX8_moreDamp_47 : Cond.fieldLink RX8 47 (TX8 4).1 (TX8 4).2.1 (TX8 4).2.2.1 ∈ wsX8_moreDamp := by decide +kernel
theorem inX8_moreDamp_X8 : ∀ w ∈ u_ws RX8 TX8 13, w ∈ wsX8_moreDamp := by decide +kernel
set_option maxHeartbeats 4000000 in
set_option maxRecDepth 100000 in
theorem ctX8_moreDamp (l : Launch) (D : va_G) (cI cZ : ClassId) (qS : Nat → Nat) (oS : Ob) (post : Int32 → Ob → Prop) (h : wpX8_moreDamp oS post) : CTi l yX8_moreDamp wsX8_moreDamp { frames := 0, cells := 0, slots := 0, locals := 0 } D [(cI, .int), (cZ, .boolean)] [.ref (qS 0)] (w8 cI cZ qS oS) (fun u : Ob => w8 cI cZ qS u) (fun (r : Int32) (u : Ob) => post r u) := by
  refine CTi.of (cc := cX8_moreDamp) (own := RX8) (maxL := 1) (ret := (some .int)) (lv0 := [(0, .ref (qS 0))]) (by decide) rfl rfl (Nat.le_of_ble_eq_true rfl) rfl ?_
  intro p e s m args below meth c A C
  unfold wpX8_moreDamp at h
  refine SW.aload_n C dX8_moreDamp_0 rfl 0 rfl ?_
  refine SW.get (v := .int (oS 0 4)) (T := TX8) (N := 13) C inX8_moreDamp_X8 0 rfl rfl 4 (by decide) lkX8_moreDamp_47 rfl dX8_moreDamp_1 ?_
  refine SW.bipush (v := (9 : Int32)) C dX8_moreDamp_4 (by decide) ?_
  refine SW.icmp_lt (tgt := 11) C dX8_moreDamp_6 (by decide) (fun hc => ?_) (fun hc => ?_)
  · replace h := h.1 hc
    refine SW.aload_n C dX8_moreDamp_11 rfl 0 rfl ?_
    refine SW.dup C dX8_moreDamp_12 rfl ?_
    refine SW.get (v := .int (oS 0 4)) (T := TX8) (N := 13) C inX8_moreDamp_X8 0 rfl rfl 4 (by decide) lkX8_moreDamp_47 rfl dX8_moreDamp_13 ?_
    refine SW.iconst (v := (1 : Int32)) C dX8_moreDamp_16 (by decide) ?_
    refine SW.iadd C dX8_moreDamp_17 ?_
    refine SW.put (ws' := w8 cI cZ qS (pf oS 4 ((oS 0 4) + (1 : Int32)))) (T := TX8) (N := 13) C inX8_moreDamp_X8 tyX8 tyX8_ok nmX8 0 rfl rfl 4 (by decide) lkX8_moreDamp_47 rfl rfl rfl (Nat.le_of_ble_eq_true rfl) rfl dX8_moreDamp_18 ?_
    refine SW.iconst (v := (0 : Int32)) C dX8_moreDamp_21 (by decide) ?_
    exact SW.iret C (pf oS 4 ((oS 0 4) + (1 : Int32))) rfl h dX8_moreDamp_22
  · replace h := h.2 hc
    refine SW.iconst (v := (1 : Int32)) C dX8_moreDamp_9 (by decide) ?_
    exact SW.iret C oS rfl h dX8_moreDamp_10
def wpX8_lessDamp (oS : Ob) (post : Int32 → Ob → Prop) : Prop := ((0 < (oS 0 4)) → post (0 : Int32) (pf oS 4 ((oS 0 4) - (1 : Int32)))) ∧ (¬ (0 < (oS 0 4)) → post (2 : Int32) oS)
theorem pdX8_lessDamp : yX8_lessDamp.cls = RX8 ∧ yX8_lessDamp.cls ≠ "java/lang/invoke/MethodHandle" ∧ yX8_lessDamp.cls ≠ "java/lang/invoke/VarHandle" ∧ (parseMethodDescriptor yX8_lessDamp.desc).map (fun d => d.parameters.length) = some 0 := by decide +kernel
theorem lkX8_lessDamp_47 : Cond.fieldLink RX8 47 (TX8 4).1 (TX8 4).2.1 (TX8 4).2.2.1 ∈ wsX8_lessDamp := by decide +kernel
theorem inX8_lessDamp_X8 : ∀ w ∈ u_ws RX8 TX8 13, w ∈ wsX8_lessDamp := by decide +kernel
set_option maxHeartbeats 4000000 in
set_option maxRecDepth 100000 in
theorem ctX8_lessDamp (l : Launch) (D : va_G) (cI cZ : ClassId) (qS : Nat → Nat) (oS : Ob) (post : Int32 → Ob → Prop) (h : wpX8_lessDamp oS post) : CTi l yX8_lessDamp wsX8_lessDamp { frames := 0, cells := 0, slots := 0, locals := 0 } D [(cI, .int), (cZ, .boolean)] [.ref (qS 0)] (w8 cI cZ qS oS) (fun u : Ob => w8 cI cZ qS u) (fun (r : Int32) (u : Ob) => post r u) := by
  refine CTi.of (cc := cX8_lessDamp) (own := RX8) (maxL := 1) (ret := (some .int)) (lv0 := [(0, .ref (qS 0))]) (by decide) rfl rfl (Nat.le_of_ble_eq_true rfl) rfl ?_
  intro p e s m args below meth c A C
  unfold wpX8_lessDamp at h
  refine SW.aload_n C dX8_lessDamp_0 rfl 0 rfl ?_
  refine SW.get (v := .int (oS 0 4)) (T := TX8) (N := 13) C inX8_lessDamp_X8 0 rfl rfl 4 (by decide) lkX8_lessDamp_47 rfl dX8_lessDamp_1 ?_
  refine SW.if_gt (tgt := 9) C dX8_lessDamp_4 (by decide) (fun hc => ?_) (fun hc => ?_)
  · replace h := h.1 hc
    refine SW.aload_n C dX8_lessDamp_9 rfl 0 rfl ?_
    refine SW.dup C dX8_lessDamp_10 rfl ?_
    refine SW.get (v := .int (oS 0 4)) (T := TX8) (N := 13) C inX8_lessDamp_X8 0 rfl rfl 4 (by decide) lkX8_lessDamp_47 rfl dX8_lessDamp_11 ?_
    refine SW.iconst (v := (1 : Int32)) C dX8_lessDamp_14 (by decide) ?_
    refine SW.isub C dX8_lessDamp_15 ?_
    refine SW.put (ws' := w8 cI cZ qS (pf oS 4 ((oS 0 4) - (1 : Int32)))) (T := TX8) (N := 13) C inX8_lessDamp_X8 tyX8 tyX8_ok nmX8 0 rfl rfl 4 (by decide) lkX8_lessDamp_47 rfl rfl rfl (Nat.le_of_ble_eq_true rfl) rfl dX8_lessDamp_16 ?_
    refine SW.iconst (v := (0 : Int32)) C dX8_lessDamp_19 (by decide) ?_
    exact SW.iret C (pf oS 4 ((oS 0 4) - (1 : Int32))) rfl h dX8_lessDamp_20
  · replace h := h.2 hc
    refine SW.iconst (v := (2 : Int32)) C dX8_lessDamp_7 (by decide) ?_
    exact SW.iret C oS rfl h dX8_lessDamp_8
def wpX8_mostFingers (oS : Ob) (post : Int32 → Prop) : Prop := (((oS 0 0) = (2 : Int32)) → post (1 : Int32)) ∧ (¬ ((oS 0 0) = (2 : Int32)) → post ((oS 0 0) - (2 : Int32)))
theorem pdX8_mostFingers : yX8_mostFingers.cls = RX8 ∧ yX8_mostFingers.cls ≠ "java/lang/invoke/MethodHandle" ∧ yX8_mostFingers.cls ≠ "java/lang/invoke/VarHandle" ∧ (parseMethodDescriptor yX8_mostFingers.desc).map (fun d => d.parameters.length) = some 0 := by decide +kernel
theorem lkX8_mostFingers_41 : Cond.fieldLink RX8 41 (TX8 0).1 (TX8 0).2.1 (TX8 0).2.2.1 ∈ wsX8_mostFingers := by decide +kernel
theorem inX8_mostFingers_X8 : ∀ w ∈ u_ws RX8 TX8 13, w ∈ wsX8_mostFingers := by decide +kernel
set_option maxHeartbeats 4000000 in
set_option maxRecDepth 100000 in
theorem ctX8_mostFingers (l : Launch) (D : va_G) (cI cZ : ClassId) (qS : Nat → Nat) (oS : Ob) (post : Int32 → Prop) (h : wpX8_mostFingers oS post) : CTi l yX8_mostFingers wsX8_mostFingers { frames := 0, cells := 0, slots := 0, locals := 0 } D [(cI, .int), (cZ, .boolean)] [.ref (qS 0)] (w8 cI cZ qS oS) (fun _ : Unit => w8 cI cZ qS oS) (fun (r : Int32) (_ : Unit) => post r) := by
  refine CTi.of (cc := cX8_mostFingers) (own := RX8) (maxL := 1) (ret := (some .int)) (lv0 := [(0, .ref (qS 0))]) (by decide) rfl rfl (Nat.le_of_ble_eq_true rfl) rfl ?_
  intro p e s m args below meth c A C
  unfold wpX8_mostFingers at h
  refine SW.aload_n C dX8_mostFingers_0 rfl 0 rfl ?_
  refine SW.get (v := .int (oS 0 0)) (T := TX8) (N := 13) C inX8_mostFingers_X8 0 rfl rfl 0 (by decide) lkX8_mostFingers_41 rfl dX8_mostFingers_1 ?_
  refine SW.iconst (v := (2 : Int32)) C dX8_mostFingers_4 (by decide) ?_
  refine SW.icmp_ne (tgt := 12) C dX8_mostFingers_5 (by decide) (fun hc => ?_) (fun hc => ?_)
  · replace h := h.2 hc
    refine SW.aload_n C dX8_mostFingers_12 rfl 0 rfl ?_
    refine SW.get (v := .int (oS 0 0)) (T := TX8) (N := 13) C inX8_mostFingers_X8 0 rfl rfl 0 (by decide) lkX8_mostFingers_41 rfl dX8_mostFingers_13 ?_
    refine SW.iconst (v := (2 : Int32)) C dX8_mostFingers_16 (by decide) ?_
    refine SW.isub C dX8_mostFingers_17 ?_
    exact SW.iret C () rfl h dX8_mostFingers_18
  · replace h := h.1 hc
    refine SW.iconst (v := (1 : Int32)) C dX8_mostFingers_8 (by decide) ?_
    refine SW.goto (tgt := 18) C dX8_mostFingers_9 (by decide) ?_
    exact SW.iret C () rfl h dX8_mostFingers_18
def wpX8_allows (oS : Ob) (v1 : Int32) (post : Int32 → Prop) : Prop := wpJ6_bitCount_0f7a4 v1 (fun (r1 : Int32) => wpX8_mostFingers oS (fun (r5 : Int32) => ((r5 < r1) → post (0 : Int32)) ∧ (¬ (r5 < r1) → post (1 : Int32))))
theorem pdX8_allows : yX8_allows.cls = RX8 ∧ yX8_allows.cls ≠ "java/lang/invoke/MethodHandle" ∧ yX8_allows.cls ≠ "java/lang/invoke/VarHandle" ∧ (parseMethodDescriptor yX8_allows.desc).map (fun d => d.parameters.length) = some 1 := by decide +kernel
set_option maxHeartbeats 4000000 in
set_option maxRecDepth 100000 in
theorem ctX8_allows (l : Launch) (D : va_G) (cI cZ : ClassId) (qS : Nat → Nat) (oS : Ob) (v1 : Int32) (post : Int32 → Prop) (h : wpX8_allows oS v1 post) : CTi l yX8_allows wsX8_allows { frames := 1, cells := 0, slots := 0, locals := 20 } D [(cI, .int), (cZ, .boolean)] [.ref (qS 0), .int v1] (w8 cI cZ qS oS) (fun _ : Unit => w8 cI cZ qS oS) (fun (r : Int32) (_ : Unit) => post r) := by
  refine CTi.of (cc := cX8_allows) (own := RX8) (maxL := 2) (ret := (some .boolean)) (lv0 := [(0, .ref (qS 0)), (1, .int v1)]) (by decide) rfl rfl (Nat.le_of_ble_eq_true rfl) rfl ?_
  intro p e s m args below meth c A C
  unfold wpX8_allows at h
  refine SW.iload_n C dX8_allows_0 rfl 1 rfl ?_
  refine SW.callSi_pure C (ctJ6_bitCount_0f7a4 l D cI cZ v1 _ h) gX8_allows_J6_bitCount_0f7a4 rfl rfl rfl pdJ6_bitCount_0f7a4 ⟨by decide, by decide⟩ rfl rfl (Nat.le_of_ble_eq_true rfl) dX8_allows_1 (by decide) (fun r1 u h => ?_)
  try dsimp only at h
  refine SW.aload_n C dX8_allows_4 rfl 0 rfl ?_
  refine SW.callVi_same C (ctX8_mostFingers l D cI cZ qS oS _ h) gX8_allows_X8_mostFingers rfl rfl rfl pdX8_mostFingers ⟨by decide, by decide⟩ 0 rfl rfl rfl rfl rfl (Nat.le_of_ble_eq_true rfl) dX8_allows_5 (by decide) (fun r5 u h => ?_)
  try dsimp only at h
  refine SW.icmp_gt (tgt := 15) C dX8_allows_8 (by decide) (fun hc => ?_) (fun hc => ?_)
  · replace h := h.1 hc
    refine SW.iconst (v := (0 : Int32)) C dX8_allows_15 (by decide) ?_
    exact SW.zret C () (by decide) rfl h dX8_allows_16
  · replace h := h.2 hc
    refine SW.iconst (v := (1 : Int32)) C dX8_allows_11 (by decide) ?_
    refine SW.goto (tgt := 16) C dX8_allows_12 (by decide) ?_
    exact SW.zret C () (by decide) rfl h dX8_allows_16
def wpX8_touch (oS : Ob) (v1 : Int32) (post : Int32 → Ob → Prop) : Prop := wpX8_allows oS ((oS 0 5) ^^^ (jshl (1 : Int32) v1)) (fun (r11 : Int32) => ((r11 = 0) → post (3 : Int32) oS) ∧ (¬ (r11 = 0) → post (0 : Int32) (pf oS 5 ((oS 0 5) ^^^ (jshl (1 : Int32) v1)))))
theorem pdX8_touch : yX8_touch.cls = RX8 ∧ yX8_touch.cls ≠ "java/lang/invoke/MethodHandle" ∧ yX8_touch.cls ≠ "java/lang/invoke/VarHandle" ∧ (parseMethodDescriptor yX8_touch.desc).map (fun d => d.parameters.length) = some 1 := by decide +kernel
theorem lkX8_touch_50 : Cond.fieldLink RX8 50 (TX8 5).1 (TX8 5).2.1 (TX8 5).2.2.1 ∈ wsX8_touch := by decide +kernel
theorem inX8_touch_X8 : ∀ w ∈ u_ws RX8 TX8 13, w ∈ wsX8_touch := by decide +kernel
set_option maxHeartbeats 4000000 in
set_option maxRecDepth 100000 in
theorem ctX8_touch (l : Launch) (D : va_G) (cI cZ : ClassId) (qS : Nat → Nat) (oS : Ob) (v1 : Int32) (post : Int32 → Ob → Prop) (h : wpX8_touch oS v1 post) : CTi l yX8_touch wsX8_touch { frames := 2, cells := 0, slots := 0, locals := 41 } D [(cI, .int), (cZ, .boolean)] [.ref (qS 0), .int v1] (w8 cI cZ qS oS) (fun u : Ob => w8 cI cZ qS u) (fun (r : Int32) (u : Ob) => post r u) := by
  refine CTi.of (cc := cX8_touch) (own := RX8) (maxL := 3) (ret := (some .int)) (lv0 := [(0, .ref (qS 0)), (1, .int v1)]) (by decide) rfl rfl (Nat.le_of_ble_eq_true rfl) rfl ?_
  intro p e s m args below meth c A C
  unfold wpX8_touch at h
  refine SW.aload_n C dX8_touch_0 rfl 0 rfl ?_
  refine SW.get (v := .int (oS 0 5)) (T := TX8) (N := 13) C inX8_touch_X8 0 rfl rfl 5 (by decide) lkX8_touch_50 rfl dX8_touch_1 ?_
  refine SW.iconst (v := (1 : Int32)) C dX8_touch_4 (by decide) ?_
  refine SW.iload_n C dX8_touch_5 rfl 1 rfl ?_
  refine SW.ishl C dX8_touch_6 ?_
  refine SW.ixor C dX8_touch_7 ?_
  refine SW.istore_n (lv' := [(2, .int ((oS 0 5) ^^^ (jshl (1 : Int32) v1))), (0, .ref (qS 0)), (1, .int v1)]) C dX8_touch_8 rfl (by decide) rfl ?_
  refine SW.aload_n C dX8_touch_9 rfl 1 rfl ?_
  refine SW.iload_n C dX8_touch_10 rfl 0 rfl ?_
  refine SW.callVi_same C (ctX8_allows l D cI cZ qS oS ((oS 0 5) ^^^ (jshl (1 : Int32) v1)) _ h) gX8_touch_X8_allows rfl rfl rfl pdX8_allows ⟨by decide, by decide⟩ 0 rfl rfl rfl rfl rfl (Nat.le_of_ble_eq_true rfl) dX8_touch_11 (by decide) (fun r11 u h => ?_)
  try dsimp only at h
  refine SW.if_ne (tgt := 19) C dX8_touch_14 (by decide) (fun hc => ?_) (fun hc => ?_)
  · replace h := h.2 hc
    refine SW.aload_n C dX8_touch_19 rfl 1 rfl ?_
    refine SW.iload_n C dX8_touch_20 rfl 0 rfl ?_
    refine SW.put (ws' := w8 cI cZ qS (pf oS 5 ((oS 0 5) ^^^ (jshl (1 : Int32) v1)))) (T := TX8) (N := 13) C inX8_touch_X8 tyX8 tyX8_ok nmX8 0 rfl rfl 5 (by decide) lkX8_touch_50 rfl rfl rfl (Nat.le_of_ble_eq_true rfl) rfl dX8_touch_21 ?_
    refine SW.iconst (v := (0 : Int32)) C dX8_touch_24 (by decide) ?_
    exact SW.iret C (pf oS 5 ((oS 0 5) ^^^ (jshl (1 : Int32) v1))) rfl h dX8_touch_25
  · replace h := h.1 hc
    refine SW.iconst (v := (3 : Int32)) C dX8_touch_17 (by decide) ?_
    exact SW.iret C oS rfl h dX8_touch_18
def wpX8_agreesWithSights_L2 (c1_2 : Int32) (oSc_2 : Ob) (post : Int32 → Prop) (K44 : Prop) : Nat → Int32 → Prop
  | 0, _ => False
  | fu2 + 1, v2_2 => (((oSc_2 0 6) ≤ v2_2) → K44) ∧ (¬ ((oSc_2 0 6) ≤ v2_2) → (((8 : Int32) ≤ v2_2) → K44) ∧ (¬ ((8 : Int32) ≤ v2_2) → (vp_in v2_2 8) ∧ (wpX8_lengthAt oSc_2 (jld (oSc_2 3) v2_2) c1_2 (fun (r24 : Int32) => (vp_in v2_2 8) ∧ (((r24 = (jld (oSc_2 4) v2_2)) → wpX8_agreesWithSights_L2 c1_2 oSc_2 post K44 fu2 (v2_2 + (1 : Int32))) ∧ (¬ (r24 = (jld (oSc_2 4) v2_2)) → post (0 : Int32)))))))
def wpX8_agreesWithSights (oS : Ob) (v1 : Int32) (post : Int32 → Prop) : Prop := ∃ fu2 : Nat, wpX8_agreesWithSights_L2 v1 oS post (post (1 : Int32)) fu2 (0 : Int32)
theorem pdX8_agreesWithSights : yX8_agreesWithSights.cls = RX8 ∧ yX8_agreesWithSights.cls ≠ "java/lang/invoke/MethodHandle" ∧ yX8_agreesWithSights.cls ≠ "java/lang/invoke/VarHandle" ∧ (parseMethodDescriptor yX8_agreesWithSights.desc).map (fun d => d.parameters.length) = some 1 := by decide +kernel
theorem lkX8_agreesWithSights_53 : Cond.fieldLink RX8 53 (TX8 6).1 (TX8 6).2.1 (TX8 6).2.2.1 ∈ wsX8_agreesWithSights := by decide +kernel
theorem inX8_agreesWithSights_X8 : ∀ w ∈ u_ws RX8 TX8 13, w ∈ wsX8_agreesWithSights := by decide +kernel
theorem lkX8_agreesWithSights_25 : Cond.fieldLink RX8 25 (TX8 9).1 (TX8 9).2.1 (TX8 9).2.2.1 ∈ wsX8_agreesWithSights := by decide +kernel
theorem lkX8_agreesWithSights_28 : Cond.fieldLink RX8 28 (TX8 10).1 (TX8 10).2.1 (TX8 10).2.2.1 ∈ wsX8_agreesWithSights := by decide +kernel
set_option maxHeartbeats 4000000 in
set_option maxRecDepth 100000 in
theorem ctX8_agreesWithSights (l : Launch) (D : va_G) (cI cZ : ClassId) (qS : Nat → Nat) (oS : Ob) (v1 : Int32) (post : Int32 → Prop) (h : wpX8_agreesWithSights oS v1 post) : CTi l yX8_agreesWithSights wsX8_agreesWithSights { frames := 3, cells := 0, slots := 0, locals := 66 } D [(cI, .int), (cZ, .boolean)] [.ref (qS 0), .int v1] (w8 cI cZ qS oS) (fun _ : Unit => w8 cI cZ qS oS) (fun (r : Int32) (_ : Unit) => post r) := by
  refine CTi.of (cc := cX8_agreesWithSights) (own := RX8) (maxL := 3) (ret := (some .boolean)) (lv0 := [(0, .ref (qS 0)), (1, .int v1)]) (by decide) rfl rfl (Nat.le_of_ble_eq_true rfl) rfl ?_
  intro p e s m args below meth c A C
  unfold wpX8_agreesWithSights at h
  refine SW.iconst (v := (0 : Int32)) C dX8_agreesWithSights_0 (by decide) ?_
  refine SW.istore_n (lv' := [(2, .int (0 : Int32)), (0, .ref (qS 0)), (1, .int v1)]) C dX8_agreesWithSights_1 rfl (by decide) rfl ?_
  have L2 : ∀ (K44 : Prop) (hK44 : K44 → SW p l e { frames := 3, cells := 0, slots := 0, locals := 66 } s m args below meth c A D 3 0 0 (MQ below (va_Qi (fun (r : Int32) (_ : Unit) => post r) (ctB D A (fun _ : Unit => w8 cI cZ qS oS)) A) args s 0 0 A) (w8 cI cZ qS oS) 44 [] []) (fu : Nat) (v2_2 : Int32), wpX8_agreesWithSights_L2 v1 oS post K44 fu v2_2 → SW p l e { frames := 3, cells := 0, slots := 0, locals := 66 } s m args below meth c A D 3 0 0 (MQ below (va_Qi (fun (r : Int32) (_ : Unit) => post r) (ctB D A (fun _ : Unit => w8 cI cZ qS oS)) A) args s 0 0 A) (w8 cI cZ qS oS) 2 [(0, .ref (qS 0)), (1, .int v1), (2, .int v2_2)] [] := by
    intro K44 hK44 fu
    induction fu with
    | zero =>
      intro v2_2 h
      exact False.elim h
    | succ fu ih =>
      intro v2_2 h
      unfold wpX8_agreesWithSights_L2 at h
      refine SW.iload_n C dX8_agreesWithSights_2 rfl 2 rfl ?_
      refine SW.aload_n C dX8_agreesWithSights_3 rfl 0 rfl ?_
      refine SW.get (v := .int (oS 0 6)) (T := TX8) (N := 13) C inX8_agreesWithSights_X8 0 rfl rfl 6 (by decide) lkX8_agreesWithSights_53 rfl dX8_agreesWithSights_4 ?_
      refine SW.icmp_ge (tgt := 44) C dX8_agreesWithSights_7 (by decide) (fun hc => ?_) (fun hc => ?_)
      · replace h := h.1 hc
        refine SW.sub [] rfl ?_
        exact hK44 h
      · replace h := h.2 hc
        refine SW.iload_n C dX8_agreesWithSights_10 rfl 2 rfl ?_
        refine SW.bipush (v := (8 : Int32)) C dX8_agreesWithSights_11 (by decide) ?_
        refine SW.icmp_ge (tgt := 44) C dX8_agreesWithSights_13 (by decide) (fun hc => ?_) (fun hc => ?_)
        · replace h := h.1 hc
          refine SW.sub [] rfl ?_
          exact hK44 h
        · replace h := h.2 hc
          refine SW.aload_n C dX8_agreesWithSights_16 rfl 0 rfl ?_
          refine SW.aload_n C dX8_agreesWithSights_17 rfl 0 rfl ?_
          refine SW.get (v := .ref (qS 3)) (T := TX8) (N := 13) C inX8_agreesWithSights_X8 0 rfl rfl 9 (by decide) lkX8_agreesWithSights_25 rfl dX8_agreesWithSights_18 ?_
          refine SW.iload_n C dX8_agreesWithSights_21 rfl 2 rfl ?_
          refine SW.iald C 3 0 rfl rfl h.1 dX8_agreesWithSights_22 ?_
          replace h := h.2
          refine SW.iload_n C dX8_agreesWithSights_23 rfl 1 rfl ?_
          refine SW.callVi_same C (ctX8_lengthAt l D cI cZ qS oS (jld (oS 3) v2_2) v1 _ h) gX8_agreesWithSights_X8_lengthAt rfl rfl rfl pdX8_lengthAt ⟨by decide, by decide⟩ 0 rfl rfl rfl rfl rfl (Nat.le_of_ble_eq_true rfl) dX8_agreesWithSights_24 (by decide) (fun r24 u h => ?_)
          try dsimp only at h
          refine SW.aload_n C dX8_agreesWithSights_27 rfl 0 rfl ?_
          refine SW.get (v := .ref (qS 4)) (T := TX8) (N := 13) C inX8_agreesWithSights_X8 0 rfl rfl 10 (by decide) lkX8_agreesWithSights_28 rfl dX8_agreesWithSights_28 ?_
          refine SW.iload_n C dX8_agreesWithSights_31 rfl 2 rfl ?_
          refine SW.iald C 4 0 rfl rfl h.1 dX8_agreesWithSights_32 ?_
          replace h := h.2
          refine SW.icmp_eq (tgt := 38) C dX8_agreesWithSights_33 (by decide) (fun hc => ?_) (fun hc => ?_)
          · replace h := h.1 hc
            refine SW.iinc (q := 2) (v := (v2_2 + (1 : Int32))) (lv' := [(2, .int (v2_2 + (1 : Int32))), (0, .ref (qS 0)), (1, .int v1)]) C dX8_agreesWithSights_38 rfl rfl (by decide) rfl ?_
            refine SW.goto (tgt := 2) C dX8_agreesWithSights_41 (by decide) ?_
            refine SW.sub [1, 2, 0] rfl ?_
            exact ih _ h
          · replace h := h.2 hc
            refine SW.iconst (v := (0 : Int32)) C dX8_agreesWithSights_36 (by decide) ?_
            exact SW.zret C () (by decide) rfl h dX8_agreesWithSights_37
  obtain ⟨fu, h⟩ := h
  refine SW.sub [1, 2, 0] rfl ?_
  refine L2 _ (fun h => ?_) fu _ h
  · refine SW.iconst (v := (1 : Int32)) C dX8_agreesWithSights_44 (by decide) ?_
    exact SW.zret C () (by decide) rfl h dX8_agreesWithSights_45
def wpX8_isSeen_L2 (c1_2 : Int32) (oSc_2 : Ob) (post : Int32 → Prop) (K34 : Prop) : Nat → Int32 → Prop
  | 0, _ => False
  | fu2 + 1, v2_2 => (((oSc_2 0 6) ≤ v2_2) → K34) ∧ (¬ ((oSc_2 0 6) ≤ v2_2) → (((8 : Int32) ≤ v2_2) → K34) ∧ (¬ ((8 : Int32) ≤ v2_2) → (vp_in v2_2 8) ∧ ((((jld (oSc_2 3) v2_2) = c1_2) → post (1 : Int32)) ∧ (¬ ((jld (oSc_2 3) v2_2) = c1_2) → wpX8_isSeen_L2 c1_2 oSc_2 post K34 fu2 (v2_2 + (1 : Int32))))))
def wpX8_isSeen (oS : Ob) (v1 : Int32) (post : Int32 → Prop) : Prop := ∃ fu2 : Nat, wpX8_isSeen_L2 v1 oS post (post (0 : Int32)) fu2 (0 : Int32)
theorem pdX8_isSeen : yX8_isSeen.cls = RX8 ∧ yX8_isSeen.cls ≠ "java/lang/invoke/MethodHandle" ∧ yX8_isSeen.cls ≠ "java/lang/invoke/VarHandle" ∧ (parseMethodDescriptor yX8_isSeen.desc).map (fun d => d.parameters.length) = some 1 := by decide +kernel
theorem lkX8_isSeen_53 : Cond.fieldLink RX8 53 (TX8 6).1 (TX8 6).2.1 (TX8 6).2.2.1 ∈ wsX8_isSeen := by decide +kernel
theorem inX8_isSeen_X8 : ∀ w ∈ u_ws RX8 TX8 13, w ∈ wsX8_isSeen := by decide +kernel
theorem lkX8_isSeen_25 : Cond.fieldLink RX8 25 (TX8 9).1 (TX8 9).2.1 (TX8 9).2.2.1 ∈ wsX8_isSeen := by decide +kernel
set_option maxHeartbeats 4000000 in
set_option maxRecDepth 100000 in
theorem ctX8_isSeen (l : Launch) (D : va_G) (cI cZ : ClassId) (qS : Nat → Nat) (oS : Ob) (v1 : Int32) (post : Int32 → Prop) (h : wpX8_isSeen oS v1 post) : CTi l yX8_isSeen wsX8_isSeen { frames := 0, cells := 0, slots := 0, locals := 0 } D [(cI, .int), (cZ, .boolean)] [.ref (qS 0), .int v1] (w8 cI cZ qS oS) (fun _ : Unit => w8 cI cZ qS oS) (fun (r : Int32) (_ : Unit) => post r) := by
  refine CTi.of (cc := cX8_isSeen) (own := RX8) (maxL := 3) (ret := (some .boolean)) (lv0 := [(0, .ref (qS 0)), (1, .int v1)]) (by decide) rfl rfl (Nat.le_of_ble_eq_true rfl) rfl ?_
  intro p e s m args below meth c A C
  unfold wpX8_isSeen at h
  refine SW.iconst (v := (0 : Int32)) C dX8_isSeen_0 (by decide) ?_
  refine SW.istore_n (lv' := [(2, .int (0 : Int32)), (0, .ref (qS 0)), (1, .int v1)]) C dX8_isSeen_1 rfl (by decide) rfl ?_
  have L2 : ∀ (K34 : Prop) (hK34 : K34 → SW p l e { frames := 0, cells := 0, slots := 0, locals := 0 } s m args below meth c A D 3 0 0 (MQ below (va_Qi (fun (r : Int32) (_ : Unit) => post r) (ctB D A (fun _ : Unit => w8 cI cZ qS oS)) A) args s 0 0 A) (w8 cI cZ qS oS) 34 [] []) (fu : Nat) (v2_2 : Int32), wpX8_isSeen_L2 v1 oS post K34 fu v2_2 → SW p l e { frames := 0, cells := 0, slots := 0, locals := 0 } s m args below meth c A D 3 0 0 (MQ below (va_Qi (fun (r : Int32) (_ : Unit) => post r) (ctB D A (fun _ : Unit => w8 cI cZ qS oS)) A) args s 0 0 A) (w8 cI cZ qS oS) 2 [(0, .ref (qS 0)), (1, .int v1), (2, .int v2_2)] [] := by
    intro K34 hK34 fu
    induction fu with
    | zero =>
      intro v2_2 h
      exact False.elim h
    | succ fu ih =>
      intro v2_2 h
      unfold wpX8_isSeen_L2 at h
      refine SW.iload_n C dX8_isSeen_2 rfl 2 rfl ?_
      refine SW.aload_n C dX8_isSeen_3 rfl 0 rfl ?_
      refine SW.get (v := .int (oS 0 6)) (T := TX8) (N := 13) C inX8_isSeen_X8 0 rfl rfl 6 (by decide) lkX8_isSeen_53 rfl dX8_isSeen_4 ?_
      refine SW.icmp_ge (tgt := 34) C dX8_isSeen_7 (by decide) (fun hc => ?_) (fun hc => ?_)
      · replace h := h.1 hc
        refine SW.sub [] rfl ?_
        exact hK34 h
      · replace h := h.2 hc
        refine SW.iload_n C dX8_isSeen_10 rfl 2 rfl ?_
        refine SW.bipush (v := (8 : Int32)) C dX8_isSeen_11 (by decide) ?_
        refine SW.icmp_ge (tgt := 34) C dX8_isSeen_13 (by decide) (fun hc => ?_) (fun hc => ?_)
        · replace h := h.1 hc
          refine SW.sub [] rfl ?_
          exact hK34 h
        · replace h := h.2 hc
          refine SW.aload_n C dX8_isSeen_16 rfl 0 rfl ?_
          refine SW.get (v := .ref (qS 3)) (T := TX8) (N := 13) C inX8_isSeen_X8 0 rfl rfl 9 (by decide) lkX8_isSeen_25 rfl dX8_isSeen_17 ?_
          refine SW.iload_n C dX8_isSeen_20 rfl 2 rfl ?_
          refine SW.iald C 3 0 rfl rfl h.1 dX8_isSeen_21 ?_
          replace h := h.2
          refine SW.iload_n C dX8_isSeen_22 rfl 1 rfl ?_
          refine SW.icmp_ne (tgt := 28) C dX8_isSeen_23 (by decide) (fun hc => ?_) (fun hc => ?_)
          · replace h := h.2 hc
            refine SW.iinc (q := 2) (v := (v2_2 + (1 : Int32))) (lv' := [(2, .int (v2_2 + (1 : Int32))), (0, .ref (qS 0)), (1, .int v1)]) C dX8_isSeen_28 rfl rfl (by decide) rfl ?_
            refine SW.goto (tgt := 2) C dX8_isSeen_31 (by decide) ?_
            refine SW.sub [1, 2, 0] rfl ?_
            exact ih _ h
          · replace h := h.1 hc
            refine SW.iconst (v := (1 : Int32)) C dX8_isSeen_26 (by decide) ?_
            exact SW.zret C () (by decide) rfl h dX8_isSeen_27
  obtain ⟨fu, h⟩ := h
  refine SW.sub [1, 2, 0] rfl ?_
  refine L2 _ (fun h => ?_) fu _ h
  · refine SW.iconst (v := (0 : Int32)) C dX8_isSeen_34 (by decide) ?_
    exact SW.zret C () (by decide) rfl h dX8_isSeen_35
def wpX8_addSight (oS : Ob) (v1 : Int32) (v2 : Int32) (post : Int32 → Ob → Prop) : Prop := (((oS 0 6) < 0) → post (0 : Int32) oS) ∧ (¬ ((oS 0 6) < 0) → (((oS 0 6) < (8 : Int32)) → (vp_in (oS 0 6) 8) ∧ (∀ oS_37n : Ob, oS_37n = (pa oS 3 (nC (oS 0 6)) v1) → ((vp_in (oS 0 6) 8) ∧ (∀ oS_45n : Ob, oS_45n = (pa oS_37n 4 (nC (oS 0 6)) v2) → (post (1 : Int32) (pf oS_45n 6 ((oS_37n 0 6) + (1 : Int32)))))))) ∧ (¬ ((oS 0 6) < (8 : Int32)) → post (0 : Int32) oS))
theorem pdX8_addSight : yX8_addSight.cls = RX8 ∧ yX8_addSight.cls ≠ "java/lang/invoke/MethodHandle" ∧ yX8_addSight.cls ≠ "java/lang/invoke/VarHandle" ∧ (parseMethodDescriptor yX8_addSight.desc).map (fun d => d.parameters.length) = some 2 := by decide +kernel
theorem lkX8_addSight_53 : Cond.fieldLink RX8 53 (TX8 6).1 (TX8 6).2.1 (TX8 6).2.2.1 ∈ wsX8_addSight := by decide +kernel
theorem inX8_addSight_X8 : ∀ w ∈ u_ws RX8 TX8 13, w ∈ wsX8_addSight := by decide +kernel
theorem lkX8_addSight_25 : Cond.fieldLink RX8 25 (TX8 9).1 (TX8 9).2.1 (TX8 9).2.2.1 ∈ wsX8_addSight := by decide +kernel
theorem lkX8_addSight_28 : Cond.fieldLink RX8 28 (TX8 10).1 (TX8 10).2.1 (TX8 10).2.2.1 ∈ wsX8_addSight := by decide +kernel
set_option maxHeartbeats 4000000 in
set_option maxRecDepth 100000 in
theorem ctX8_addSight (l : Launch) (D : va_G) (cI cZ : ClassId) (qS : Nat → Nat) (oS : Ob) (v1 : Int32) (v2 : Int32) (post : Int32 → Ob → Prop) (h : wpX8_addSight oS v1 v2 post) : CTi l yX8_addSight wsX8_addSight { frames := 0, cells := 0, slots := 0, locals := 0 } D [(cI, .int), (cZ, .boolean)] [.ref (qS 0), .int v1, .int v2] (w8 cI cZ qS oS) (fun u : Ob => w8 cI cZ qS u) (fun (r : Int32) (u : Ob) => post r u) := by
  refine CTi.of (cc := cX8_addSight) (own := RX8) (maxL := 3) (ret := (some .boolean)) (lv0 := [(0, .ref (qS 0)), (1, .int v1), (2, .int v2)]) (by decide) rfl rfl (Nat.le_of_ble_eq_true rfl) rfl ?_
  intro p e s m args below meth c A C
  unfold wpX8_addSight at h
  refine SW.aload_n C dX8_addSight_0 rfl 0 rfl ?_
  refine SW.get (v := .int (oS 0 6)) (T := TX8) (N := 13) C inX8_addSight_X8 0 rfl rfl 6 (by decide) lkX8_addSight_53 rfl dX8_addSight_1 ?_
  refine SW.if_lt (tgt := 16) C dX8_addSight_4 (by decide) (fun hc => ?_) (fun hc => ?_)
  · replace h := h.1 hc
    refine SW.iconst (v := (0 : Int32)) C dX8_addSight_16 (by decide) ?_
    exact SW.zret C oS (by decide) rfl h dX8_addSight_17
  · replace h := h.2 hc
    refine SW.aload_n C dX8_addSight_7 rfl 0 rfl ?_
    refine SW.get (v := .int (oS 0 6)) (T := TX8) (N := 13) C inX8_addSight_X8 0 rfl rfl 6 (by decide) lkX8_addSight_53 rfl dX8_addSight_8 ?_
    refine SW.bipush (v := (8 : Int32)) C dX8_addSight_11 (by decide) ?_
    refine SW.icmp_lt (tgt := 18) C dX8_addSight_13 (by decide) (fun hc => ?_) (fun hc => ?_)
    · replace h := h.1 hc
      refine SW.aload_n C dX8_addSight_18 rfl 0 rfl ?_
      refine SW.get (v := .ref (qS 3)) (T := TX8) (N := 13) C inX8_addSight_X8 0 rfl rfl 9 (by decide) lkX8_addSight_25 rfl dX8_addSight_19 ?_
      refine SW.aload_n C dX8_addSight_22 rfl 0 rfl ?_
      refine SW.get (v := .int (oS 0 6)) (T := TX8) (N := 13) C inX8_addSight_X8 0 rfl rfl 6 (by decide) lkX8_addSight_53 rfl dX8_addSight_23 ?_
      refine SW.iload_n C dX8_addSight_26 rfl 1 rfl ?_
      refine SW.iast (ws' := w8 cI cZ qS (pa oS 3 (nC (oS 0 6)) v1)) C 3 0 rfl rfl h.1 rfl dX8_addSight_27 ?_
      replace h := h.2
      refine SW.aload_n C dX8_addSight_28 rfl 0 rfl ?_
      refine SW.get (v := .ref (qS 4)) (T := TX8) (N := 13) C inX8_addSight_X8 0 rfl rfl 10 (by decide) lkX8_addSight_28 rfl dX8_addSight_29 ?_
      refine SW.aload_n C dX8_addSight_32 rfl 0 rfl ?_
      refine SW.get (v := .int (oS 0 6)) (T := TX8) (N := 13) C inX8_addSight_X8 0 rfl rfl 6 (by decide) lkX8_addSight_53 rfl dX8_addSight_33 ?_
      refine SW.iload_n C dX8_addSight_36 rfl 2 rfl ?_
      refine SW.nameOb (wz := fun z => w8 cI cZ qS z) (o := (pa oS 3 (nC (oS 0 6)) v1)) (fun oS_37n he => ?_)
      replace h := h oS_37n he
      refine SW.iast (ws' := w8 cI cZ qS (pa oS_37n 4 (nC (oS 0 6)) v2)) C 4 0 rfl rfl h.1 rfl dX8_addSight_37 ?_
      replace h := h.2
      refine SW.aload_n C dX8_addSight_38 rfl 0 rfl ?_
      refine SW.dup C dX8_addSight_39 rfl ?_
      refine SW.get (v := .int (oS_37n 0 6)) (T := TX8) (N := 13) C inX8_addSight_X8 0 rfl rfl 6 (by decide) lkX8_addSight_53 rfl dX8_addSight_40 ?_
      refine SW.iconst (v := (1 : Int32)) C dX8_addSight_43 (by decide) ?_
      refine SW.iadd C dX8_addSight_44 ?_
      refine SW.nameOb (wz := fun z => w8 cI cZ qS z) (o := (pa oS_37n 4 (nC (oS 0 6)) v2)) (fun oS_45n he => ?_)
      replace h := h oS_45n he
      refine SW.put (ws' := w8 cI cZ qS (pf oS_45n 6 ((oS_37n 0 6) + (1 : Int32)))) (T := TX8) (N := 13) C inX8_addSight_X8 tyX8 tyX8_ok nmX8 0 rfl rfl 6 (by decide) lkX8_addSight_53 rfl rfl rfl (Nat.le_of_ble_eq_true rfl) rfl dX8_addSight_45 ?_
      refine SW.iconst (v := (1 : Int32)) C dX8_addSight_48 (by decide) ?_
      exact SW.zret C (pf oS_45n 6 ((oS_37n 0 6) + (1 : Int32))) (by decide) rfl h dX8_addSight_49
    · replace h := h.2 hc
      refine SW.iconst (v := (0 : Int32)) C dX8_addSight_16 (by decide) ?_
      exact SW.zret C oS (by decide) rfl h dX8_addSight_17
def wpX8_worth (oS : Ob) (v1 : Int32) (post : Int32 → Prop) : Prop := post (((v1 / (10 : Int32)) * (10 : Int32)) - ((oS 0 3) * v1))
theorem pdX8_worth : yX8_worth.cls = RX8 ∧ yX8_worth.cls ≠ "java/lang/invoke/MethodHandle" ∧ yX8_worth.cls ≠ "java/lang/invoke/VarHandle" ∧ (parseMethodDescriptor yX8_worth.desc).map (fun d => d.parameters.length) = some 1 := by decide +kernel
theorem lkX8_worth_15 : Cond.fieldLink RX8 15 (TX8 3).1 (TX8 3).2.1 (TX8 3).2.2.1 ∈ wsX8_worth := by decide +kernel
theorem inX8_worth_X8 : ∀ w ∈ u_ws RX8 TX8 13, w ∈ wsX8_worth := by decide +kernel
set_option maxHeartbeats 4000000 in
set_option maxRecDepth 100000 in
theorem ctX8_worth (l : Launch) (D : va_G) (cI cZ : ClassId) (qS : Nat → Nat) (oS : Ob) (v1 : Int32) (post : Int32 → Prop) (h : wpX8_worth oS v1 post) : CTi l yX8_worth wsX8_worth { frames := 0, cells := 0, slots := 0, locals := 0 } D [(cI, .int), (cZ, .boolean)] [.ref (qS 0), .int v1] (w8 cI cZ qS oS) (fun _ : Unit => w8 cI cZ qS oS) (fun (r : Int32) (_ : Unit) => post r) := by
  refine CTi.of (cc := cX8_worth) (own := RX8) (maxL := 2) (ret := (some .int)) (lv0 := [(0, .ref (qS 0)), (1, .int v1)]) (by decide) rfl rfl (Nat.le_of_ble_eq_true rfl) rfl ?_
  intro p e s m args below meth c A C
  unfold wpX8_worth at h
  refine SW.iload_n C dX8_worth_0 rfl 1 rfl ?_
  refine SW.bipush (v := (10 : Int32)) C dX8_worth_1 (by decide) ?_
  refine SW.idiv C dX8_worth_3 (by decide) ?_
  refine SW.bipush (v := (10 : Int32)) C dX8_worth_4 (by decide) ?_
  refine SW.imul C dX8_worth_6 ?_
  refine SW.aload_n C dX8_worth_7 rfl 0 rfl ?_
  refine SW.get (v := .int (oS 0 3)) (T := TX8) (N := 13) C inX8_worth_X8 0 rfl rfl 3 (by decide) lkX8_worth_15 rfl dX8_worth_8 ?_
  refine SW.iload_n C dX8_worth_11 rfl 1 rfl ?_
  refine SW.imul C dX8_worth_12 ?_
  refine SW.isub C dX8_worth_13 ?_
  exact SW.iret C () rfl h dX8_worth_14
