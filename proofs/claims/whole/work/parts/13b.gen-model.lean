def wpX10_areTwo (oY : Ob) (v1 : Int32) (v2 : Int32) (post : Int32 → Prop) : Prop := wpX10_isWindow oY v1 (fun (r2 : Int32) => jn0 (post (0 : Int32)) (fun J25 => ((r2 = 0) → J25) ∧ (¬ (r2 = 0) → wpX10_isWindow oY v2 (fun (r10 : Int32) => ((r10 = 0) → J25) ∧ (¬ (r10 = 0) → ((v1 = v2) → J25) ∧ (¬ (v1 = v2) → post (1 : Int32)))))))
theorem pdX10_areTwo : yX10_areTwo.cls = RX10 ∧ yX10_areTwo.cls ≠ "java/lang/invoke/MethodHandle" ∧ yX10_areTwo.cls ≠ "java/lang/invoke/VarHandle" ∧ (parseMethodDescriptor yX10_areTwo.desc).map (fun d => d.parameters.length) = some 2 := by decide +kernel
set_option maxHeartbeats 4000000 in
set_option maxRecDepth 100000 in
theorem ctX10_areTwo (l : Launch) (D : va_G) (cI cZ : ClassId) (qY : Nat → Nat) (oY : Ob) (v1 : Int32) (v2 : Int32) (post : Int32 → Prop) (h : wpX10_areTwo oY v1 v2 post) : CTi l yX10_areTwo wsX10_areTwo { frames := 2, cells := 0, slots := 0, locals := 43 } D [(cI, .int), (cZ, .boolean)] [.ref (qY 0), .int v1, .int v2] (w10 cI cZ qY oY) (fun _ : Unit => w10 cI cZ qY oY) (fun (r : Int32) (_ : Unit) => post r) := by
  refine CTi.of (cc := cX10_areTwo) (own := RX10) (maxL := 3) (ret := (some .boolean)) (lv0 := [(0, .ref (qY 0)), (1, .int v1), (2, .int v2)]) (by decide) rfl rfl (Nat.le_of_ble_eq_true rfl) rfl ?_
  intro p e s m args below meth c A C
  unfold wpX10_areTwo at h
  refine SW.aload_n C dX10_areTwo_0 rfl 0 rfl ?_
  refine SW.iload_n C dX10_areTwo_1 rfl 1 rfl ?_
  refine SW.callVi_same C (ctX10_isWindow l D cI cZ qY oY v1 _ h) gX10_areTwo_X10_isWindow rfl rfl rfl pdX10_isWindow ⟨by decide, by decide⟩ 0 rfl rfl rfl rfl rfl (Nat.le_of_ble_eq_true rfl) dX10_areTwo_2 (by decide) (fun r2 u h => ?_)
  try dsimp only at h
  refine jn0_elim (G := SW p l e { frames := 2, cells := 0, slots := 0, locals := 43 } s m args below meth c A D 3 0 0 (MQ below (va_Qi (fun (r : Int32) (_ : Unit) => post r) (ctB D A (fun _ : Unit => w10 cI cZ qY oY)) A) args s 0 0 A) (w10 cI cZ qY oY) 25 [] []) h (fun h => ?_) (fun J25 hJ25 h => ?_)
  · refine SW.iconst (v := (0 : Int32)) C dX10_areTwo_25 (by decide) ?_
    exact SW.zret C () (by decide) rfl h dX10_areTwo_26
  · refine SW.if_eq (tgt := 25) C dX10_areTwo_5 (by decide) (fun hc => ?_) (fun hc => ?_)
    · replace h := h.1 hc
      refine SW.sub [] rfl ?_
      exact hJ25 h
    · replace h := h.2 hc
      refine SW.aload_n C dX10_areTwo_8 rfl 0 rfl ?_
      refine SW.iload_n C dX10_areTwo_9 rfl 2 rfl ?_
      refine SW.callVi_same C (ctX10_isWindow l D cI cZ qY oY v2 _ h) gX10_areTwo_X10_isWindow rfl rfl rfl pdX10_isWindow ⟨by decide, by decide⟩ 0 rfl rfl rfl rfl rfl (Nat.le_of_ble_eq_true rfl) dX10_areTwo_10 (by decide) (fun r10 u h => ?_)
      try dsimp only at h
      refine SW.if_eq (tgt := 25) C dX10_areTwo_13 (by decide) (fun hc => ?_) (fun hc => ?_)
      · replace h := h.1 hc
        refine SW.sub [] rfl ?_
        exact hJ25 h
      · replace h := h.2 hc
        refine SW.iload_n C dX10_areTwo_16 rfl 1 rfl ?_
        refine SW.iload_n C dX10_areTwo_17 rfl 2 rfl ?_
        refine SW.icmp_eq (tgt := 25) C dX10_areTwo_18 (by decide) (fun hc => ?_) (fun hc => ?_)
        · replace h := h.1 hc
          refine SW.sub [] rfl ?_
          exact hJ25 h
        · replace h := h.2 hc
          refine SW.iconst (v := (1 : Int32)) C dX10_areTwo_21 (by decide) ?_
          refine SW.goto (tgt := 26) C dX10_areTwo_22 (by decide) ?_
          exact SW.zret C () (by decide) rfl h dX10_areTwo_26
def wpX10_interval (oY : Ob) (v1 : Int32) (v2 : Int32) (v3 : Int32) (post : Int64 → Prop) : Prop := wpX10_areTwo oY v1 v2 (fun (r3 : Int32) => ((r3 = 0) → post (-1000000000000000001 : Int64)) ∧ (¬ (r3 = 0) → wpX10_in v3 (0 : Int32) (1 : Int32) (fun (r16 : Int32) => ((r16 = 0) → post (-1000000000000000002 : Int64)) ∧ (¬ (r16 = 0) → wpX10_lengthOf oY v1 (oY 0 6) (oY 0 5) (fun (r36 : Int32) => wpX10_lengthOf oY v2 (oY 0 6) (oY 0 5) (fun (r51 : Int32) => wpX10_divisor r36 r51 (fun (r60 : Int32) => jn1 (fun (p0_79 : Int32) => ((v3 = 0) → (¬ r60 = 0) ∧ (post (Int32.toInt64 (p0_79 / r60)))) ∧ (¬ (v3 = 0) → (¬ r60 = 0) ∧ (post (Int32.toInt64 (((r36 + r51) - p0_79) / r60))))) (fun J79 => ((r36 ≤ r51) → J79 r51) ∧ (¬ (r36 ≤ r51) → J79 r36)))))))))
theorem pdX10_interval : yX10_interval.cls = RX10 ∧ yX10_interval.cls ≠ "java/lang/invoke/MethodHandle" ∧ yX10_interval.cls ≠ "java/lang/invoke/VarHandle" ∧ (parseMethodDescriptor yX10_interval.desc).map (fun d => d.parameters.length) = some 3 := by decide +kernel
theorem lkX10_interval_63 : Cond.fieldLink RX10 63 (TX10 6).1 (TX10 6).2.1 (TX10 6).2.2.1 ∈ wsX10_interval := by decide +kernel
theorem inX10_interval_X10 : ∀ w ∈ u_ws RX10 TX10 25, w ∈ wsX10_interval := by decide +kernel
theorem lkX10_interval_60 : Cond.fieldLink RX10 60 (TX10 5).1 (TX10 5).2.1 (TX10 5).2.2.1 ∈ wsX10_interval := by decide +kernel
set_option maxHeartbeats 4000000 in
set_option maxRecDepth 100000 in
theorem ctX10_interval (l : Launch) (D : va_G) (cI cZ : ClassId) (qY : Nat → Nat) (oY : Ob) (v1 : Int32) (v2 : Int32) (v3 : Int32) (post : Int64 → Prop) (h : wpX10_interval oY v1 v2 v3 post) : CTl l yX10_interval wsX10_interval { frames := 3, cells := 0, slots := 0, locals := 65 } D [(cI, .int), (cZ, .boolean)] [.ref (qY 0), .int v1, .int v2, .int v3] (w10 cI cZ qY oY) (fun _ : Unit => w10 cI cZ qY oY) (fun (r : Int64) (_ : Unit) => post r) := by
  refine CTl.of (cc := cX10_interval) (own := RX10) (maxL := 8) (ret := (some .long)) (lv0 := [(0, .ref (qY 0)), (1, .int v1), (2, .int v2), (3, .int v3)]) (by decide) rfl rfl (Nat.le_of_ble_eq_true rfl) rfl ?_
  intro p e s m args below meth c A C
  unfold wpX10_interval at h
  refine SW.aload_n C dX10_interval_0 rfl 0 rfl ?_
  refine SW.iload_n C dX10_interval_1 rfl 1 rfl ?_
  refine SW.iload_n C dX10_interval_2 rfl 2 rfl ?_
  refine SW.callVi_same C (ctX10_areTwo l D cI cZ qY oY v1 v2 _ h) gX10_interval_X10_areTwo rfl rfl rfl pdX10_areTwo ⟨by decide, by decide⟩ 0 rfl rfl rfl rfl rfl (Nat.le_of_ble_eq_true rfl) dX10_interval_3 (by decide) (fun r3 u h => ?_)
  try dsimp only at h
  refine SW.if_ne (tgt := 13) C dX10_interval_6 (by decide) (fun hc => ?_) (fun hc => ?_)
  · replace h := h.2 hc
    refine SW.iload_n C dX10_interval_13 rfl 3 rfl ?_
    refine SW.iconst (v := (0 : Int32)) C dX10_interval_14 (by decide) ?_
    refine SW.iconst (v := (1 : Int32)) C dX10_interval_15 (by decide) ?_
    refine SW.callSi_pure C (ctX10_in l D cI cZ v3 (0 : Int32) (1 : Int32) _ h) gX10_interval_X10_in rfl rfl rfl pdX10_in ⟨by decide, by decide⟩ rfl rfl (Nat.le_of_ble_eq_true rfl) dX10_interval_16 (by decide) (fun r16 u h => ?_)
    try dsimp only at h
    refine SW.if_ne (tgt := 26) C dX10_interval_19 (by decide) (fun hc => ?_) (fun hc => ?_)
    · replace h := h.2 hc
      refine SW.aload_n C dX10_interval_26 rfl 0 rfl ?_
      refine SW.iload_n C dX10_interval_27 rfl 1 rfl ?_
      refine SW.aload_n C dX10_interval_28 rfl 0 rfl ?_
      refine SW.get (v := .int (oY 0 6)) (T := TX10) (N := 25) C inX10_interval_X10 0 rfl rfl 6 (by decide) lkX10_interval_63 rfl dX10_interval_29 ?_
      refine SW.aload_n C dX10_interval_32 rfl 0 rfl ?_
      refine SW.get (v := .int (oY 0 5)) (T := TX10) (N := 25) C inX10_interval_X10 0 rfl rfl 5 (by decide) lkX10_interval_60 rfl dX10_interval_33 ?_
      refine SW.callVi_same C (ctX10_lengthOf l D cI cZ qY oY v1 (oY 0 6) (oY 0 5) _ h) gX10_interval_X10_lengthOf rfl rfl rfl pdX10_lengthOf ⟨by decide, by decide⟩ 0 rfl rfl rfl rfl rfl (Nat.le_of_ble_eq_true rfl) dX10_interval_36 (by decide) (fun r36 u h => ?_)
      try dsimp only at h
      refine SW.istore (lv' := [(4, .int r36), (0, .ref (qY 0)), (1, .int v1), (2, .int v2), (3, .int v3)]) C dX10_interval_39 (by decide) rfl ?_
      refine SW.aload_n C dX10_interval_41 rfl 1 rfl ?_
      refine SW.iload_n C dX10_interval_42 rfl 3 rfl ?_
      refine SW.aload_n C dX10_interval_43 rfl 1 rfl ?_
      refine SW.get (v := .int (oY 0 6)) (T := TX10) (N := 25) C inX10_interval_X10 0 rfl rfl 6 (by decide) lkX10_interval_63 rfl dX10_interval_44 ?_
      refine SW.aload_n C dX10_interval_47 rfl 1 rfl ?_
      refine SW.get (v := .int (oY 0 5)) (T := TX10) (N := 25) C inX10_interval_X10 0 rfl rfl 5 (by decide) lkX10_interval_60 rfl dX10_interval_48 ?_
      refine SW.callVi_same C (ctX10_lengthOf l D cI cZ qY oY v2 (oY 0 6) (oY 0 5) _ h) gX10_interval_X10_lengthOf rfl rfl rfl pdX10_lengthOf ⟨by decide, by decide⟩ 0 rfl rfl rfl rfl rfl (Nat.le_of_ble_eq_true rfl) dX10_interval_51 (by decide) (fun r51 u h => ?_)
      try dsimp only at h
      refine SW.istore (lv' := [(5, .int r51), (4, .int r36), (0, .ref (qY 0)), (1, .int v1), (2, .int v2), (3, .int v3)]) C dX10_interval_54 (by decide) rfl ?_
      refine SW.iload C dX10_interval_56 1 rfl ?_
      refine SW.iload C dX10_interval_58 0 rfl ?_
      refine SW.callSi_pure C (ctX10_divisor l D cI cZ r36 r51 _ h) gX10_interval_X10_divisor rfl rfl rfl pdX10_divisor ⟨by decide, by decide⟩ rfl rfl (Nat.le_of_ble_eq_true rfl) dX10_interval_60 (by decide) (fun r60 u h => ?_)
      try dsimp only at h
      refine SW.istore (lv' := [(6, .int r60), (5, .int r51), (4, .int r36), (0, .ref (qY 0)), (1, .int v1), (2, .int v2), (3, .int v3)]) C dX10_interval_63 (by decide) rfl ?_
      refine SW.iload C dX10_interval_65 2 rfl ?_
      refine SW.iload C dX10_interval_67 1 rfl ?_
      refine jn1_elim (G := fun p0_79 => SW p l e { frames := 3, cells := 0, slots := 0, locals := 65 } s m args below meth c A D 8 0 0 (MQ below (va_Ql (fun (r : Int64) (_ : Unit) => post r) (ctB D A (fun _ : Unit => w10 cI cZ qY oY)) A) args s 0 0 A) (w10 cI cZ qY oY) 79 [(3, .int v3), (4, .int r36), (5, .int r51), (6, .int r60)] [.int p0_79]) h (fun p0_79 h => ?_) (fun J79 hJ79 h => ?_)
      · refine SW.istore (lv' := [(7, .int p0_79), (3, .int v3), (4, .int r36), (5, .int r51), (6, .int r60)]) C dX10_interval_79 (by decide) rfl ?_
        refine SW.iload_n C dX10_interval_81 rfl 1 rfl ?_
        refine SW.if_ne (tgt := 94) C dX10_interval_82 (by decide) (fun hc => ?_) (fun hc => ?_)
        · replace h := h.2 hc
          refine SW.iload C dX10_interval_94 2 rfl ?_
          refine SW.iload C dX10_interval_96 3 rfl ?_
          refine SW.iadd C dX10_interval_98 ?_
          refine SW.iload C dX10_interval_99 0 rfl ?_
          refine SW.isub C dX10_interval_101 ?_
          refine SW.iload C dX10_interval_102 4 rfl ?_
          refine SW.idiv C dX10_interval_104 h.1 ?_
          replace h := h.2
          refine SW.i2l C dX10_interval_105 ?_
          exact SW.lret C () rfl h dX10_interval_106
        · replace h := h.1 hc
          refine SW.iload C dX10_interval_85 0 rfl ?_
          refine SW.iload C dX10_interval_87 4 rfl ?_
          refine SW.idiv C dX10_interval_89 h.1 ?_
          replace h := h.2
          refine SW.i2l C dX10_interval_90 ?_
          refine SW.goto (tgt := 106) C dX10_interval_91 (by decide) ?_
          exact SW.lret C () rfl h dX10_interval_106
      · refine SW.icmp_le (tgt := 77) C dX10_interval_69 (by decide) (fun hc => ?_) (fun hc => ?_)
        · replace h := h.1 hc
          refine SW.iload C dX10_interval_77 1 rfl ?_
          refine SW.sub [6, 2, 1, 0] rfl ?_
          exact hJ79 _ h
        · replace h := h.2 hc
          refine SW.iload C dX10_interval_72 2 rfl ?_
          refine SW.goto (tgt := 79) C dX10_interval_74 (by decide) ?_
          refine SW.sub [6, 2, 1, 0] rfl ?_
          exact hJ79 _ h
    · replace h := h.1 hc
      refine SW.ldc2 (v := (-1000000000000000002 : Int64)) C (by decide +kernel) dX10_interval_22 ?_
      exact SW.lret C () rfl h dX10_interval_25
  · replace h := h.1 hc
    refine SW.ldc2 (v := (-1000000000000000001 : Int64)) C (by decide +kernel) dX10_interval_9 ?_
    exact SW.lret C () rfl h dX10_interval_12
def wpX10_heard_L53 (c5_53 : Int32) (c6_53 : Int32) (oYc_53 : Ob) (K97 : Int32 → Prop) : Nat → Int32 → Int32 → Prop
  | 0, _, _ => False
  | fu53 + 1, v7_53, v8_53 => ((c5_53 ≤ v8_53) → K97 v7_53) ∧ (¬ (c5_53 ≤ v8_53) → jn1 (fun (p0_89 : Int32) => wpX10_heard_L53 c5_53 c6_53 oYc_53 K97 fu53 p0_89 (v8_53 + (1 : Int32))) (fun J89 => jn0 (J89 (0 : Int32)) (fun J88 => ((v7_53 = 0) → J88) ∧ (¬ (v7_53 = 0) → wpX10_lengthOf oYc_53 v8_53 (oYc_53 0 6) (oYc_53 0 5) (fun (r76 : Int32) => ((r76 = c6_53) → J88) ∧ (¬ (r76 = c6_53) → J89 (1 : Int32)))))))
def wpX10_heard_L22 (oYc_22 : Ob) (K156 : Int32 → Int32 → Prop) : Nat → Int32 → Int32 → Int32 → Int32 → Prop
  | 0, _, _, _, _ => False
  | fu22 + 1, v2_22, v3_22, v4_22, v5_22 => (((oYc_22 0 0) ≤ v5_22) → K156 v2_22 v4_22) ∧ (¬ ((oYc_22 0 0) ≤ v5_22) → wpX10_lengthOf oYc_22 v5_22 (oYc_22 0 6) (oYc_22 0 5) (fun (r42 : Int32) => ∃ fu53 : Nat, wpX10_heard_L53 v5_22 r42 oYc_22 (fun (v7_97 : Int32) => jn2 (fun (p0_108 : Int32) (p1_108 : Int32) => jn1 (fun (p0_135 : Int32) => jn1 (fun (p0_149 : Int32) => wpX10_heard_L22 oYc_22 K156 fu22 (p1_108 + p0_108) p0_149 p0_135 (v5_22 + (1 : Int32))) (fun J149 => ((r42 ≤ v3_22) → J149 v3_22) ∧ (¬ (r42 ≤ v3_22) → J149 r42))) (fun J135 => ((r42 ≤ v3_22) → ((r42 = v3_22) → J135 (v4_22 + (1 : Int32))) ∧ (¬ (r42 = v3_22) → J135 v4_22)) ∧ (¬ (r42 ≤ v3_22) → J135 (1 : Int32)))) (fun J108 => ((v7_97 = 0) → J108 (0 : Int32) v2_22) ∧ (¬ (v7_97 = 0) → J108 (1 : Int32) v2_22))) fu53 (1 : Int32) (0 : Int32)))
def wpX10_heard (oY : Ob) (v1 : Int32) (post : Int32 → Prop) : Prop := wpX10_in v1 (0 : Int32) (1 : Int32) (fun (r3 : Int32) => ((r3 = 0) → post (-2 : Int32)) ∧ (¬ (r3 = 0) → ∃ fu22 : Nat, wpX10_heard_L22 oY (fun (v2_156 : Int32) (v4_156 : Int32) => ((v1 = 0) → post v2_156) ∧ (¬ (v1 = 0) → post v4_156)) fu22 (0 : Int32) (0 : Int32) (0 : Int32) (0 : Int32)))
theorem pdX10_heard : yX10_heard.cls = RX10 ∧ yX10_heard.cls ≠ "java/lang/invoke/MethodHandle" ∧ yX10_heard.cls ≠ "java/lang/invoke/VarHandle" ∧ (parseMethodDescriptor yX10_heard.desc).map (fun d => d.parameters.length) = some 1 := by decide +kernel
theorem lkX10_heard_7 : Cond.fieldLink RX10 7 (TX10 0).1 (TX10 0).2.1 (TX10 0).2.2.1 ∈ wsX10_heard := by decide +kernel
theorem inX10_heard_X10 : ∀ w ∈ u_ws RX10 TX10 25, w ∈ wsX10_heard := by decide +kernel
theorem lkX10_heard_63 : Cond.fieldLink RX10 63 (TX10 6).1 (TX10 6).2.1 (TX10 6).2.2.1 ∈ wsX10_heard := by decide +kernel
theorem lkX10_heard_60 : Cond.fieldLink RX10 60 (TX10 5).1 (TX10 5).2.1 (TX10 5).2.2.1 ∈ wsX10_heard := by decide +kernel
set_option maxHeartbeats 4000000 in
set_option maxRecDepth 100000 in
theorem ctX10_heard (l : Launch) (D : va_G) (cI cZ : ClassId) (qY : Nat → Nat) (oY : Ob) (v1 : Int32) (post : Int32 → Prop) (h : wpX10_heard oY v1 post) : CTi l yX10_heard wsX10_heard { frames := 2, cells := 0, slots := 0, locals := 49 } D [(cI, .int), (cZ, .boolean)] [.ref (qY 0), .int v1] (w10 cI cZ qY oY) (fun _ : Unit => w10 cI cZ qY oY) (fun (r : Int32) (_ : Unit) => post r) := by
  refine CTi.of (cc := cX10_heard) (own := RX10) (maxL := 9) (ret := (some .int)) (lv0 := [(0, .ref (qY 0)), (1, .int v1)]) (by decide) rfl rfl (Nat.le_of_ble_eq_true rfl) rfl ?_
  intro p e s m args below meth c A C
  unfold wpX10_heard at h
  refine SW.iload_n C dX10_heard_0 rfl 1 rfl ?_
  refine SW.iconst (v := (0 : Int32)) C dX10_heard_1 (by decide) ?_
  refine SW.iconst (v := (1 : Int32)) C dX10_heard_2 (by decide) ?_
  refine SW.callSi_pure C (ctX10_in l D cI cZ v1 (0 : Int32) (1 : Int32) _ h) gX10_heard_X10_in rfl rfl rfl pdX10_in ⟨by decide, by decide⟩ rfl rfl (Nat.le_of_ble_eq_true rfl) dX10_heard_3 (by decide) (fun r3 u h => ?_)
  try dsimp only at h
  refine SW.if_ne (tgt := 12) C dX10_heard_6 (by decide) (fun hc => ?_) (fun hc => ?_)
  · replace h := h.2 hc
    refine SW.iconst (v := (0 : Int32)) C dX10_heard_12 (by decide) ?_
    refine SW.istore_n (lv' := [(2, .int (0 : Int32)), (0, .ref (qY 0)), (1, .int v1)]) C dX10_heard_13 rfl (by decide) rfl ?_
    refine SW.iconst (v := (0 : Int32)) C dX10_heard_14 (by decide) ?_
    refine SW.istore_n (lv' := [(3, .int (0 : Int32)), (2, .int (0 : Int32)), (0, .ref (qY 0)), (1, .int v1)]) C dX10_heard_15 rfl (by decide) rfl ?_
    refine SW.iconst (v := (0 : Int32)) C dX10_heard_16 (by decide) ?_
    refine SW.istore (lv' := [(4, .int (0 : Int32)), (3, .int (0 : Int32)), (2, .int (0 : Int32)), (0, .ref (qY 0)), (1, .int v1)]) C dX10_heard_17 (by decide) rfl ?_
    refine SW.iconst (v := (0 : Int32)) C dX10_heard_19 (by decide) ?_
    refine SW.istore (lv' := [(5, .int (0 : Int32)), (4, .int (0 : Int32)), (3, .int (0 : Int32)), (2, .int (0 : Int32)), (0, .ref (qY 0)), (1, .int v1)]) C dX10_heard_20 (by decide) rfl ?_
    have L22 : ∀ (K156 : Int32 → Int32 → Prop) (hK156 : ∀ (v2_156 : Int32) (v4_156 : Int32), K156 v2_156 v4_156 → SW p l e { frames := 2, cells := 0, slots := 0, locals := 49 } s m args below meth c A D 9 0 0 (MQ below (va_Qi (fun (r : Int32) (_ : Unit) => post r) (ctB D A (fun _ : Unit => w10 cI cZ qY oY)) A) args s 0 0 A) (w10 cI cZ qY oY) 156 [(1, .int v1), (2, .int v2_156), (4, .int v4_156)] []) (fu : Nat) (v2_22 : Int32) (v3_22 : Int32) (v4_22 : Int32) (v5_22 : Int32), wpX10_heard_L22 oY K156 fu v2_22 v3_22 v4_22 v5_22 → SW p l e { frames := 2, cells := 0, slots := 0, locals := 49 } s m args below meth c A D 9 0 0 (MQ below (va_Qi (fun (r : Int32) (_ : Unit) => post r) (ctB D A (fun _ : Unit => w10 cI cZ qY oY)) A) args s 0 0 A) (w10 cI cZ qY oY) 22 [(0, .ref (qY 0)), (1, .int v1), (2, .int v2_22), (3, .int v3_22), (4, .int v4_22), (5, .int v5_22)] [] := by
      intro K156 hK156 fu
      induction fu with
      | zero =>
        intro v2_22 v3_22 v4_22 v5_22 h
        exact False.elim h
      | succ fu ih =>
        intro v2_22 v3_22 v4_22 v5_22 h
        unfold wpX10_heard_L22 at h
        refine SW.iload C dX10_heard_22 5 rfl ?_
        refine SW.aload_n C dX10_heard_24 rfl 0 rfl ?_
        refine SW.get (v := .int (oY 0 0)) (T := TX10) (N := 25) C inX10_heard_X10 0 rfl rfl 0 (by decide) lkX10_heard_7 rfl dX10_heard_25 ?_
        refine SW.icmp_ge (tgt := 156) C dX10_heard_28 (by decide) (fun hc => ?_) (fun hc => ?_)
        · replace h := h.1 hc
          refine SW.sub [1, 2, 4] rfl ?_
          exact hK156 _ _ h
        · replace h := h.2 hc
          refine SW.aload_n C dX10_heard_31 rfl 0 rfl ?_
          refine SW.iload C dX10_heard_32 5 rfl ?_
          refine SW.aload_n C dX10_heard_34 rfl 0 rfl ?_
          refine SW.get (v := .int (oY 0 6)) (T := TX10) (N := 25) C inX10_heard_X10 0 rfl rfl 6 (by decide) lkX10_heard_63 rfl dX10_heard_35 ?_
          refine SW.aload_n C dX10_heard_38 rfl 0 rfl ?_
          refine SW.get (v := .int (oY 0 5)) (T := TX10) (N := 25) C inX10_heard_X10 0 rfl rfl 5 (by decide) lkX10_heard_60 rfl dX10_heard_39 ?_
          refine SW.callVi_same C (ctX10_lengthOf l D cI cZ qY oY v5_22 (oY 0 6) (oY 0 5) _ h) gX10_heard_X10_lengthOf rfl rfl rfl pdX10_lengthOf ⟨by decide, by decide⟩ 0 rfl rfl rfl rfl rfl (Nat.le_of_ble_eq_true rfl) dX10_heard_42 (by decide) (fun r42 u h => ?_)
          try dsimp only at h
          refine SW.istore (lv' := [(6, .int r42), (0, .ref (qY 0)), (1, .int v1), (2, .int v2_22), (3, .int v3_22), (4, .int v4_22), (5, .int v5_22)]) C dX10_heard_45 (by decide) rfl ?_
          refine SW.iconst (v := (1 : Int32)) C dX10_heard_47 (by decide) ?_
          refine SW.istore (lv' := [(7, .int (1 : Int32)), (6, .int r42), (0, .ref (qY 0)), (1, .int v1), (2, .int v2_22), (3, .int v3_22), (4, .int v4_22), (5, .int v5_22)]) C dX10_heard_48 (by decide) rfl ?_
          refine SW.iconst (v := (0 : Int32)) C dX10_heard_50 (by decide) ?_
          refine SW.istore (lv' := [(8, .int (0 : Int32)), (7, .int (1 : Int32)), (6, .int r42), (0, .ref (qY 0)), (1, .int v1), (2, .int v2_22), (3, .int v3_22), (4, .int v4_22), (5, .int v5_22)]) C dX10_heard_51 (by decide) rfl ?_
          have L53 : ∀ (K97 : Int32 → Prop) (hK97 : ∀ (v7_97 : Int32), K97 v7_97 → SW p l e { frames := 2, cells := 0, slots := 0, locals := 49 } s m args below meth c A D 9 0 0 (MQ below (va_Qi (fun (r : Int32) (_ : Unit) => post r) (ctB D A (fun _ : Unit => w10 cI cZ qY oY)) A) args s 0 0 A) (w10 cI cZ qY oY) 97 [(0, .ref (qY 0)), (1, .int v1), (2, .int v2_22), (3, .int v3_22), (4, .int v4_22), (5, .int v5_22), (6, .int r42), (7, .int v7_97)] []) (fu : Nat) (v7_53 : Int32) (v8_53 : Int32), wpX10_heard_L53 v5_22 r42 oY K97 fu v7_53 v8_53 → SW p l e { frames := 2, cells := 0, slots := 0, locals := 49 } s m args below meth c A D 9 0 0 (MQ below (va_Qi (fun (r : Int32) (_ : Unit) => post r) (ctB D A (fun _ : Unit => w10 cI cZ qY oY)) A) args s 0 0 A) (w10 cI cZ qY oY) 53 [(0, .ref (qY 0)), (1, .int v1), (2, .int v2_22), (3, .int v3_22), (4, .int v4_22), (5, .int v5_22), (6, .int r42), (7, .int v7_53), (8, .int v8_53)] [] := by
            intro K97 hK97 fu
            induction fu with
            | zero =>
              intro v7_53 v8_53 h
              exact False.elim h
            | succ fu ih =>
              intro v7_53 v8_53 h
              unfold wpX10_heard_L53 at h
              refine SW.iload C dX10_heard_53 8 rfl ?_
              refine SW.iload C dX10_heard_55 5 rfl ?_
              refine SW.icmp_ge (tgt := 97) C dX10_heard_57 (by decide) (fun hc => ?_) (fun hc => ?_)
              · replace h := h.1 hc
                refine SW.sub [0, 1, 2, 3, 4, 5, 6, 7] rfl ?_
                exact hK97 _ h
              · replace h := h.2 hc
                refine SW.iload C dX10_heard_60 7 rfl ?_
                refine jn1_elim (G := fun p0_89 => SW p l e { frames := 2, cells := 0, slots := 0, locals := 49 } s m args below meth c A D 9 0 0 (MQ below (va_Qi (fun (r : Int32) (_ : Unit) => post r) (ctB D A (fun _ : Unit => w10 cI cZ qY oY)) A) args s 0 0 A) (w10 cI cZ qY oY) 89 [(0, .ref (qY 0)), (1, .int v1), (2, .int v2_22), (3, .int v3_22), (4, .int v4_22), (5, .int v5_22), (6, .int r42), (8, .int v8_53)] [.int p0_89]) h (fun p0_89 h => ?_) (fun J89 hJ89 h => ?_)
                · refine SW.istore (lv' := [(7, .int p0_89), (0, .ref (qY 0)), (1, .int v1), (2, .int v2_22), (3, .int v3_22), (4, .int v4_22), (5, .int v5_22), (6, .int r42), (8, .int v8_53)]) C dX10_heard_89 (by decide) rfl ?_
                  refine SW.iinc (q := 8) (v := (v8_53 + (1 : Int32))) (lv' := [(8, .int (v8_53 + (1 : Int32))), (7, .int p0_89), (0, .ref (qY 0)), (1, .int v1), (2, .int v2_22), (3, .int v3_22), (4, .int v4_22), (5, .int v5_22), (6, .int r42)]) C dX10_heard_91 rfl rfl (by decide) rfl ?_
                  refine SW.goto (tgt := 53) C dX10_heard_94 (by decide) ?_
                  refine SW.sub [2, 3, 4, 5, 6, 7, 8, 1, 0] rfl ?_
                  exact ih _ _ h
                · refine jn0_elim (G := SW p l e { frames := 2, cells := 0, slots := 0, locals := 49 } s m args below meth c A D 9 0 0 (MQ below (va_Qi (fun (r : Int32) (_ : Unit) => post r) (ctB D A (fun _ : Unit => w10 cI cZ qY oY)) A) args s 0 0 A) (w10 cI cZ qY oY) 88 [(0, .ref (qY 0)), (1, .int v1), (2, .int v2_22), (3, .int v3_22), (4, .int v4_22), (5, .int v5_22), (6, .int r42), (8, .int v8_53)] []) h (fun h => ?_) (fun J88 hJ88 h => ?_)
                  · refine SW.iconst (v := (0 : Int32)) C dX10_heard_88 (by decide) ?_
                    exact hJ89 _ h
                  · refine SW.if_eq (tgt := 88) C dX10_heard_62 (by decide) (fun hc => ?_) (fun hc => ?_)
                    · replace h := h.1 hc
                      refine SW.sub [0, 1, 2, 3, 4, 5, 6, 8] rfl ?_
                      exact hJ88 h
                    · replace h := h.2 hc
                      refine SW.aload_n C dX10_heard_65 rfl 0 rfl ?_
                      refine SW.iload C dX10_heard_66 8 rfl ?_
                      refine SW.aload_n C dX10_heard_68 rfl 0 rfl ?_
                      refine SW.get (v := .int (oY 0 6)) (T := TX10) (N := 25) C inX10_heard_X10 0 rfl rfl 6 (by decide) lkX10_heard_63 rfl dX10_heard_69 ?_
                      refine SW.aload_n C dX10_heard_72 rfl 0 rfl ?_
                      refine SW.get (v := .int (oY 0 5)) (T := TX10) (N := 25) C inX10_heard_X10 0 rfl rfl 5 (by decide) lkX10_heard_60 rfl dX10_heard_73 ?_
                      refine SW.callVi_same C (ctX10_lengthOf l D cI cZ qY oY v8_53 (oY 0 6) (oY 0 5) _ h) gX10_heard_X10_lengthOf rfl rfl rfl pdX10_lengthOf ⟨by decide, by decide⟩ 0 rfl rfl rfl rfl rfl (Nat.le_of_ble_eq_true rfl) dX10_heard_76 (by decide) (fun r76 u h => ?_)
                      try dsimp only at h
                      refine SW.iload C dX10_heard_79 6 rfl ?_
                      refine SW.icmp_eq (tgt := 88) C dX10_heard_81 (by decide) (fun hc => ?_) (fun hc => ?_)
                      · replace h := h.1 hc
                        refine SW.sub [0, 1, 2, 3, 4, 5, 6, 8] rfl ?_
                        exact hJ88 h
                      · replace h := h.2 hc
                        refine SW.iconst (v := (1 : Int32)) C dX10_heard_84 (by decide) ?_
                        refine SW.goto (tgt := 89) C dX10_heard_85 (by decide) ?_
                        refine SW.sub [0, 1, 2, 3, 4, 5, 6, 8] rfl ?_
                        exact hJ89 _ h
          obtain ⟨fu, h⟩ := h
          refine SW.sub [3, 4, 5, 6, 7, 8, 2, 1, 0] rfl ?_
          refine L53 _ (fun v7_97 h => ?_) fu _ _ h
          · refine SW.iload_n C dX10_heard_97 rfl 2 rfl ?_
            refine SW.iload C dX10_heard_98 7 rfl ?_
            refine jn2_elim (G := fun p0_108 p1_108 => SW p l e { frames := 2, cells := 0, slots := 0, locals := 49 } s m args below meth c A D 9 0 0 (MQ below (va_Qi (fun (r : Int32) (_ : Unit) => post r) (ctB D A (fun _ : Unit => w10 cI cZ qY oY)) A) args s 0 0 A) (w10 cI cZ qY oY) 108 [(0, .ref (qY 0)), (1, .int v1), (3, .int v3_22), (4, .int v4_22), (5, .int v5_22), (6, .int r42)] [.int p0_108, .int p1_108]) h (fun p0_108 p1_108 h => ?_) (fun J108 hJ108 h => ?_)
            · refine SW.iadd C dX10_heard_108 ?_
              refine SW.istore_n (lv' := [(2, .int (p1_108 + p0_108)), (0, .ref (qY 0)), (1, .int v1), (3, .int v3_22), (4, .int v4_22), (5, .int v5_22), (6, .int r42)]) C dX10_heard_109 rfl (by decide) rfl ?_
              refine SW.iload C dX10_heard_110 6 rfl ?_
              refine SW.iload_n C dX10_heard_112 rfl 3 rfl ?_
              refine jn1_elim (G := fun p0_135 => SW p l e { frames := 2, cells := 0, slots := 0, locals := 49 } s m args below meth c A D 9 0 0 (MQ below (va_Qi (fun (r : Int32) (_ : Unit) => post r) (ctB D A (fun _ : Unit => w10 cI cZ qY oY)) A) args s 0 0 A) (w10 cI cZ qY oY) 135 [(0, .ref (qY 0)), (1, .int v1), (2, .int (p1_108 + p0_108)), (3, .int v3_22), (5, .int v5_22), (6, .int r42)] [.int p0_135]) h (fun p0_135 h => ?_) (fun J135 hJ135 h => ?_)
              · refine SW.istore (lv' := [(4, .int p0_135), (0, .ref (qY 0)), (1, .int v1), (2, .int (p1_108 + p0_108)), (3, .int v3_22), (5, .int v5_22), (6, .int r42)]) C dX10_heard_135 (by decide) rfl ?_
                refine SW.iload C dX10_heard_137 6 rfl ?_
                refine SW.iload_n C dX10_heard_139 rfl 4 rfl ?_
                refine jn1_elim (G := fun p0_149 => SW p l e { frames := 2, cells := 0, slots := 0, locals := 49 } s m args below meth c A D 9 0 0 (MQ below (va_Qi (fun (r : Int32) (_ : Unit) => post r) (ctB D A (fun _ : Unit => w10 cI cZ qY oY)) A) args s 0 0 A) (w10 cI cZ qY oY) 149 [(0, .ref (qY 0)), (1, .int v1), (2, .int (p1_108 + p0_108)), (4, .int p0_135), (5, .int v5_22)] [.int p0_149]) h (fun p0_149 h => ?_) (fun J149 hJ149 h => ?_)
                · refine SW.istore_n (lv' := [(3, .int p0_149), (0, .ref (qY 0)), (1, .int v1), (2, .int (p1_108 + p0_108)), (4, .int p0_135), (5, .int v5_22)]) C dX10_heard_149 rfl (by decide) rfl ?_
                  refine SW.iinc (q := 5) (v := (v5_22 + (1 : Int32))) (lv' := [(5, .int (v5_22 + (1 : Int32))), (3, .int p0_149), (0, .ref (qY 0)), (1, .int v1), (2, .int (p1_108 + p0_108)), (4, .int p0_135)]) C dX10_heard_150 rfl rfl (by decide) rfl ?_
                  refine SW.goto (tgt := 22) C dX10_heard_153 (by decide) ?_
                  refine SW.sub [2, 3, 4, 1, 5, 0] rfl ?_
                  exact ih _ _ _ _ h
                · refine SW.icmp_le (tgt := 148) C dX10_heard_140 (by decide) (fun hc => ?_) (fun hc => ?_)
                  · replace h := h.1 hc
                    refine SW.iload_n C dX10_heard_148 rfl 4 rfl ?_
                    refine SW.sub [1, 2, 3, 0, 5] rfl ?_
                    exact hJ149 _ h
                  · replace h := h.2 hc
                    refine SW.iload C dX10_heard_143 6 rfl ?_
                    refine SW.goto (tgt := 149) C dX10_heard_145 (by decide) ?_
                    refine SW.sub [1, 2, 3, 0, 5] rfl ?_
                    exact hJ149 _ h
              · refine SW.icmp_le (tgt := 120) C dX10_heard_113 (by decide) (fun hc => ?_) (fun hc => ?_)
                · replace h := h.1 hc
                  refine SW.iload C dX10_heard_120 6 rfl ?_
                  refine SW.iload_n C dX10_heard_122 rfl 3 rfl ?_
                  refine SW.icmp_ne (tgt := 133) C dX10_heard_123 (by decide) (fun hc => ?_) (fun hc => ?_)
                  · replace h := h.2 hc
                    refine SW.iload C dX10_heard_133 4 rfl ?_
                    refine SW.sub [1, 2, 0, 3, 5, 6] rfl ?_
                    exact hJ135 _ h
                  · replace h := h.1 hc
                    refine SW.iload C dX10_heard_126 4 rfl ?_
                    refine SW.iconst (v := (1 : Int32)) C dX10_heard_128 (by decide) ?_
                    refine SW.iadd C dX10_heard_129 ?_
                    refine SW.goto (tgt := 135) C dX10_heard_130 (by decide) ?_
                    refine SW.sub [1, 2, 0, 3, 5, 6] rfl ?_
                    exact hJ135 _ h
                · replace h := h.2 hc
                  refine SW.iconst (v := (1 : Int32)) C dX10_heard_116 (by decide) ?_
                  refine SW.goto (tgt := 135) C dX10_heard_117 (by decide) ?_
                  refine SW.sub [1, 2, 0, 3, 5, 6] rfl ?_
                  exact hJ135 _ h
            · refine SW.if_eq (tgt := 107) C dX10_heard_100 (by decide) (fun hc => ?_) (fun hc => ?_)
              · replace h := h.1 hc
                refine SW.iconst (v := (0 : Int32)) C dX10_heard_107 (by decide) ?_
                refine SW.sub [0, 1, 3, 4, 5, 6] rfl ?_
                exact hJ108 _ _ h
              · replace h := h.2 hc
                refine SW.iconst (v := (1 : Int32)) C dX10_heard_103 (by decide) ?_
                refine SW.goto (tgt := 108) C dX10_heard_104 (by decide) ?_
                refine SW.sub [0, 1, 3, 4, 5, 6] rfl ?_
                exact hJ108 _ _ h
    obtain ⟨fu, h⟩ := h
    refine SW.sub [4, 5, 3, 2, 1, 0] rfl ?_
    refine L22 _ (fun v2_156 v4_156 h => ?_) fu _ _ _ _ h
    · refine SW.iload_n C dX10_heard_156 rfl 0 rfl ?_
      refine SW.if_ne (tgt := 164) C dX10_heard_157 (by decide) (fun hc => ?_) (fun hc => ?_)
      · replace h := h.2 hc
        refine SW.iload C dX10_heard_164 2 rfl ?_
        exact SW.iret C () rfl h dX10_heard_166
      · replace h := h.1 hc
        refine SW.iload_n C dX10_heard_160 rfl 1 rfl ?_
        refine SW.goto (tgt := 166) C dX10_heard_161 (by decide) ?_
        exact SW.iret C () rfl h dX10_heard_166
  · replace h := h.1 hc
    refine SW.bipush (v := (-2 : Int32)) C dX10_heard_9 (by decide) ?_
    exact SW.iret C () rfl h dX10_heard_11
def wpX10_canBe (oY : Ob) (v1 : Int32) (post : Int32 → Prop) : Prop := wpX10_bits v1 (fun (r1 : Int32) => wpX10_may oY (fun (r5 : Int32) => ((r5 < r1) → post (0 : Int32)) ∧ (¬ (r5 < r1) → post (1 : Int32))))
theorem pdX10_canBe : yX10_canBe.cls = RX10 ∧ yX10_canBe.cls ≠ "java/lang/invoke/MethodHandle" ∧ yX10_canBe.cls ≠ "java/lang/invoke/VarHandle" ∧ (parseMethodDescriptor yX10_canBe.desc).map (fun d => d.parameters.length) = some 1 := by decide +kernel
set_option maxHeartbeats 4000000 in
set_option maxRecDepth 100000 in
theorem ctX10_canBe (l : Launch) (D : va_G) (cI cZ : ClassId) (qY : Nat → Nat) (oY : Ob) (v1 : Int32) (post : Int32 → Prop) (h : wpX10_canBe oY v1 post) : CTi l yX10_canBe wsX10_canBe { frames := 1, cells := 0, slots := 0, locals := 22 } D [(cI, .int), (cZ, .boolean)] [.ref (qY 0), .int v1] (w10 cI cZ qY oY) (fun _ : Unit => w10 cI cZ qY oY) (fun (r : Int32) (_ : Unit) => post r) := by
  refine CTi.of (cc := cX10_canBe) (own := RX10) (maxL := 2) (ret := (some .boolean)) (lv0 := [(0, .ref (qY 0)), (1, .int v1)]) (by decide) rfl rfl (Nat.le_of_ble_eq_true rfl) rfl ?_
  intro p e s m args below meth c A C
  unfold wpX10_canBe at h
  refine SW.iload_n C dX10_canBe_0 rfl 1 rfl ?_
  refine SW.callSi_pure C (ctX10_bits l D cI cZ v1 _ h) gX10_canBe_X10_bits rfl rfl rfl pdX10_bits ⟨by decide, by decide⟩ rfl rfl (Nat.le_of_ble_eq_true rfl) dX10_canBe_1 (by decide) (fun r1 u h => ?_)
  try dsimp only at h
  refine SW.aload_n C dX10_canBe_4 rfl 0 rfl ?_
  refine SW.callVi_same C (ctX10_may l D cI cZ qY oY _ h) gX10_canBe_X10_may rfl rfl rfl pdX10_may ⟨by decide, by decide⟩ 0 rfl rfl rfl rfl rfl (Nat.le_of_ble_eq_true rfl) dX10_canBe_5 (by decide) (fun r5 u h => ?_)
  try dsimp only at h
  refine SW.icmp_gt (tgt := 15) C dX10_canBe_8 (by decide) (fun hc => ?_) (fun hc => ?_)
  · replace h := h.1 hc
    refine SW.iconst (v := (0 : Int32)) C dX10_canBe_15 (by decide) ?_
    exact SW.zret C () (by decide) rfl h dX10_canBe_16
  · replace h := h.2 hc
    refine SW.iconst (v := (1 : Int32)) C dX10_canBe_11 (by decide) ?_
    refine SW.goto (tgt := 16) C dX10_canBe_12 (by decide) ?_
    exact SW.zret C () (by decide) rfl h dX10_canBe_16
def wpX10_fewestFor_L7 (c1_7 : Int32) (c2_7 : Int32) (c3_7 : Int32) (c4_7 : Int32) (oYc_7 : Ob) (K119 : Int32 → Prop) : Nat → Int32 → Int32 → Prop
  | 0, _, _ => False
  | fu7 + 1, v5_7, v6_7 => (((jshl (1 : Int32) (oYc_7 0 0)) ≤ v6_7) → K119 v5_7) ∧ (¬ ((jshl (1 : Int32) (oYc_7 0 0)) ≤ v6_7) → wpX10_canBe oYc_7 v6_7 (fun (r21 : Int32) => jn1 (fun (p0_50 : Int32) => jn1 (fun (p0_97 : Int32) => jn1 (fun (p0_111 : Int32) => wpX10_fewestFor_L7 c1_7 c2_7 c3_7 c4_7 oYc_7 K119 fu7 p0_111 (v6_7 + (1 : Int32))) (fun J111 => ((p0_97 = 0) → J111 v5_7) ∧ (¬ (p0_97 = 0) → J111 v6_7))) (fun J97 => jn0 (J97 (0 : Int32)) (fun J96 => ((p0_50 = 0) → J96) ∧ (¬ (p0_50 = 0) → wpX10_lengthOf oYc_7 c1_7 v6_7 (oYc_7 0 5) (fun (r65 : Int32) => ((r65 = c2_7) → jn0 (J97 (1 : Int32)) (fun J92 => ((c3_7 < 0) → J92) ∧ (¬ (c3_7 < 0) → wpX10_lengthOf oYc_7 c3_7 v6_7 (oYc_7 0 5) (fun (r84 : Int32) => ((r84 = c4_7) → J92) ∧ (¬ (r84 = c4_7) → J96))))) ∧ (¬ (r65 = c2_7) → J96)))))) (fun J50 => jn0 (J50 (0 : Int32)) (fun J49 => ((r21 = 0) → J49) ∧ (¬ (r21 = 0) → jn0 (J50 (1 : Int32)) (fun J45 => ((v5_7 < 0) → J45) ∧ (¬ (v5_7 < 0) → wpX10_bits v6_7 (fun (r34 : Int32) => wpX10_bits v5_7 (fun (r39 : Int32) => ((r39 ≤ r34) → J49) ∧ (¬ (r39 ≤ r34) → J45))))))))))
def wpX10_fewestFor (oY : Ob) (v1 : Int32) (v2 : Int32) (v3 : Int32) (v4 : Int32) (post : Int32 → Prop) : Prop := ∃ fu7 : Nat, wpX10_fewestFor_L7 v1 v2 v3 v4 oY (fun (v5_119 : Int32) => post v5_119) fu7 (-6 : Int32) (0 : Int32)
theorem pdX10_fewestFor : yX10_fewestFor.cls = RX10 ∧ yX10_fewestFor.cls ≠ "java/lang/invoke/MethodHandle" ∧ yX10_fewestFor.cls ≠ "java/lang/invoke/VarHandle" ∧ (parseMethodDescriptor yX10_fewestFor.desc).map (fun d => d.parameters.length) = some 4 := by decide +kernel
theorem lkX10_fewestFor_7 : Cond.fieldLink RX10 7 (TX10 0).1 (TX10 0).2.1 (TX10 0).2.2.1 ∈ wsX10_fewestFor := by decide +kernel
theorem inX10_fewestFor_X10 : ∀ w ∈ u_ws RX10 TX10 25, w ∈ wsX10_fewestFor := by decide +kernel
theorem lkX10_fewestFor_60 : Cond.fieldLink RX10 60 (TX10 5).1 (TX10 5).2.1 (TX10 5).2.2.1 ∈ wsX10_fewestFor := by decide +kernel
set_option maxHeartbeats 4000000 in
set_option maxRecDepth 100000 in
theorem ctX10_fewestFor (l : Launch) (D : va_G) (cI cZ : ClassId) (qY : Nat → Nat) (oY : Ob) (v1 : Int32) (v2 : Int32) (v3 : Int32) (v4 : Int32) (post : Int32 → Prop) (h : wpX10_fewestFor oY v1 v2 v3 v4 post) : CTi l yX10_fewestFor wsX10_fewestFor { frames := 2, cells := 0, slots := 0, locals := 49 } D [(cI, .int), (cZ, .boolean)] [.ref (qY 0), .int v1, .int v2, .int v3, .int v4] (w10 cI cZ qY oY) (fun _ : Unit => w10 cI cZ qY oY) (fun (r : Int32) (_ : Unit) => post r) := by
  refine CTi.of (cc := cX10_fewestFor) (own := RX10) (maxL := 9) (ret := (some .int)) (lv0 := [(0, .ref (qY 0)), (1, .int v1), (2, .int v2), (3, .int v3), (4, .int v4)]) (by decide) rfl rfl (Nat.le_of_ble_eq_true rfl) rfl ?_
  intro p e s m args below meth c A C
  unfold wpX10_fewestFor at h
  refine SW.bipush (v := (-6 : Int32)) C dX10_fewestFor_0 (by decide) ?_
  refine SW.istore (lv' := [(5, .int (-6 : Int32)), (0, .ref (qY 0)), (1, .int v1), (2, .int v2), (3, .int v3), (4, .int v4)]) C dX10_fewestFor_2 (by decide) rfl ?_
  refine SW.iconst (v := (0 : Int32)) C dX10_fewestFor_4 (by decide) ?_
  refine SW.istore (lv' := [(6, .int (0 : Int32)), (5, .int (-6 : Int32)), (0, .ref (qY 0)), (1, .int v1), (2, .int v2), (3, .int v3), (4, .int v4)]) C dX10_fewestFor_5 (by decide) rfl ?_
  have L7 : ∀ (K119 : Int32 → Prop) (hK119 : ∀ (v5_119 : Int32), K119 v5_119 → SW p l e { frames := 2, cells := 0, slots := 0, locals := 49 } s m args below meth c A D 9 0 0 (MQ below (va_Qi (fun (r : Int32) (_ : Unit) => post r) (ctB D A (fun _ : Unit => w10 cI cZ qY oY)) A) args s 0 0 A) (w10 cI cZ qY oY) 119 [(5, .int v5_119)] []) (fu : Nat) (v5_7 : Int32) (v6_7 : Int32), wpX10_fewestFor_L7 v1 v2 v3 v4 oY K119 fu v5_7 v6_7 → SW p l e { frames := 2, cells := 0, slots := 0, locals := 49 } s m args below meth c A D 9 0 0 (MQ below (va_Qi (fun (r : Int32) (_ : Unit) => post r) (ctB D A (fun _ : Unit => w10 cI cZ qY oY)) A) args s 0 0 A) (w10 cI cZ qY oY) 7 [(0, .ref (qY 0)), (1, .int v1), (2, .int v2), (3, .int v3), (4, .int v4), (5, .int v5_7), (6, .int v6_7)] [] := by
    intro K119 hK119 fu
    induction fu with
    | zero =>
      intro v5_7 v6_7 h
      exact False.elim h
    | succ fu ih =>
      intro v5_7 v6_7 h
      unfold wpX10_fewestFor_L7 at h
      refine SW.iload C dX10_fewestFor_7 6 rfl ?_
      refine SW.iconst (v := (1 : Int32)) C dX10_fewestFor_9 (by decide) ?_
      refine SW.aload_n C dX10_fewestFor_10 rfl 0 rfl ?_
      refine SW.get (v := .int (oY 0 0)) (T := TX10) (N := 25) C inX10_fewestFor_X10 0 rfl rfl 0 (by decide) lkX10_fewestFor_7 rfl dX10_fewestFor_11 ?_
      refine SW.ishl C dX10_fewestFor_14 ?_
      refine SW.icmp_ge (tgt := 119) C dX10_fewestFor_15 (by decide) (fun hc => ?_) (fun hc => ?_)
      · replace h := h.1 hc
        refine SW.sub [5] rfl ?_
        exact hK119 _ h
      · replace h := h.2 hc
        refine SW.aload_n C dX10_fewestFor_18 rfl 0 rfl ?_
        refine SW.iload C dX10_fewestFor_19 6 rfl ?_
        refine SW.callVi_same C (ctX10_canBe l D cI cZ qY oY v6_7 _ h) gX10_fewestFor_X10_canBe rfl rfl rfl pdX10_canBe ⟨by decide, by decide⟩ 0 rfl rfl rfl rfl rfl (Nat.le_of_ble_eq_true rfl) dX10_fewestFor_21 (by decide) (fun r21 u h => ?_)
        try dsimp only at h
        refine jn1_elim (G := fun p0_50 => SW p l e { frames := 2, cells := 0, slots := 0, locals := 49 } s m args below meth c A D 9 0 0 (MQ below (va_Qi (fun (r : Int32) (_ : Unit) => post r) (ctB D A (fun _ : Unit => w10 cI cZ qY oY)) A) args s 0 0 A) (w10 cI cZ qY oY) 50 [(0, .ref (qY 0)), (1, .int v1), (2, .int v2), (3, .int v3), (4, .int v4), (5, .int v5_7), (6, .int v6_7)] [.int p0_50]) h (fun p0_50 h => ?_) (fun J50 hJ50 h => ?_)
        · refine SW.istore (lv' := [(7, .int p0_50), (0, .ref (qY 0)), (1, .int v1), (2, .int v2), (3, .int v3), (4, .int v4), (5, .int v5_7), (6, .int v6_7)]) C dX10_fewestFor_50 (by decide) rfl ?_
          refine SW.iload C dX10_fewestFor_52 0 rfl ?_
          refine jn1_elim (G := fun p0_97 => SW p l e { frames := 2, cells := 0, slots := 0, locals := 49 } s m args below meth c A D 9 0 0 (MQ below (va_Qi (fun (r : Int32) (_ : Unit) => post r) (ctB D A (fun _ : Unit => w10 cI cZ qY oY)) A) args s 0 0 A) (w10 cI cZ qY oY) 97 [(0, .ref (qY 0)), (1, .int v1), (2, .int v2), (3, .int v3), (4, .int v4), (5, .int v5_7), (6, .int v6_7)] [.int p0_97]) h (fun p0_97 h => ?_) (fun J97 hJ97 h => ?_)
          · refine SW.istore (lv' := [(8, .int p0_97), (0, .ref (qY 0)), (1, .int v1), (2, .int v2), (3, .int v3), (4, .int v4), (5, .int v5_7), (6, .int v6_7)]) C dX10_fewestFor_97 (by decide) rfl ?_
            refine SW.iload C dX10_fewestFor_99 0 rfl ?_
            refine jn1_elim (G := fun p0_111 => SW p l e { frames := 2, cells := 0, slots := 0, locals := 49 } s m args below meth c A D 9 0 0 (MQ below (va_Qi (fun (r : Int32) (_ : Unit) => post r) (ctB D A (fun _ : Unit => w10 cI cZ qY oY)) A) args s 0 0 A) (w10 cI cZ qY oY) 111 [(0, .ref (qY 0)), (1, .int v1), (2, .int v2), (3, .int v3), (4, .int v4), (6, .int v6_7)] [.int p0_111]) h (fun p0_111 h => ?_) (fun J111 hJ111 h => ?_)
            · refine SW.istore (lv' := [(5, .int p0_111), (0, .ref (qY 0)), (1, .int v1), (2, .int v2), (3, .int v3), (4, .int v4), (6, .int v6_7)]) C dX10_fewestFor_111 (by decide) rfl ?_
              refine SW.iinc (q := 6) (v := (v6_7 + (1 : Int32))) (lv' := [(6, .int (v6_7 + (1 : Int32))), (5, .int p0_111), (0, .ref (qY 0)), (1, .int v1), (2, .int v2), (3, .int v3), (4, .int v4)]) C dX10_fewestFor_113 rfl rfl (by decide) rfl ?_
              refine SW.goto (tgt := 7) C dX10_fewestFor_116 (by decide) ?_
              refine SW.sub [2, 3, 4, 5, 6, 1, 0] rfl ?_
              exact ih _ _ h
            · refine SW.if_eq (tgt := 109) C dX10_fewestFor_101 (by decide) (fun hc => ?_) (fun hc => ?_)
              · replace h := h.1 hc
                refine SW.iload C dX10_fewestFor_109 6 rfl ?_
                refine SW.sub [1, 2, 3, 4, 5, 7] rfl ?_
                exact hJ111 _ h
              · replace h := h.2 hc
                refine SW.iload C dX10_fewestFor_104 7 rfl ?_
                refine SW.goto (tgt := 111) C dX10_fewestFor_106 (by decide) ?_
                refine SW.sub [1, 2, 3, 4, 5, 7] rfl ?_
                exact hJ111 _ h
          · refine jn0_elim (G := SW p l e { frames := 2, cells := 0, slots := 0, locals := 49 } s m args below meth c A D 9 0 0 (MQ below (va_Qi (fun (r : Int32) (_ : Unit) => post r) (ctB D A (fun _ : Unit => w10 cI cZ qY oY)) A) args s 0 0 A) (w10 cI cZ qY oY) 96 [(0, .ref (qY 0)), (1, .int v1), (2, .int v2), (3, .int v3), (4, .int v4), (5, .int v5_7), (6, .int v6_7)] []) h (fun h => ?_) (fun J96 hJ96 h => ?_)
            · refine SW.iconst (v := (0 : Int32)) C dX10_fewestFor_96 (by decide) ?_
              exact hJ97 _ h
            · refine SW.if_eq (tgt := 96) C dX10_fewestFor_54 (by decide) (fun hc => ?_) (fun hc => ?_)
              · replace h := h.1 hc
                refine SW.sub [1, 2, 3, 4, 5, 6, 7] rfl ?_
                exact hJ96 h
              · replace h := h.2 hc
                refine SW.aload_n C dX10_fewestFor_57 rfl 1 rfl ?_
                refine SW.iload_n C dX10_fewestFor_58 rfl 2 rfl ?_
                refine SW.iload C dX10_fewestFor_59 7 rfl ?_
                refine SW.aload_n C dX10_fewestFor_61 rfl 1 rfl ?_
                refine SW.get (v := .int (oY 0 5)) (T := TX10) (N := 25) C inX10_fewestFor_X10 0 rfl rfl 5 (by decide) lkX10_fewestFor_60 rfl dX10_fewestFor_62 ?_
                refine SW.callVi_same C (ctX10_lengthOf l D cI cZ qY oY v1 v6_7 (oY 0 5) _ h) gX10_fewestFor_X10_lengthOf rfl rfl rfl pdX10_lengthOf ⟨by decide, by decide⟩ 0 rfl rfl rfl rfl rfl (Nat.le_of_ble_eq_true rfl) dX10_fewestFor_65 (by decide) (fun r65 u h => ?_)
                try dsimp only at h
                refine SW.iload_n C dX10_fewestFor_68 rfl 3 rfl ?_
                refine SW.icmp_ne (tgt := 96) C dX10_fewestFor_69 (by decide) (fun hc => ?_) (fun hc => ?_)
                · replace h := h.2 hc
                  refine SW.sub [1, 2, 3, 4, 5, 6, 7] rfl ?_
                  exact hJ96 h
                · replace h := h.1 hc
                  refine SW.iload_n C dX10_fewestFor_72 rfl 4 rfl ?_
                  refine jn0_elim (G := SW p l e { frames := 2, cells := 0, slots := 0, locals := 49 } s m args below meth c A D 9 0 0 (MQ below (va_Qi (fun (r : Int32) (_ : Unit) => post r) (ctB D A (fun _ : Unit => w10 cI cZ qY oY)) A) args s 0 0 A) (w10 cI cZ qY oY) 92 [(0, .ref (qY 0)), (1, .int v1), (2, .int v2), (3, .int v3), (4, .int v4), (5, .int v5_7), (6, .int v6_7)] []) h (fun h => ?_) (fun J92 hJ92 h => ?_)
                  · refine SW.iconst (v := (1 : Int32)) C dX10_fewestFor_92 (by decide) ?_
                    refine SW.goto (tgt := 97) C dX10_fewestFor_93 (by decide) ?_
                    exact hJ97 _ h
                  · refine SW.if_lt (tgt := 92) C dX10_fewestFor_73 (by decide) (fun hc => ?_) (fun hc => ?_)
                    · replace h := h.1 hc
                      refine SW.sub [1, 2, 3, 4, 5, 6, 7] rfl ?_
                      exact hJ92 h
                    · replace h := h.2 hc
                      refine SW.aload_n C dX10_fewestFor_76 rfl 1 rfl ?_
                      refine SW.iload_n C dX10_fewestFor_77 rfl 4 rfl ?_
                      refine SW.iload C dX10_fewestFor_78 7 rfl ?_
                      refine SW.aload_n C dX10_fewestFor_80 rfl 1 rfl ?_
                      refine SW.get (v := .int (oY 0 5)) (T := TX10) (N := 25) C inX10_fewestFor_X10 0 rfl rfl 5 (by decide) lkX10_fewestFor_60 rfl dX10_fewestFor_81 ?_
                      refine SW.callVi_same C (ctX10_lengthOf l D cI cZ qY oY v3 v6_7 (oY 0 5) _ h) gX10_fewestFor_X10_lengthOf rfl rfl rfl pdX10_lengthOf ⟨by decide, by decide⟩ 0 rfl rfl rfl rfl rfl (Nat.le_of_ble_eq_true rfl) dX10_fewestFor_84 (by decide) (fun r84 u h => ?_)
                      try dsimp only at h
                      refine SW.iload C dX10_fewestFor_87 5 rfl ?_
                      refine SW.icmp_ne (tgt := 96) C dX10_fewestFor_89 (by decide) (fun hc => ?_) (fun hc => ?_)
                      · replace h := h.2 hc
                        refine SW.sub [1, 2, 3, 4, 5, 6, 7] rfl ?_
                        exact hJ96 h
                      · replace h := h.1 hc
                        refine SW.sub [1, 2, 3, 4, 5, 6, 7] rfl ?_
                        exact hJ92 h
        · refine jn0_elim (G := SW p l e { frames := 2, cells := 0, slots := 0, locals := 49 } s m args below meth c A D 9 0 0 (MQ below (va_Qi (fun (r : Int32) (_ : Unit) => post r) (ctB D A (fun _ : Unit => w10 cI cZ qY oY)) A) args s 0 0 A) (w10 cI cZ qY oY) 49 [(0, .ref (qY 0)), (1, .int v1), (2, .int v2), (3, .int v3), (4, .int v4), (5, .int v5_7), (6, .int v6_7)] []) h (fun h => ?_) (fun J49 hJ49 h => ?_)
          · refine SW.iconst (v := (0 : Int32)) C dX10_fewestFor_49 (by decide) ?_
            exact hJ50 _ h
          · refine SW.if_eq (tgt := 49) C dX10_fewestFor_24 (by decide) (fun hc => ?_) (fun hc => ?_)
            · replace h := h.1 hc
              exact hJ49 h
            · replace h := h.2 hc
              refine SW.iload C dX10_fewestFor_27 5 rfl ?_
              refine jn0_elim (G := SW p l e { frames := 2, cells := 0, slots := 0, locals := 49 } s m args below meth c A D 9 0 0 (MQ below (va_Qi (fun (r : Int32) (_ : Unit) => post r) (ctB D A (fun _ : Unit => w10 cI cZ qY oY)) A) args s 0 0 A) (w10 cI cZ qY oY) 45 [(0, .ref (qY 0)), (1, .int v1), (2, .int v2), (3, .int v3), (4, .int v4), (5, .int v5_7), (6, .int v6_7)] []) h (fun h => ?_) (fun J45 hJ45 h => ?_)
              · refine SW.iconst (v := (1 : Int32)) C dX10_fewestFor_45 (by decide) ?_
                refine SW.goto (tgt := 50) C dX10_fewestFor_46 (by decide) ?_
                exact hJ50 _ h
              · refine SW.if_lt (tgt := 45) C dX10_fewestFor_29 (by decide) (fun hc => ?_) (fun hc => ?_)
                · replace h := h.1 hc
                  exact hJ45 h
                · replace h := h.2 hc
                  refine SW.iload C dX10_fewestFor_32 6 rfl ?_
                  refine SW.callSi_pure C (ctX10_bits l D cI cZ v6_7 _ h) gX10_fewestFor_X10_bits rfl rfl rfl pdX10_bits ⟨by decide, by decide⟩ rfl rfl (Nat.le_of_ble_eq_true rfl) dX10_fewestFor_34 (by decide) (fun r34 u h => ?_)
                  try dsimp only at h
                  refine SW.iload C dX10_fewestFor_37 5 rfl ?_
                  refine SW.callSi_pure C (ctX10_bits l D cI cZ v5_7 _ h) gX10_fewestFor_X10_bits rfl rfl rfl pdX10_bits ⟨by decide, by decide⟩ rfl rfl (Nat.le_of_ble_eq_true rfl) dX10_fewestFor_39 (by decide) (fun r39 u h => ?_)
                  try dsimp only at h
                  refine SW.icmp_ge (tgt := 49) C dX10_fewestFor_42 (by decide) (fun hc => ?_) (fun hc => ?_)
                  · replace h := h.1 hc
                    exact hJ49 h
                  · replace h := h.2 hc
                    exact hJ45 h
  obtain ⟨fu, h⟩ := h
  refine SW.sub [2, 3, 4, 5, 6, 1, 0] rfl ?_
  refine L7 _ (fun v5_119 h => ?_) fu _ _ h
  · refine SW.iload C dX10_fewestFor_119 0 rfl ?_
    exact SW.iret C () rfl h dX10_fewestFor_121
def wpX10_stopped (oY : Ob) (v1 : Int32) (v2 : Int32) (v3 : Int32) (post : Int32 → Prop) : Prop := wpX10_isWindow oY v1 (fun (r2 : Int32) => ((r2 = 0) → post (-1 : Int32)) ∧ (¬ (r2 = 0) → wpX10_in v2 (1 : Int32) (200 : Int32) (fun (r15 : Int32) => ((r15 = 0) → post (-2 : Int32)) ∧ (¬ (r15 = 0) → wpX10_in v3 (0 : Int32) (1 : Int32) (fun (r24 : Int32) => ((r24 = 0) → post (-2 : Int32)) ∧ (¬ (r24 = 0) → wpX10_fewestFor oY v1 v2 (-6 : Int32) (0 : Int32) (fun (r39 : Int32) => jn0 (post r39) (fun J54 => ((r39 < 0) → J54) ∧ (¬ (r39 < 0) → ((v3 = (1 : Int32)) → J54) ∧ (¬ (v3 = (1 : Int32)) → wpX10_bits r39 (fun (r61 : Int32) => post r61)))))))))))
theorem pdX10_stopped : yX10_stopped.cls = RX10 ∧ yX10_stopped.cls ≠ "java/lang/invoke/MethodHandle" ∧ yX10_stopped.cls ≠ "java/lang/invoke/VarHandle" ∧ (parseMethodDescriptor yX10_stopped.desc).map (fun d => d.parameters.length) = some 3 := by decide +kernel
set_option maxHeartbeats 4000000 in
set_option maxRecDepth 100000 in
theorem ctX10_stopped (l : Launch) (D : va_G) (cI cZ : ClassId) (qY : Nat → Nat) (oY : Ob) (v1 : Int32) (v2 : Int32) (v3 : Int32) (post : Int32 → Prop) (h : wpX10_stopped oY v1 v2 v3 post) : CTi l yX10_stopped wsX10_stopped { frames := 3, cells := 0, slots := 0, locals := 77 } D [(cI, .int), (cZ, .boolean)] [.ref (qY 0), .int v1, .int v2, .int v3] (w10 cI cZ qY oY) (fun _ : Unit => w10 cI cZ qY oY) (fun (r : Int32) (_ : Unit) => post r) := by
  refine CTi.of (cc := cX10_stopped) (own := RX10) (maxL := 5) (ret := (some .int)) (lv0 := [(0, .ref (qY 0)), (1, .int v1), (2, .int v2), (3, .int v3)]) (by decide) rfl rfl (Nat.le_of_ble_eq_true rfl) rfl ?_
  intro p e s m args below meth c A C
  unfold wpX10_stopped at h
  refine SW.aload_n C dX10_stopped_0 rfl 0 rfl ?_
  refine SW.iload_n C dX10_stopped_1 rfl 1 rfl ?_
  refine SW.callVi_same C (ctX10_isWindow l D cI cZ qY oY v1 _ h) gX10_stopped_X10_isWindow rfl rfl rfl pdX10_isWindow ⟨by decide, by decide⟩ 0 rfl rfl rfl rfl rfl (Nat.le_of_ble_eq_true rfl) dX10_stopped_2 (by decide) (fun r2 u h => ?_)
  try dsimp only at h
  refine SW.if_ne (tgt := 10) C dX10_stopped_5 (by decide) (fun hc => ?_) (fun hc => ?_)
  · replace h := h.2 hc
    refine SW.iload_n C dX10_stopped_10 rfl 2 rfl ?_
    refine SW.iconst (v := (1 : Int32)) C dX10_stopped_11 (by decide) ?_
    refine SW.sipush (v := (200 : Int32)) C dX10_stopped_12 (by decide) ?_
    refine SW.callSi_pure C (ctX10_in l D cI cZ v2 (1 : Int32) (200 : Int32) _ h) gX10_stopped_X10_in rfl rfl rfl pdX10_in ⟨by decide, by decide⟩ rfl rfl (Nat.le_of_ble_eq_true rfl) dX10_stopped_15 (by decide) (fun r15 u h => ?_)
    try dsimp only at h
    refine SW.if_eq (tgt := 30) C dX10_stopped_18 (by decide) (fun hc => ?_) (fun hc => ?_)
    · replace h := h.1 hc
      refine SW.bipush (v := (-2 : Int32)) C dX10_stopped_30 (by decide) ?_
      exact SW.iret C () rfl h dX10_stopped_32
    · replace h := h.2 hc
      refine SW.iload_n C dX10_stopped_21 rfl 3 rfl ?_
      refine SW.iconst (v := (0 : Int32)) C dX10_stopped_22 (by decide) ?_
      refine SW.iconst (v := (1 : Int32)) C dX10_stopped_23 (by decide) ?_
      refine SW.callSi_pure C (ctX10_in l D cI cZ v3 (0 : Int32) (1 : Int32) _ h) gX10_stopped_X10_in rfl rfl rfl pdX10_in ⟨by decide, by decide⟩ rfl rfl (Nat.le_of_ble_eq_true rfl) dX10_stopped_24 (by decide) (fun r24 u h => ?_)
      try dsimp only at h
      refine SW.if_ne (tgt := 33) C dX10_stopped_27 (by decide) (fun hc => ?_) (fun hc => ?_)
      · replace h := h.2 hc
        refine SW.aload_n C dX10_stopped_33 rfl 0 rfl ?_
        refine SW.iload_n C dX10_stopped_34 rfl 1 rfl ?_
        refine SW.iload_n C dX10_stopped_35 rfl 2 rfl ?_
        refine SW.bipush (v := (-6 : Int32)) C dX10_stopped_36 (by decide) ?_
        refine SW.iconst (v := (0 : Int32)) C dX10_stopped_38 (by decide) ?_
        refine SW.callVi_same C (ctX10_fewestFor l D cI cZ qY oY v1 v2 (-6 : Int32) (0 : Int32) _ h) gX10_stopped_X10_fewestFor rfl rfl rfl pdX10_fewestFor ⟨by decide, by decide⟩ 0 rfl rfl rfl rfl rfl (Nat.le_of_ble_eq_true rfl) dX10_stopped_39 (by decide) (fun r39 u h => ?_)
        try dsimp only at h
        refine SW.istore (lv' := [(4, .int r39), (0, .ref (qY 0)), (1, .int v1), (2, .int v2), (3, .int v3)]) C dX10_stopped_42 (by decide) rfl ?_
        refine SW.iload C dX10_stopped_44 0 rfl ?_
        refine jn0_elim (G := SW p l e { frames := 3, cells := 0, slots := 0, locals := 77 } s m args below meth c A D 5 0 0 (MQ below (va_Qi (fun (r : Int32) (_ : Unit) => post r) (ctB D A (fun _ : Unit => w10 cI cZ qY oY)) A) args s 0 0 A) (w10 cI cZ qY oY) 54 [(4, .int r39)] []) h (fun h => ?_) (fun J54 hJ54 h => ?_)
        · refine SW.iload C dX10_stopped_54 0 rfl ?_
          refine SW.goto (tgt := 64) C dX10_stopped_56 (by decide) ?_
          exact SW.iret C () rfl h dX10_stopped_64
        · refine SW.if_lt (tgt := 54) C dX10_stopped_46 (by decide) (fun hc => ?_) (fun hc => ?_)
          · replace h := h.1 hc
            refine SW.sub [0] rfl ?_
            exact hJ54 h
          · replace h := h.2 hc
            refine SW.iload_n C dX10_stopped_49 rfl 4 rfl ?_
            refine SW.iconst (v := (1 : Int32)) C dX10_stopped_50 (by decide) ?_
            refine SW.icmp_ne (tgt := 59) C dX10_stopped_51 (by decide) (fun hc => ?_) (fun hc => ?_)
            · replace h := h.2 hc
              refine SW.iload C dX10_stopped_59 0 rfl ?_
              refine SW.callSi_pure C (ctX10_bits l D cI cZ r39 _ h) gX10_stopped_X10_bits rfl rfl rfl pdX10_bits ⟨by decide, by decide⟩ rfl rfl (Nat.le_of_ble_eq_true rfl) dX10_stopped_61 (by decide) (fun r61 u h => ?_)
              try dsimp only at h
              exact SW.iret C () rfl h dX10_stopped_64
            · replace h := h.1 hc
              refine SW.sub [0] rfl ?_
              exact hJ54 h
      · replace h := h.1 hc
        refine SW.bipush (v := (-2 : Int32)) C dX10_stopped_30 (by decide) ?_
        exact SW.iret C () rfl h dX10_stopped_32
  · replace h := h.1 hc
    refine SW.iconst (v := (-1 : Int32)) C dX10_stopped_8 (by decide) ?_
    exact SW.iret C () rfl h dX10_stopped_9
def wpX10_friends (oY : Ob) (v1 : Int32) (v2 : Int32) (v3 : Int32) (v4 : Int32) (v5 : Int32) (post : Int32 → Prop) : Prop := wpX10_areTwo oY v1 v3 (fun (r3 : Int32) => ((r3 = 0) → post (-1 : Int32)) ∧ (¬ (r3 = 0) → wpX10_in v2 (1 : Int32) (200 : Int32) (fun (r16 : Int32) => ((r16 = 0) → post (-2 : Int32)) ∧ (¬ (r16 = 0) → wpX10_in v4 (1 : Int32) (200 : Int32) (fun (r28 : Int32) => ((r28 = 0) → post (-2 : Int32)) ∧ (¬ (r28 = 0) → wpX10_in v5 (0 : Int32) (1 : Int32) (fun (r38 : Int32) => ((r38 = 0) → post (-2 : Int32)) ∧ (¬ (r38 = 0) → wpX10_fewestFor oY v1 v2 v3 v4 (fun (r53 : Int32) => jn0 (post r53) (fun J69 => ((r53 < 0) → J69) ∧ (¬ (r53 < 0) → ((v5 = (1 : Int32)) → J69) ∧ (¬ (v5 = (1 : Int32)) → wpX10_bits r53 (fun (r76 : Int32) => post r76)))))))))))))
theorem pdX10_friends : yX10_friends.cls = RX10 ∧ yX10_friends.cls ≠ "java/lang/invoke/MethodHandle" ∧ yX10_friends.cls ≠ "java/lang/invoke/VarHandle" ∧ (parseMethodDescriptor yX10_friends.desc).map (fun d => d.parameters.length) = some 5 := by decide +kernel
set_option maxHeartbeats 4000000 in
set_option maxRecDepth 100000 in
theorem ctX10_friends (l : Launch) (D : va_G) (cI cZ : ClassId) (qY : Nat → Nat) (oY : Ob) (v1 : Int32) (v2 : Int32) (v3 : Int32) (v4 : Int32) (v5 : Int32) (post : Int32 → Prop) (h : wpX10_friends oY v1 v2 v3 v4 v5 post) : CTi l yX10_friends wsX10_friends { frames := 3, cells := 0, slots := 0, locals := 77 } D [(cI, .int), (cZ, .boolean)] [.ref (qY 0), .int v1, .int v2, .int v3, .int v4, .int v5] (w10 cI cZ qY oY) (fun _ : Unit => w10 cI cZ qY oY) (fun (r : Int32) (_ : Unit) => post r) := by
  refine CTi.of (cc := cX10_friends) (own := RX10) (maxL := 7) (ret := (some .int)) (lv0 := [(0, .ref (qY 0)), (1, .int v1), (2, .int v2), (3, .int v3), (4, .int v4), (5, .int v5)]) (by decide) rfl rfl (Nat.le_of_ble_eq_true rfl) rfl ?_
  intro p e s m args below meth c A C
  unfold wpX10_friends at h
  refine SW.aload_n C dX10_friends_0 rfl 0 rfl ?_
  refine SW.iload_n C dX10_friends_1 rfl 1 rfl ?_
  refine SW.iload_n C dX10_friends_2 rfl 3 rfl ?_
  refine SW.callVi_same C (ctX10_areTwo l D cI cZ qY oY v1 v3 _ h) gX10_friends_X10_areTwo rfl rfl rfl pdX10_areTwo ⟨by decide, by decide⟩ 0 rfl rfl rfl rfl rfl (Nat.le_of_ble_eq_true rfl) dX10_friends_3 (by decide) (fun r3 u h => ?_)
  try dsimp only at h
  refine SW.if_ne (tgt := 11) C dX10_friends_6 (by decide) (fun hc => ?_) (fun hc => ?_)
  · replace h := h.2 hc
    refine SW.iload_n C dX10_friends_11 rfl 2 rfl ?_
    refine SW.iconst (v := (1 : Int32)) C dX10_friends_12 (by decide) ?_
    refine SW.sipush (v := (200 : Int32)) C dX10_friends_13 (by decide) ?_
    refine SW.callSi_pure C (ctX10_in l D cI cZ v2 (1 : Int32) (200 : Int32) _ h) gX10_friends_X10_in rfl rfl rfl pdX10_in ⟨by decide, by decide⟩ rfl rfl (Nat.le_of_ble_eq_true rfl) dX10_friends_16 (by decide) (fun r16 u h => ?_)
    try dsimp only at h
    refine SW.if_eq (tgt := 44) C dX10_friends_19 (by decide) (fun hc => ?_) (fun hc => ?_)
    · replace h := h.1 hc
      refine SW.bipush (v := (-2 : Int32)) C dX10_friends_44 (by decide) ?_
      exact SW.iret C () rfl h dX10_friends_46
    · replace h := h.2 hc
      refine SW.iload C dX10_friends_22 4 rfl ?_
      refine SW.iconst (v := (1 : Int32)) C dX10_friends_24 (by decide) ?_
      refine SW.sipush (v := (200 : Int32)) C dX10_friends_25 (by decide) ?_
      refine SW.callSi_pure C (ctX10_in l D cI cZ v4 (1 : Int32) (200 : Int32) _ h) gX10_friends_X10_in rfl rfl rfl pdX10_in ⟨by decide, by decide⟩ rfl rfl (Nat.le_of_ble_eq_true rfl) dX10_friends_28 (by decide) (fun r28 u h => ?_)
      try dsimp only at h
      refine SW.if_eq (tgt := 44) C dX10_friends_31 (by decide) (fun hc => ?_) (fun hc => ?_)
      · replace h := h.1 hc
        refine SW.bipush (v := (-2 : Int32)) C dX10_friends_44 (by decide) ?_
        exact SW.iret C () rfl h dX10_friends_46
      · replace h := h.2 hc
        refine SW.iload C dX10_friends_34 5 rfl ?_
        refine SW.iconst (v := (0 : Int32)) C dX10_friends_36 (by decide) ?_
        refine SW.iconst (v := (1 : Int32)) C dX10_friends_37 (by decide) ?_
        refine SW.callSi_pure C (ctX10_in l D cI cZ v5 (0 : Int32) (1 : Int32) _ h) gX10_friends_X10_in rfl rfl rfl pdX10_in ⟨by decide, by decide⟩ rfl rfl (Nat.le_of_ble_eq_true rfl) dX10_friends_38 (by decide) (fun r38 u h => ?_)
        try dsimp only at h
        refine SW.if_ne (tgt := 47) C dX10_friends_41 (by decide) (fun hc => ?_) (fun hc => ?_)
        · replace h := h.2 hc
          refine SW.aload_n C dX10_friends_47 rfl 0 rfl ?_
          refine SW.iload_n C dX10_friends_48 rfl 1 rfl ?_
          refine SW.iload_n C dX10_friends_49 rfl 2 rfl ?_
          refine SW.iload_n C dX10_friends_50 rfl 3 rfl ?_
          refine SW.iload C dX10_friends_51 4 rfl ?_
          refine SW.callVi_same C (ctX10_fewestFor l D cI cZ qY oY v1 v2 v3 v4 _ h) gX10_friends_X10_fewestFor rfl rfl rfl pdX10_fewestFor ⟨by decide, by decide⟩ 0 rfl rfl rfl rfl rfl (Nat.le_of_ble_eq_true rfl) dX10_friends_53 (by decide) (fun r53 u h => ?_)
          try dsimp only at h
          refine SW.istore (lv' := [(6, .int r53), (0, .ref (qY 0)), (1, .int v1), (2, .int v2), (3, .int v3), (4, .int v4), (5, .int v5)]) C dX10_friends_56 (by decide) rfl ?_
          refine SW.iload C dX10_friends_58 0 rfl ?_
          refine jn0_elim (G := SW p l e { frames := 3, cells := 0, slots := 0, locals := 77 } s m args below meth c A D 7 0 0 (MQ below (va_Qi (fun (r : Int32) (_ : Unit) => post r) (ctB D A (fun _ : Unit => w10 cI cZ qY oY)) A) args s 0 0 A) (w10 cI cZ qY oY) 69 [(6, .int r53)] []) h (fun h => ?_) (fun J69 hJ69 h => ?_)
          · refine SW.iload C dX10_friends_69 0 rfl ?_
            refine SW.goto (tgt := 79) C dX10_friends_71 (by decide) ?_
            exact SW.iret C () rfl h dX10_friends_79
          · refine SW.if_lt (tgt := 69) C dX10_friends_60 (by decide) (fun hc => ?_) (fun hc => ?_)
            · replace h := h.1 hc
              refine SW.sub [0] rfl ?_
              exact hJ69 h
            · replace h := h.2 hc
              refine SW.iload C dX10_friends_63 6 rfl ?_
              refine SW.iconst (v := (1 : Int32)) C dX10_friends_65 (by decide) ?_
              refine SW.icmp_ne (tgt := 74) C dX10_friends_66 (by decide) (fun hc => ?_) (fun hc => ?_)
              · replace h := h.2 hc
                refine SW.iload C dX10_friends_74 0 rfl ?_
                refine SW.callSi_pure C (ctX10_bits l D cI cZ r53 _ h) gX10_friends_X10_bits rfl rfl rfl pdX10_bits ⟨by decide, by decide⟩ rfl rfl (Nat.le_of_ble_eq_true rfl) dX10_friends_76 (by decide) (fun r76 u h => ?_)
                try dsimp only at h
                exact SW.iret C () rfl h dX10_friends_79
              · replace h := h.1 hc
                refine SW.sub [0] rfl ?_
                exact hJ69 h
        · replace h := h.1 hc
          refine SW.bipush (v := (-2 : Int32)) C dX10_friends_44 (by decide) ?_
          exact SW.iret C () rfl h dX10_friends_46
  · replace h := h.1 hc
    refine SW.iconst (v := (-1 : Int32)) C dX10_friends_9 (by decide) ?_
    exact SW.iret C () rfl h dX10_friends_10
def wpX10_note (oY : Ob) (v1 : Int32) (post : Int32 → Prop) : Prop := (vp_in ((2 : Int32) * v1) 60) ∧ ((vp_in (((2 : Int32) * v1) + (1 : Int32)) 60) ∧ (post ((((10 : Int32) * ((jld (oY 4) ((2 : Int32) * v1)) - (48 : Int32))) + (jld (oY 4) (((2 : Int32) * v1) + (1 : Int32)))) - (48 : Int32))))
theorem pdX10_note : yX10_note.cls = RX10 ∧ yX10_note.cls ≠ "java/lang/invoke/MethodHandle" ∧ yX10_note.cls ≠ "java/lang/invoke/VarHandle" ∧ (parseMethodDescriptor yX10_note.desc).map (fun d => d.parameters.length) = some 1 := by decide +kernel
theorem lkX10_note_32 : Cond.fieldLink RX10 32 (TX10 11).1 (TX10 11).2.1 (TX10 11).2.2.1 ∈ wsX10_note := by decide +kernel
theorem inX10_note_X10 : ∀ w ∈ u_ws RX10 TX10 25, w ∈ wsX10_note := by decide +kernel
set_option maxHeartbeats 4000000 in
set_option maxRecDepth 100000 in
theorem ctX10_note (l : Launch) (D : va_G) (cI cZ : ClassId) (qY : Nat → Nat) (oY : Ob) (v1 : Int32) (post : Int32 → Prop) (h : wpX10_note oY v1 post) : CTi l yX10_note wsX10_note { frames := 0, cells := 0, slots := 0, locals := 0 } D [(cI, .int), (cZ, .boolean)] [.ref (qY 0), .int v1] (w10 cI cZ qY oY) (fun _ : Unit => w10 cI cZ qY oY) (fun (r : Int32) (_ : Unit) => post r) := by
  refine CTi.of (cc := cX10_note) (own := RX10) (maxL := 2) (ret := (some .int)) (lv0 := [(0, .ref (qY 0)), (1, .int v1)]) (by decide) rfl rfl (Nat.le_of_ble_eq_true rfl) rfl ?_
  intro p e s m args below meth c A C
  unfold wpX10_note at h
  refine SW.bipush (v := (10 : Int32)) C dX10_note_0 (by decide) ?_
  refine SW.aload_n C dX10_note_2 rfl 0 rfl ?_
  refine SW.get (v := .ref (qY 4)) (T := TX10) (N := 25) C inX10_note_X10 0 rfl rfl 11 (by decide) lkX10_note_32 rfl dX10_note_3 ?_
  refine SW.iconst (v := (2 : Int32)) C dX10_note_6 (by decide) ?_
  refine SW.iload_n C dX10_note_7 rfl 1 rfl ?_
  refine SW.imul C dX10_note_8 ?_
  refine SW.iald C 4 0 rfl rfl h.1 dX10_note_9 ?_
  replace h := h.2
  refine SW.bipush (v := (48 : Int32)) C dX10_note_10 (by decide) ?_
  refine SW.isub C dX10_note_12 ?_
  refine SW.imul C dX10_note_13 ?_
  refine SW.aload_n C dX10_note_14 rfl 0 rfl ?_
  refine SW.get (v := .ref (qY 4)) (T := TX10) (N := 25) C inX10_note_X10 0 rfl rfl 11 (by decide) lkX10_note_32 rfl dX10_note_15 ?_
  refine SW.iconst (v := (2 : Int32)) C dX10_note_18 (by decide) ?_
  refine SW.iload_n C dX10_note_19 rfl 1 rfl ?_
  refine SW.imul C dX10_note_20 ?_
  refine SW.iconst (v := (1 : Int32)) C dX10_note_21 (by decide) ?_
  refine SW.iadd C dX10_note_22 ?_
  refine SW.iald C 4 0 rfl rfl h.1 dX10_note_23 ?_
  replace h := h.2
  refine SW.iadd C dX10_note_24 ?_
  refine SW.bipush (v := (48 : Int32)) C dX10_note_25 (by decide) ?_
  refine SW.isub C dX10_note_27 ?_
  exact SW.iret C () rfl h dX10_note_28
def wpX10_changes_L42 (c3_42 : Int32) (K76 : Ob → Prop) : Nat → Int32 → Ob → Prop
  | 0, _, _ => False
  | fu42 + 1, v4_42, oY_42 => ((c3_42 ≤ v4_42) → K76 oY_42) ∧ (¬ (c3_42 ≤ v4_42) → jn2 (fun (p0_69 : Int32) (p1_69 : Int32) => (vp_in p1_69 1024) ∧ (wpX10_changes_L42 c3_42 K76 fu42 (v4_42 + (1 : Int32)) (pa oY_42 5 (nC p1_69) p0_69))) (fun J69 => ((v4_42 = (oY_42 0 6)) → J69 (0 : Int32) v4_42) ∧ (¬ (v4_42 = (oY_42 0 6)) → J69 (1000000 : Int32) v4_42)))
def wpX10_changes_L144 (c3_144 : Int32) (c6_144 : Int32) (E222 : Ob → Prop) : Nat → Int32 → Ob → Prop
  | 0, _, _ => False
  | fu144 + 1, v7_144, oY_144 => ((c3_144 ≤ v7_144) → E222 oY_144) ∧ (¬ (c3_144 ≤ v7_144) → (vp_in v7_144 1024) ∧ (jn1 (fun (p0_183 : Int32) => (vp_in c6_144 1024) ∧ (jn2 (fun (p0_215 : Int32) (p1_215 : Int32) => (vp_in p1_215 1024) ∧ (wpX10_changes_L144 c3_144 c6_144 E222 fu144 (v7_144 + (1 : Int32)) (pa oY_144 6 (nC p1_215) p0_215))) (fun J215 => (((jld (oY_144 6) c6_144) ≤ p0_183) → (vp_in c6_144 1024) ∧ (J215 (jld (oY_144 6) c6_144) c6_144)) ∧ (¬ ((jld (oY_144 6) c6_144) ≤ p0_183) → J215 p0_183 c6_144)))) (fun J183 => (((jld (oY_144 5) v7_144) = (1000000 : Int32)) → J183 (1000000 : Int32)) ∧ (¬ ((jld (oY_144 5) v7_144) = (1000000 : Int32)) → (vp_in v7_144 1024) ∧ (wpX10_bits (v7_144 ^^^ c6_144) (fun (r179 : Int32) => J183 ((jld (oY_144 5) v7_144) + r179)))))))
def wpX10_changes_L101 (c1_101 : Int32) (c3_101 : Int32) (c5_101 : Int32) (K228 : Ob → Prop) : Nat → Int32 → Ob → Prop
  | 0, _, _ => False
  | fu101 + 1, v6_101, oY_101 => ((c3_101 ≤ v6_101) → K228 oY_101) ∧ (¬ (c3_101 ≤ v6_101) → (vp_in v6_101 1024) ∧ (wpX10_canBe (pa oY_101 6 (nC v6_101) (1000000 : Int32)) v6_101 (fun (r119 : Int32) => jn1 (fun (oY_222 : Ob) => wpX10_changes_L101 c1_101 c3_101 c5_101 K228 fu101 (v6_101 + (1 : Int32)) oY_222) (fun J222 => ((r119 = 0) → J222 (pa oY_101 6 (nC v6_101) (1000000 : Int32))) ∧ (¬ (r119 = 0) → wpX10_lengthOf (pa oY_101 6 (nC v6_101) (1000000 : Int32)) c1_101 v6_101 (oY_101 0 5) (fun (r133 : Int32) => ((r133 = c5_101) → ∃ fu144 : Nat, wpX10_changes_L144 c3_101 v6_101 J222 fu144 (0 : Int32) (pa oY_101 6 (nC v6_101) (1000000 : Int32))) ∧ (¬ (r133 = c5_101) → J222 (pa oY_101 6 (nC v6_101) (1000000 : Int32)))))))))
def wpX10_changes_L231 (c3_231 : Int32) (K257 : Ob → Prop) : Nat → Int32 → Ob → Prop
  | 0, _, _ => False
  | fu231 + 1, v6_231, oY_231 => ((c3_231 ≤ v6_231) → K257 oY_231) ∧ (¬ (c3_231 ≤ v6_231) → (vp_in v6_231 1024) ∧ ((vp_in v6_231 1024) ∧ (wpX10_changes_L231 c3_231 K257 fu231 (v6_231 + (1 : Int32)) (pa oY_231 5 (nC v6_231) (jld (oY_231 6) v6_231)))))
def wpX10_changes_L79 (c1_79 : Int32) (c3_79 : Int32) (K263 : Ob → Prop) : Nat → Int32 → Ob → Prop
  | 0, _, _ => False
  | fu79 + 1, v4_79, oY_79 => ((((oY_79 0 10) / (2 : Int32)) ≤ v4_79) → K263 oY_79) ∧ (¬ (((oY_79 0 10) / (2 : Int32)) ≤ v4_79) → wpX10_note oY_79 v4_79 (fun (r93 : Int32) => ∃ fu101 : Nat, wpX10_changes_L101 c1_79 c3_79 r93 (fun (oY_228 : Ob) => ∃ fu231 : Nat, wpX10_changes_L231 c3_79 (fun (oY_257 : Ob) => wpX10_changes_L79 c1_79 c3_79 K263 fu79 (v4_79 + (1 : Int32)) oY_257) fu231 (0 : Int32) oY_228) fu101 (0 : Int32) oY_79))
def wpX10_changes_L274 (c3_274 : Int32) (oYc_274 : Ob) (K333 : Int32 → Int32 → Prop) : Nat → Int32 → Int32 → Int32 → Prop
  | 0, _, _, _ => False
  | fu274 + 1, v4_274, v5_274, v6_274 => ((c3_274 ≤ v6_274) → K333 v4_274 v5_274) ∧ (¬ (c3_274 ≤ v6_274) → (vp_in v6_274 1024) ∧ (jn1 (fun (p0_299 : Int32) => (vp_in v6_274 1024) ∧ (jn1 (fun (p0_325 : Int32) => wpX10_changes_L274 c3_274 oYc_274 K333 fu274 p0_299 p0_325 (v6_274 + (1 : Int32))) (fun J325 => ((v5_274 ≤ (jld (oYc_274 5) v6_274)) → J325 v5_274) ∧ (¬ (v5_274 ≤ (jld (oYc_274 5) v6_274)) → (vp_in v6_274 1024) ∧ (J325 (jld (oYc_274 5) v6_274)))))) (fun J299 => ((v5_274 ≤ (jld (oYc_274 5) v6_274)) → J299 v4_274) ∧ (¬ (v5_274 ≤ (jld (oYc_274 5) v6_274)) → J299 v6_274))))
def wpX10_changes (oY : Ob) (v1 : Int32) (v2 : Int32) (post : Int32 → Ob → Prop) : Prop := wpX10_isWindow oY v1 (fun (r2 : Int32) => ((r2 = 0) → post (-1 : Int32) oY) ∧ (¬ (r2 = 0) → wpX10_in v2 (0 : Int32) (1 : Int32) (fun (r13 : Int32) => ((r13 = 0) → post (-2 : Int32) oY) ∧ (¬ (r13 = 0) → wpX10_tuneFault oY (fun (r23 : Int32) => ((r23 < 0) → ∃ fu42 : Nat, wpX10_changes_L42 (jshl (1 : Int32) (oY 0 0)) (fun (oY_76 : Ob) => ∃ fu79 : Nat, wpX10_changes_L79 v1 (jshl (1 : Int32) (oY 0 0)) (fun (oY_263 : Ob) => ∃ fu274 : Nat, wpX10_changes_L274 (jshl (1 : Int32) (oY 0 0)) oY_263 (fun (v4_333 : Int32) (v5_333 : Int32) => jn0 (post v4_333 oY_263) (fun J343 => ((v4_333 < 0) → J343) ∧ (¬ (v4_333 < 0) → ((v2 = (1 : Int32)) → J343) ∧ (¬ (v2 = (1 : Int32)) → post v5_333 oY_263)))) fu274 (-6 : Int32) (1000000 : Int32) (0 : Int32)) fu79 (0 : Int32) oY_76) fu42 (0 : Int32) oY) ∧ (¬ (r23 < 0) → post (-5 : Int32) oY))))))
theorem pdX10_changes : yX10_changes.cls = RX10 ∧ yX10_changes.cls ≠ "java/lang/invoke/MethodHandle" ∧ yX10_changes.cls ≠ "java/lang/invoke/VarHandle" ∧ (parseMethodDescriptor yX10_changes.desc).map (fun d => d.parameters.length) = some 2 := by decide +kernel
theorem lkX10_changes_7 : Cond.fieldLink RX10 7 (TX10 0).1 (TX10 0).2.1 (TX10 0).2.2.1 ∈ wsX10_changes := by decide +kernel
theorem inX10_changes_X10 : ∀ w ∈ u_ws RX10 TX10 25, w ∈ wsX10_changes := by decide +kernel
theorem lkX10_changes_35 : Cond.fieldLink RX10 35 (TX10 18).1 (TX10 18).2.1 (TX10 18).2.2.1 ∈ wsX10_changes := by decide +kernel
theorem lkX10_changes_63 : Cond.fieldLink RX10 63 (TX10 6).1 (TX10 6).2.1 (TX10 6).2.2.1 ∈ wsX10_changes := by decide +kernel
theorem lkX10_changes_77 : Cond.fieldLink RX10 77 (TX10 10).1 (TX10 10).2.1 (TX10 10).2.2.1 ∈ wsX10_changes := by decide +kernel
theorem lkX10_changes_38 : Cond.fieldLink RX10 38 (TX10 19).1 (TX10 19).2.1 (TX10 19).2.2.1 ∈ wsX10_changes := by decide +kernel
theorem lkX10_changes_60 : Cond.fieldLink RX10 60 (TX10 5).1 (TX10 5).2.1 (TX10 5).2.2.1 ∈ wsX10_changes := by decide +kernel
set_option maxHeartbeats 4000000 in
set_option maxRecDepth 100000 in
theorem ctX10_changes (l : Launch) (D : va_G) (cI cZ : ClassId) (qY : Nat → Nat) (oY : Ob) (v1 : Int32) (v2 : Int32) (post : Int32 → Ob → Prop) (h : wpX10_changes oY v1 v2 post) : CTi l yX10_changes wsX10_changes { frames := 2, cells := 0, slots := 0, locals := 49 } D [(cI, .int), (cZ, .boolean)] [.ref (qY 0), .int v1, .int v2] (w10 cI cZ qY oY) (fun u : Ob => w10 cI cZ qY u) (fun (r : Int32) (u : Ob) => post r u) := by
  refine CTi.of (cc := cX10_changes) (own := RX10) (maxL := 9) (ret := (some .int)) (lv0 := [(0, .ref (qY 0)), (1, .int v1), (2, .int v2)]) (by decide) rfl rfl (Nat.le_of_ble_eq_true rfl) rfl ?_
  intro p e s m args below meth c A C
  unfold wpX10_changes at h
  refine SW.aload_n C dX10_changes_0 rfl 0 rfl ?_
  refine SW.iload_n C dX10_changes_1 rfl 1 rfl ?_
  refine SW.callVi_same C (ctX10_isWindow l D cI cZ qY oY v1 _ h) gX10_changes_X10_isWindow rfl rfl rfl pdX10_isWindow ⟨by decide, by decide⟩ 0 rfl rfl rfl rfl rfl (Nat.le_of_ble_eq_true rfl) dX10_changes_2 (by decide) (fun r2 u h => ?_)
  try dsimp only at h
  refine SW.if_ne (tgt := 10) C dX10_changes_5 (by decide) (fun hc => ?_) (fun hc => ?_)
  · replace h := h.2 hc
    refine SW.iload_n C dX10_changes_10 rfl 2 rfl ?_
    refine SW.iconst (v := (0 : Int32)) C dX10_changes_11 (by decide) ?_
    refine SW.iconst (v := (1 : Int32)) C dX10_changes_12 (by decide) ?_
    refine SW.callSi_pure C (ctX10_in l D cI cZ v2 (0 : Int32) (1 : Int32) _ h) gX10_changes_X10_in rfl rfl rfl pdX10_in ⟨by decide, by decide⟩ rfl rfl (Nat.le_of_ble_eq_true rfl) dX10_changes_13 (by decide) (fun r13 u h => ?_)
    try dsimp only at h
    refine SW.if_ne (tgt := 22) C dX10_changes_16 (by decide) (fun hc => ?_) (fun hc => ?_)
    · replace h := h.2 hc
      refine SW.aload_n C dX10_changes_22 rfl 0 rfl ?_
      refine SW.callVi_same C (ctX10_tuneFault l D cI cZ qY oY _ h) gX10_changes_X10_tuneFault rfl rfl rfl pdX10_tuneFault ⟨by decide, by decide⟩ 0 rfl rfl rfl rfl rfl (Nat.le_of_ble_eq_true rfl) dX10_changes_23 (by decide) (fun r23 u h => ?_)
      try dsimp only at h
      refine SW.if_lt (tgt := 32) C dX10_changes_26 (by decide) (fun hc => ?_) (fun hc => ?_)
      · replace h := h.1 hc
        refine SW.iconst (v := (1 : Int32)) C dX10_changes_32 (by decide) ?_
        refine SW.aload_n C dX10_changes_33 rfl 0 rfl ?_
        refine SW.get (v := .int (oY 0 0)) (T := TX10) (N := 25) C inX10_changes_X10 0 rfl rfl 0 (by decide) lkX10_changes_7 rfl dX10_changes_34 ?_
        refine SW.ishl C dX10_changes_37 ?_
        refine SW.istore_n (lv' := [(3, .int (jshl (1 : Int32) (oY 0 0))), (0, .ref (qY 0)), (1, .int v1), (2, .int v2)]) C dX10_changes_38 rfl (by decide) rfl ?_
        refine SW.iconst (v := (0 : Int32)) C dX10_changes_39 (by decide) ?_
        refine SW.istore (lv' := [(4, .int (0 : Int32)), (3, .int (jshl (1 : Int32) (oY 0 0))), (0, .ref (qY 0)), (1, .int v1), (2, .int v2)]) C dX10_changes_40 (by decide) rfl ?_
        have L42 : ∀ (K76 : Ob → Prop) (hK76 : ∀ (oY_76 : Ob), K76 oY_76 → SW p l e { frames := 2, cells := 0, slots := 0, locals := 49 } s m args below meth c A D 9 0 0 (MQ below (va_Qi (fun (r : Int32) (u : Ob) => post r u) (ctB D A (fun u : Ob => w10 cI cZ qY u)) A) args s 0 0 A) (w10 cI cZ qY oY_76) 76 [(0, .ref (qY 0)), (1, .int v1), (2, .int v2), (3, .int (jshl (1 : Int32) (oY 0 0)))] []) (fu : Nat) (v4_42 : Int32) (oY_42 : Ob), wpX10_changes_L42 (jshl (1 : Int32) (oY 0 0)) K76 fu v4_42 oY_42 → SW p l e { frames := 2, cells := 0, slots := 0, locals := 49 } s m args below meth c A D 9 0 0 (MQ below (va_Qi (fun (r : Int32) (u : Ob) => post r u) (ctB D A (fun u : Ob => w10 cI cZ qY u)) A) args s 0 0 A) (w10 cI cZ qY oY_42) 42 [(0, .ref (qY 0)), (1, .int v1), (2, .int v2), (3, .int (jshl (1 : Int32) (oY 0 0))), (4, .int v4_42)] [] := by
          intro K76 hK76 fu
          induction fu with
          | zero =>
            intro v4_42 oY_42 h
            exact False.elim h
          | succ fu ih =>
            intro v4_42 oY_42 h
            unfold wpX10_changes_L42 at h
            refine SW.iload C dX10_changes_42 4 rfl ?_
            refine SW.iload_n C dX10_changes_44 rfl 3 rfl ?_
            refine SW.icmp_ge (tgt := 76) C dX10_changes_45 (by decide) (fun hc => ?_) (fun hc => ?_)
            · replace h := h.1 hc
              refine SW.sub [0, 1, 2, 3] rfl ?_
              exact hK76 _ h
            · replace h := h.2 hc
              refine SW.aload_n C dX10_changes_48 rfl 0 rfl ?_
              refine SW.get (v := .ref (qY 5)) (T := TX10) (N := 25) C inX10_changes_X10 0 rfl rfl 18 (by decide) lkX10_changes_35 rfl dX10_changes_49 ?_
              refine SW.iload C dX10_changes_52 4 rfl ?_
              refine SW.iload C dX10_changes_54 4 rfl ?_
              refine SW.aload_n C dX10_changes_56 rfl 0 rfl ?_
              refine SW.get (v := .int (oY_42 0 6)) (T := TX10) (N := 25) C inX10_changes_X10 0 rfl rfl 6 (by decide) lkX10_changes_63 rfl dX10_changes_57 ?_
              refine jn2_elim (G := fun p0_69 p1_69 => SW p l e { frames := 2, cells := 0, slots := 0, locals := 49 } s m args below meth c A D 9 0 0 (MQ below (va_Qi (fun (r : Int32) (u : Ob) => post r u) (ctB D A (fun u : Ob => w10 cI cZ qY u)) A) args s 0 0 A) (w10 cI cZ qY oY_42) 69 [(0, .ref (qY 0)), (1, .int v1), (2, .int v2), (3, .int (jshl (1 : Int32) (oY 0 0))), (4, .int v4_42)] [.int p0_69, .int p1_69, .ref (qY 5)]) h (fun p0_69 p1_69 h => ?_) (fun J69 hJ69 h => ?_)
              · refine SW.iast (ws' := w10 cI cZ qY (pa oY_42 5 (nC p1_69) p0_69)) C 5 0 rfl rfl h.1 rfl dX10_changes_69 ?_
                replace h := h.2
                refine SW.iinc (q := 4) (v := (v4_42 + (1 : Int32))) (lv' := [(4, .int (v4_42 + (1 : Int32))), (0, .ref (qY 0)), (1, .int v1), (2, .int v2), (3, .int (jshl (1 : Int32) (oY 0 0)))]) C dX10_changes_70 rfl rfl (by decide) rfl ?_
                refine SW.goto (tgt := 42) C dX10_changes_73 (by decide) ?_
                refine SW.sub [1, 2, 3, 4, 0] rfl ?_
                exact ih _ _ h
              · refine SW.icmp_ne (tgt := 67) C dX10_changes_60 (by decide) (fun hc => ?_) (fun hc => ?_)
                · replace h := h.2 hc
                  refine SW.ldc (v := (1000000 : Int32)) C (by decide +kernel) dX10_changes_67 ?_
                  exact hJ69 _ _ h
                · replace h := h.1 hc
                  refine SW.iconst (v := (0 : Int32)) C dX10_changes_63 (by decide) ?_
                  refine SW.goto (tgt := 69) C dX10_changes_64 (by decide) ?_
                  exact hJ69 _ _ h
        obtain ⟨fu, h⟩ := h
        refine SW.sub [2, 3, 4, 1, 0] rfl ?_
        refine L42 _ (fun oY_76 h => ?_) fu _ _ h
        · refine SW.iconst (v := (0 : Int32)) C dX10_changes_76 (by decide) ?_
          refine SW.istore (lv' := [(4, .int (0 : Int32)), (0, .ref (qY 0)), (1, .int v1), (2, .int v2), (3, .int (jshl (1 : Int32) (oY 0 0)))]) C dX10_changes_77 (by decide) rfl ?_
          have L79 : ∀ (K263 : Ob → Prop) (hK263 : ∀ (oY_263 : Ob), K263 oY_263 → SW p l e { frames := 2, cells := 0, slots := 0, locals := 49 } s m args below meth c A D 9 0 0 (MQ below (va_Qi (fun (r : Int32) (u : Ob) => post r u) (ctB D A (fun u : Ob => w10 cI cZ qY u)) A) args s 0 0 A) (w10 cI cZ qY oY_263) 263 [(0, .ref (qY 0)), (2, .int v2), (3, .int (jshl (1 : Int32) (oY 0 0)))] []) (fu : Nat) (v4_79 : Int32) (oY_79 : Ob), wpX10_changes_L79 v1 (jshl (1 : Int32) (oY 0 0)) K263 fu v4_79 oY_79 → SW p l e { frames := 2, cells := 0, slots := 0, locals := 49 } s m args below meth c A D 9 0 0 (MQ below (va_Qi (fun (r : Int32) (u : Ob) => post r u) (ctB D A (fun u : Ob => w10 cI cZ qY u)) A) args s 0 0 A) (w10 cI cZ qY oY_79) 79 [(0, .ref (qY 0)), (1, .int v1), (2, .int v2), (3, .int (jshl (1 : Int32) (oY 0 0))), (4, .int v4_79)] [] := by
            intro K263 hK263 fu
            induction fu with
            | zero =>
              intro v4_79 oY_79 h
              exact False.elim h
            | succ fu ih =>
              intro v4_79 oY_79 h
              unfold wpX10_changes_L79 at h
              refine SW.iload C dX10_changes_79 4 rfl ?_
              refine SW.aload_n C dX10_changes_81 rfl 0 rfl ?_
              refine SW.get (v := .int (oY_79 0 10)) (T := TX10) (N := 25) C inX10_changes_X10 0 rfl rfl 10 (by decide) lkX10_changes_77 rfl dX10_changes_82 ?_
              refine SW.iconst (v := (2 : Int32)) C dX10_changes_85 (by decide) ?_
              refine SW.idiv C dX10_changes_86 (by decide) ?_
              refine SW.icmp_ge (tgt := 263) C dX10_changes_87 (by decide) (fun hc => ?_) (fun hc => ?_)
              · replace h := h.1 hc
                refine SW.sub [0, 2, 3] rfl ?_
                exact hK263 _ h
              · replace h := h.2 hc
                refine SW.aload_n C dX10_changes_90 rfl 0 rfl ?_
                refine SW.iload C dX10_changes_91 4 rfl ?_
                refine SW.callVi_same C (ctX10_note l D cI cZ qY oY_79 v4_79 _ h) gX10_changes_X10_note rfl rfl rfl pdX10_note ⟨by decide, by decide⟩ 0 rfl rfl rfl rfl rfl (Nat.le_of_ble_eq_true rfl) dX10_changes_93 (by decide) (fun r93 u h => ?_)
                try dsimp only at h
                refine SW.istore (lv' := [(5, .int r93), (0, .ref (qY 0)), (1, .int v1), (2, .int v2), (3, .int (jshl (1 : Int32) (oY 0 0))), (4, .int v4_79)]) C dX10_changes_96 (by decide) rfl ?_
                refine SW.iconst (v := (0 : Int32)) C dX10_changes_98 (by decide) ?_
                refine SW.istore (lv' := [(6, .int (0 : Int32)), (5, .int r93), (0, .ref (qY 0)), (1, .int v1), (2, .int v2), (3, .int (jshl (1 : Int32) (oY 0 0))), (4, .int v4_79)]) C dX10_changes_99 (by decide) rfl ?_
                have L101 : ∀ (K228 : Ob → Prop) (hK228 : ∀ (oY_228 : Ob), K228 oY_228 → SW p l e { frames := 2, cells := 0, slots := 0, locals := 49 } s m args below meth c A D 9 0 0 (MQ below (va_Qi (fun (r : Int32) (u : Ob) => post r u) (ctB D A (fun u : Ob => w10 cI cZ qY u)) A) args s 0 0 A) (w10 cI cZ qY oY_228) 228 [(0, .ref (qY 0)), (1, .int v1), (2, .int v2), (3, .int (jshl (1 : Int32) (oY 0 0))), (4, .int v4_79)] []) (fu : Nat) (v6_101 : Int32) (oY_101 : Ob), wpX10_changes_L101 v1 (jshl (1 : Int32) (oY 0 0)) r93 K228 fu v6_101 oY_101 → SW p l e { frames := 2, cells := 0, slots := 0, locals := 49 } s m args below meth c A D 9 0 0 (MQ below (va_Qi (fun (r : Int32) (u : Ob) => post r u) (ctB D A (fun u : Ob => w10 cI cZ qY u)) A) args s 0 0 A) (w10 cI cZ qY oY_101) 101 [(0, .ref (qY 0)), (1, .int v1), (2, .int v2), (3, .int (jshl (1 : Int32) (oY 0 0))), (4, .int v4_79), (5, .int r93), (6, .int v6_101)] [] := by
                  intro K228 hK228 fu
                  induction fu with
                  | zero =>
                    intro v6_101 oY_101 h
                    exact False.elim h
                  | succ fu ih =>
                    intro v6_101 oY_101 h
                    unfold wpX10_changes_L101 at h
                    refine SW.iload C dX10_changes_101 6 rfl ?_
                    refine SW.iload_n C dX10_changes_103 rfl 3 rfl ?_
                    refine SW.icmp_ge (tgt := 228) C dX10_changes_104 (by decide) (fun hc => ?_) (fun hc => ?_)
                    · replace h := h.1 hc
                      refine SW.sub [0, 1, 2, 3, 4] rfl ?_
                      exact hK228 _ h
                    · replace h := h.2 hc
                      refine SW.aload_n C dX10_changes_107 rfl 0 rfl ?_
                      refine SW.get (v := .ref (qY 6)) (T := TX10) (N := 25) C inX10_changes_X10 0 rfl rfl 19 (by decide) lkX10_changes_38 rfl dX10_changes_108 ?_
                      refine SW.iload C dX10_changes_111 6 rfl ?_
                      refine SW.ldc (v := (1000000 : Int32)) C (by decide +kernel) dX10_changes_113 ?_
                      refine SW.iast (ws' := w10 cI cZ qY (pa oY_101 6 (nC v6_101) (1000000 : Int32))) C 6 0 rfl rfl h.1 rfl dX10_changes_115 ?_
                      replace h := h.2
                      refine SW.aload_n C dX10_changes_116 rfl 0 rfl ?_
                      refine SW.iload C dX10_changes_117 6 rfl ?_
                      refine SW.callVi_same C (ctX10_canBe l D cI cZ qY (pa oY_101 6 (nC v6_101) (1000000 : Int32)) v6_101 _ h) gX10_changes_X10_canBe rfl rfl rfl pdX10_canBe ⟨by decide, by decide⟩ 0 rfl rfl rfl rfl rfl (Nat.le_of_ble_eq_true rfl) dX10_changes_119 (by decide) (fun r119 u h => ?_)
                      try dsimp only at h
                      refine jn1_elim (G := fun oY_222 => SW p l e { frames := 2, cells := 0, slots := 0, locals := 49 } s m args below meth c A D 9 0 0 (MQ below (va_Qi (fun (r : Int32) (u : Ob) => post r u) (ctB D A (fun u : Ob => w10 cI cZ qY u)) A) args s 0 0 A) (w10 cI cZ qY oY_222) 222 [(0, .ref (qY 0)), (1, .int v1), (2, .int v2), (3, .int (jshl (1 : Int32) (oY 0 0))), (4, .int v4_79), (5, .int r93), (6, .int v6_101)] []) h (fun oY_222 h => ?_) (fun J222 hJ222 h => ?_)
                      · refine SW.iinc (q := 6) (v := (v6_101 + (1 : Int32))) (lv' := [(6, .int (v6_101 + (1 : Int32))), (0, .ref (qY 0)), (1, .int v1), (2, .int v2), (3, .int (jshl (1 : Int32) (oY 0 0))), (4, .int v4_79), (5, .int r93)]) C dX10_changes_222 rfl rfl (by decide) rfl ?_
                        refine SW.goto (tgt := 101) C dX10_changes_225 (by decide) ?_
                        refine SW.sub [1, 2, 3, 4, 5, 6, 0] rfl ?_
                        exact ih _ _ h
                      · refine SW.if_eq (tgt := 222) C dX10_changes_122 (by decide) (fun hc => ?_) (fun hc => ?_)
                        · replace h := h.1 hc
                          exact hJ222 _ h
                        · replace h := h.2 hc
                          refine SW.aload_n C dX10_changes_125 rfl 0 rfl ?_
                          refine SW.iload_n C dX10_changes_126 rfl 1 rfl ?_
                          refine SW.iload C dX10_changes_127 6 rfl ?_
                          refine SW.aload_n C dX10_changes_129 rfl 0 rfl ?_
                          refine SW.get (v := .int (oY_101 0 5)) (T := TX10) (N := 25) C inX10_changes_X10 0 rfl rfl 5 (by decide) lkX10_changes_60 rfl dX10_changes_130 ?_
                          refine SW.callVi_same C (ctX10_lengthOf l D cI cZ qY (pa oY_101 6 (nC v6_101) (1000000 : Int32)) v1 v6_101 (oY_101 0 5) _ h) gX10_changes_X10_lengthOf rfl rfl rfl pdX10_lengthOf ⟨by decide, by decide⟩ 0 rfl rfl rfl rfl rfl (Nat.le_of_ble_eq_true rfl) dX10_changes_133 (by decide) (fun r133 u h => ?_)
                          try dsimp only at h
                          refine SW.iload C dX10_changes_136 5 rfl ?_
                          refine SW.icmp_ne (tgt := 222) C dX10_changes_138 (by decide) (fun hc => ?_) (fun hc => ?_)
                          · replace h := h.2 hc
                            exact hJ222 _ h
                          · replace h := h.1 hc
                            refine SW.iconst (v := (0 : Int32)) C dX10_changes_141 (by decide) ?_
                            refine SW.istore (lv' := [(7, .int (0 : Int32)), (0, .ref (qY 0)), (1, .int v1), (2, .int v2), (3, .int (jshl (1 : Int32) (oY 0 0))), (4, .int v4_79), (5, .int r93), (6, .int v6_101)]) C dX10_changes_142 (by decide) rfl ?_
                            have L144 : ∀ (fu : Nat) (v7_144 : Int32) (oY_144 : Ob), wpX10_changes_L144 (jshl (1 : Int32) (oY 0 0)) v6_101 J222 fu v7_144 oY_144 → SW p l e { frames := 2, cells := 0, slots := 0, locals := 49 } s m args below meth c A D 9 0 0 (MQ below (va_Qi (fun (r : Int32) (u : Ob) => post r u) (ctB D A (fun u : Ob => w10 cI cZ qY u)) A) args s 0 0 A) (w10 cI cZ qY oY_144) 144 [(0, .ref (qY 0)), (1, .int v1), (2, .int v2), (3, .int (jshl (1 : Int32) (oY 0 0))), (4, .int v4_79), (5, .int r93), (6, .int v6_101), (7, .int v7_144)] [] := by
                              intro fu
                              induction fu with
                              | zero =>
                                intro v7_144 oY_144 h
                                exact False.elim h
                              | succ fu ih =>
                                intro v7_144 oY_144 h
                                unfold wpX10_changes_L144 at h
                                refine SW.iload C dX10_changes_144 7 rfl ?_
                                refine SW.iload_n C dX10_changes_146 rfl 3 rfl ?_
                                refine SW.icmp_ge (tgt := 222) C dX10_changes_147 (by decide) (fun hc => ?_) (fun hc => ?_)
                                · replace h := h.1 hc
                                  refine SW.sub [0, 1, 2, 3, 4, 5, 6] rfl ?_
                                  exact hJ222 _ h
                                · replace h := h.2 hc
                                  refine SW.aload_n C dX10_changes_150 rfl 0 rfl ?_
                                  refine SW.get (v := .ref (qY 5)) (T := TX10) (N := 25) C inX10_changes_X10 0 rfl rfl 18 (by decide) lkX10_changes_35 rfl dX10_changes_151 ?_
                                  refine SW.iload C dX10_changes_154 7 rfl ?_
                                  refine SW.iald C 5 0 rfl rfl h.1 dX10_changes_156 ?_
                                  replace h := h.2
                                  refine SW.ldc (v := (1000000 : Int32)) C (by decide +kernel) dX10_changes_157 ?_
                                  refine jn1_elim (G := fun p0_183 => SW p l e { frames := 2, cells := 0, slots := 0, locals := 49 } s m args below meth c A D 9 0 0 (MQ below (va_Qi (fun (r : Int32) (u : Ob) => post r u) (ctB D A (fun u : Ob => w10 cI cZ qY u)) A) args s 0 0 A) (w10 cI cZ qY oY_144) 183 [(0, .ref (qY 0)), (1, .int v1), (2, .int v2), (3, .int (jshl (1 : Int32) (oY 0 0))), (4, .int v4_79), (5, .int r93), (6, .int v6_101), (7, .int v7_144)] [.int p0_183]) h (fun p0_183 h => ?_) (fun J183 hJ183 h => ?_)
                                  · refine SW.istore (lv' := [(8, .int p0_183), (0, .ref (qY 0)), (1, .int v1), (2, .int v2), (3, .int (jshl (1 : Int32) (oY 0 0))), (4, .int v4_79), (5, .int r93), (6, .int v6_101), (7, .int v7_144)]) C dX10_changes_183 (by decide) rfl ?_
                                    refine SW.aload_n C dX10_changes_185 rfl 1 rfl ?_
                                    refine SW.get (v := .ref (qY 6)) (T := TX10) (N := 25) C inX10_changes_X10 0 rfl rfl 19 (by decide) lkX10_changes_38 rfl dX10_changes_186 ?_
                                    refine SW.iload C dX10_changes_189 7 rfl ?_
                                    refine SW.iload C dX10_changes_191 0 rfl ?_
                                    refine SW.aload_n C dX10_changes_193 rfl 1 rfl ?_
                                    refine SW.get (v := .ref (qY 6)) (T := TX10) (N := 25) C inX10_changes_X10 0 rfl rfl 19 (by decide) lkX10_changes_38 rfl dX10_changes_194 ?_
                                    refine SW.iload C dX10_changes_197 7 rfl ?_
                                    refine SW.iald C 6 0 rfl rfl h.1 dX10_changes_199 ?_
                                    replace h := h.2
                                    refine jn2_elim (G := fun p0_215 p1_215 => SW p l e { frames := 2, cells := 0, slots := 0, locals := 49 } s m args below meth c A D 9 0 0 (MQ below (va_Qi (fun (r : Int32) (u : Ob) => post r u) (ctB D A (fun u : Ob => w10 cI cZ qY u)) A) args s 0 0 A) (w10 cI cZ qY oY_144) 215 [(0, .ref (qY 0)), (1, .int v1), (2, .int v2), (3, .int (jshl (1 : Int32) (oY 0 0))), (4, .int v4_79), (5, .int r93), (6, .int v6_101), (7, .int v7_144)] [.int p0_215, .int p1_215, .ref (qY 6)]) h (fun p0_215 p1_215 h => ?_) (fun J215 hJ215 h => ?_)
                                    · refine SW.iast (ws' := w10 cI cZ qY (pa oY_144 6 (nC p1_215) p0_215)) C 6 0 rfl rfl h.1 rfl dX10_changes_215 ?_
                                      replace h := h.2
                                      refine SW.iinc (q := 7) (v := (v7_144 + (1 : Int32))) (lv' := [(7, .int (v7_144 + (1 : Int32))), (0, .ref (qY 0)), (1, .int v1), (2, .int v2), (3, .int (jshl (1 : Int32) (oY 0 0))), (4, .int v4_79), (5, .int r93), (6, .int v6_101)]) C dX10_changes_216 rfl rfl (by decide) rfl ?_
                                      refine SW.goto (tgt := 144) C dX10_changes_219 (by decide) ?_
                                      refine SW.sub [1, 2, 3, 4, 5, 6, 7, 0] rfl ?_
                                      exact ih _ _ h
                                    · refine SW.icmp_ge (tgt := 208) C dX10_changes_200 (by decide) (fun hc => ?_) (fun hc => ?_)
                                      · replace h := h.1 hc
                                        refine SW.aload_n C dX10_changes_208 rfl 1 rfl ?_
                                        refine SW.get (v := .ref (qY 6)) (T := TX10) (N := 25) C inX10_changes_X10 0 rfl rfl 19 (by decide) lkX10_changes_38 rfl dX10_changes_209 ?_
                                        refine SW.iload C dX10_changes_212 7 rfl ?_
                                        refine SW.iald C 6 0 rfl rfl h.1 dX10_changes_214 ?_
                                        replace h := h.2
                                        refine SW.sub [1, 2, 3, 4, 5, 6, 7, 8] rfl ?_
                                        exact hJ215 _ _ h
                                      · replace h := h.2 hc
                                        refine SW.iload C dX10_changes_203 0 rfl ?_
                                        refine SW.goto (tgt := 215) C dX10_changes_205 (by decide) ?_
                                        refine SW.sub [1, 2, 3, 4, 5, 6, 7, 8] rfl ?_
                                        exact hJ215 _ _ h
                                  · refine SW.icmp_ne (tgt := 167) C dX10_changes_159 (by decide) (fun hc => ?_) (fun hc => ?_)
                                    · replace h := h.2 hc
                                      refine SW.aload_n C dX10_changes_167 rfl 0 rfl ?_
                                      refine SW.get (v := .ref (qY 5)) (T := TX10) (N := 25) C inX10_changes_X10 0 rfl rfl 18 (by decide) lkX10_changes_35 rfl dX10_changes_168 ?_
                                      refine SW.iload C dX10_changes_171 7 rfl ?_
                                      refine SW.iald C 5 0 rfl rfl h.1 dX10_changes_173 ?_
                                      replace h := h.2
                                      refine SW.iload C dX10_changes_174 7 rfl ?_
                                      refine SW.iload C dX10_changes_176 6 rfl ?_
                                      refine SW.ixor C dX10_changes_178 ?_
                                      refine SW.callSi_pure C (ctX10_bits l D cI cZ (v7_144 ^^^ v6_101) _ h) gX10_changes_X10_bits rfl rfl rfl pdX10_bits ⟨by decide, by decide⟩ rfl rfl (Nat.le_of_ble_eq_true rfl) dX10_changes_179 (by decide) (fun r179 u h => ?_)
                                      try dsimp only at h
                                      refine SW.iadd C dX10_changes_182 ?_
                                      exact hJ183 _ h
                                    · replace h := h.1 hc
                                      refine SW.ldc (v := (1000000 : Int32)) C (by decide +kernel) dX10_changes_162 ?_
                                      refine SW.goto (tgt := 183) C dX10_changes_164 (by decide) ?_
                                      exact hJ183 _ h
                            obtain ⟨fu, h⟩ := h
                            refine SW.sub [1, 2, 3, 4, 5, 6, 7, 0] rfl ?_
                            refine L144 fu _ _ h
                obtain ⟨fu, h⟩ := h
                refine SW.sub [2, 3, 4, 5, 6, 1, 0] rfl ?_
                refine L101 _ (fun oY_228 h => ?_) fu _ _ h
                · refine SW.iconst (v := (0 : Int32)) C dX10_changes_228 (by decide) ?_
                  refine SW.istore (lv' := [(6, .int (0 : Int32)), (0, .ref (qY 0)), (1, .int v1), (2, .int v2), (3, .int (jshl (1 : Int32) (oY 0 0))), (4, .int v4_79)]) C dX10_changes_229 (by decide) rfl ?_
                  have L231 : ∀ (K257 : Ob → Prop) (hK257 : ∀ (oY_257 : Ob), K257 oY_257 → SW p l e { frames := 2, cells := 0, slots := 0, locals := 49 } s m args below meth c A D 9 0 0 (MQ below (va_Qi (fun (r : Int32) (u : Ob) => post r u) (ctB D A (fun u : Ob => w10 cI cZ qY u)) A) args s 0 0 A) (w10 cI cZ qY oY_257) 257 [(0, .ref (qY 0)), (1, .int v1), (2, .int v2), (3, .int (jshl (1 : Int32) (oY 0 0))), (4, .int v4_79)] []) (fu : Nat) (v6_231 : Int32) (oY_231 : Ob), wpX10_changes_L231 (jshl (1 : Int32) (oY 0 0)) K257 fu v6_231 oY_231 → SW p l e { frames := 2, cells := 0, slots := 0, locals := 49 } s m args below meth c A D 9 0 0 (MQ below (va_Qi (fun (r : Int32) (u : Ob) => post r u) (ctB D A (fun u : Ob => w10 cI cZ qY u)) A) args s 0 0 A) (w10 cI cZ qY oY_231) 231 [(0, .ref (qY 0)), (1, .int v1), (2, .int v2), (3, .int (jshl (1 : Int32) (oY 0 0))), (4, .int v4_79), (6, .int v6_231)] [] := by
                    intro K257 hK257 fu
                    induction fu with
                    | zero =>
                      intro v6_231 oY_231 h
                      exact False.elim h
                    | succ fu ih =>
                      intro v6_231 oY_231 h
                      unfold wpX10_changes_L231 at h
                      refine SW.iload C dX10_changes_231 5 rfl ?_
                      refine SW.iload_n C dX10_changes_233 rfl 3 rfl ?_
                      refine SW.icmp_ge (tgt := 257) C dX10_changes_234 (by decide) (fun hc => ?_) (fun hc => ?_)
                      · replace h := h.1 hc
                        refine SW.sub [0, 1, 2, 3, 4] rfl ?_
                        exact hK257 _ h
                      · replace h := h.2 hc
                        refine SW.aload_n C dX10_changes_237 rfl 0 rfl ?_
                        refine SW.get (v := .ref (qY 5)) (T := TX10) (N := 25) C inX10_changes_X10 0 rfl rfl 18 (by decide) lkX10_changes_35 rfl dX10_changes_238 ?_
                        refine SW.iload C dX10_changes_241 5 rfl ?_
                        refine SW.aload_n C dX10_changes_243 rfl 0 rfl ?_
                        refine SW.get (v := .ref (qY 6)) (T := TX10) (N := 25) C inX10_changes_X10 0 rfl rfl 19 (by decide) lkX10_changes_38 rfl dX10_changes_244 ?_
                        refine SW.iload C dX10_changes_247 5 rfl ?_
                        refine SW.iald C 6 0 rfl rfl h.1 dX10_changes_249 ?_
                        replace h := h.2
                        refine SW.iast (ws' := w10 cI cZ qY (pa oY_231 5 (nC v6_231) (jld (oY_231 6) v6_231))) C 5 0 rfl rfl h.1 rfl dX10_changes_250 ?_
                        replace h := h.2
                        refine SW.iinc (q := 5) (v := (v6_231 + (1 : Int32))) (lv' := [(6, .int (v6_231 + (1 : Int32))), (0, .ref (qY 0)), (1, .int v1), (2, .int v2), (3, .int (jshl (1 : Int32) (oY 0 0))), (4, .int v4_79)]) C dX10_changes_251 rfl rfl (by decide) rfl ?_
                        refine SW.goto (tgt := 231) C dX10_changes_254 (by decide) ?_
                        refine SW.sub [1, 2, 3, 4, 5, 0] rfl ?_
                        exact ih _ _ h
                  obtain ⟨fu, h⟩ := h
                  refine SW.sub [1, 2, 3, 4, 5, 0] rfl ?_
                  refine L231 _ (fun oY_257 h => ?_) fu _ _ h
                  · refine SW.iinc (q := 4) (v := (v4_79 + (1 : Int32))) (lv' := [(4, .int (v4_79 + (1 : Int32))), (0, .ref (qY 0)), (1, .int v1), (2, .int v2), (3, .int (jshl (1 : Int32) (oY 0 0)))]) C dX10_changes_257 rfl rfl (by decide) rfl ?_
                    refine SW.goto (tgt := 79) C dX10_changes_260 (by decide) ?_
                    refine SW.sub [1, 2, 3, 4, 0] rfl ?_
                    exact ih _ _ h
          obtain ⟨fu, h⟩ := h
          refine SW.sub [1, 2, 3, 4, 0] rfl ?_
          refine L79 _ (fun oY_263 h => ?_) fu _ _ h
          · refine SW.bipush (v := (-6 : Int32)) C dX10_changes_263 (by decide) ?_
            refine SW.istore (lv' := [(4, .int (-6 : Int32)), (0, .ref (qY 0)), (2, .int v2), (3, .int (jshl (1 : Int32) (oY 0 0)))]) C dX10_changes_265 (by decide) rfl ?_
            refine SW.ldc (v := (1000000 : Int32)) C (by decide +kernel) dX10_changes_267 ?_
            refine SW.istore (lv' := [(5, .int (1000000 : Int32)), (4, .int (-6 : Int32)), (0, .ref (qY 0)), (2, .int v2), (3, .int (jshl (1 : Int32) (oY 0 0)))]) C dX10_changes_269 (by decide) rfl ?_
            refine SW.iconst (v := (0 : Int32)) C dX10_changes_271 (by decide) ?_
            refine SW.istore (lv' := [(6, .int (0 : Int32)), (5, .int (1000000 : Int32)), (4, .int (-6 : Int32)), (0, .ref (qY 0)), (2, .int v2), (3, .int (jshl (1 : Int32) (oY 0 0)))]) C dX10_changes_272 (by decide) rfl ?_
            have L274 : ∀ (K333 : Int32 → Int32 → Prop) (hK333 : ∀ (v4_333 : Int32) (v5_333 : Int32), K333 v4_333 v5_333 → SW p l e { frames := 2, cells := 0, slots := 0, locals := 49 } s m args below meth c A D 9 0 0 (MQ below (va_Qi (fun (r : Int32) (u : Ob) => post r u) (ctB D A (fun u : Ob => w10 cI cZ qY u)) A) args s 0 0 A) (w10 cI cZ qY oY_263) 333 [(2, .int v2), (4, .int v4_333), (5, .int v5_333)] []) (fu : Nat) (v4_274 : Int32) (v5_274 : Int32) (v6_274 : Int32), wpX10_changes_L274 (jshl (1 : Int32) (oY 0 0)) oY_263 K333 fu v4_274 v5_274 v6_274 → SW p l e { frames := 2, cells := 0, slots := 0, locals := 49 } s m args below meth c A D 9 0 0 (MQ below (va_Qi (fun (r : Int32) (u : Ob) => post r u) (ctB D A (fun u : Ob => w10 cI cZ qY u)) A) args s 0 0 A) (w10 cI cZ qY oY_263) 274 [(0, .ref (qY 0)), (2, .int v2), (3, .int (jshl (1 : Int32) (oY 0 0))), (4, .int v4_274), (5, .int v5_274), (6, .int v6_274)] [] := by
              intro K333 hK333 fu
              induction fu with
              | zero =>
                intro v4_274 v5_274 v6_274 h
                exact False.elim h
              | succ fu ih =>
                intro v4_274 v5_274 v6_274 h
                unfold wpX10_changes_L274 at h
                refine SW.iload C dX10_changes_274 5 rfl ?_
                refine SW.iload_n C dX10_changes_276 rfl 2 rfl ?_
                refine SW.icmp_ge (tgt := 333) C dX10_changes_277 (by decide) (fun hc => ?_) (fun hc => ?_)
                · replace h := h.1 hc
                  refine SW.sub [1, 3, 4] rfl ?_
                  exact hK333 _ _ h
                · replace h := h.2 hc
                  refine SW.aload_n C dX10_changes_280 rfl 0 rfl ?_
                  refine SW.get (v := .ref (qY 5)) (T := TX10) (N := 25) C inX10_changes_X10 0 rfl rfl 18 (by decide) lkX10_changes_35 rfl dX10_changes_281 ?_
                  refine SW.iload C dX10_changes_284 5 rfl ?_
                  refine SW.iald C 5 0 rfl rfl h.1 dX10_changes_286 ?_
                  replace h := h.2
                  refine SW.iload C dX10_changes_287 4 rfl ?_
                  refine jn1_elim (G := fun p0_299 => SW p l e { frames := 2, cells := 0, slots := 0, locals := 49 } s m args below meth c A D 9 0 0 (MQ below (va_Qi (fun (r : Int32) (u : Ob) => post r u) (ctB D A (fun u : Ob => w10 cI cZ qY u)) A) args s 0 0 A) (w10 cI cZ qY oY_263) 299 [(0, .ref (qY 0)), (2, .int v2), (3, .int (jshl (1 : Int32) (oY 0 0))), (5, .int v5_274), (6, .int v6_274)] [.int p0_299]) h (fun p0_299 h => ?_) (fun J299 hJ299 h => ?_)
                  · refine SW.istore (lv' := [(4, .int p0_299), (0, .ref (qY 0)), (2, .int v2), (3, .int (jshl (1 : Int32) (oY 0 0))), (5, .int v5_274), (6, .int v6_274)]) C dX10_changes_299 (by decide) rfl ?_
                    refine SW.aload_n C dX10_changes_301 rfl 1 rfl ?_
                    refine SW.get (v := .ref (qY 5)) (T := TX10) (N := 25) C inX10_changes_X10 0 rfl rfl 18 (by decide) lkX10_changes_35 rfl dX10_changes_302 ?_
                    refine SW.iload C dX10_changes_305 5 rfl ?_
                    refine SW.iald C 5 0 rfl rfl h.1 dX10_changes_307 ?_
                    replace h := h.2
                    refine SW.iload C dX10_changes_308 4 rfl ?_
                    refine jn1_elim (G := fun p0_325 => SW p l e { frames := 2, cells := 0, slots := 0, locals := 49 } s m args below meth c A D 9 0 0 (MQ below (va_Qi (fun (r : Int32) (u : Ob) => post r u) (ctB D A (fun u : Ob => w10 cI cZ qY u)) A) args s 0 0 A) (w10 cI cZ qY oY_263) 325 [(0, .ref (qY 0)), (2, .int v2), (3, .int (jshl (1 : Int32) (oY 0 0))), (4, .int p0_299), (6, .int v6_274)] [.int p0_325]) h (fun p0_325 h => ?_) (fun J325 hJ325 h => ?_)
                    · refine SW.istore (lv' := [(5, .int p0_325), (0, .ref (qY 0)), (2, .int v2), (3, .int (jshl (1 : Int32) (oY 0 0))), (4, .int p0_299), (6, .int v6_274)]) C dX10_changes_325 (by decide) rfl ?_
                      refine SW.iinc (q := 5) (v := (v6_274 + (1 : Int32))) (lv' := [(6, .int (v6_274 + (1 : Int32))), (5, .int p0_325), (0, .ref (qY 0)), (2, .int v2), (3, .int (jshl (1 : Int32) (oY 0 0))), (4, .int p0_299)]) C dX10_changes_327 rfl rfl (by decide) rfl ?_
                      refine SW.goto (tgt := 274) C dX10_changes_330 (by decide) ?_
                      refine SW.sub [2, 3, 4, 5, 1, 0] rfl ?_
                      exact ih _ _ _ h
                    · refine SW.icmp_ge (tgt := 323) C dX10_changes_310 (by decide) (fun hc => ?_) (fun hc => ?_)
                      · replace h := h.1 hc
                        refine SW.iload C dX10_changes_323 4 rfl ?_
                        refine SW.sub [1, 2, 3, 0, 5] rfl ?_
                        exact hJ325 _ h
                      · replace h := h.2 hc
                        refine SW.aload_n C dX10_changes_313 rfl 1 rfl ?_
                        refine SW.get (v := .ref (qY 5)) (T := TX10) (N := 25) C inX10_changes_X10 0 rfl rfl 18 (by decide) lkX10_changes_35 rfl dX10_changes_314 ?_
                        refine SW.iload C dX10_changes_317 5 rfl ?_
                        refine SW.iald C 5 0 rfl rfl h.1 dX10_changes_319 ?_
                        replace h := h.2
                        refine SW.goto (tgt := 325) C dX10_changes_320 (by decide) ?_
                        refine SW.sub [1, 2, 3, 0, 5] rfl ?_
                        exact hJ325 _ h
                  · refine SW.icmp_ge (tgt := 297) C dX10_changes_289 (by decide) (fun hc => ?_) (fun hc => ?_)
                    · replace h := h.1 hc
                      refine SW.iload C dX10_changes_297 3 rfl ?_
                      refine SW.sub [0, 1, 2, 4, 5] rfl ?_
                      exact hJ299 _ h
                    · replace h := h.2 hc
                      refine SW.iload C dX10_changes_292 5 rfl ?_
                      refine SW.goto (tgt := 299) C dX10_changes_294 (by decide) ?_
                      refine SW.sub [0, 1, 2, 4, 5] rfl ?_
                      exact hJ299 _ h
            obtain ⟨fu, h⟩ := h
            refine SW.sub [3, 4, 5, 2, 1, 0] rfl ?_
            refine L274 _ (fun v4_333 v5_333 h => ?_) fu _ _ _ h
            · refine SW.iload C dX10_changes_333 1 rfl ?_
              refine jn0_elim (G := SW p l e { frames := 2, cells := 0, slots := 0, locals := 49 } s m args below meth c A D 9 0 0 (MQ below (va_Qi (fun (r : Int32) (u : Ob) => post r u) (ctB D A (fun u : Ob => w10 cI cZ qY u)) A) args s 0 0 A) (w10 cI cZ qY oY_263) 343 [(4, .int v4_333)] []) h (fun h => ?_) (fun J343 hJ343 h => ?_)
              · refine SW.iload C dX10_changes_343 0 rfl ?_
                refine SW.goto (tgt := 350) C dX10_changes_345 (by decide) ?_
                exact SW.iret C oY_263 rfl h dX10_changes_350
              · refine SW.if_lt (tgt := 343) C dX10_changes_335 (by decide) (fun hc => ?_) (fun hc => ?_)
                · replace h := h.1 hc
                  refine SW.sub [1] rfl ?_
                  exact hJ343 h
                · replace h := h.2 hc
                  refine SW.iload_n C dX10_changes_338 rfl 0 rfl ?_
                  refine SW.iconst (v := (1 : Int32)) C dX10_changes_339 (by decide) ?_
                  refine SW.icmp_ne (tgt := 348) C dX10_changes_340 (by decide) (fun hc => ?_) (fun hc => ?_)
                  · replace h := h.2 hc
                    refine SW.iload C dX10_changes_348 2 rfl ?_
                    exact SW.iret C oY_263 rfl h dX10_changes_350
                  · replace h := h.1 hc
                    refine SW.sub [1] rfl ?_
                    exact hJ343 h
      · replace h := h.2 hc
        refine SW.bipush (v := (-5 : Int32)) C dX10_changes_29 (by decide) ?_
        exact SW.iret C oY rfl h dX10_changes_31
    · replace h := h.1 hc
      refine SW.bipush (v := (-2 : Int32)) C dX10_changes_19 (by decide) ?_
      exact SW.iret C oY rfl h dX10_changes_21
  · replace h := h.1 hc
    refine SW.iconst (v := (-1 : Int32)) C dX10_changes_8 (by decide) ?_
    exact SW.iret C oY rfl h dX10_changes_9
def wpX10_shifts_L46 (c1_46 : Int32) (c2_46 : Int32) (c3_46 : Int32) (c5_46 : Int32) (oYc_46 : Ob) (K163 : Int32 → Prop) : Nat → Int32 → Int32 → Prop
  | 0, _, _ => False
  | fu46 + 1, v6_46, v7_46 => (((c3_46 + c5_46) ≤ v7_46) → K163 v6_46) ∧ (¬ ((c3_46 + c5_46) ≤ v7_46) → ((v6_46 = 0) → K163 v6_46) ∧ (¬ (v6_46 = 0) → jn1 (fun (v6_157 : Int32) => wpX10_shifts_L46 c1_46 c2_46 c3_46 c5_46 oYc_46 K163 fu46 v6_157 (v7_46 + (1 : Int32))) (fun J157 => jn0 (jn1 (fun (p0_147 : Int32) => jn1 (fun (p0_155 : Int32) => J157 p0_155) (fun J155 => ((p0_147 < 0) → J155 (0 : Int32)) ∧ (¬ (p0_147 < 0) → J155 (1 : Int32)))) (fun J147 => ((c3_46 ≤ v7_46) → wpX10_note oYc_46 (v7_46 - c5_46) (fun (r138 : Int32) => wpX10_fewestFor oYc_46 c2_46 r138 (-6 : Int32) (0 : Int32) (fun (r144 : Int32) => J147 r144))) ∧ (¬ (c3_46 ≤ v7_46) → wpX10_note oYc_46 v7_46 (fun (r118 : Int32) => wpX10_fewestFor oYc_46 c1_46 r118 (-6 : Int32) (0 : Int32) (fun (r124 : Int32) => J147 r124))))) (fun J107 => ((c3_46 ≤ v7_46) → J107) ∧ (¬ (c3_46 ≤ v7_46) → ((v7_46 < c5_46) → J107) ∧ (¬ (v7_46 < c5_46) → wpX10_note oYc_46 v7_46 (fun (r78 : Int32) => wpX10_note oYc_46 (v7_46 - c5_46) (fun (r88 : Int32) => wpX10_fewestFor oYc_46 c1_46 r78 c2_46 r88 (fun (r91 : Int32) => jn1 (fun (p0_102 : Int32) => J157 p0_102) (fun J102 => ((r91 < 0) → J102 (0 : Int32)) ∧ (¬ (r91 < 0) → J102 (1 : Int32))))))))))))
def wpX10_shifts_L34 (c1_34 : Int32) (c2_34 : Int32) (c3_34 : Int32) (oYc_34 : Ob) (K187 : Int32 → Prop) : Nat → Int32 → Int32 → Prop
  | 0, _, _ => False
  | fu34 + 1, v4_34, v5_34 => ((c3_34 ≤ v5_34) → K187 v4_34) ∧ (¬ (c3_34 ≤ v5_34) → ∃ fu46 : Nat, wpX10_shifts_L46 c1_34 c2_34 c3_34 v5_34 oYc_34 (fun (v6_163 : Int32) => jn2 (fun (p0_178 : Int32) (p1_178 : Int32) => wpX10_shifts_L34 c1_34 c2_34 c3_34 oYc_34 K187 fu34 (p1_178 ||| p0_178) (v5_34 + (1 : Int32))) (fun J178 => ((v6_163 = 0) → J178 (0 : Int32) v4_34) ∧ (¬ (v6_163 = 0) → J178 (jshl (1 : Int32) v5_34) v4_34))) fu46 (1 : Int32) (0 : Int32))
def wpX10_shifts (oY : Ob) (v1 : Int32) (v2 : Int32) (post : Int32 → Prop) : Prop := wpX10_areTwo oY v1 v2 (fun (r3 : Int32) => ((r3 = 0) → post (-1 : Int32)) ∧ (¬ (r3 = 0) → wpX10_tuneFault oY (fun (r12 : Int32) => ((r12 < 0) → ∃ fu34 : Nat, wpX10_shifts_L34 v1 v2 ((oY 0 10) / (2 : Int32)) oY (fun (v4_187 : Int32) => post v4_187) fu34 (0 : Int32) (0 : Int32)) ∧ (¬ (r12 < 0) → post (-5 : Int32)))))
theorem pdX10_shifts : yX10_shifts.cls = RX10 ∧ yX10_shifts.cls ≠ "java/lang/invoke/MethodHandle" ∧ yX10_shifts.cls ≠ "java/lang/invoke/VarHandle" ∧ (parseMethodDescriptor yX10_shifts.desc).map (fun d => d.parameters.length) = some 2 := by decide +kernel
theorem lkX10_shifts_77 : Cond.fieldLink RX10 77 (TX10 10).1 (TX10 10).2.1 (TX10 10).2.2.1 ∈ wsX10_shifts := by decide +kernel
theorem inX10_shifts_X10 : ∀ w ∈ u_ws RX10 TX10 25, w ∈ wsX10_shifts := by decide +kernel
set_option maxHeartbeats 4000000 in
set_option maxRecDepth 100000 in
theorem ctX10_shifts (l : Launch) (D : va_G) (cI cZ : ClassId) (qY : Nat → Nat) (oY : Ob) (v1 : Int32) (v2 : Int32) (post : Int32 → Prop) (h : wpX10_shifts oY v1 v2 post) : CTi l yX10_shifts wsX10_shifts { frames := 3, cells := 0, slots := 0, locals := 77 } D [(cI, .int), (cZ, .boolean)] [.ref (qY 0), .int v1, .int v2] (w10 cI cZ qY oY) (fun _ : Unit => w10 cI cZ qY oY) (fun (r : Int32) (_ : Unit) => post r) := by
  refine CTi.of (cc := cX10_shifts) (own := RX10) (maxL := 8) (ret := (some .int)) (lv0 := [(0, .ref (qY 0)), (1, .int v1), (2, .int v2)]) (by decide) rfl rfl (Nat.le_of_ble_eq_true rfl) rfl ?_
  intro p e s m args below meth c A C
  unfold wpX10_shifts at h
  refine SW.aload_n C dX10_shifts_0 rfl 0 rfl ?_
  refine SW.iload_n C dX10_shifts_1 rfl 1 rfl ?_
  refine SW.iload_n C dX10_shifts_2 rfl 2 rfl ?_
  refine SW.callVi_same C (ctX10_areTwo l D cI cZ qY oY v1 v2 _ h) gX10_shifts_X10_areTwo rfl rfl rfl pdX10_areTwo ⟨by decide, by decide⟩ 0 rfl rfl rfl rfl rfl (Nat.le_of_ble_eq_true rfl) dX10_shifts_3 (by decide) (fun r3 u h => ?_)
  try dsimp only at h
  refine SW.if_ne (tgt := 11) C dX10_shifts_6 (by decide) (fun hc => ?_) (fun hc => ?_)
  · replace h := h.2 hc
    refine SW.aload_n C dX10_shifts_11 rfl 0 rfl ?_
    refine SW.callVi_same C (ctX10_tuneFault l D cI cZ qY oY _ h) gX10_shifts_X10_tuneFault rfl rfl rfl pdX10_tuneFault ⟨by decide, by decide⟩ 0 rfl rfl rfl rfl rfl (Nat.le_of_ble_eq_true rfl) dX10_shifts_12 (by decide) (fun r12 u h => ?_)
    try dsimp only at h
    refine SW.if_lt (tgt := 21) C dX10_shifts_15 (by decide) (fun hc => ?_) (fun hc => ?_)
    · replace h := h.1 hc
      refine SW.aload_n C dX10_shifts_21 rfl 0 rfl ?_
      refine SW.get (v := .int (oY 0 10)) (T := TX10) (N := 25) C inX10_shifts_X10 0 rfl rfl 10 (by decide) lkX10_shifts_77 rfl dX10_shifts_22 ?_
      refine SW.iconst (v := (2 : Int32)) C dX10_shifts_25 (by decide) ?_
      refine SW.idiv C dX10_shifts_26 (by decide) ?_
      refine SW.istore_n (lv' := [(3, .int ((oY 0 10) / (2 : Int32))), (0, .ref (qY 0)), (1, .int v1), (2, .int v2)]) C dX10_shifts_27 rfl (by decide) rfl ?_
      refine SW.iconst (v := (0 : Int32)) C dX10_shifts_28 (by decide) ?_
      refine SW.istore (lv' := [(4, .int (0 : Int32)), (3, .int ((oY 0 10) / (2 : Int32))), (0, .ref (qY 0)), (1, .int v1), (2, .int v2)]) C dX10_shifts_29 (by decide) rfl ?_
      refine SW.iconst (v := (0 : Int32)) C dX10_shifts_31 (by decide) ?_
      refine SW.istore (lv' := [(5, .int (0 : Int32)), (4, .int (0 : Int32)), (3, .int ((oY 0 10) / (2 : Int32))), (0, .ref (qY 0)), (1, .int v1), (2, .int v2)]) C dX10_shifts_32 (by decide) rfl ?_
      have L34 : ∀ (K187 : Int32 → Prop) (hK187 : ∀ (v4_187 : Int32), K187 v4_187 → SW p l e { frames := 3, cells := 0, slots := 0, locals := 77 } s m args below meth c A D 8 0 0 (MQ below (va_Qi (fun (r : Int32) (_ : Unit) => post r) (ctB D A (fun _ : Unit => w10 cI cZ qY oY)) A) args s 0 0 A) (w10 cI cZ qY oY) 187 [(4, .int v4_187)] []) (fu : Nat) (v4_34 : Int32) (v5_34 : Int32), wpX10_shifts_L34 v1 v2 ((oY 0 10) / (2 : Int32)) oY K187 fu v4_34 v5_34 → SW p l e { frames := 3, cells := 0, slots := 0, locals := 77 } s m args below meth c A D 8 0 0 (MQ below (va_Qi (fun (r : Int32) (_ : Unit) => post r) (ctB D A (fun _ : Unit => w10 cI cZ qY oY)) A) args s 0 0 A) (w10 cI cZ qY oY) 34 [(0, .ref (qY 0)), (1, .int v1), (2, .int v2), (3, .int ((oY 0 10) / (2 : Int32))), (4, .int v4_34), (5, .int v5_34)] [] := by
        intro K187 hK187 fu
        induction fu with
        | zero =>
          intro v4_34 v5_34 h
          exact False.elim h
        | succ fu ih =>
          intro v4_34 v5_34 h
          unfold wpX10_shifts_L34 at h
          refine SW.iload C dX10_shifts_34 5 rfl ?_
          refine SW.iload_n C dX10_shifts_36 rfl 3 rfl ?_
          refine SW.icmp_ge (tgt := 187) C dX10_shifts_37 (by decide) (fun hc => ?_) (fun hc => ?_)
          · replace h := h.1 hc
            refine SW.sub [4] rfl ?_
            exact hK187 _ h
          · replace h := h.2 hc
            refine SW.iconst (v := (1 : Int32)) C dX10_shifts_40 (by decide) ?_
            refine SW.istore (lv' := [(6, .int (1 : Int32)), (0, .ref (qY 0)), (1, .int v1), (2, .int v2), (3, .int ((oY 0 10) / (2 : Int32))), (4, .int v4_34), (5, .int v5_34)]) C dX10_shifts_41 (by decide) rfl ?_
            refine SW.iconst (v := (0 : Int32)) C dX10_shifts_43 (by decide) ?_
            refine SW.istore (lv' := [(7, .int (0 : Int32)), (6, .int (1 : Int32)), (0, .ref (qY 0)), (1, .int v1), (2, .int v2), (3, .int ((oY 0 10) / (2 : Int32))), (4, .int v4_34), (5, .int v5_34)]) C dX10_shifts_44 (by decide) rfl ?_
            have L46 : ∀ (K163 : Int32 → Prop) (hK163 : ∀ (v6_163 : Int32), K163 v6_163 → SW p l e { frames := 3, cells := 0, slots := 0, locals := 77 } s m args below meth c A D 8 0 0 (MQ below (va_Qi (fun (r : Int32) (_ : Unit) => post r) (ctB D A (fun _ : Unit => w10 cI cZ qY oY)) A) args s 0 0 A) (w10 cI cZ qY oY) 163 [(0, .ref (qY 0)), (1, .int v1), (2, .int v2), (3, .int ((oY 0 10) / (2 : Int32))), (4, .int v4_34), (5, .int v5_34), (6, .int v6_163)] []) (fu : Nat) (v6_46 : Int32) (v7_46 : Int32), wpX10_shifts_L46 v1 v2 ((oY 0 10) / (2 : Int32)) v5_34 oY K163 fu v6_46 v7_46 → SW p l e { frames := 3, cells := 0, slots := 0, locals := 77 } s m args below meth c A D 8 0 0 (MQ below (va_Qi (fun (r : Int32) (_ : Unit) => post r) (ctB D A (fun _ : Unit => w10 cI cZ qY oY)) A) args s 0 0 A) (w10 cI cZ qY oY) 46 [(0, .ref (qY 0)), (1, .int v1), (2, .int v2), (3, .int ((oY 0 10) / (2 : Int32))), (4, .int v4_34), (5, .int v5_34), (6, .int v6_46), (7, .int v7_46)] [] := by
              intro K163 hK163 fu
              induction fu with
              | zero =>
                intro v6_46 v7_46 h
                exact False.elim h
              | succ fu ih =>
                intro v6_46 v7_46 h
                unfold wpX10_shifts_L46 at h
                refine SW.iload C dX10_shifts_46 7 rfl ?_
                refine SW.iload_n C dX10_shifts_48 rfl 3 rfl ?_
                refine SW.iload C dX10_shifts_49 5 rfl ?_
                refine SW.iadd C dX10_shifts_51 ?_
                refine SW.icmp_ge (tgt := 163) C dX10_shifts_52 (by decide) (fun hc => ?_) (fun hc => ?_)
                · replace h := h.1 hc
                  refine SW.sub [0, 1, 2, 3, 4, 5, 6] rfl ?_
                  exact hK163 _ h
                · replace h := h.2 hc
                  refine SW.iload C dX10_shifts_55 6 rfl ?_
                  refine SW.if_eq (tgt := 163) C dX10_shifts_57 (by decide) (fun hc => ?_) (fun hc => ?_)
                  · replace h := h.1 hc
                    refine SW.sub [0, 1, 2, 3, 4, 5, 6] rfl ?_
                    exact hK163 _ h
                  · replace h := h.2 hc
                    refine SW.iload C dX10_shifts_60 7 rfl ?_
                    refine SW.iload_n C dX10_shifts_62 rfl 3 rfl ?_
                    refine jn1_elim (G := fun v6_157 => SW p l e { frames := 3, cells := 0, slots := 0, locals := 77 } s m args below meth c A D 8 0 0 (MQ below (va_Qi (fun (r : Int32) (_ : Unit) => post r) (ctB D A (fun _ : Unit => w10 cI cZ qY oY)) A) args s 0 0 A) (w10 cI cZ qY oY) 157 [(0, .ref (qY 0)), (1, .int v1), (2, .int v2), (3, .int ((oY 0 10) / (2 : Int32))), (4, .int v4_34), (5, .int v5_34), (6, .int v6_157), (7, .int v7_46)] []) h (fun v6_157 h => ?_) (fun J157 hJ157 h => ?_)
                    · refine SW.iinc (q := 7) (v := (v7_46 + (1 : Int32))) (lv' := [(7, .int (v7_46 + (1 : Int32))), (0, .ref (qY 0)), (1, .int v1), (2, .int v2), (3, .int ((oY 0 10) / (2 : Int32))), (4, .int v4_34), (5, .int v5_34), (6, .int v6_157)]) C dX10_shifts_157 rfl rfl (by decide) rfl ?_
                      refine SW.goto (tgt := 46) C dX10_shifts_160 (by decide) ?_
                      refine SW.sub [1, 2, 3, 4, 5, 6, 7, 0] rfl ?_
                      exact ih _ _ h
                    · refine jn0_elim (G := SW p l e { frames := 3, cells := 0, slots := 0, locals := 77 } s m args below meth c A D 8 0 0 (MQ below (va_Qi (fun (r : Int32) (_ : Unit) => post r) (ctB D A (fun _ : Unit => w10 cI cZ qY oY)) A) args s 0 0 A) (w10 cI cZ qY oY) 107 [(0, .ref (qY 0)), (1, .int v1), (2, .int v2), (3, .int ((oY 0 10) / (2 : Int32))), (4, .int v4_34), (5, .int v5_34), (7, .int v7_46)] []) h (fun h => ?_) (fun J107 hJ107 h => ?_)
                      · refine SW.iload C dX10_shifts_107 6 rfl ?_
                        refine SW.iload_n C dX10_shifts_109 rfl 3 rfl ?_
                        refine jn1_elim (G := fun p0_147 => SW p l e { frames := 3, cells := 0, slots := 0, locals := 77 } s m args below meth c A D 8 0 0 (MQ below (va_Qi (fun (r : Int32) (_ : Unit) => post r) (ctB D A (fun _ : Unit => w10 cI cZ qY oY)) A) args s 0 0 A) (w10 cI cZ qY oY) 147 [(0, .ref (qY 0)), (1, .int v1), (2, .int v2), (3, .int ((oY 0 10) / (2 : Int32))), (4, .int v4_34), (5, .int v5_34), (7, .int v7_46)] [.int p0_147]) h (fun p0_147 h => ?_) (fun J147 hJ147 h => ?_)
                        · refine jn1_elim (G := fun p0_155 => SW p l e { frames := 3, cells := 0, slots := 0, locals := 77 } s m args below meth c A D 8 0 0 (MQ below (va_Qi (fun (r : Int32) (_ : Unit) => post r) (ctB D A (fun _ : Unit => w10 cI cZ qY oY)) A) args s 0 0 A) (w10 cI cZ qY oY) 155 [(0, .ref (qY 0)), (1, .int v1), (2, .int v2), (3, .int ((oY 0 10) / (2 : Int32))), (4, .int v4_34), (5, .int v5_34), (7, .int v7_46)] [.int p0_155]) h (fun p0_155 h => ?_) (fun J155 hJ155 h => ?_)
                          · refine SW.istore (lv' := [(6, .int p0_155), (0, .ref (qY 0)), (1, .int v1), (2, .int v2), (3, .int ((oY 0 10) / (2 : Int32))), (4, .int v4_34), (5, .int v5_34), (7, .int v7_46)]) C dX10_shifts_155 (by decide) rfl ?_
                            refine SW.sub [1, 2, 3, 4, 5, 6, 0, 7] rfl ?_
                            exact hJ157 _ h
                          · refine SW.if_lt (tgt := 154) C dX10_shifts_147 (by decide) (fun hc => ?_) (fun hc => ?_)
                            · replace h := h.1 hc
                              refine SW.iconst (v := (0 : Int32)) C dX10_shifts_154 (by decide) ?_
                              exact hJ155 _ h
                            · replace h := h.2 hc
                              refine SW.iconst (v := (1 : Int32)) C dX10_shifts_150 (by decide) ?_
                              refine SW.goto (tgt := 155) C dX10_shifts_151 (by decide) ?_
                              exact hJ155 _ h
                        · refine SW.icmp_ge (tgt := 130) C dX10_shifts_110 (by decide) (fun hc => ?_) (fun hc => ?_)
                          · replace h := h.1 hc
                            refine SW.aload_n C dX10_shifts_130 rfl 0 rfl ?_
                            refine SW.iload_n C dX10_shifts_131 rfl 2 rfl ?_
                            refine SW.aload_n C dX10_shifts_132 rfl 0 rfl ?_
                            refine SW.iload C dX10_shifts_133 6 rfl ?_
                            refine SW.iload C dX10_shifts_135 5 rfl ?_
                            refine SW.isub C dX10_shifts_137 ?_
                            refine SW.callVi_same C (ctX10_note l D cI cZ qY oY (v7_46 - v5_34) _ h) gX10_shifts_X10_note rfl rfl rfl pdX10_note ⟨by decide, by decide⟩ 0 rfl rfl rfl rfl rfl (Nat.le_of_ble_eq_true rfl) dX10_shifts_138 (by decide) (fun r138 u h => ?_)
                            try dsimp only at h
                            refine SW.bipush (v := (-6 : Int32)) C dX10_shifts_141 (by decide) ?_
                            refine SW.iconst (v := (0 : Int32)) C dX10_shifts_143 (by decide) ?_
                            refine SW.callVi_same C (ctX10_fewestFor l D cI cZ qY oY v2 r138 (-6 : Int32) (0 : Int32) _ h) gX10_shifts_X10_fewestFor rfl rfl rfl pdX10_fewestFor ⟨by decide, by decide⟩ 0 rfl rfl rfl rfl rfl (Nat.le_of_ble_eq_true rfl) dX10_shifts_144 (by decide) (fun r144 u h => ?_)
                            try dsimp only at h
                            exact hJ147 _ h
                          · replace h := h.2 hc
                            refine SW.aload_n C dX10_shifts_113 rfl 0 rfl ?_
                            refine SW.iload_n C dX10_shifts_114 rfl 1 rfl ?_
                            refine SW.aload_n C dX10_shifts_115 rfl 0 rfl ?_
                            refine SW.iload C dX10_shifts_116 6 rfl ?_
                            refine SW.callVi_same C (ctX10_note l D cI cZ qY oY v7_46 _ h) gX10_shifts_X10_note rfl rfl rfl pdX10_note ⟨by decide, by decide⟩ 0 rfl rfl rfl rfl rfl (Nat.le_of_ble_eq_true rfl) dX10_shifts_118 (by decide) (fun r118 u h => ?_)
                            try dsimp only at h
                            refine SW.bipush (v := (-6 : Int32)) C dX10_shifts_121 (by decide) ?_
                            refine SW.iconst (v := (0 : Int32)) C dX10_shifts_123 (by decide) ?_
                            refine SW.callVi_same C (ctX10_fewestFor l D cI cZ qY oY v1 r118 (-6 : Int32) (0 : Int32) _ h) gX10_shifts_X10_fewestFor rfl rfl rfl pdX10_fewestFor ⟨by decide, by decide⟩ 0 rfl rfl rfl rfl rfl (Nat.le_of_ble_eq_true rfl) dX10_shifts_124 (by decide) (fun r124 u h => ?_)
                            try dsimp only at h
                            refine SW.goto (tgt := 147) C dX10_shifts_127 (by decide) ?_
                            exact hJ147 _ h
                      · refine SW.icmp_ge (tgt := 107) C dX10_shifts_63 (by decide) (fun hc => ?_) (fun hc => ?_)
                        · replace h := h.1 hc
                          refine SW.sub [0, 1, 2, 3, 4, 5, 7] rfl ?_
                          exact hJ107 h
                        · replace h := h.2 hc
                          refine SW.iload C dX10_shifts_66 7 rfl ?_
                          refine SW.iload C dX10_shifts_68 5 rfl ?_
                          refine SW.icmp_lt (tgt := 107) C dX10_shifts_70 (by decide) (fun hc => ?_) (fun hc => ?_)
                          · replace h := h.1 hc
                            refine SW.sub [0, 1, 2, 3, 4, 5, 7] rfl ?_
                            exact hJ107 h
                          · replace h := h.2 hc
                            refine SW.aload_n C dX10_shifts_73 rfl 0 rfl ?_
                            refine SW.iload_n C dX10_shifts_74 rfl 1 rfl ?_
                            refine SW.aload_n C dX10_shifts_75 rfl 0 rfl ?_
                            refine SW.iload C dX10_shifts_76 7 rfl ?_
                            refine SW.callVi_same C (ctX10_note l D cI cZ qY oY v7_46 _ h) gX10_shifts_X10_note rfl rfl rfl pdX10_note ⟨by decide, by decide⟩ 0 rfl rfl rfl rfl rfl (Nat.le_of_ble_eq_true rfl) dX10_shifts_78 (by decide) (fun r78 u h => ?_)
                            try dsimp only at h
                            refine SW.iload_n C dX10_shifts_81 rfl 2 rfl ?_
                            refine SW.aload_n C dX10_shifts_82 rfl 0 rfl ?_
                            refine SW.iload C dX10_shifts_83 7 rfl ?_
                            refine SW.iload C dX10_shifts_85 5 rfl ?_
                            refine SW.isub C dX10_shifts_87 ?_
                            refine SW.callVi_same C (ctX10_note l D cI cZ qY oY (v7_46 - v5_34) _ h) gX10_shifts_X10_note rfl rfl rfl pdX10_note ⟨by decide, by decide⟩ 0 rfl rfl rfl rfl rfl (Nat.le_of_ble_eq_true rfl) dX10_shifts_88 (by decide) (fun r88 u h => ?_)
                            try dsimp only at h
                            refine SW.callVi_same C (ctX10_fewestFor l D cI cZ qY oY v1 r78 v2 r88 _ h) gX10_shifts_X10_fewestFor rfl rfl rfl pdX10_fewestFor ⟨by decide, by decide⟩ 0 rfl rfl rfl rfl rfl (Nat.le_of_ble_eq_true rfl) dX10_shifts_91 (by decide) (fun r91 u h => ?_)
                            try dsimp only at h
                            refine jn1_elim (G := fun p0_102 => SW p l e { frames := 3, cells := 0, slots := 0, locals := 77 } s m args below meth c A D 8 0 0 (MQ below (va_Qi (fun (r : Int32) (_ : Unit) => post r) (ctB D A (fun _ : Unit => w10 cI cZ qY oY)) A) args s 0 0 A) (w10 cI cZ qY oY) 102 [(0, .ref (qY 0)), (1, .int v1), (2, .int v2), (3, .int ((oY 0 10) / (2 : Int32))), (4, .int v4_34), (5, .int v5_34), (7, .int v7_46)] [.int p0_102]) h (fun p0_102 h => ?_) (fun J102 hJ102 h => ?_)
                            · refine SW.istore (lv' := [(6, .int p0_102), (0, .ref (qY 0)), (1, .int v1), (2, .int v2), (3, .int ((oY 0 10) / (2 : Int32))), (4, .int v4_34), (5, .int v5_34), (7, .int v7_46)]) C dX10_shifts_102 (by decide) rfl ?_
                              refine SW.goto (tgt := 157) C dX10_shifts_104 (by decide) ?_
                              refine SW.sub [1, 2, 3, 4, 5, 6, 0, 7] rfl ?_
                              exact hJ157 _ h
                            · refine SW.if_lt (tgt := 101) C dX10_shifts_94 (by decide) (fun hc => ?_) (fun hc => ?_)
                              · replace h := h.1 hc
                                refine SW.iconst (v := (0 : Int32)) C dX10_shifts_101 (by decide) ?_
                                refine SW.sub [0, 1, 2, 3, 4, 5, 7] rfl ?_
                                exact hJ102 _ h
                              · replace h := h.2 hc
                                refine SW.iconst (v := (1 : Int32)) C dX10_shifts_97 (by decide) ?_
                                refine SW.goto (tgt := 102) C dX10_shifts_98 (by decide) ?_
                                refine SW.sub [0, 1, 2, 3, 4, 5, 7] rfl ?_
                                exact hJ102 _ h
            obtain ⟨fu, h⟩ := h
            refine SW.sub [2, 3, 4, 5, 6, 7, 1, 0] rfl ?_
            refine L46 _ (fun v6_163 h => ?_) fu _ _ h
            · refine SW.iload C dX10_shifts_163 4 rfl ?_
              refine SW.iload C dX10_shifts_165 6 rfl ?_
              refine jn2_elim (G := fun p0_178 p1_178 => SW p l e { frames := 3, cells := 0, slots := 0, locals := 77 } s m args below meth c A D 8 0 0 (MQ below (va_Qi (fun (r : Int32) (_ : Unit) => post r) (ctB D A (fun _ : Unit => w10 cI cZ qY oY)) A) args s 0 0 A) (w10 cI cZ qY oY) 178 [(0, .ref (qY 0)), (1, .int v1), (2, .int v2), (3, .int ((oY 0 10) / (2 : Int32))), (5, .int v5_34)] [.int p0_178, .int p1_178]) h (fun p0_178 p1_178 h => ?_) (fun J178 hJ178 h => ?_)
              · refine SW.ior C dX10_shifts_178 ?_
                refine SW.istore (lv' := [(4, .int (p1_178 ||| p0_178)), (0, .ref (qY 0)), (1, .int v1), (2, .int v2), (3, .int ((oY 0 10) / (2 : Int32))), (5, .int v5_34)]) C dX10_shifts_179 (by decide) rfl ?_
                refine SW.iinc (q := 5) (v := (v5_34 + (1 : Int32))) (lv' := [(5, .int (v5_34 + (1 : Int32))), (4, .int (p1_178 ||| p0_178)), (0, .ref (qY 0)), (1, .int v1), (2, .int v2), (3, .int ((oY 0 10) / (2 : Int32)))]) C dX10_shifts_181 rfl rfl (by decide) rfl ?_
                refine SW.goto (tgt := 34) C dX10_shifts_184 (by decide) ?_
                refine SW.sub [2, 3, 4, 5, 1, 0] rfl ?_
                exact ih _ _ h
              · refine SW.if_eq (tgt := 177) C dX10_shifts_167 (by decide) (fun hc => ?_) (fun hc => ?_)
                · replace h := h.1 hc
                  refine SW.iconst (v := (0 : Int32)) C dX10_shifts_177 (by decide) ?_
                  refine SW.sub [0, 1, 2, 3, 5] rfl ?_
                  exact hJ178 _ _ h
                · replace h := h.2 hc
                  refine SW.iconst (v := (1 : Int32)) C dX10_shifts_170 (by decide) ?_
                  refine SW.iload C dX10_shifts_171 5 rfl ?_
                  refine SW.ishl C dX10_shifts_173 ?_
                  refine SW.goto (tgt := 178) C dX10_shifts_174 (by decide) ?_
                  refine SW.sub [0, 1, 2, 3, 5] rfl ?_
                  exact hJ178 _ _ h
      obtain ⟨fu, h⟩ := h
      refine SW.sub [3, 4, 5, 2, 1, 0] rfl ?_
      refine L34 _ (fun v4_187 h => ?_) fu _ _ h
      · refine SW.iload C dX10_shifts_187 0 rfl ?_
        exact SW.iret C () rfl h dX10_shifts_189
    · replace h := h.2 hc
      refine SW.bipush (v := (-5 : Int32)) C dX10_shifts_18 (by decide) ?_
      exact SW.iret C () rfl h dX10_shifts_20
  · replace h := h.1 hc
    refine SW.iconst (v := (-1 : Int32)) C dX10_shifts_9 (by decide) ?_
    exact SW.iret C () rfl h dX10_shifts_10
def wpX10_seen (oY : Ob) (v1 : Int32) (v2 : Int32) (post : Int32 → Ob → Prop) : Prop := wpX10_isWindow oY v1 (fun (r2 : Int32) => ((r2 = 0) → post (-1 : Int32) oY) ∧ (¬ (r2 = 0) → wpX10_in v2 (1 : Int32) (200 : Int32) (fun (r15 : Int32) => ((r15 = 0) → post (-2 : Int32) oY) ∧ (¬ (r15 = 0) → (((oY 0 8) = (8 : Int32)) → post (-4 : Int32) oY) ∧ (¬ ((oY 0 8) = (8 : Int32)) → (vp_in ((2 : Int32) * (oY 0 8)) 16) ∧ (∀ oY_61n : Ob, oY_61n = (pa oY 3 (nC ((2 : Int32) * (oY 0 8))) v1) → ((vp_in (((2 : Int32) * (oY 0 8)) + (1 : Int32)) 16) ∧ (∀ oY_69n : Ob, oY_69n = (pa oY_61n 3 (nC (((2 : Int32) * (oY 0 8)) + (1 : Int32))) v2) → (post ((oY_61n 0 8) + (1 : Int32)) (pf oY_69n 8 ((oY_61n 0 8) + (1 : Int32))))))))))))
theorem pdX10_seen : yX10_seen.cls = RX10 ∧ yX10_seen.cls ≠ "java/lang/invoke/MethodHandle" ∧ yX10_seen.cls ≠ "java/lang/invoke/VarHandle" ∧ (parseMethodDescriptor yX10_seen.desc).map (fun d => d.parameters.length) = some 2 := by decide +kernel
theorem lkX10_seen_66 : Cond.fieldLink RX10 66 (TX10 8).1 (TX10 8).2.1 (TX10 8).2.2.1 ∈ wsX10_seen := by decide +kernel
theorem inX10_seen_X10 : ∀ w ∈ u_ws RX10 TX10 25, w ∈ wsX10_seen := by decide +kernel
theorem lkX10_seen_29 : Cond.fieldLink RX10 29 (TX10 9).1 (TX10 9).2.1 (TX10 9).2.2.1 ∈ wsX10_seen := by decide +kernel
set_option maxHeartbeats 4000000 in
set_option maxRecDepth 100000 in
theorem ctX10_seen (l : Launch) (D : va_G) (cI cZ : ClassId) (qY : Nat → Nat) (oY : Ob) (v1 : Int32) (v2 : Int32) (post : Int32 → Ob → Prop) (h : wpX10_seen oY v1 v2 post) : CTi l yX10_seen wsX10_seen { frames := 2, cells := 0, slots := 0, locals := 43 } D [(cI, .int), (cZ, .boolean)] [.ref (qY 0), .int v1, .int v2] (w10 cI cZ qY oY) (fun u : Ob => w10 cI cZ qY u) (fun (r : Int32) (u : Ob) => post r u) := by
  refine CTi.of (cc := cX10_seen) (own := RX10) (maxL := 3) (ret := (some .int)) (lv0 := [(0, .ref (qY 0)), (1, .int v1), (2, .int v2)]) (by decide) rfl rfl (Nat.le_of_ble_eq_true rfl) rfl ?_
  intro p e s m args below meth c A C
  unfold wpX10_seen at h
  refine SW.aload_n C dX10_seen_0 rfl 0 rfl ?_
  refine SW.iload_n C dX10_seen_1 rfl 1 rfl ?_
  refine SW.callVi_same C (ctX10_isWindow l D cI cZ qY oY v1 _ h) gX10_seen_X10_isWindow rfl rfl rfl pdX10_isWindow ⟨by decide, by decide⟩ 0 rfl rfl rfl rfl rfl (Nat.le_of_ble_eq_true rfl) dX10_seen_2 (by decide) (fun r2 u h => ?_)
  try dsimp only at h
  refine SW.if_ne (tgt := 10) C dX10_seen_5 (by decide) (fun hc => ?_) (fun hc => ?_)
  · replace h := h.2 hc
    refine SW.iload_n C dX10_seen_10 rfl 2 rfl ?_
    refine SW.iconst (v := (1 : Int32)) C dX10_seen_11 (by decide) ?_
    refine SW.sipush (v := (200 : Int32)) C dX10_seen_12 (by decide) ?_
    refine SW.callSi_pure C (ctX10_in l D cI cZ v2 (1 : Int32) (200 : Int32) _ h) gX10_seen_X10_in rfl rfl rfl pdX10_in ⟨by decide, by decide⟩ rfl rfl (Nat.le_of_ble_eq_true rfl) dX10_seen_15 (by decide) (fun r15 u h => ?_)
    try dsimp only at h
    refine SW.if_ne (tgt := 24) C dX10_seen_18 (by decide) (fun hc => ?_) (fun hc => ?_)
    · replace h := h.2 hc
      refine SW.aload_n C dX10_seen_24 rfl 0 rfl ?_
      refine SW.get (v := .int (oY 0 8)) (T := TX10) (N := 25) C inX10_seen_X10 0 rfl rfl 8 (by decide) lkX10_seen_66 rfl dX10_seen_25 ?_
      refine SW.bipush (v := (8 : Int32)) C dX10_seen_28 (by decide) ?_
      refine SW.icmp_ne (tgt := 36) C dX10_seen_30 (by decide) (fun hc => ?_) (fun hc => ?_)
      · replace h := h.2 hc
        refine SW.aload_n C dX10_seen_36 rfl 0 rfl ?_
        refine SW.get (v := .ref (qY 3)) (T := TX10) (N := 25) C inX10_seen_X10 0 rfl rfl 9 (by decide) lkX10_seen_29 rfl dX10_seen_37 ?_
        refine SW.iconst (v := (2 : Int32)) C dX10_seen_40 (by decide) ?_
        refine SW.aload_n C dX10_seen_41 rfl 0 rfl ?_
        refine SW.get (v := .int (oY 0 8)) (T := TX10) (N := 25) C inX10_seen_X10 0 rfl rfl 8 (by decide) lkX10_seen_66 rfl dX10_seen_42 ?_
        refine SW.imul C dX10_seen_45 ?_
        refine SW.iload_n C dX10_seen_46 rfl 1 rfl ?_
        refine SW.iast (ws' := w10 cI cZ qY (pa oY 3 (nC ((2 : Int32) * (oY 0 8))) v1)) C 3 0 rfl rfl h.1 rfl dX10_seen_47 ?_
        replace h := h.2
        refine SW.aload_n C dX10_seen_48 rfl 0 rfl ?_
        refine SW.get (v := .ref (qY 3)) (T := TX10) (N := 25) C inX10_seen_X10 0 rfl rfl 9 (by decide) lkX10_seen_29 rfl dX10_seen_49 ?_
        refine SW.iconst (v := (2 : Int32)) C dX10_seen_52 (by decide) ?_
        refine SW.aload_n C dX10_seen_53 rfl 0 rfl ?_
        refine SW.get (v := .int (oY 0 8)) (T := TX10) (N := 25) C inX10_seen_X10 0 rfl rfl 8 (by decide) lkX10_seen_66 rfl dX10_seen_54 ?_
        refine SW.imul C dX10_seen_57 ?_
        refine SW.iconst (v := (1 : Int32)) C dX10_seen_58 (by decide) ?_
        refine SW.iadd C dX10_seen_59 ?_
        refine SW.iload_n C dX10_seen_60 rfl 2 rfl ?_
        refine SW.nameOb (wz := fun z => w10 cI cZ qY z) (o := (pa oY 3 (nC ((2 : Int32) * (oY 0 8))) v1)) (fun oY_61n he => ?_)
        replace h := h oY_61n he
        refine SW.iast (ws' := w10 cI cZ qY (pa oY_61n 3 (nC (((2 : Int32) * (oY 0 8)) + (1 : Int32))) v2)) C 3 0 rfl rfl h.1 rfl dX10_seen_61 ?_
        replace h := h.2
        refine SW.aload_n C dX10_seen_62 rfl 0 rfl ?_
        refine SW.dup C dX10_seen_63 rfl ?_
        refine SW.get (v := .int (oY_61n 0 8)) (T := TX10) (N := 25) C inX10_seen_X10 0 rfl rfl 8 (by decide) lkX10_seen_66 rfl dX10_seen_64 ?_
        refine SW.iconst (v := (1 : Int32)) C dX10_seen_67 (by decide) ?_
        refine SW.iadd C dX10_seen_68 ?_
        refine SW.nameOb (wz := fun z => w10 cI cZ qY z) (o := (pa oY_61n 3 (nC (((2 : Int32) * (oY 0 8)) + (1 : Int32))) v2)) (fun oY_69n he => ?_)
        replace h := h oY_69n he
        refine SW.put (ws' := w10 cI cZ qY (pf oY_69n 8 ((oY_61n 0 8) + (1 : Int32)))) (T := TX10) (N := 25) C inX10_seen_X10 tyX10 tyX10_ok nmX10 0 rfl rfl 8 (by decide) lkX10_seen_66 rfl rfl rfl (Nat.le_of_ble_eq_true rfl) rfl dX10_seen_69 ?_
        refine SW.aload_n C dX10_seen_72 rfl 0 rfl ?_
        refine SW.get (v := .int ((oY_61n 0 8) + (1 : Int32))) (T := TX10) (N := 25) C inX10_seen_X10 0 rfl rfl 8 (by decide) lkX10_seen_66 rfl dX10_seen_73 ?_
        exact SW.iret C (pf oY_69n 8 ((oY_61n 0 8) + (1 : Int32))) rfl h dX10_seen_76
      · replace h := h.1 hc
        refine SW.bipush (v := (-4 : Int32)) C dX10_seen_33 (by decide) ?_
        exact SW.iret C oY rfl h dX10_seen_35
    · replace h := h.1 hc
      refine SW.bipush (v := (-2 : Int32)) C dX10_seen_21 (by decide) ?_
      exact SW.iret C oY rfl h dX10_seen_23
  · replace h := h.1 hc
    refine SW.iconst (v := (-1 : Int32)) C dX10_seen_8 (by decide) ?_
    exact SW.iret C oY rfl h dX10_seen_9
def wpX10_forget (oY : Ob) (post : Int32 → Ob → Prop) : Prop := post (oY 0 8) (pf oY 8 (0 : Int32))
theorem pdX10_forget : yX10_forget.cls = RX10 ∧ yX10_forget.cls ≠ "java/lang/invoke/MethodHandle" ∧ yX10_forget.cls ≠ "java/lang/invoke/VarHandle" ∧ (parseMethodDescriptor yX10_forget.desc).map (fun d => d.parameters.length) = some 0 := by decide +kernel
theorem lkX10_forget_66 : Cond.fieldLink RX10 66 (TX10 8).1 (TX10 8).2.1 (TX10 8).2.2.1 ∈ wsX10_forget := by decide +kernel
theorem inX10_forget_X10 : ∀ w ∈ u_ws RX10 TX10 25, w ∈ wsX10_forget := by decide +kernel
set_option maxHeartbeats 4000000 in
set_option maxRecDepth 100000 in
theorem ctX10_forget (l : Launch) (D : va_G) (cI cZ : ClassId) (qY : Nat → Nat) (oY : Ob) (post : Int32 → Ob → Prop) (h : wpX10_forget oY post) : CTi l yX10_forget wsX10_forget { frames := 0, cells := 0, slots := 0, locals := 0 } D [(cI, .int), (cZ, .boolean)] [.ref (qY 0)] (w10 cI cZ qY oY) (fun u : Ob => w10 cI cZ qY u) (fun (r : Int32) (u : Ob) => post r u) := by
  refine CTi.of (cc := cX10_forget) (own := RX10) (maxL := 2) (ret := (some .int)) (lv0 := [(0, .ref (qY 0))]) (by decide) rfl rfl (Nat.le_of_ble_eq_true rfl) rfl ?_
  intro p e s m args below meth c A C
  unfold wpX10_forget at h
  refine SW.aload_n C dX10_forget_0 rfl 0 rfl ?_
  refine SW.get (v := .int (oY 0 8)) (T := TX10) (N := 25) C inX10_forget_X10 0 rfl rfl 8 (by decide) lkX10_forget_66 rfl dX10_forget_1 ?_
  refine SW.istore_n (lv' := [(1, .int (oY 0 8)), (0, .ref (qY 0))]) C dX10_forget_4 rfl (by decide) rfl ?_
  refine SW.aload_n C dX10_forget_5 rfl 1 rfl ?_
  refine SW.iconst (v := (0 : Int32)) C dX10_forget_6 (by decide) ?_
  refine SW.put (ws' := w10 cI cZ qY (pf oY 8 (0 : Int32))) (T := TX10) (N := 25) C inX10_forget_X10 tyX10 tyX10_ok nmX10 0 rfl rfl 8 (by decide) lkX10_forget_66 rfl rfl rfl (Nat.le_of_ble_eq_true rfl) rfl dX10_forget_7 ?_
  refine SW.iload_n C dX10_forget_10 rfl 0 rfl ?_
  exact SW.iret C (pf oY 8 (0 : Int32)) rfl h dX10_forget_11
def wpX10_fits_L8 (c1_8 : Int32) (oYc_8 : Ob) (K62 : Int32 → Prop) : Nat → Int32 → Int32 → Prop
  | 0, _, _ => False
  | fu8 + 1, v2_8, v3_8 => (((oYc_8 0 8) ≤ v3_8) → K62 v2_8) ∧ (¬ ((oYc_8 0 8) ≤ v3_8) → ((v2_8 = 0) → K62 v2_8) ∧ (¬ (v2_8 = 0) → (vp_in ((2 : Int32) * v3_8) 16) ∧ (wpX10_lengthOf oYc_8 (jld (oYc_8 3) ((2 : Int32) * v3_8)) c1_8 (oYc_8 0 5) (fun (r34 : Int32) => (vp_in (((2 : Int32) * v3_8) + (1 : Int32)) 16) ∧ (jn1 (fun (p0_55 : Int32) => wpX10_fits_L8 c1_8 oYc_8 K62 fu8 p0_55 (v3_8 + (1 : Int32))) (fun J55 => ((r34 = (jld (oYc_8 3) (((2 : Int32) * v3_8) + (1 : Int32)))) → J55 (1 : Int32)) ∧ (¬ (r34 = (jld (oYc_8 3) (((2 : Int32) * v3_8) + (1 : Int32)))) → J55 (0 : Int32))))))))
def wpX10_fits (oY : Ob) (v1 : Int32) (post : Int32 → Prop) : Prop := wpX10_canBe oY v1 (fun (r2 : Int32) => ∃ fu8 : Nat, wpX10_fits_L8 v1 oY (fun (v2_62 : Int32) => isB v2_62 ∧ post v2_62) fu8 r2 (0 : Int32))
theorem pdX10_fits : yX10_fits.cls = RX10 ∧ yX10_fits.cls ≠ "java/lang/invoke/MethodHandle" ∧ yX10_fits.cls ≠ "java/lang/invoke/VarHandle" ∧ (parseMethodDescriptor yX10_fits.desc).map (fun d => d.parameters.length) = some 1 := by decide +kernel
theorem lkX10_fits_66 : Cond.fieldLink RX10 66 (TX10 8).1 (TX10 8).2.1 (TX10 8).2.2.1 ∈ wsX10_fits := by decide +kernel
theorem inX10_fits_X10 : ∀ w ∈ u_ws RX10 TX10 25, w ∈ wsX10_fits := by decide +kernel
theorem lkX10_fits_29 : Cond.fieldLink RX10 29 (TX10 9).1 (TX10 9).2.1 (TX10 9).2.2.1 ∈ wsX10_fits := by decide +kernel
theorem lkX10_fits_60 : Cond.fieldLink RX10 60 (TX10 5).1 (TX10 5).2.1 (TX10 5).2.2.1 ∈ wsX10_fits := by decide +kernel
set_option maxHeartbeats 4000000 in
set_option maxRecDepth 100000 in
theorem ctX10_fits (l : Launch) (D : va_G) (cI cZ : ClassId) (qY : Nat → Nat) (oY : Ob) (v1 : Int32) (post : Int32 → Prop) (h : wpX10_fits oY v1 post) : CTi l yX10_fits wsX10_fits { frames := 2, cells := 0, slots := 0, locals := 49 } D [(cI, .int), (cZ, .boolean)] [.ref (qY 0), .int v1] (w10 cI cZ qY oY) (fun _ : Unit => w10 cI cZ qY oY) (fun (r : Int32) (_ : Unit) => post r) := by
  refine CTi.of (cc := cX10_fits) (own := RX10) (maxL := 4) (ret := (some .boolean)) (lv0 := [(0, .ref (qY 0)), (1, .int v1)]) (by decide) rfl rfl (Nat.le_of_ble_eq_true rfl) rfl ?_
  intro p e s m args below meth c A C
  unfold wpX10_fits at h
  refine SW.aload_n C dX10_fits_0 rfl 0 rfl ?_
  refine SW.iload_n C dX10_fits_1 rfl 1 rfl ?_
  refine SW.callVi_same C (ctX10_canBe l D cI cZ qY oY v1 _ h) gX10_fits_X10_canBe rfl rfl rfl pdX10_canBe ⟨by decide, by decide⟩ 0 rfl rfl rfl rfl rfl (Nat.le_of_ble_eq_true rfl) dX10_fits_2 (by decide) (fun r2 u h => ?_)
  try dsimp only at h
  refine SW.istore_n (lv' := [(2, .int r2), (0, .ref (qY 0)), (1, .int v1)]) C dX10_fits_5 rfl (by decide) rfl ?_
  refine SW.iconst (v := (0 : Int32)) C dX10_fits_6 (by decide) ?_
  refine SW.istore_n (lv' := [(3, .int (0 : Int32)), (2, .int r2), (0, .ref (qY 0)), (1, .int v1)]) C dX10_fits_7 rfl (by decide) rfl ?_
  have L8 : ∀ (K62 : Int32 → Prop) (hK62 : ∀ (v2_62 : Int32), K62 v2_62 → SW p l e { frames := 2, cells := 0, slots := 0, locals := 49 } s m args below meth c A D 4 0 0 (MQ below (va_Qi (fun (r : Int32) (_ : Unit) => post r) (ctB D A (fun _ : Unit => w10 cI cZ qY oY)) A) args s 0 0 A) (w10 cI cZ qY oY) 62 [(2, .int v2_62)] []) (fu : Nat) (v2_8 : Int32) (v3_8 : Int32), wpX10_fits_L8 v1 oY K62 fu v2_8 v3_8 → SW p l e { frames := 2, cells := 0, slots := 0, locals := 49 } s m args below meth c A D 4 0 0 (MQ below (va_Qi (fun (r : Int32) (_ : Unit) => post r) (ctB D A (fun _ : Unit => w10 cI cZ qY oY)) A) args s 0 0 A) (w10 cI cZ qY oY) 8 [(0, .ref (qY 0)), (1, .int v1), (2, .int v2_8), (3, .int v3_8)] [] := by
    intro K62 hK62 fu
    induction fu with
    | zero =>
      intro v2_8 v3_8 h
      exact False.elim h
    | succ fu ih =>
      intro v2_8 v3_8 h
      unfold wpX10_fits_L8 at h
      refine SW.iload_n C dX10_fits_8 rfl 3 rfl ?_
      refine SW.aload_n C dX10_fits_9 rfl 0 rfl ?_
      refine SW.get (v := .int (oY 0 8)) (T := TX10) (N := 25) C inX10_fits_X10 0 rfl rfl 8 (by decide) lkX10_fits_66 rfl dX10_fits_10 ?_
      refine SW.icmp_ge (tgt := 62) C dX10_fits_13 (by decide) (fun hc => ?_) (fun hc => ?_)
      · replace h := h.1 hc
        refine SW.sub [2] rfl ?_
        exact hK62 _ h
      · replace h := h.2 hc
        refine SW.iload_n C dX10_fits_16 rfl 2 rfl ?_
        refine SW.if_eq (tgt := 62) C dX10_fits_17 (by decide) (fun hc => ?_) (fun hc => ?_)
        · replace h := h.1 hc
          refine SW.sub [2] rfl ?_
          exact hK62 _ h
        · replace h := h.2 hc
          refine SW.aload_n C dX10_fits_20 rfl 0 rfl ?_
          refine SW.aload_n C dX10_fits_21 rfl 0 rfl ?_
          refine SW.get (v := .ref (qY 3)) (T := TX10) (N := 25) C inX10_fits_X10 0 rfl rfl 9 (by decide) lkX10_fits_29 rfl dX10_fits_22 ?_
          refine SW.iconst (v := (2 : Int32)) C dX10_fits_25 (by decide) ?_
          refine SW.iload_n C dX10_fits_26 rfl 3 rfl ?_
          refine SW.imul C dX10_fits_27 ?_
          refine SW.iald C 3 0 rfl rfl h.1 dX10_fits_28 ?_
          replace h := h.2
          refine SW.iload_n C dX10_fits_29 rfl 1 rfl ?_
          refine SW.aload_n C dX10_fits_30 rfl 0 rfl ?_
          refine SW.get (v := .int (oY 0 5)) (T := TX10) (N := 25) C inX10_fits_X10 0 rfl rfl 5 (by decide) lkX10_fits_60 rfl dX10_fits_31 ?_
          refine SW.callVi_same C (ctX10_lengthOf l D cI cZ qY oY (jld (oY 3) ((2 : Int32) * v3_8)) v1 (oY 0 5) _ h) gX10_fits_X10_lengthOf rfl rfl rfl pdX10_lengthOf ⟨by decide, by decide⟩ 0 rfl rfl rfl rfl rfl (Nat.le_of_ble_eq_true rfl) dX10_fits_34 (by decide) (fun r34 u h => ?_)
          try dsimp only at h
          refine SW.aload_n C dX10_fits_37 rfl 0 rfl ?_
          refine SW.get (v := .ref (qY 3)) (T := TX10) (N := 25) C inX10_fits_X10 0 rfl rfl 9 (by decide) lkX10_fits_29 rfl dX10_fits_38 ?_
          refine SW.iconst (v := (2 : Int32)) C dX10_fits_41 (by decide) ?_
          refine SW.iload_n C dX10_fits_42 rfl 3 rfl ?_
          refine SW.imul C dX10_fits_43 ?_
          refine SW.iconst (v := (1 : Int32)) C dX10_fits_44 (by decide) ?_
          refine SW.iadd C dX10_fits_45 ?_
          refine SW.iald C 3 0 rfl rfl h.1 dX10_fits_46 ?_
          replace h := h.2
          refine jn1_elim (G := fun p0_55 => SW p l e { frames := 2, cells := 0, slots := 0, locals := 49 } s m args below meth c A D 4 0 0 (MQ below (va_Qi (fun (r : Int32) (_ : Unit) => post r) (ctB D A (fun _ : Unit => w10 cI cZ qY oY)) A) args s 0 0 A) (w10 cI cZ qY oY) 55 [(0, .ref (qY 0)), (1, .int v1), (3, .int v3_8)] [.int p0_55]) h (fun p0_55 h => ?_) (fun J55 hJ55 h => ?_)
          · refine SW.istore_n (lv' := [(2, .int p0_55), (0, .ref (qY 0)), (1, .int v1), (3, .int v3_8)]) C dX10_fits_55 rfl (by decide) rfl ?_
            refine SW.iinc (q := 3) (v := (v3_8 + (1 : Int32))) (lv' := [(3, .int (v3_8 + (1 : Int32))), (2, .int p0_55), (0, .ref (qY 0)), (1, .int v1)]) C dX10_fits_56 rfl rfl (by decide) rfl ?_
            refine SW.goto (tgt := 8) C dX10_fits_59 (by decide) ?_
            refine SW.sub [2, 3, 1, 0] rfl ?_
            exact ih _ _ h
          · refine SW.icmp_ne (tgt := 54) C dX10_fits_47 (by decide) (fun hc => ?_) (fun hc => ?_)
            · replace h := h.2 hc
              refine SW.iconst (v := (0 : Int32)) C dX10_fits_54 (by decide) ?_
              refine SW.sub [0, 1, 3] rfl ?_
              exact hJ55 _ h
            · replace h := h.1 hc
              refine SW.iconst (v := (1 : Int32)) C dX10_fits_50 (by decide) ?_
              refine SW.goto (tgt := 55) C dX10_fits_51 (by decide) ?_
              refine SW.sub [0, 1, 3] rfl ?_
              exact hJ55 _ h
  obtain ⟨fu, h⟩ := h
  refine SW.sub [2, 3, 1, 0] rfl ?_
  refine L8 _ (fun v2_62 h => ?_) fu _ _ h
  · refine SW.iload_n C dX10_fits_62 rfl 0 rfl ?_
    exact SW.zret C () (isB_nar h.1) rfl h.2 dX10_fits_63
def wpX10_fit_L33 (oYc_33 : Ob) (K87 : Int32 → Int32 → Int32 → Int32 → Prop) : Nat → Int32 → Int32 → Int32 → Int32 → Int32 → Prop
  | 0, _, _, _, _, _ => False
  | fu33 + 1, v2_33, v3_33, v4_33, v5_33, v6_33 => (((jshl (1 : Int32) (oYc_33 0 0)) ≤ v6_33) → K87 v2_33 v3_33 v4_33 v5_33) ∧ (¬ ((jshl (1 : Int32) (oYc_33 0 0)) ≤ v6_33) → wpX10_fits oYc_33 v6_33 (fun (r47 : Int32) => jn4 (fun (v2_81 : Int32) (v3_81 : Int32) (v4_81 : Int32) (v5_81 : Int32) => wpX10_fit_L33 oYc_33 K87 fu33 v2_81 v3_81 v4_81 v5_81 (v6_33 + (1 : Int32))) (fun J81 => ((r47 = 0) → J81 v2_33 v3_33 v4_33 v5_33) ∧ (¬ (r47 = 0) → jn1 (fun (p0_64 : Int32) => J81 (v2_33 + (1 : Int32)) (v3_33 ||| v6_33) (v4_33 &&& v6_33) p0_64) (fun J64 => ((v2_33 = 0) → J64 v6_33) ∧ (¬ (v2_33 = 0) → J64 v5_33))))))
def wpX10_fit (oY : Ob) (v1 : Int32) (post : Int32 → Prop) : Prop := wpX10_in v1 (0 : Int32) (3 : Int32) (fun (r3 : Int32) => ((r3 = 0) → post (-2 : Int32)) ∧ (¬ (r3 = 0) → ∃ fu33 : Nat, wpX10_fit_L33 oY (fun (v2_87 : Int32) (v3_87 : Int32) (v4_87 : Int32) (v5_87 : Int32) => ((v1 = 0) → post v2_87) ∧ (¬ (v1 = 0) → ((v1 = (1 : Int32)) → post v3_87) ∧ (¬ (v1 = (1 : Int32)) → ((v1 = (2 : Int32)) → ((v2_87 = 0) → post (0 : Int32)) ∧ (¬ (v2_87 = 0) → post v4_87)) ∧ (¬ (v1 = (2 : Int32)) → post v5_87)))) fu33 (0 : Int32) (0 : Int32) ((jshl (1 : Int32) (oY 0 0)) - (1 : Int32)) (-6 : Int32) (0 : Int32)))
theorem pdX10_fit : yX10_fit.cls = RX10 ∧ yX10_fit.cls ≠ "java/lang/invoke/MethodHandle" ∧ yX10_fit.cls ≠ "java/lang/invoke/VarHandle" ∧ (parseMethodDescriptor yX10_fit.desc).map (fun d => d.parameters.length) = some 1 := by decide +kernel
theorem lkX10_fit_7 : Cond.fieldLink RX10 7 (TX10 0).1 (TX10 0).2.1 (TX10 0).2.2.1 ∈ wsX10_fit := by decide +kernel
theorem inX10_fit_X10 : ∀ w ∈ u_ws RX10 TX10 25, w ∈ wsX10_fit := by decide +kernel
set_option maxHeartbeats 4000000 in
set_option maxRecDepth 100000 in
theorem ctX10_fit (l : Launch) (D : va_G) (cI cZ : ClassId) (qY : Nat → Nat) (oY : Ob) (v1 : Int32) (post : Int32 → Prop) (h : wpX10_fit oY v1 post) : CTi l yX10_fit wsX10_fit { frames := 3, cells := 0, slots := 0, locals := 72 } D [(cI, .int), (cZ, .boolean)] [.ref (qY 0), .int v1] (w10 cI cZ qY oY) (fun _ : Unit => w10 cI cZ qY oY) (fun (r : Int32) (_ : Unit) => post r) := by
  refine CTi.of (cc := cX10_fit) (own := RX10) (maxL := 7) (ret := (some .int)) (lv0 := [(0, .ref (qY 0)), (1, .int v1)]) (by decide) rfl rfl (Nat.le_of_ble_eq_true rfl) rfl ?_
  intro p e s m args below meth c A C
  unfold wpX10_fit at h
  refine SW.iload_n C dX10_fit_0 rfl 1 rfl ?_
  refine SW.iconst (v := (0 : Int32)) C dX10_fit_1 (by decide) ?_
  refine SW.iconst (v := (3 : Int32)) C dX10_fit_2 (by decide) ?_
  refine SW.callSi_pure C (ctX10_in l D cI cZ v1 (0 : Int32) (3 : Int32) _ h) gX10_fit_X10_in rfl rfl rfl pdX10_in ⟨by decide, by decide⟩ rfl rfl (Nat.le_of_ble_eq_true rfl) dX10_fit_3 (by decide) (fun r3 u h => ?_)
  try dsimp only at h
  refine SW.if_ne (tgt := 12) C dX10_fit_6 (by decide) (fun hc => ?_) (fun hc => ?_)
  · replace h := h.2 hc
    refine SW.iconst (v := (0 : Int32)) C dX10_fit_12 (by decide) ?_
    refine SW.istore_n (lv' := [(2, .int (0 : Int32)), (0, .ref (qY 0)), (1, .int v1)]) C dX10_fit_13 rfl (by decide) rfl ?_
    refine SW.iconst (v := (0 : Int32)) C dX10_fit_14 (by decide) ?_
    refine SW.istore_n (lv' := [(3, .int (0 : Int32)), (2, .int (0 : Int32)), (0, .ref (qY 0)), (1, .int v1)]) C dX10_fit_15 rfl (by decide) rfl ?_
    refine SW.iconst (v := (1 : Int32)) C dX10_fit_16 (by decide) ?_
    refine SW.aload_n C dX10_fit_17 rfl 2 rfl ?_
    refine SW.get (v := .int (oY 0 0)) (T := TX10) (N := 25) C inX10_fit_X10 0 rfl rfl 0 (by decide) lkX10_fit_7 rfl dX10_fit_18 ?_
    refine SW.ishl C dX10_fit_21 ?_
    refine SW.iconst (v := (1 : Int32)) C dX10_fit_22 (by decide) ?_
    refine SW.isub C dX10_fit_23 ?_
    refine SW.istore (lv' := [(4, .int ((jshl (1 : Int32) (oY 0 0)) - (1 : Int32))), (3, .int (0 : Int32)), (2, .int (0 : Int32)), (0, .ref (qY 0)), (1, .int v1)]) C dX10_fit_24 (by decide) rfl ?_
    refine SW.bipush (v := (-6 : Int32)) C dX10_fit_26 (by decide) ?_
    refine SW.istore (lv' := [(5, .int (-6 : Int32)), (4, .int ((jshl (1 : Int32) (oY 0 0)) - (1 : Int32))), (3, .int (0 : Int32)), (2, .int (0 : Int32)), (0, .ref (qY 0)), (1, .int v1)]) C dX10_fit_28 (by decide) rfl ?_
    refine SW.iconst (v := (0 : Int32)) C dX10_fit_30 (by decide) ?_
    refine SW.istore (lv' := [(6, .int (0 : Int32)), (5, .int (-6 : Int32)), (4, .int ((jshl (1 : Int32) (oY 0 0)) - (1 : Int32))), (3, .int (0 : Int32)), (2, .int (0 : Int32)), (0, .ref (qY 0)), (1, .int v1)]) C dX10_fit_31 (by decide) rfl ?_
    have L33 : ∀ (K87 : Int32 → Int32 → Int32 → Int32 → Prop) (hK87 : ∀ (v2_87 : Int32) (v3_87 : Int32) (v4_87 : Int32) (v5_87 : Int32), K87 v2_87 v3_87 v4_87 v5_87 → SW p l e { frames := 3, cells := 0, slots := 0, locals := 72 } s m args below meth c A D 7 0 0 (MQ below (va_Qi (fun (r : Int32) (_ : Unit) => post r) (ctB D A (fun _ : Unit => w10 cI cZ qY oY)) A) args s 0 0 A) (w10 cI cZ qY oY) 87 [(1, .int v1), (2, .int v2_87), (3, .int v3_87), (4, .int v4_87), (5, .int v5_87)] []) (fu : Nat) (v2_33 : Int32) (v3_33 : Int32) (v4_33 : Int32) (v5_33 : Int32) (v6_33 : Int32), wpX10_fit_L33 oY K87 fu v2_33 v3_33 v4_33 v5_33 v6_33 → SW p l e { frames := 3, cells := 0, slots := 0, locals := 72 } s m args below meth c A D 7 0 0 (MQ below (va_Qi (fun (r : Int32) (_ : Unit) => post r) (ctB D A (fun _ : Unit => w10 cI cZ qY oY)) A) args s 0 0 A) (w10 cI cZ qY oY) 33 [(0, .ref (qY 0)), (1, .int v1), (2, .int v2_33), (3, .int v3_33), (4, .int v4_33), (5, .int v5_33), (6, .int v6_33)] [] := by
      intro K87 hK87 fu
      induction fu with
      | zero =>
        intro v2_33 v3_33 v4_33 v5_33 v6_33 h
        exact False.elim h
      | succ fu ih =>
        intro v2_33 v3_33 v4_33 v5_33 v6_33 h
        unfold wpX10_fit_L33 at h
        refine SW.iload C dX10_fit_33 6 rfl ?_
        refine SW.iconst (v := (1 : Int32)) C dX10_fit_35 (by decide) ?_
        refine SW.aload_n C dX10_fit_36 rfl 0 rfl ?_
        refine SW.get (v := .int (oY 0 0)) (T := TX10) (N := 25) C inX10_fit_X10 0 rfl rfl 0 (by decide) lkX10_fit_7 rfl dX10_fit_37 ?_
        refine SW.ishl C dX10_fit_40 ?_
        refine SW.icmp_ge (tgt := 87) C dX10_fit_41 (by decide) (fun hc => ?_) (fun hc => ?_)
        · replace h := h.1 hc
          refine SW.sub [1, 2, 3, 4, 5] rfl ?_
          exact hK87 _ _ _ _ h
        · replace h := h.2 hc
          refine SW.aload_n C dX10_fit_44 rfl 0 rfl ?_
          refine SW.iload C dX10_fit_45 6 rfl ?_
          refine SW.callVi_same C (ctX10_fits l D cI cZ qY oY v6_33 _ h) gX10_fit_X10_fits rfl rfl rfl pdX10_fits ⟨by decide, by decide⟩ 0 rfl rfl rfl rfl rfl (Nat.le_of_ble_eq_true rfl) dX10_fit_47 (by decide) (fun r47 u h => ?_)
          try dsimp only at h
          refine jn4_elim (G := fun v2_81 v3_81 v4_81 v5_81 => SW p l e { frames := 3, cells := 0, slots := 0, locals := 72 } s m args below meth c A D 7 0 0 (MQ below (va_Qi (fun (r : Int32) (_ : Unit) => post r) (ctB D A (fun _ : Unit => w10 cI cZ qY oY)) A) args s 0 0 A) (w10 cI cZ qY oY) 81 [(0, .ref (qY 0)), (1, .int v1), (2, .int v2_81), (3, .int v3_81), (4, .int v4_81), (5, .int v5_81), (6, .int v6_33)] []) h (fun v2_81 v3_81 v4_81 v5_81 h => ?_) (fun J81 hJ81 h => ?_)
          · refine SW.iinc (q := 6) (v := (v6_33 + (1 : Int32))) (lv' := [(6, .int (v6_33 + (1 : Int32))), (0, .ref (qY 0)), (1, .int v1), (2, .int v2_81), (3, .int v3_81), (4, .int v4_81), (5, .int v5_81)]) C dX10_fit_81 rfl rfl (by decide) rfl ?_
            refine SW.goto (tgt := 33) C dX10_fit_84 (by decide) ?_
            refine SW.sub [1, 2, 3, 4, 5, 6, 0] rfl ?_
            exact ih _ _ _ _ _ h
          · refine SW.if_eq (tgt := 81) C dX10_fit_50 (by decide) (fun hc => ?_) (fun hc => ?_)
            · replace h := h.1 hc
              exact hJ81 _ _ _ _ h
            · replace h := h.2 hc
              refine SW.iload_n C dX10_fit_53 rfl 2 rfl ?_
              refine jn1_elim (G := fun p0_64 => SW p l e { frames := 3, cells := 0, slots := 0, locals := 72 } s m args below meth c A D 7 0 0 (MQ below (va_Qi (fun (r : Int32) (_ : Unit) => post r) (ctB D A (fun _ : Unit => w10 cI cZ qY oY)) A) args s 0 0 A) (w10 cI cZ qY oY) 64 [(0, .ref (qY 0)), (1, .int v1), (2, .int v2_33), (3, .int v3_33), (4, .int v4_33), (6, .int v6_33)] [.int p0_64]) h (fun p0_64 h => ?_) (fun J64 hJ64 h => ?_)
              · refine SW.istore (lv' := [(5, .int p0_64), (0, .ref (qY 0)), (1, .int v1), (2, .int v2_33), (3, .int v3_33), (4, .int v4_33), (6, .int v6_33)]) C dX10_fit_64 (by decide) rfl ?_
                refine SW.iinc (q := 3) (v := (v2_33 + (1 : Int32))) (lv' := [(2, .int (v2_33 + (1 : Int32))), (5, .int p0_64), (0, .ref (qY 0)), (1, .int v1), (3, .int v3_33), (4, .int v4_33), (6, .int v6_33)]) C dX10_fit_66 rfl rfl (by decide) rfl ?_
                refine SW.iload_n C dX10_fit_69 rfl 4 rfl ?_
                refine SW.iload C dX10_fit_70 6 rfl ?_
                refine SW.ior C dX10_fit_72 ?_
                refine SW.istore_n (lv' := [(3, .int (v3_33 ||| v6_33)), (2, .int (v2_33 + (1 : Int32))), (5, .int p0_64), (0, .ref (qY 0)), (1, .int v1), (4, .int v4_33), (6, .int v6_33)]) C dX10_fit_73 rfl (by decide) rfl ?_
                refine SW.iload C dX10_fit_74 5 rfl ?_
                refine SW.iload C dX10_fit_76 6 rfl ?_
                refine SW.iand C dX10_fit_78 ?_
                refine SW.istore (lv' := [(4, .int (v4_33 &&& v6_33)), (3, .int (v3_33 ||| v6_33)), (2, .int (v2_33 + (1 : Int32))), (5, .int p0_64), (0, .ref (qY 0)), (1, .int v1), (6, .int v6_33)]) C dX10_fit_79 (by decide) rfl ?_
                refine SW.sub [4, 5, 2, 1, 0, 3, 6] rfl ?_
                exact hJ81 _ _ _ _ h
              · refine SW.if_ne (tgt := 62) C dX10_fit_54 (by decide) (fun hc => ?_) (fun hc => ?_)
                · replace h := h.2 hc
                  refine SW.iload C dX10_fit_62 5 rfl ?_
                  refine SW.sub [0, 1, 2, 3, 4, 6] rfl ?_
                  exact hJ64 _ h
                · replace h := h.1 hc
                  refine SW.iload C dX10_fit_57 6 rfl ?_
                  refine SW.goto (tgt := 64) C dX10_fit_59 (by decide) ?_
                  refine SW.sub [0, 1, 2, 3, 4, 6] rfl ?_
                  exact hJ64 _ h
    obtain ⟨fu, h⟩ := h
    refine SW.sub [5, 6, 4, 3, 2, 1, 0] rfl ?_
    refine L33 _ (fun v2_87 v3_87 v4_87 v5_87 h => ?_) fu _ _ _ _ _ h
    · refine SW.iload_n C dX10_fit_87 rfl 0 rfl ?_
      refine SW.if_ne (tgt := 95) C dX10_fit_88 (by decide) (fun hc => ?_) (fun hc => ?_)
      · replace h := h.2 hc
        refine SW.iload_n C dX10_fit_95 rfl 0 rfl ?_
        refine SW.iconst (v := (1 : Int32)) C dX10_fit_96 (by decide) ?_
        refine SW.icmp_ne (tgt := 104) C dX10_fit_97 (by decide) (fun hc => ?_) (fun hc => ?_)
        · replace h := h.2 hc
          refine SW.iload_n C dX10_fit_104 rfl 0 rfl ?_
          refine SW.iconst (v := (2 : Int32)) C dX10_fit_105 (by decide) ?_
          refine SW.icmp_ne (tgt := 122) C dX10_fit_106 (by decide) (fun hc => ?_) (fun hc => ?_)
          · replace h := h.2 hc
            refine SW.iload C dX10_fit_122 4 rfl ?_
            exact SW.iret C () rfl h dX10_fit_124
          · replace h := h.1 hc
            refine SW.iload_n C dX10_fit_109 rfl 1 rfl ?_
            refine SW.if_ne (tgt := 117) C dX10_fit_110 (by decide) (fun hc => ?_) (fun hc => ?_)
            · replace h := h.2 hc
              refine SW.iload C dX10_fit_117 3 rfl ?_
              refine SW.goto (tgt := 124) C dX10_fit_119 (by decide) ?_
              exact SW.iret C () rfl h dX10_fit_124
            · replace h := h.1 hc
              refine SW.iconst (v := (0 : Int32)) C dX10_fit_113 (by decide) ?_
              refine SW.goto (tgt := 124) C dX10_fit_114 (by decide) ?_
              exact SW.iret C () rfl h dX10_fit_124
        · replace h := h.1 hc
          refine SW.iload_n C dX10_fit_100 rfl 2 rfl ?_
          refine SW.goto (tgt := 124) C dX10_fit_101 (by decide) ?_
          exact SW.iret C () rfl h dX10_fit_124
      · replace h := h.1 hc
        refine SW.iload_n C dX10_fit_91 rfl 1 rfl ?_
        refine SW.goto (tgt := 124) C dX10_fit_92 (by decide) ?_
        exact SW.iret C () rfl h dX10_fit_124
  · replace h := h.1 hc
    refine SW.bipush (v := (-2 : Int32)) C dX10_fit_9 (by decide) ?_
    exact SW.iret C () rfl h dX10_fit_11
def wpX10_ask_L36 (c4_36 : Int32) (oYc_36 : Ob) (K77 : Int32 → Prop) : Nat → Int32 → Int32 → Prop
  | 0, _, _ => False
  | fu36 + 1, v5_36, v6_36 => (((oYc_36 0 8) ≤ v6_36) → K77 v5_36) ∧ (¬ ((oYc_36 0 8) ≤ v6_36) → jn1 (fun (p0_69 : Int32) => wpX10_ask_L36 c4_36 oYc_36 K77 fu36 p0_69 (v6_36 + (1 : Int32))) (fun J69 => jn0 (J69 (1 : Int32)) (fun J64 => ((v5_36 = 0) → (vp_in ((2 : Int32) * v6_36) 16) ∧ ((((jld (oYc_36 3) ((2 : Int32) * v6_36)) = c4_36) → J64) ∧ (¬ ((jld (oYc_36 3) ((2 : Int32) * v6_36)) = c4_36) → J69 (0 : Int32)))) ∧ (¬ (v5_36 = 0) → J64))))
def wpX10_ask_L83 (K105 : Ob → Prop) : Nat → Int32 → Ob → Prop
  | 0, _, _ => False
  | fu83 + 1, v7_83, oY_83 => (((200 : Int32) ≤ v7_83) → K105 oY_83) ∧ (¬ ((200 : Int32) ≤ v7_83) → (vp_in v7_83 200) ∧ (wpX10_ask_L83 K105 fu83 (v7_83 + (1 : Int32)) (pa oY_83 7 (nC v7_83) (0 : Int32))))
def wpX10_ask_L108 (c4_108 : Int32) (c5_108 : Int32) (K190 : Int32 → Ob → Prop) : Nat → Int32 → Int32 → Ob → Prop
  | 0, _, _, _ => False
  | fu108 + 1, v6_108, v7_108, oY_108 => (((jshl (1 : Int32) (oY_108 0 0)) ≤ v7_108) → K190 v6_108 oY_108) ∧ (¬ ((jshl (1 : Int32) (oY_108 0 0)) ≤ v7_108) → ((c5_108 = 0) → wpX10_fits oY_108 v7_108 (fun (r127 : Int32) => jn2 (fun (v6_184 : Int32) (oY_184 : Ob) => wpX10_ask_L108 c4_108 c5_108 K190 fu108 v6_184 (v7_108 + (1 : Int32)) oY_184) (fun J184 => ((r127 = 0) → J184 v6_108 oY_108) ∧ (¬ (r127 = 0) → wpX10_lengthOf oY_108 c4_108 v7_108 (oY_108 0 5) (fun (r142 : Int32) => (vp_in r142 200) ∧ ((vp_in r142 200) ∧ ((vp_in r142 200) ∧ (jn1 (fun (p0_182 : Int32) => J184 p0_182 (pa oY_108 7 (nC r142) ((jld (oY_108 7) r142) + (1 : Int32)))) (fun J182 => (((jld (upd (oY_108 7) (nC r142) ((jld (oY_108 7) r142) + (1 : Int32))) r142) ≤ v6_108) → J182 v6_108) ∧ (¬ ((jld (upd (oY_108 7) (nC r142) ((jld (oY_108 7) r142) + (1 : Int32))) r142) ≤ v6_108) → (vp_in r142 200) ∧ (J182 (jld (upd (oY_108 7) (nC r142) ((jld (oY_108 7) r142) + (1 : Int32))) r142)))))))))))) ∧ (¬ (c5_108 = 0) → K190 v6_108 oY_108))
def wpX10_ask_L21 (K238 : Int32 → Int32 → Ob → Prop) : Nat → Int32 → Int32 → Int32 → Ob → Prop
  | 0, _, _, _, _ => False
  | fu21 + 1, v2_21, v3_21, v4_21, oY_21 => (((oY_21 0 0) ≤ v4_21) → K238 v2_21 v3_21 oY_21) ∧ (¬ ((oY_21 0 0) ≤ v4_21) → ∃ fu36 : Nat, wpX10_ask_L36 v4_21 oY_21 (fun (v5_77 : Int32) => ∃ fu83 : Nat, wpX10_ask_L83 (fun (oY_105 : Ob) => ∃ fu108 : Nat, wpX10_ask_L108 v4_21 v5_77 (fun (v6_190 : Int32) (oY_190 : Ob) => jn1 (fun (p0_206 : Int32) => jn1 (fun (p0_219 : Int32) => jn1 (fun (p0_231 : Int32) => wpX10_ask_L21 K238 fu21 p0_219 p0_231 (v4_21 + (1 : Int32)) oY_190) (fun J231 => ((p0_206 = 0) → J231 v3_21) ∧ (¬ (p0_206 = 0) → J231 v6_190))) (fun J219 => ((p0_206 = 0) → J219 v2_21) ∧ (¬ (p0_206 = 0) → J219 v4_21))) (fun J206 => jn0 (J206 (0 : Int32)) (fun J205 => ((v6_190 ≤ 0) → J205) ∧ (¬ (v6_190 ≤ 0) → ((v3_21 ≤ v6_190) → J205) ∧ (¬ (v3_21 ≤ v6_190) → J206 (1 : Int32)))))) fu108 (0 : Int32) (0 : Int32) oY_105) fu83 (0 : Int32) oY_21) fu36 (0 : Int32) (0 : Int32))
def wpX10_ask (oY : Ob) (v1 : Int32) (post : Int32 → Ob → Prop) : Prop := wpX10_in v1 (0 : Int32) (1 : Int32) (fun (r3 : Int32) => ((r3 = 0) → post (-2 : Int32) oY) ∧ (¬ (r3 = 0) → ∃ fu21 : Nat, wpX10_ask_L21 (fun (v2_238 : Int32) (v3_238 : Int32) (oY_238 : Ob) => jn0 (post v2_238 oY_238) (fun J246 => ((v2_238 < 0) → J246) ∧ (¬ (v2_238 < 0) → ((v1 = 0) → J246) ∧ (¬ (v1 = 0) → post v3_238 oY_238)))) fu21 (-6 : Int32) (1000000 : Int32) (0 : Int32) oY))
theorem pdX10_ask : yX10_ask.cls = RX10 ∧ yX10_ask.cls ≠ "java/lang/invoke/MethodHandle" ∧ yX10_ask.cls ≠ "java/lang/invoke/VarHandle" ∧ (parseMethodDescriptor yX10_ask.desc).map (fun d => d.parameters.length) = some 1 := by decide +kernel
theorem lkX10_ask_7 : Cond.fieldLink RX10 7 (TX10 0).1 (TX10 0).2.1 (TX10 0).2.2.1 ∈ wsX10_ask := by decide +kernel
theorem inX10_ask_X10 : ∀ w ∈ u_ws RX10 TX10 25, w ∈ wsX10_ask := by decide +kernel
theorem lkX10_ask_66 : Cond.fieldLink RX10 66 (TX10 8).1 (TX10 8).2.1 (TX10 8).2.2.1 ∈ wsX10_ask := by decide +kernel
theorem lkX10_ask_29 : Cond.fieldLink RX10 29 (TX10 9).1 (TX10 9).2.1 (TX10 9).2.2.1 ∈ wsX10_ask := by decide +kernel
theorem lkX10_ask_41 : Cond.fieldLink RX10 41 (TX10 20).1 (TX10 20).2.1 (TX10 20).2.2.1 ∈ wsX10_ask := by decide +kernel
theorem lkX10_ask_60 : Cond.fieldLink RX10 60 (TX10 5).1 (TX10 5).2.1 (TX10 5).2.2.1 ∈ wsX10_ask := by decide +kernel
set_option maxHeartbeats 4000000 in
set_option maxRecDepth 100000 in
theorem ctX10_ask (l : Launch) (D : va_G) (cI cZ : ClassId) (qY : Nat → Nat) (oY : Ob) (v1 : Int32) (post : Int32 → Ob → Prop) (h : wpX10_ask oY v1 post) : CTi l yX10_ask wsX10_ask { frames := 3, cells := 0, slots := 0, locals := 72 } D [(cI, .int), (cZ, .boolean)] [.ref (qY 0), .int v1] (w10 cI cZ qY oY) (fun u : Ob => w10 cI cZ qY u) (fun (r : Int32) (u : Ob) => post r u) := by
  refine CTi.of (cc := cX10_ask) (own := RX10) (maxL := 9) (ret := (some .int)) (lv0 := [(0, .ref (qY 0)), (1, .int v1)]) (by decide) rfl rfl (Nat.le_of_ble_eq_true rfl) rfl ?_
  intro p e s m args below meth c A C
  unfold wpX10_ask at h
  refine SW.iload_n C dX10_ask_0 rfl 1 rfl ?_
  refine SW.iconst (v := (0 : Int32)) C dX10_ask_1 (by decide) ?_
  refine SW.iconst (v := (1 : Int32)) C dX10_ask_2 (by decide) ?_
  refine SW.callSi_pure C (ctX10_in l D cI cZ v1 (0 : Int32) (1 : Int32) _ h) gX10_ask_X10_in rfl rfl rfl pdX10_in ⟨by decide, by decide⟩ rfl rfl (Nat.le_of_ble_eq_true rfl) dX10_ask_3 (by decide) (fun r3 u h => ?_)
  try dsimp only at h
  refine SW.if_ne (tgt := 12) C dX10_ask_6 (by decide) (fun hc => ?_) (fun hc => ?_)
  · replace h := h.2 hc
    refine SW.bipush (v := (-6 : Int32)) C dX10_ask_12 (by decide) ?_
    refine SW.istore_n (lv' := [(2, .int (-6 : Int32)), (0, .ref (qY 0)), (1, .int v1)]) C dX10_ask_14 rfl (by decide) rfl ?_
    refine SW.ldc (v := (1000000 : Int32)) C (by decide +kernel) dX10_ask_15 ?_
    refine SW.istore_n (lv' := [(3, .int (1000000 : Int32)), (2, .int (-6 : Int32)), (0, .ref (qY 0)), (1, .int v1)]) C dX10_ask_17 rfl (by decide) rfl ?_
    refine SW.iconst (v := (0 : Int32)) C dX10_ask_18 (by decide) ?_
    refine SW.istore (lv' := [(4, .int (0 : Int32)), (3, .int (1000000 : Int32)), (2, .int (-6 : Int32)), (0, .ref (qY 0)), (1, .int v1)]) C dX10_ask_19 (by decide) rfl ?_
    have L21 : ∀ (K238 : Int32 → Int32 → Ob → Prop) (hK238 : ∀ (v2_238 : Int32) (v3_238 : Int32) (oY_238 : Ob), K238 v2_238 v3_238 oY_238 → SW p l e { frames := 3, cells := 0, slots := 0, locals := 72 } s m args below meth c A D 9 0 0 (MQ below (va_Qi (fun (r : Int32) (u : Ob) => post r u) (ctB D A (fun u : Ob => w10 cI cZ qY u)) A) args s 0 0 A) (w10 cI cZ qY oY_238) 238 [(1, .int v1), (2, .int v2_238), (3, .int v3_238)] []) (fu : Nat) (v2_21 : Int32) (v3_21 : Int32) (v4_21 : Int32) (oY_21 : Ob), wpX10_ask_L21 K238 fu v2_21 v3_21 v4_21 oY_21 → SW p l e { frames := 3, cells := 0, slots := 0, locals := 72 } s m args below meth c A D 9 0 0 (MQ below (va_Qi (fun (r : Int32) (u : Ob) => post r u) (ctB D A (fun u : Ob => w10 cI cZ qY u)) A) args s 0 0 A) (w10 cI cZ qY oY_21) 21 [(0, .ref (qY 0)), (1, .int v1), (2, .int v2_21), (3, .int v3_21), (4, .int v4_21)] [] := by
      intro K238 hK238 fu
      induction fu with
      | zero =>
        intro v2_21 v3_21 v4_21 oY_21 h
        exact False.elim h
      | succ fu ih =>
        intro v2_21 v3_21 v4_21 oY_21 h
        unfold wpX10_ask_L21 at h
        refine SW.iload C dX10_ask_21 4 rfl ?_
        refine SW.aload_n C dX10_ask_23 rfl 0 rfl ?_
        refine SW.get (v := .int (oY_21 0 0)) (T := TX10) (N := 25) C inX10_ask_X10 0 rfl rfl 0 (by decide) lkX10_ask_7 rfl dX10_ask_24 ?_
        refine SW.icmp_ge (tgt := 238) C dX10_ask_27 (by decide) (fun hc => ?_) (fun hc => ?_)
        · replace h := h.1 hc
          refine SW.sub [1, 2, 3] rfl ?_
          exact hK238 _ _ _ h
        · replace h := h.2 hc
          refine SW.iconst (v := (0 : Int32)) C dX10_ask_30 (by decide) ?_
          refine SW.istore (lv' := [(5, .int (0 : Int32)), (0, .ref (qY 0)), (1, .int v1), (2, .int v2_21), (3, .int v3_21), (4, .int v4_21)]) C dX10_ask_31 (by decide) rfl ?_
          refine SW.iconst (v := (0 : Int32)) C dX10_ask_33 (by decide) ?_
          refine SW.istore (lv' := [(6, .int (0 : Int32)), (5, .int (0 : Int32)), (0, .ref (qY 0)), (1, .int v1), (2, .int v2_21), (3, .int v3_21), (4, .int v4_21)]) C dX10_ask_34 (by decide) rfl ?_
          have L36 : ∀ (K77 : Int32 → Prop) (hK77 : ∀ (v5_77 : Int32), K77 v5_77 → SW p l e { frames := 3, cells := 0, slots := 0, locals := 72 } s m args below meth c A D 9 0 0 (MQ below (va_Qi (fun (r : Int32) (u : Ob) => post r u) (ctB D A (fun u : Ob => w10 cI cZ qY u)) A) args s 0 0 A) (w10 cI cZ qY oY_21) 77 [(0, .ref (qY 0)), (1, .int v1), (2, .int v2_21), (3, .int v3_21), (4, .int v4_21), (5, .int v5_77)] []) (fu : Nat) (v5_36 : Int32) (v6_36 : Int32), wpX10_ask_L36 v4_21 oY_21 K77 fu v5_36 v6_36 → SW p l e { frames := 3, cells := 0, slots := 0, locals := 72 } s m args below meth c A D 9 0 0 (MQ below (va_Qi (fun (r : Int32) (u : Ob) => post r u) (ctB D A (fun u : Ob => w10 cI cZ qY u)) A) args s 0 0 A) (w10 cI cZ qY oY_21) 36 [(0, .ref (qY 0)), (1, .int v1), (2, .int v2_21), (3, .int v3_21), (4, .int v4_21), (5, .int v5_36), (6, .int v6_36)] [] := by
            intro K77 hK77 fu
            induction fu with
            | zero =>
              intro v5_36 v6_36 h
              exact False.elim h
            | succ fu ih =>
              intro v5_36 v6_36 h
              unfold wpX10_ask_L36 at h
              refine SW.iload C dX10_ask_36 6 rfl ?_
              refine SW.aload_n C dX10_ask_38 rfl 0 rfl ?_
              refine SW.get (v := .int (oY_21 0 8)) (T := TX10) (N := 25) C inX10_ask_X10 0 rfl rfl 8 (by decide) lkX10_ask_66 rfl dX10_ask_39 ?_
              refine SW.icmp_ge (tgt := 77) C dX10_ask_42 (by decide) (fun hc => ?_) (fun hc => ?_)
              · replace h := h.1 hc
                refine SW.sub [0, 1, 2, 3, 4, 5] rfl ?_
                exact hK77 _ h
              · replace h := h.2 hc
                refine SW.iload C dX10_ask_45 5 rfl ?_
                refine jn1_elim (G := fun p0_69 => SW p l e { frames := 3, cells := 0, slots := 0, locals := 72 } s m args below meth c A D 9 0 0 (MQ below (va_Qi (fun (r : Int32) (u : Ob) => post r u) (ctB D A (fun u : Ob => w10 cI cZ qY u)) A) args s 0 0 A) (w10 cI cZ qY oY_21) 69 [(0, .ref (qY 0)), (1, .int v1), (2, .int v2_21), (3, .int v3_21), (4, .int v4_21), (6, .int v6_36)] [.int p0_69]) h (fun p0_69 h => ?_) (fun J69 hJ69 h => ?_)
                · refine SW.istore (lv' := [(5, .int p0_69), (0, .ref (qY 0)), (1, .int v1), (2, .int v2_21), (3, .int v3_21), (4, .int v4_21), (6, .int v6_36)]) C dX10_ask_69 (by decide) rfl ?_
                  refine SW.iinc (q := 6) (v := (v6_36 + (1 : Int32))) (lv' := [(6, .int (v6_36 + (1 : Int32))), (5, .int p0_69), (0, .ref (qY 0)), (1, .int v1), (2, .int v2_21), (3, .int v3_21), (4, .int v4_21)]) C dX10_ask_71 rfl rfl (by decide) rfl ?_
                  refine SW.goto (tgt := 36) C dX10_ask_74 (by decide) ?_
                  refine SW.sub [2, 3, 4, 5, 6, 1, 0] rfl ?_
                  exact ih _ _ h
                · refine jn0_elim (G := SW p l e { frames := 3, cells := 0, slots := 0, locals := 72 } s m args below meth c A D 9 0 0 (MQ below (va_Qi (fun (r : Int32) (u : Ob) => post r u) (ctB D A (fun u : Ob => w10 cI cZ qY u)) A) args s 0 0 A) (w10 cI cZ qY oY_21) 64 [(0, .ref (qY 0)), (1, .int v1), (2, .int v2_21), (3, .int v3_21), (4, .int v4_21), (6, .int v6_36)] []) h (fun h => ?_) (fun J64 hJ64 h => ?_)
                  · refine SW.iconst (v := (1 : Int32)) C dX10_ask_64 (by decide) ?_
                    refine SW.goto (tgt := 69) C dX10_ask_65 (by decide) ?_
                    exact hJ69 _ h
                  · refine SW.if_ne (tgt := 64) C dX10_ask_47 (by decide) (fun hc => ?_) (fun hc => ?_)
                    · replace h := h.2 hc
                      refine SW.sub [0, 1, 2, 3, 4, 6] rfl ?_
                      exact hJ64 h
                    · replace h := h.1 hc
                      refine SW.aload_n C dX10_ask_50 rfl 0 rfl ?_
                      refine SW.get (v := .ref (qY 3)) (T := TX10) (N := 25) C inX10_ask_X10 0 rfl rfl 9 (by decide) lkX10_ask_29 rfl dX10_ask_51 ?_
                      refine SW.iconst (v := (2 : Int32)) C dX10_ask_54 (by decide) ?_
                      refine SW.iload C dX10_ask_55 6 rfl ?_
                      refine SW.imul C dX10_ask_57 ?_
                      refine SW.iald C 3 0 rfl rfl h.1 dX10_ask_58 ?_
                      replace h := h.2
                      refine SW.iload C dX10_ask_59 4 rfl ?_
                      refine SW.icmp_ne (tgt := 68) C dX10_ask_61 (by decide) (fun hc => ?_) (fun hc => ?_)
                      · replace h := h.2 hc
                        refine SW.iconst (v := (0 : Int32)) C dX10_ask_68 (by decide) ?_
                        refine SW.sub [0, 1, 2, 3, 4, 6] rfl ?_
                        exact hJ69 _ h
                      · replace h := h.1 hc
                        refine SW.sub [0, 1, 2, 3, 4, 6] rfl ?_
                        exact hJ64 h
          obtain ⟨fu, h⟩ := h
          refine SW.sub [2, 3, 4, 5, 6, 1, 0] rfl ?_
          refine L36 _ (fun v5_77 h => ?_) fu _ _ h
          · refine SW.iconst (v := (0 : Int32)) C dX10_ask_77 (by decide) ?_
            refine SW.istore (lv' := [(6, .int (0 : Int32)), (0, .ref (qY 0)), (1, .int v1), (2, .int v2_21), (3, .int v3_21), (4, .int v4_21), (5, .int v5_77)]) C dX10_ask_78 (by decide) rfl ?_
            refine SW.iconst (v := (0 : Int32)) C dX10_ask_80 (by decide) ?_
            refine SW.istore (lv' := [(7, .int (0 : Int32)), (6, .int (0 : Int32)), (0, .ref (qY 0)), (1, .int v1), (2, .int v2_21), (3, .int v3_21), (4, .int v4_21), (5, .int v5_77)]) C dX10_ask_81 (by decide) rfl ?_
            have L83 : ∀ (K105 : Ob → Prop) (hK105 : ∀ (oY_105 : Ob), K105 oY_105 → SW p l e { frames := 3, cells := 0, slots := 0, locals := 72 } s m args below meth c A D 9 0 0 (MQ below (va_Qi (fun (r : Int32) (u : Ob) => post r u) (ctB D A (fun u : Ob => w10 cI cZ qY u)) A) args s 0 0 A) (w10 cI cZ qY oY_105) 105 [(0, .ref (qY 0)), (1, .int v1), (2, .int v2_21), (3, .int v3_21), (4, .int v4_21), (5, .int v5_77), (6, .int (0 : Int32))] []) (fu : Nat) (v7_83 : Int32) (oY_83 : Ob), wpX10_ask_L83 K105 fu v7_83 oY_83 → SW p l e { frames := 3, cells := 0, slots := 0, locals := 72 } s m args below meth c A D 9 0 0 (MQ below (va_Qi (fun (r : Int32) (u : Ob) => post r u) (ctB D A (fun u : Ob => w10 cI cZ qY u)) A) args s 0 0 A) (w10 cI cZ qY oY_83) 83 [(0, .ref (qY 0)), (1, .int v1), (2, .int v2_21), (3, .int v3_21), (4, .int v4_21), (5, .int v5_77), (6, .int (0 : Int32)), (7, .int v7_83)] [] := by
              intro K105 hK105 fu
              induction fu with
              | zero =>
                intro v7_83 oY_83 h
                exact False.elim h
              | succ fu ih =>
                intro v7_83 oY_83 h
                unfold wpX10_ask_L83 at h
                refine SW.iload C dX10_ask_83 7 rfl ?_
                refine SW.sipush (v := (200 : Int32)) C dX10_ask_85 (by decide) ?_
                refine SW.icmp_ge (tgt := 105) C dX10_ask_88 (by decide) (fun hc => ?_) (fun hc => ?_)
                · replace h := h.1 hc
                  refine SW.sub [0, 1, 2, 3, 4, 5, 6] rfl ?_
                  exact hK105 _ h
                · replace h := h.2 hc
                  refine SW.aload_n C dX10_ask_91 rfl 0 rfl ?_
                  refine SW.get (v := .ref (qY 7)) (T := TX10) (N := 25) C inX10_ask_X10 0 rfl rfl 20 (by decide) lkX10_ask_41 rfl dX10_ask_92 ?_
                  refine SW.iload C dX10_ask_95 7 rfl ?_
                  refine SW.iconst (v := (0 : Int32)) C dX10_ask_97 (by decide) ?_
                  refine SW.iast (ws' := w10 cI cZ qY (pa oY_83 7 (nC v7_83) (0 : Int32))) C 7 0 rfl rfl h.1 rfl dX10_ask_98 ?_
                  replace h := h.2
                  refine SW.iinc (q := 7) (v := (v7_83 + (1 : Int32))) (lv' := [(7, .int (v7_83 + (1 : Int32))), (0, .ref (qY 0)), (1, .int v1), (2, .int v2_21), (3, .int v3_21), (4, .int v4_21), (5, .int v5_77), (6, .int (0 : Int32))]) C dX10_ask_99 rfl rfl (by decide) rfl ?_
                  refine SW.goto (tgt := 83) C dX10_ask_102 (by decide) ?_
                  refine SW.sub [1, 2, 3, 4, 5, 6, 7, 0] rfl ?_
                  exact ih _ _ h
            obtain ⟨fu, h⟩ := h
            refine SW.sub [2, 3, 4, 5, 6, 7, 1, 0] rfl ?_
            refine L83 _ (fun oY_105 h => ?_) fu _ _ h
            · refine SW.iconst (v := (0 : Int32)) C dX10_ask_105 (by decide) ?_
              refine SW.istore (lv' := [(7, .int (0 : Int32)), (0, .ref (qY 0)), (1, .int v1), (2, .int v2_21), (3, .int v3_21), (4, .int v4_21), (5, .int v5_77), (6, .int (0 : Int32))]) C dX10_ask_106 (by decide) rfl ?_
              have L108 : ∀ (K190 : Int32 → Ob → Prop) (hK190 : ∀ (v6_190 : Int32) (oY_190 : Ob), K190 v6_190 oY_190 → SW p l e { frames := 3, cells := 0, slots := 0, locals := 72 } s m args below meth c A D 9 0 0 (MQ below (va_Qi (fun (r : Int32) (u : Ob) => post r u) (ctB D A (fun u : Ob => w10 cI cZ qY u)) A) args s 0 0 A) (w10 cI cZ qY oY_190) 190 [(0, .ref (qY 0)), (1, .int v1), (2, .int v2_21), (3, .int v3_21), (4, .int v4_21), (6, .int v6_190)] []) (fu : Nat) (v6_108 : Int32) (v7_108 : Int32) (oY_108 : Ob), wpX10_ask_L108 v4_21 v5_77 K190 fu v6_108 v7_108 oY_108 → SW p l e { frames := 3, cells := 0, slots := 0, locals := 72 } s m args below meth c A D 9 0 0 (MQ below (va_Qi (fun (r : Int32) (u : Ob) => post r u) (ctB D A (fun u : Ob => w10 cI cZ qY u)) A) args s 0 0 A) (w10 cI cZ qY oY_108) 108 [(0, .ref (qY 0)), (1, .int v1), (2, .int v2_21), (3, .int v3_21), (4, .int v4_21), (5, .int v5_77), (6, .int v6_108), (7, .int v7_108)] [] := by
                intro K190 hK190 fu
                induction fu with
                | zero =>
                  intro v6_108 v7_108 oY_108 h
                  exact False.elim h
                | succ fu ih =>
                  intro v6_108 v7_108 oY_108 h
                  unfold wpX10_ask_L108 at h
                  refine SW.iload C dX10_ask_108 7 rfl ?_
                  refine SW.iconst (v := (1 : Int32)) C dX10_ask_110 (by decide) ?_
                  refine SW.aload_n C dX10_ask_111 rfl 0 rfl ?_
                  refine SW.get (v := .int (oY_108 0 0)) (T := TX10) (N := 25) C inX10_ask_X10 0 rfl rfl 0 (by decide) lkX10_ask_7 rfl dX10_ask_112 ?_
                  refine SW.ishl C dX10_ask_115 ?_
                  refine SW.icmp_ge (tgt := 190) C dX10_ask_116 (by decide) (fun hc => ?_) (fun hc => ?_)
                  · replace h := h.1 hc
                    refine SW.sub [0, 1, 2, 3, 4, 6] rfl ?_
                    exact hK190 _ _ h
                  · replace h := h.2 hc
                    refine SW.iload C dX10_ask_119 5 rfl ?_
                    refine SW.if_ne (tgt := 190) C dX10_ask_121 (by decide) (fun hc => ?_) (fun hc => ?_)
                    · replace h := h.2 hc
                      refine SW.sub [0, 1, 2, 3, 4, 6] rfl ?_
                      exact hK190 _ _ h
                    · replace h := h.1 hc
                      refine SW.aload_n C dX10_ask_124 rfl 0 rfl ?_
                      refine SW.iload C dX10_ask_125 7 rfl ?_
                      refine SW.callVi_same C (ctX10_fits l D cI cZ qY oY_108 v7_108 _ h) gX10_ask_X10_fits rfl rfl rfl pdX10_fits ⟨by decide, by decide⟩ 0 rfl rfl rfl rfl rfl (Nat.le_of_ble_eq_true rfl) dX10_ask_127 (by decide) (fun r127 u h => ?_)
                      try dsimp only at h
                      refine jn2_elim (G := fun v6_184 oY_184 => SW p l e { frames := 3, cells := 0, slots := 0, locals := 72 } s m args below meth c A D 9 0 0 (MQ below (va_Qi (fun (r : Int32) (u : Ob) => post r u) (ctB D A (fun u : Ob => w10 cI cZ qY u)) A) args s 0 0 A) (w10 cI cZ qY oY_184) 184 [(0, .ref (qY 0)), (1, .int v1), (2, .int v2_21), (3, .int v3_21), (4, .int v4_21), (5, .int v5_77), (6, .int v6_184), (7, .int v7_108)] []) h (fun v6_184 oY_184 h => ?_) (fun J184 hJ184 h => ?_)
                      · refine SW.iinc (q := 7) (v := (v7_108 + (1 : Int32))) (lv' := [(7, .int (v7_108 + (1 : Int32))), (0, .ref (qY 0)), (1, .int v1), (2, .int v2_21), (3, .int v3_21), (4, .int v4_21), (5, .int v5_77), (6, .int v6_184)]) C dX10_ask_184 rfl rfl (by decide) rfl ?_
                        refine SW.goto (tgt := 108) C dX10_ask_187 (by decide) ?_
                        refine SW.sub [1, 2, 3, 4, 5, 6, 7, 0] rfl ?_
                        exact ih _ _ _ h
                      · refine SW.if_eq (tgt := 184) C dX10_ask_130 (by decide) (fun hc => ?_) (fun hc => ?_)
                        · replace h := h.1 hc
                          exact hJ184 _ _ h
                        · replace h := h.2 hc
                          refine SW.aload_n C dX10_ask_133 rfl 0 rfl ?_
                          refine SW.iload C dX10_ask_134 4 rfl ?_
                          refine SW.iload C dX10_ask_136 7 rfl ?_
                          refine SW.aload_n C dX10_ask_138 rfl 0 rfl ?_
                          refine SW.get (v := .int (oY_108 0 5)) (T := TX10) (N := 25) C inX10_ask_X10 0 rfl rfl 5 (by decide) lkX10_ask_60 rfl dX10_ask_139 ?_
                          refine SW.callVi_same C (ctX10_lengthOf l D cI cZ qY oY_108 v4_21 v7_108 (oY_108 0 5) _ h) gX10_ask_X10_lengthOf rfl rfl rfl pdX10_lengthOf ⟨by decide, by decide⟩ 0 rfl rfl rfl rfl rfl (Nat.le_of_ble_eq_true rfl) dX10_ask_142 (by decide) (fun r142 u h => ?_)
                          try dsimp only at h
                          refine SW.istore (lv' := [(8, .int r142), (0, .ref (qY 0)), (1, .int v1), (2, .int v2_21), (3, .int v3_21), (4, .int v4_21), (5, .int v5_77), (6, .int v6_108), (7, .int v7_108)]) C dX10_ask_145 (by decide) rfl ?_
                          refine SW.aload_n C dX10_ask_147 rfl 1 rfl ?_
                          refine SW.get (v := .ref (qY 7)) (T := TX10) (N := 25) C inX10_ask_X10 0 rfl rfl 20 (by decide) lkX10_ask_41 rfl dX10_ask_148 ?_
                          refine SW.iload C dX10_ask_151 0 rfl ?_
                          refine SW.dup2 C dX10_ask_153 rfl rfl ?_
                          refine SW.iald C 7 0 rfl rfl h.1 dX10_ask_154 ?_
                          replace h := h.2
                          refine SW.iconst (v := (1 : Int32)) C dX10_ask_155 (by decide) ?_
                          refine SW.iadd C dX10_ask_156 ?_
                          refine SW.iast (ws' := w10 cI cZ qY (pa oY_108 7 (nC r142) ((jld (oY_108 7) r142) + (1 : Int32)))) C 7 0 rfl rfl h.1 rfl dX10_ask_157 ?_
                          replace h := h.2
                          refine SW.aload_n C dX10_ask_158 rfl 1 rfl ?_
                          refine SW.get (v := .ref (qY 7)) (T := TX10) (N := 25) C inX10_ask_X10 0 rfl rfl 20 (by decide) lkX10_ask_41 rfl dX10_ask_159 ?_
                          refine SW.iload C dX10_ask_162 0 rfl ?_
                          refine SW.iald C 7 0 rfl rfl h.1 dX10_ask_164 ?_
                          replace h := h.2
                          refine SW.iload C dX10_ask_165 7 rfl ?_
                          refine jn1_elim (G := fun p0_182 => SW p l e { frames := 3, cells := 0, slots := 0, locals := 72 } s m args below meth c A D 9 0 0 (MQ below (va_Qi (fun (r : Int32) (u : Ob) => post r u) (ctB D A (fun u : Ob => w10 cI cZ qY u)) A) args s 0 0 A) (w10 cI cZ qY (pa oY_108 7 (nC r142) ((jld (oY_108 7) r142) + (1 : Int32)))) 182 [(0, .ref (qY 0)), (1, .int v1), (2, .int v2_21), (3, .int v3_21), (4, .int v4_21), (5, .int v5_77), (7, .int v7_108)] [.int p0_182]) h (fun p0_182 h => ?_) (fun J182 hJ182 h => ?_)
                          · refine SW.istore (lv' := [(6, .int p0_182), (0, .ref (qY 0)), (1, .int v1), (2, .int v2_21), (3, .int v3_21), (4, .int v4_21), (5, .int v5_77), (7, .int v7_108)]) C dX10_ask_182 (by decide) rfl ?_
                            refine SW.sub [1, 2, 3, 4, 5, 6, 0, 7] rfl ?_
                            exact hJ184 _ _ h
                          · refine SW.icmp_le (tgt := 180) C dX10_ask_167 (by decide) (fun hc => ?_) (fun hc => ?_)
                            · replace h := h.1 hc
                              refine SW.iload C dX10_ask_180 7 rfl ?_
                              refine SW.sub [1, 2, 3, 4, 5, 6, 8] rfl ?_
                              exact hJ182 _ h
                            · replace h := h.2 hc
                              refine SW.aload_n C dX10_ask_170 rfl 1 rfl ?_
                              refine SW.get (v := .ref (qY 7)) (T := TX10) (N := 25) C inX10_ask_X10 0 rfl rfl 20 (by decide) lkX10_ask_41 rfl dX10_ask_171 ?_
                              refine SW.iload C dX10_ask_174 0 rfl ?_
                              refine SW.iald C 7 0 rfl rfl h.1 dX10_ask_176 ?_
                              replace h := h.2
                              refine SW.goto (tgt := 182) C dX10_ask_177 (by decide) ?_
                              refine SW.sub [1, 2, 3, 4, 5, 6, 8] rfl ?_
                              exact hJ182 _ h
              obtain ⟨fu, h⟩ := h
              refine SW.sub [1, 2, 3, 4, 5, 6, 7, 0] rfl ?_
              refine L108 _ (fun v6_190 oY_190 h => ?_) fu _ _ _ h
              · refine SW.iload C dX10_ask_190 5 rfl ?_
                refine jn1_elim (G := fun p0_206 => SW p l e { frames := 3, cells := 0, slots := 0, locals := 72 } s m args below meth c A D 9 0 0 (MQ below (va_Qi (fun (r : Int32) (u : Ob) => post r u) (ctB D A (fun u : Ob => w10 cI cZ qY u)) A) args s 0 0 A) (w10 cI cZ qY oY_190) 206 [(0, .ref (qY 0)), (1, .int v1), (2, .int v2_21), (3, .int v3_21), (4, .int v4_21), (6, .int v6_190)] [.int p0_206]) h (fun p0_206 h => ?_) (fun J206 hJ206 h => ?_)
                · refine SW.istore (lv' := [(7, .int p0_206), (0, .ref (qY 0)), (1, .int v1), (2, .int v2_21), (3, .int v3_21), (4, .int v4_21), (6, .int v6_190)]) C dX10_ask_206 (by decide) rfl ?_
                  refine SW.iload C dX10_ask_208 0 rfl ?_
                  refine jn1_elim (G := fun p0_219 => SW p l e { frames := 3, cells := 0, slots := 0, locals := 72 } s m args below meth c A D 9 0 0 (MQ below (va_Qi (fun (r : Int32) (u : Ob) => post r u) (ctB D A (fun u : Ob => w10 cI cZ qY u)) A) args s 0 0 A) (w10 cI cZ qY oY_190) 219 [(0, .ref (qY 0)), (1, .int v1), (3, .int v3_21), (4, .int v4_21), (6, .int v6_190), (7, .int p0_206)] [.int p0_219]) h (fun p0_219 h => ?_) (fun J219 hJ219 h => ?_)
                  · refine SW.istore_n (lv' := [(2, .int p0_219), (0, .ref (qY 0)), (1, .int v1), (3, .int v3_21), (4, .int v4_21), (6, .int v6_190), (7, .int p0_206)]) C dX10_ask_219 rfl (by decide) rfl ?_
                    refine SW.iload C dX10_ask_220 6 rfl ?_
                    refine jn1_elim (G := fun p0_231 => SW p l e { frames := 3, cells := 0, slots := 0, locals := 72 } s m args below meth c A D 9 0 0 (MQ below (va_Qi (fun (r : Int32) (u : Ob) => post r u) (ctB D A (fun u : Ob => w10 cI cZ qY u)) A) args s 0 0 A) (w10 cI cZ qY oY_190) 231 [(0, .ref (qY 0)), (1, .int v1), (2, .int p0_219), (4, .int v4_21)] [.int p0_231]) h (fun p0_231 h => ?_) (fun J231 hJ231 h => ?_)
                    · refine SW.istore_n (lv' := [(3, .int p0_231), (0, .ref (qY 0)), (1, .int v1), (2, .int p0_219), (4, .int v4_21)]) C dX10_ask_231 rfl (by decide) rfl ?_
                      refine SW.iinc (q := 4) (v := (v4_21 + (1 : Int32))) (lv' := [(4, .int (v4_21 + (1 : Int32))), (3, .int p0_231), (0, .ref (qY 0)), (1, .int v1), (2, .int p0_219)]) C dX10_ask_232 rfl rfl (by decide) rfl ?_
                      refine SW.goto (tgt := 21) C dX10_ask_235 (by decide) ?_
                      refine SW.sub [2, 3, 4, 1, 0] rfl ?_
                      exact ih _ _ _ _ h
                    · refine SW.if_eq (tgt := 230) C dX10_ask_222 (by decide) (fun hc => ?_) (fun hc => ?_)
                      · replace h := h.1 hc
                        refine SW.iload_n C dX10_ask_230 rfl 3 rfl ?_
                        refine SW.sub [1, 2, 0, 4] rfl ?_
                        exact hJ231 _ h
                      · replace h := h.2 hc
                        refine SW.iload C dX10_ask_225 5 rfl ?_
                        refine SW.goto (tgt := 231) C dX10_ask_227 (by decide) ?_
                        refine SW.sub [1, 2, 0, 4] rfl ?_
                        exact hJ231 _ h
                  · refine SW.if_eq (tgt := 218) C dX10_ask_210 (by decide) (fun hc => ?_) (fun hc => ?_)
                    · replace h := h.1 hc
                      refine SW.iload_n C dX10_ask_218 rfl 3 rfl ?_
                      refine SW.sub [1, 2, 4, 5, 6, 0] rfl ?_
                      exact hJ219 _ h
                    · replace h := h.2 hc
                      refine SW.iload C dX10_ask_213 5 rfl ?_
                      refine SW.goto (tgt := 219) C dX10_ask_215 (by decide) ?_
                      refine SW.sub [1, 2, 4, 5, 6, 0] rfl ?_
                      exact hJ219 _ h
                · refine jn0_elim (G := SW p l e { frames := 3, cells := 0, slots := 0, locals := 72 } s m args below meth c A D 9 0 0 (MQ below (va_Qi (fun (r : Int32) (u : Ob) => post r u) (ctB D A (fun u : Ob => w10 cI cZ qY u)) A) args s 0 0 A) (w10 cI cZ qY oY_190) 205 [(0, .ref (qY 0)), (1, .int v1), (2, .int v2_21), (3, .int v3_21), (4, .int v4_21), (6, .int v6_190)] []) h (fun h => ?_) (fun J205 hJ205 h => ?_)
                  · refine SW.iconst (v := (0 : Int32)) C dX10_ask_205 (by decide) ?_
                    exact hJ206 _ h
                  · refine SW.if_le (tgt := 205) C dX10_ask_192 (by decide) (fun hc => ?_) (fun hc => ?_)
                    · replace h := h.1 hc
                      exact hJ205 h
                    · replace h := h.2 hc
                      refine SW.iload C dX10_ask_195 5 rfl ?_
                      refine SW.iload_n C dX10_ask_197 rfl 3 rfl ?_
                      refine SW.icmp_ge (tgt := 205) C dX10_ask_198 (by decide) (fun hc => ?_) (fun hc => ?_)
                      · replace h := h.1 hc
                        exact hJ205 h
                      · replace h := h.2 hc
                        refine SW.iconst (v := (1 : Int32)) C dX10_ask_201 (by decide) ?_
                        refine SW.goto (tgt := 206) C dX10_ask_202 (by decide) ?_
                        exact hJ206 _ h
    obtain ⟨fu, h⟩ := h
    refine SW.sub [3, 4, 2, 1, 0] rfl ?_
    refine L21 _ (fun v2_238 v3_238 oY_238 h => ?_) fu _ _ _ _ h
    · refine SW.iload_n C dX10_ask_238 rfl 1 rfl ?_
      refine jn0_elim (G := SW p l e { frames := 3, cells := 0, slots := 0, locals := 72 } s m args below meth c A D 9 0 0 (MQ below (va_Qi (fun (r : Int32) (u : Ob) => post r u) (ctB D A (fun u : Ob => w10 cI cZ qY u)) A) args s 0 0 A) (w10 cI cZ qY oY_238) 246 [(2, .int v2_238)] []) h (fun h => ?_) (fun J246 hJ246 h => ?_)
      · refine SW.iload_n C dX10_ask_246 rfl 0 rfl ?_
        refine SW.goto (tgt := 251) C dX10_ask_247 (by decide) ?_
        exact SW.iret C oY_238 rfl h dX10_ask_251
      · refine SW.if_lt (tgt := 246) C dX10_ask_239 (by decide) (fun hc => ?_) (fun hc => ?_)
        · replace h := h.1 hc
          refine SW.sub [1] rfl ?_
          exact hJ246 h
        · replace h := h.2 hc
          refine SW.iload_n C dX10_ask_242 rfl 0 rfl ?_
          refine SW.if_ne (tgt := 250) C dX10_ask_243 (by decide) (fun hc => ?_) (fun hc => ?_)
          · replace h := h.2 hc
            refine SW.iload_n C dX10_ask_250 rfl 2 rfl ?_
            exact SW.iret C oY_238 rfl h dX10_ask_251
          · replace h := h.1 hc
            refine SW.sub [1] rfl ?_
            exact hJ246 h
  · replace h := h.1 hc
    refine SW.bipush (v := (-2 : Int32)) C dX10_ask_9 (by decide) ?_
    exact SW.iret C oY rfl h dX10_ask_11
def wpX10_borrow (oY : Ob) (v1 : Int32) (v2 : Int32) (v3 : Int32) (post : Int32 → Ob → Prop) : Prop := wpX10_areTwo oY v1 v2 (fun (r3 : Int32) => ((r3 = 0) → post (-1 : Int32) oY) ∧ (¬ (r3 = 0) → wpX10_in v3 (1 : Int32) (9 : Int32) (fun (r15 : Int32) => ((r15 = 0) → post (-2 : Int32) oY) ∧ (¬ (r15 = 0) → (vp_in v1 10) ∧ ((((1000 : Int32) ≤ ((jld (oY 2) v1) + v3)) → post (-3 : Int32) oY) ∧ (¬ ((1000 : Int32) ≤ ((jld (oY 2) v1) + v3)) → (vp_in v2 10) ∧ ((((-1000 : Int32) < ((jld (oY 2) v2) - v3)) → (vp_in v1 10) ∧ ((vp_in v1 10) ∧ ((vp_in v2 10) ∧ (∀ oY_74n : Ob, oY_74n = (pa oY 2 (nC v1) ((jld (oY 2) v1) + v3)) → ((vp_in v2 10) ∧ ((vp_in v1 10) ∧ (post ((jld (upd (oY_74n 2) (nC v2) ((jld (upd (oY 2) (nC v1) ((jld (oY 2) v1) + v3)) v2) - v3)) v1) + (1000 : Int32)) (pa oY_74n 2 (nC v2) ((jld (upd (oY 2) (nC v1) ((jld (oY 2) v1) + v3)) v2) - v3))))))))) ∧ (¬ ((-1000 : Int32) < ((jld (oY 2) v2) - v3)) → post (-3 : Int32) oY))))))))
theorem pdX10_borrow : yX10_borrow.cls = RX10 ∧ yX10_borrow.cls ≠ "java/lang/invoke/MethodHandle" ∧ yX10_borrow.cls ≠ "java/lang/invoke/VarHandle" ∧ (parseMethodDescriptor yX10_borrow.desc).map (fun d => d.parameters.length) = some 3 := by decide +kernel
theorem lkX10_borrow_26 : Cond.fieldLink RX10 26 (TX10 7).1 (TX10 7).2.1 (TX10 7).2.2.1 ∈ wsX10_borrow := by decide +kernel
theorem inX10_borrow_X10 : ∀ w ∈ u_ws RX10 TX10 25, w ∈ wsX10_borrow := by decide +kernel
set_option maxHeartbeats 4000000 in
set_option maxRecDepth 100000 in
theorem ctX10_borrow (l : Launch) (D : va_G) (cI cZ : ClassId) (qY : Nat → Nat) (oY : Ob) (v1 : Int32) (v2 : Int32) (v3 : Int32) (post : Int32 → Ob → Prop) (h : wpX10_borrow oY v1 v2 v3 post) : CTi l yX10_borrow wsX10_borrow { frames := 3, cells := 0, slots := 0, locals := 65 } D [(cI, .int), (cZ, .boolean)] [.ref (qY 0), .int v1, .int v2, .int v3] (w10 cI cZ qY oY) (fun u : Ob => w10 cI cZ qY u) (fun (r : Int32) (u : Ob) => post r u) := by
  refine CTi.of (cc := cX10_borrow) (own := RX10) (maxL := 4) (ret := (some .int)) (lv0 := [(0, .ref (qY 0)), (1, .int v1), (2, .int v2), (3, .int v3)]) (by decide) rfl rfl (Nat.le_of_ble_eq_true rfl) rfl ?_
  intro p e s m args below meth c A C
  unfold wpX10_borrow at h
  refine SW.aload_n C dX10_borrow_0 rfl 0 rfl ?_
  refine SW.iload_n C dX10_borrow_1 rfl 1 rfl ?_
  refine SW.iload_n C dX10_borrow_2 rfl 2 rfl ?_
  refine SW.callVi_same C (ctX10_areTwo l D cI cZ qY oY v1 v2 _ h) gX10_borrow_X10_areTwo rfl rfl rfl pdX10_areTwo ⟨by decide, by decide⟩ 0 rfl rfl rfl rfl rfl (Nat.le_of_ble_eq_true rfl) dX10_borrow_3 (by decide) (fun r3 u h => ?_)
  try dsimp only at h
  refine SW.if_ne (tgt := 11) C dX10_borrow_6 (by decide) (fun hc => ?_) (fun hc => ?_)
  · replace h := h.2 hc
    refine SW.iload_n C dX10_borrow_11 rfl 3 rfl ?_
    refine SW.iconst (v := (1 : Int32)) C dX10_borrow_12 (by decide) ?_
    refine SW.bipush (v := (9 : Int32)) C dX10_borrow_13 (by decide) ?_
    refine SW.callSi_pure C (ctX10_in l D cI cZ v3 (1 : Int32) (9 : Int32) _ h) gX10_borrow_X10_in rfl rfl rfl pdX10_in ⟨by decide, by decide⟩ rfl rfl (Nat.le_of_ble_eq_true rfl) dX10_borrow_15 (by decide) (fun r15 u h => ?_)
    try dsimp only at h
    refine SW.if_ne (tgt := 24) C dX10_borrow_18 (by decide) (fun hc => ?_) (fun hc => ?_)
    · replace h := h.2 hc
      refine SW.aload_n C dX10_borrow_24 rfl 0 rfl ?_
      refine SW.get (v := .ref (qY 2)) (T := TX10) (N := 25) C inX10_borrow_X10 0 rfl rfl 7 (by decide) lkX10_borrow_26 rfl dX10_borrow_25 ?_
      refine SW.iload_n C dX10_borrow_28 rfl 1 rfl ?_
      refine SW.iald C 2 0 rfl rfl h.1 dX10_borrow_29 ?_
      replace h := h.2
      refine SW.iload_n C dX10_borrow_30 rfl 3 rfl ?_
      refine SW.iadd C dX10_borrow_31 ?_
      refine SW.sipush (v := (1000 : Int32)) C dX10_borrow_32 (by decide) ?_
      refine SW.icmp_ge (tgt := 52) C dX10_borrow_35 (by decide) (fun hc => ?_) (fun hc => ?_)
      · replace h := h.1 hc
        refine SW.bipush (v := (-3 : Int32)) C dX10_borrow_52 (by decide) ?_
        exact SW.iret C oY rfl h dX10_borrow_54
      · replace h := h.2 hc
        refine SW.aload_n C dX10_borrow_38 rfl 0 rfl ?_
        refine SW.get (v := .ref (qY 2)) (T := TX10) (N := 25) C inX10_borrow_X10 0 rfl rfl 7 (by decide) lkX10_borrow_26 rfl dX10_borrow_39 ?_
        refine SW.iload_n C dX10_borrow_42 rfl 2 rfl ?_
        refine SW.iald C 2 0 rfl rfl h.1 dX10_borrow_43 ?_
        replace h := h.2
        refine SW.iload_n C dX10_borrow_44 rfl 3 rfl ?_
        refine SW.isub C dX10_borrow_45 ?_
        refine SW.sipush (v := (-1000 : Int32)) C dX10_borrow_46 (by decide) ?_
        refine SW.icmp_gt (tgt := 55) C dX10_borrow_49 (by decide) (fun hc => ?_) (fun hc => ?_)
        · replace h := h.1 hc
          refine SW.aload_n C dX10_borrow_55 rfl 0 rfl ?_
          refine SW.get (v := .ref (qY 2)) (T := TX10) (N := 25) C inX10_borrow_X10 0 rfl rfl 7 (by decide) lkX10_borrow_26 rfl dX10_borrow_56 ?_
          refine SW.iload_n C dX10_borrow_59 rfl 1 rfl ?_
          refine SW.dup2 C dX10_borrow_60 rfl rfl ?_
          refine SW.iald C 2 0 rfl rfl h.1 dX10_borrow_61 ?_
          replace h := h.2
          refine SW.iload_n C dX10_borrow_62 rfl 3 rfl ?_
          refine SW.iadd C dX10_borrow_63 ?_
          refine SW.iast (ws' := w10 cI cZ qY (pa oY 2 (nC v1) ((jld (oY 2) v1) + v3))) C 2 0 rfl rfl h.1 rfl dX10_borrow_64 ?_
          replace h := h.2
          refine SW.aload_n C dX10_borrow_65 rfl 0 rfl ?_
          refine SW.get (v := .ref (qY 2)) (T := TX10) (N := 25) C inX10_borrow_X10 0 rfl rfl 7 (by decide) lkX10_borrow_26 rfl dX10_borrow_66 ?_
          refine SW.iload_n C dX10_borrow_69 rfl 2 rfl ?_
          refine SW.dup2 C dX10_borrow_70 rfl rfl ?_
          refine SW.iald C 2 0 rfl rfl h.1 dX10_borrow_71 ?_
          replace h := h.2
          refine SW.iload_n C dX10_borrow_72 rfl 3 rfl ?_
          refine SW.isub C dX10_borrow_73 ?_
          refine SW.nameOb (wz := fun z => w10 cI cZ qY z) (o := (pa oY 2 (nC v1) ((jld (oY 2) v1) + v3))) (fun oY_74n he => ?_)
          replace h := h oY_74n he
          refine SW.iast (ws' := w10 cI cZ qY (pa oY_74n 2 (nC v2) ((jld (upd (oY 2) (nC v1) ((jld (oY 2) v1) + v3)) v2) - v3))) C 2 0 rfl rfl h.1 rfl dX10_borrow_74 ?_
          replace h := h.2
          refine SW.aload_n C dX10_borrow_75 rfl 0 rfl ?_
          refine SW.get (v := .ref (qY 2)) (T := TX10) (N := 25) C inX10_borrow_X10 0 rfl rfl 7 (by decide) lkX10_borrow_26 rfl dX10_borrow_76 ?_
          refine SW.iload_n C dX10_borrow_79 rfl 1 rfl ?_
          refine SW.iald C 2 0 rfl rfl h.1 dX10_borrow_80 ?_
          replace h := h.2
          refine SW.sipush (v := (1000 : Int32)) C dX10_borrow_81 (by decide) ?_
          refine SW.iadd C dX10_borrow_84 ?_
          exact SW.iret C (pa oY_74n 2 (nC v2) ((jld (upd (oY 2) (nC v1) ((jld (oY 2) v1) + v3)) v2) - v3)) rfl h dX10_borrow_85
        · replace h := h.2 hc
          refine SW.bipush (v := (-3 : Int32)) C dX10_borrow_52 (by decide) ?_
          exact SW.iret C oY rfl h dX10_borrow_54
    · replace h := h.1 hc
      refine SW.bipush (v := (-2 : Int32)) C dX10_borrow_21 (by decide) ?_
      exact SW.iret C oY rfl h dX10_borrow_23
  · replace h := h.1 hc
    refine SW.iconst (v := (-1 : Int32)) C dX10_borrow_9 (by decide) ?_
    exact SW.iret C oY rfl h dX10_borrow_10
def wpX10_teas_L4 (oYc_4 : Ob) (K37 : Int32 → Prop) : Nat → Int32 → Int32 → Prop
  | 0, _, _ => False
  | fu4 + 1, v1_4, v2_4 => (((oYc_4 0 0) ≤ v2_4) → K37 v1_4) ∧ (¬ ((oYc_4 0 0) ≤ v2_4) → (vp_in v2_4 10) ∧ (jn2 (fun (p0_29 : Int32) (p1_29 : Int32) => wpX10_teas_L4 oYc_4 K37 fu4 (p1_29 ||| p0_29) (v2_4 + (1 : Int32))) (fun J29 => (((jld (oYc_4 2) v2_4) = 0) → J29 (0 : Int32) v1_4) ∧ (¬ ((jld (oYc_4 2) v2_4) = 0) → J29 (jshl (1 : Int32) v2_4) v1_4))))
def wpX10_teas_L57 (c2_57 : Int32) (oYc_57 : Ob) (K121 : Int32 → Int32 → Prop) : Nat → Int32 → Int32 → Int32 → Prop
  | 0, _, _, _ => False
  | fu57 + 1, v3_57, v4_57, v5_57 => (((oYc_57 0 0) ≤ v5_57) → K121 v3_57 v4_57) ∧ (¬ ((oYc_57 0 0) ≤ v5_57) → wpX10_has c2_57 v5_57 (fun (r69 : Int32) => jn2 (fun (v3_115 : Int32) (v4_115 : Int32) => wpX10_teas_L57 c2_57 oYc_57 K121 fu57 v3_115 v4_115 (v5_57 + (1 : Int32))) (fun J115 => ((r69 = 0) → J115 v3_57 v4_57) ∧ (¬ (r69 = 0) → (vp_in (c2_57 &&& ((jshl (1 : Int32) v5_57) ^^^ (-1 : Int32))) 1024) ∧ (∀ y88 : Int32, y88 = (jld (oYc_57 8) (c2_57 &&& ((jshl (1 : Int32) v5_57) ^^^ (-1 : Int32)))) → (jn1 (fun (p0_102 : Int32) => (vp_in v5_57 10) ∧ (J115 p0_102 (v4_57 + (jld (oYc_57 2) v5_57)))) (fun J102 => ((y88 ≤ v3_57) → J102 v3_57) ∧ (¬ (y88 ≤ v3_57) → J102 y88))))))))
def wpX10_teas_L39 (c1_39 : Int32) (K157 : Ob → Prop) : Nat → Int32 → Ob → Prop
  | 0, _, _ => False
  | fu39 + 1, v2_39, oY_39 => (((jshl (1 : Int32) (oY_39 0 0)) ≤ v2_39) → K157 oY_39) ∧ (¬ ((jshl (1 : Int32) (oY_39 0 0)) ≤ v2_39) → ∃ fu57 : Nat, wpX10_teas_L57 v2_39 oY_39 (fun (v3_121 : Int32) (v4_121 : Int32) => jn3 (fun (p0_149 : Int32) (p1_149 : Int32) (p2_149 : Int32) => (vp_in p2_149 1024) ∧ (wpX10_teas_L39 c1_39 K157 fu39 (v2_39 + (1 : Int32)) (pa oY_39 8 (nC p2_149) (p1_149 + p0_149)))) (fun J149 => jn2 (fun (p0_148 : Int32) (p1_148 : Int32) => J149 (0 : Int32) p0_148 p1_148) (fun J148 => ((v2_39 = 0) → J148 v3_121 v2_39) ∧ (¬ (v2_39 = 0) → (((v2_39 &&& (c1_39 ^^^ (-1 : Int32))) = 0) → ((v4_121 = 0) → J149 (1 : Int32) v3_121 v2_39) ∧ (¬ (v4_121 = 0) → J148 v3_121 v2_39)) ∧ (¬ ((v2_39 &&& (c1_39 ^^^ (-1 : Int32))) = 0) → J148 v3_121 v2_39))))) fu57 (0 : Int32) (0 : Int32) (0 : Int32))
def wpX10_teas (oY : Ob) (post : Int32 → Ob → Prop) : Prop := ∃ fu4 : Nat, wpX10_teas_L4 oY (fun (v1_37 : Int32) => ∃ fu39 : Nat, wpX10_teas_L39 v1_37 (fun (oY_157 : Ob) => wpX10_bits v1_37 (fun (r158 : Int32) => (vp_in v1_37 1024) ∧ (post (r158 - (jld (oY_157 8) v1_37)) oY_157))) fu39 (0 : Int32) oY) fu4 (0 : Int32) (0 : Int32)
theorem pdX10_teas : yX10_teas.cls = RX10 ∧ yX10_teas.cls ≠ "java/lang/invoke/MethodHandle" ∧ yX10_teas.cls ≠ "java/lang/invoke/VarHandle" ∧ (parseMethodDescriptor yX10_teas.desc).map (fun d => d.parameters.length) = some 0 := by decide +kernel
theorem lkX10_teas_7 : Cond.fieldLink RX10 7 (TX10 0).1 (TX10 0).2.1 (TX10 0).2.2.1 ∈ wsX10_teas := by decide +kernel
theorem inX10_teas_X10 : ∀ w ∈ u_ws RX10 TX10 25, w ∈ wsX10_teas := by decide +kernel
theorem lkX10_teas_26 : Cond.fieldLink RX10 26 (TX10 7).1 (TX10 7).2.1 (TX10 7).2.2.1 ∈ wsX10_teas := by decide +kernel
theorem lkX10_teas_44 : Cond.fieldLink RX10 44 (TX10 21).1 (TX10 21).2.1 (TX10 21).2.2.1 ∈ wsX10_teas := by decide +kernel
set_option maxHeartbeats 4000000 in
set_option maxRecDepth 100000 in
theorem ctX10_teas (l : Launch) (D : va_G) (cI cZ : ClassId) (qY : Nat → Nat) (oY : Ob) (post : Int32 → Ob → Prop) (h : wpX10_teas oY post) : CTi l yX10_teas wsX10_teas { frames := 1, cells := 0, slots := 0, locals := 22 } D [(cI, .int), (cZ, .boolean)] [.ref (qY 0)] (w10 cI cZ qY oY) (fun u : Ob => w10 cI cZ qY u) (fun (r : Int32) (u : Ob) => post r u) := by
  refine CTi.of (cc := cX10_teas) (own := RX10) (maxL := 7) (ret := (some .int)) (lv0 := [(0, .ref (qY 0))]) (by decide) rfl rfl (Nat.le_of_ble_eq_true rfl) rfl ?_
  intro p e s m args below meth c A C
  unfold wpX10_teas at h
  refine SW.iconst (v := (0 : Int32)) C dX10_teas_0 (by decide) ?_
  refine SW.istore_n (lv' := [(1, .int (0 : Int32)), (0, .ref (qY 0))]) C dX10_teas_1 rfl (by decide) rfl ?_
  refine SW.iconst (v := (0 : Int32)) C dX10_teas_2 (by decide) ?_
  refine SW.istore_n (lv' := [(2, .int (0 : Int32)), (1, .int (0 : Int32)), (0, .ref (qY 0))]) C dX10_teas_3 rfl (by decide) rfl ?_
  have L4 : ∀ (K37 : Int32 → Prop) (hK37 : ∀ (v1_37 : Int32), K37 v1_37 → SW p l e { frames := 1, cells := 0, slots := 0, locals := 22 } s m args below meth c A D 7 0 0 (MQ below (va_Qi (fun (r : Int32) (u : Ob) => post r u) (ctB D A (fun u : Ob => w10 cI cZ qY u)) A) args s 0 0 A) (w10 cI cZ qY oY) 37 [(0, .ref (qY 0)), (1, .int v1_37)] []) (fu : Nat) (v1_4 : Int32) (v2_4 : Int32), wpX10_teas_L4 oY K37 fu v1_4 v2_4 → SW p l e { frames := 1, cells := 0, slots := 0, locals := 22 } s m args below meth c A D 7 0 0 (MQ below (va_Qi (fun (r : Int32) (u : Ob) => post r u) (ctB D A (fun u : Ob => w10 cI cZ qY u)) A) args s 0 0 A) (w10 cI cZ qY oY) 4 [(0, .ref (qY 0)), (1, .int v1_4), (2, .int v2_4)] [] := by
    intro K37 hK37 fu
    induction fu with
    | zero =>
      intro v1_4 v2_4 h
      exact False.elim h
    | succ fu ih =>
      intro v1_4 v2_4 h
      unfold wpX10_teas_L4 at h
      refine SW.iload_n C dX10_teas_4 rfl 2 rfl ?_
      refine SW.aload_n C dX10_teas_5 rfl 0 rfl ?_
      refine SW.get (v := .int (oY 0 0)) (T := TX10) (N := 25) C inX10_teas_X10 0 rfl rfl 0 (by decide) lkX10_teas_7 rfl dX10_teas_6 ?_
      refine SW.icmp_ge (tgt := 37) C dX10_teas_9 (by decide) (fun hc => ?_) (fun hc => ?_)
      · replace h := h.1 hc
        refine SW.sub [0, 1] rfl ?_
        exact hK37 _ h
      · replace h := h.2 hc
        refine SW.iload_n C dX10_teas_12 rfl 1 rfl ?_
        refine SW.aload_n C dX10_teas_13 rfl 0 rfl ?_
        refine SW.get (v := .ref (qY 2)) (T := TX10) (N := 25) C inX10_teas_X10 0 rfl rfl 7 (by decide) lkX10_teas_26 rfl dX10_teas_14 ?_
        refine SW.iload_n C dX10_teas_17 rfl 2 rfl ?_
        refine SW.iald C 2 0 rfl rfl h.1 dX10_teas_18 ?_
        replace h := h.2
        refine jn2_elim (G := fun p0_29 p1_29 => SW p l e { frames := 1, cells := 0, slots := 0, locals := 22 } s m args below meth c A D 7 0 0 (MQ below (va_Qi (fun (r : Int32) (u : Ob) => post r u) (ctB D A (fun u : Ob => w10 cI cZ qY u)) A) args s 0 0 A) (w10 cI cZ qY oY) 29 [(0, .ref (qY 0)), (2, .int v2_4)] [.int p0_29, .int p1_29]) h (fun p0_29 p1_29 h => ?_) (fun J29 hJ29 h => ?_)
        · refine SW.ior C dX10_teas_29 ?_
          refine SW.istore_n (lv' := [(1, .int (p1_29 ||| p0_29)), (0, .ref (qY 0)), (2, .int v2_4)]) C dX10_teas_30 rfl (by decide) rfl ?_
          refine SW.iinc (q := 2) (v := (v2_4 + (1 : Int32))) (lv' := [(2, .int (v2_4 + (1 : Int32))), (1, .int (p1_29 ||| p0_29)), (0, .ref (qY 0))]) C dX10_teas_31 rfl rfl (by decide) rfl ?_
          refine SW.goto (tgt := 4) C dX10_teas_34 (by decide) ?_
          refine SW.sub [2, 1, 0] rfl ?_
          exact ih _ _ h
        · refine SW.if_eq (tgt := 28) C dX10_teas_19 (by decide) (fun hc => ?_) (fun hc => ?_)
          · replace h := h.1 hc
            refine SW.iconst (v := (0 : Int32)) C dX10_teas_28 (by decide) ?_
            refine SW.sub [0, 2] rfl ?_
            exact hJ29 _ _ h
          · replace h := h.2 hc
            refine SW.iconst (v := (1 : Int32)) C dX10_teas_22 (by decide) ?_
            refine SW.iload_n C dX10_teas_23 rfl 2 rfl ?_
            refine SW.ishl C dX10_teas_24 ?_
            refine SW.goto (tgt := 29) C dX10_teas_25 (by decide) ?_
            refine SW.sub [0, 2] rfl ?_
            exact hJ29 _ _ h
  obtain ⟨fu, h⟩ := h
  refine SW.sub [2, 1, 0] rfl ?_
  refine L4 _ (fun v1_37 h => ?_) fu _ _ h
  · refine SW.iconst (v := (0 : Int32)) C dX10_teas_37 (by decide) ?_
    refine SW.istore_n (lv' := [(2, .int (0 : Int32)), (0, .ref (qY 0)), (1, .int v1_37)]) C dX10_teas_38 rfl (by decide) rfl ?_
    have L39 : ∀ (K157 : Ob → Prop) (hK157 : ∀ (oY_157 : Ob), K157 oY_157 → SW p l e { frames := 1, cells := 0, slots := 0, locals := 22 } s m args below meth c A D 7 0 0 (MQ below (va_Qi (fun (r : Int32) (u : Ob) => post r u) (ctB D A (fun u : Ob => w10 cI cZ qY u)) A) args s 0 0 A) (w10 cI cZ qY oY_157) 157 [(0, .ref (qY 0)), (1, .int v1_37)] []) (fu : Nat) (v2_39 : Int32) (oY_39 : Ob), wpX10_teas_L39 v1_37 K157 fu v2_39 oY_39 → SW p l e { frames := 1, cells := 0, slots := 0, locals := 22 } s m args below meth c A D 7 0 0 (MQ below (va_Qi (fun (r : Int32) (u : Ob) => post r u) (ctB D A (fun u : Ob => w10 cI cZ qY u)) A) args s 0 0 A) (w10 cI cZ qY oY_39) 39 [(0, .ref (qY 0)), (1, .int v1_37), (2, .int v2_39)] [] := by
      intro K157 hK157 fu
      induction fu with
      | zero =>
        intro v2_39 oY_39 h
        exact False.elim h
      | succ fu ih =>
        intro v2_39 oY_39 h
        unfold wpX10_teas_L39 at h
        refine SW.iload_n C dX10_teas_39 rfl 2 rfl ?_
        refine SW.iconst (v := (1 : Int32)) C dX10_teas_40 (by decide) ?_
        refine SW.aload_n C dX10_teas_41 rfl 0 rfl ?_
        refine SW.get (v := .int (oY_39 0 0)) (T := TX10) (N := 25) C inX10_teas_X10 0 rfl rfl 0 (by decide) lkX10_teas_7 rfl dX10_teas_42 ?_
        refine SW.ishl C dX10_teas_45 ?_
        refine SW.icmp_ge (tgt := 157) C dX10_teas_46 (by decide) (fun hc => ?_) (fun hc => ?_)
        · replace h := h.1 hc
          refine SW.sub [0, 1] rfl ?_
          exact hK157 _ h
        · replace h := h.2 hc
          refine SW.iconst (v := (0 : Int32)) C dX10_teas_49 (by decide) ?_
          refine SW.istore_n (lv' := [(3, .int (0 : Int32)), (0, .ref (qY 0)), (1, .int v1_37), (2, .int v2_39)]) C dX10_teas_50 rfl (by decide) rfl ?_
          refine SW.iconst (v := (0 : Int32)) C dX10_teas_51 (by decide) ?_
          refine SW.istore (lv' := [(4, .int (0 : Int32)), (3, .int (0 : Int32)), (0, .ref (qY 0)), (1, .int v1_37), (2, .int v2_39)]) C dX10_teas_52 (by decide) rfl ?_
          refine SW.iconst (v := (0 : Int32)) C dX10_teas_54 (by decide) ?_
          refine SW.istore (lv' := [(5, .int (0 : Int32)), (4, .int (0 : Int32)), (3, .int (0 : Int32)), (0, .ref (qY 0)), (1, .int v1_37), (2, .int v2_39)]) C dX10_teas_55 (by decide) rfl ?_
          have L57 : ∀ (K121 : Int32 → Int32 → Prop) (hK121 : ∀ (v3_121 : Int32) (v4_121 : Int32), K121 v3_121 v4_121 → SW p l e { frames := 1, cells := 0, slots := 0, locals := 22 } s m args below meth c A D 7 0 0 (MQ below (va_Qi (fun (r : Int32) (u : Ob) => post r u) (ctB D A (fun u : Ob => w10 cI cZ qY u)) A) args s 0 0 A) (w10 cI cZ qY oY_39) 121 [(0, .ref (qY 0)), (1, .int v1_37), (2, .int v2_39), (3, .int v3_121), (4, .int v4_121)] []) (fu : Nat) (v3_57 : Int32) (v4_57 : Int32) (v5_57 : Int32), wpX10_teas_L57 v2_39 oY_39 K121 fu v3_57 v4_57 v5_57 → SW p l e { frames := 1, cells := 0, slots := 0, locals := 22 } s m args below meth c A D 7 0 0 (MQ below (va_Qi (fun (r : Int32) (u : Ob) => post r u) (ctB D A (fun u : Ob => w10 cI cZ qY u)) A) args s 0 0 A) (w10 cI cZ qY oY_39) 57 [(0, .ref (qY 0)), (1, .int v1_37), (2, .int v2_39), (3, .int v3_57), (4, .int v4_57), (5, .int v5_57)] [] := by
            intro K121 hK121 fu
            induction fu with
            | zero =>
              intro v3_57 v4_57 v5_57 h
              exact False.elim h
            | succ fu ih =>
              intro v3_57 v4_57 v5_57 h
              unfold wpX10_teas_L57 at h
              refine SW.iload C dX10_teas_57 5 rfl ?_
              refine SW.aload_n C dX10_teas_59 rfl 0 rfl ?_
              refine SW.get (v := .int (oY_39 0 0)) (T := TX10) (N := 25) C inX10_teas_X10 0 rfl rfl 0 (by decide) lkX10_teas_7 rfl dX10_teas_60 ?_
              refine SW.icmp_ge (tgt := 121) C dX10_teas_63 (by decide) (fun hc => ?_) (fun hc => ?_)
              · replace h := h.1 hc
                refine SW.sub [0, 1, 2, 3, 4] rfl ?_
                exact hK121 _ _ h
              · replace h := h.2 hc
                refine SW.iload_n C dX10_teas_66 rfl 2 rfl ?_
                refine SW.iload C dX10_teas_67 5 rfl ?_
                refine SW.callSi_pure C (ctX10_has l D cI cZ v2_39 v5_57 _ h) gX10_teas_X10_has rfl rfl rfl pdX10_has ⟨by decide, by decide⟩ rfl rfl (Nat.le_of_ble_eq_true rfl) dX10_teas_69 (by decide) (fun r69 u h => ?_)
                try dsimp only at h
                refine jn2_elim (G := fun v3_115 v4_115 => SW p l e { frames := 1, cells := 0, slots := 0, locals := 22 } s m args below meth c A D 7 0 0 (MQ below (va_Qi (fun (r : Int32) (u : Ob) => post r u) (ctB D A (fun u : Ob => w10 cI cZ qY u)) A) args s 0 0 A) (w10 cI cZ qY oY_39) 115 [(0, .ref (qY 0)), (1, .int v1_37), (2, .int v2_39), (3, .int v3_115), (4, .int v4_115), (5, .int v5_57)] []) h (fun v3_115 v4_115 h => ?_) (fun J115 hJ115 h => ?_)
                · refine SW.iinc (q := 5) (v := (v5_57 + (1 : Int32))) (lv' := [(5, .int (v5_57 + (1 : Int32))), (0, .ref (qY 0)), (1, .int v1_37), (2, .int v2_39), (3, .int v3_115), (4, .int v4_115)]) C dX10_teas_115 rfl rfl (by decide) rfl ?_
                  refine SW.goto (tgt := 57) C dX10_teas_118 (by decide) ?_
                  refine SW.sub [1, 2, 3, 4, 5, 0] rfl ?_
                  exact ih _ _ _ h
                · refine SW.if_eq (tgt := 115) C dX10_teas_72 (by decide) (fun hc => ?_) (fun hc => ?_)
                  · replace h := h.1 hc
                    exact hJ115 _ _ h
                  · replace h := h.2 hc
                    refine SW.aload_n C dX10_teas_75 rfl 0 rfl ?_
                    refine SW.get (v := .ref (qY 8)) (T := TX10) (N := 25) C inX10_teas_X10 0 rfl rfl 21 (by decide) lkX10_teas_44 rfl dX10_teas_76 ?_
                    refine SW.iload_n C dX10_teas_79 rfl 2 rfl ?_
                    refine SW.iconst (v := (1 : Int32)) C dX10_teas_80 (by decide) ?_
                    refine SW.iload C dX10_teas_81 5 rfl ?_
                    refine SW.ishl C dX10_teas_83 ?_
                    refine SW.iconst (v := (-1 : Int32)) C dX10_teas_84 (by decide) ?_
                    refine SW.ixor C dX10_teas_85 ?_
                    refine SW.iand C dX10_teas_86 ?_
                    refine SW.iald C 8 0 rfl rfl h.1 dX10_teas_87 ?_
                    replace h := h.2
                    refine SW.topi (fun y88 he => ?_)
                    replace h := h y88 he
                    refine SW.istore (lv' := [(6, .int y88), (0, .ref (qY 0)), (1, .int v1_37), (2, .int v2_39), (3, .int v3_57), (4, .int v4_57), (5, .int v5_57)]) C dX10_teas_88 (by decide) rfl ?_
                    refine SW.iload C dX10_teas_90 0 rfl ?_
                    refine SW.iload_n C dX10_teas_92 rfl 4 rfl ?_
                    refine jn1_elim (G := fun p0_102 => SW p l e { frames := 1, cells := 0, slots := 0, locals := 22 } s m args below meth c A D 7 0 0 (MQ below (va_Qi (fun (r : Int32) (u : Ob) => post r u) (ctB D A (fun u : Ob => w10 cI cZ qY u)) A) args s 0 0 A) (w10 cI cZ qY oY_39) 102 [(0, .ref (qY 0)), (1, .int v1_37), (2, .int v2_39), (4, .int v4_57), (5, .int v5_57)] [.int p0_102]) h (fun p0_102 h => ?_) (fun J102 hJ102 h => ?_)
                    · refine SW.istore_n (lv' := [(3, .int p0_102), (0, .ref (qY 0)), (1, .int v1_37), (2, .int v2_39), (4, .int v4_57), (5, .int v5_57)]) C dX10_teas_102 rfl (by decide) rfl ?_
                      refine SW.iload C dX10_teas_103 4 rfl ?_
                      refine SW.aload_n C dX10_teas_105 rfl 1 rfl ?_
                      refine SW.get (v := .ref (qY 2)) (T := TX10) (N := 25) C inX10_teas_X10 0 rfl rfl 7 (by decide) lkX10_teas_26 rfl dX10_teas_106 ?_
                      refine SW.iload C dX10_teas_109 5 rfl ?_
                      refine SW.iald C 2 0 rfl rfl h.1 dX10_teas_111 ?_
                      replace h := h.2
                      refine SW.iadd C dX10_teas_112 ?_
                      refine SW.istore (lv' := [(4, .int (v4_57 + (jld (oY_39 2) v5_57))), (3, .int p0_102), (0, .ref (qY 0)), (1, .int v1_37), (2, .int v2_39), (5, .int v5_57)]) C dX10_teas_113 (by decide) rfl ?_
                      refine SW.sub [2, 3, 4, 1, 0, 5] rfl ?_
                      exact hJ115 _ _ h
                    · refine SW.icmp_le (tgt := 101) C dX10_teas_93 (by decide) (fun hc => ?_) (fun hc => ?_)
                      · replace h := h.1 hc
                        refine SW.iload_n C dX10_teas_101 rfl 4 rfl ?_
                        refine SW.sub [1, 2, 3, 5, 6] rfl ?_
                        exact hJ102 _ h
                      · replace h := h.2 hc
                        refine SW.iload C dX10_teas_96 0 rfl ?_
                        refine SW.goto (tgt := 102) C dX10_teas_98 (by decide) ?_
                        refine SW.sub [1, 2, 3, 5, 6] rfl ?_
                        exact hJ102 _ h
          obtain ⟨fu, h⟩ := h
          refine SW.sub [3, 4, 5, 2, 1, 0] rfl ?_
          refine L57 _ (fun v3_121 v4_121 h => ?_) fu _ _ _ h
          · refine SW.aload_n C dX10_teas_121 rfl 0 rfl ?_
            refine SW.get (v := .ref (qY 8)) (T := TX10) (N := 25) C inX10_teas_X10 0 rfl rfl 21 (by decide) lkX10_teas_44 rfl dX10_teas_122 ?_
            refine SW.iload_n C dX10_teas_125 rfl 2 rfl ?_
            refine SW.iload_n C dX10_teas_126 rfl 3 rfl ?_
            refine SW.iload_n C dX10_teas_127 rfl 2 rfl ?_
            refine jn3_elim (G := fun p0_149 p1_149 p2_149 => SW p l e { frames := 1, cells := 0, slots := 0, locals := 22 } s m args below meth c A D 7 0 0 (MQ below (va_Qi (fun (r : Int32) (u : Ob) => post r u) (ctB D A (fun u : Ob => w10 cI cZ qY u)) A) args s 0 0 A) (w10 cI cZ qY oY_39) 149 [(0, .ref (qY 0)), (1, .int v1_37), (2, .int v2_39)] [.int p0_149, .int p1_149, .int p2_149, .ref (qY 8)]) h (fun p0_149 p1_149 p2_149 h => ?_) (fun J149 hJ149 h => ?_)
            · refine SW.iadd C dX10_teas_149 ?_
              refine SW.iast (ws' := w10 cI cZ qY (pa oY_39 8 (nC p2_149) (p1_149 + p0_149))) C 8 0 rfl rfl h.1 rfl dX10_teas_150 ?_
              replace h := h.2
              refine SW.iinc (q := 2) (v := (v2_39 + (1 : Int32))) (lv' := [(2, .int (v2_39 + (1 : Int32))), (0, .ref (qY 0)), (1, .int v1_37)]) C dX10_teas_151 rfl rfl (by decide) rfl ?_
              refine SW.goto (tgt := 39) C dX10_teas_154 (by decide) ?_
              refine SW.sub [1, 2, 0] rfl ?_
              exact ih _ _ h
            · refine jn2_elim (G := fun p0_148 p1_148 => SW p l e { frames := 1, cells := 0, slots := 0, locals := 22 } s m args below meth c A D 7 0 0 (MQ below (va_Qi (fun (r : Int32) (u : Ob) => post r u) (ctB D A (fun u : Ob => w10 cI cZ qY u)) A) args s 0 0 A) (w10 cI cZ qY oY_39) 148 [(0, .ref (qY 0)), (1, .int v1_37), (2, .int v2_39)] [.int p0_148, .int p1_148, .ref (qY 8)]) h (fun p0_148 p1_148 h => ?_) (fun J148 hJ148 h => ?_)
              · refine SW.iconst (v := (0 : Int32)) C dX10_teas_148 (by decide) ?_
                exact hJ149 _ _ _ h
              · refine SW.if_eq (tgt := 148) C dX10_teas_128 (by decide) (fun hc => ?_) (fun hc => ?_)
                · replace h := h.1 hc
                  refine SW.sub [0, 1, 2] rfl ?_
                  exact hJ148 _ _ h
                · replace h := h.2 hc
                  refine SW.iload_n C dX10_teas_131 rfl 2 rfl ?_
                  refine SW.iload_n C dX10_teas_132 rfl 1 rfl ?_
                  refine SW.iconst (v := (-1 : Int32)) C dX10_teas_133 (by decide) ?_
                  refine SW.ixor C dX10_teas_134 ?_
                  refine SW.iand C dX10_teas_135 ?_
                  refine SW.if_ne (tgt := 148) C dX10_teas_136 (by decide) (fun hc => ?_) (fun hc => ?_)
                  · replace h := h.2 hc
                    refine SW.sub [0, 1, 2] rfl ?_
                    exact hJ148 _ _ h
                  · replace h := h.1 hc
                    refine SW.iload C dX10_teas_139 4 rfl ?_
                    refine SW.if_ne (tgt := 148) C dX10_teas_141 (by decide) (fun hc => ?_) (fun hc => ?_)
                    · replace h := h.2 hc
                      refine SW.sub [0, 1, 2] rfl ?_
                      exact hJ148 _ _ h
                    · replace h := h.1 hc
                      refine SW.iconst (v := (1 : Int32)) C dX10_teas_144 (by decide) ?_
                      refine SW.goto (tgt := 149) C dX10_teas_145 (by decide) ?_
                      refine SW.sub [0, 1, 2] rfl ?_
                      exact hJ149 _ _ _ h
    obtain ⟨fu, h⟩ := h
    refine SW.sub [1, 2, 0] rfl ?_
    refine L39 _ (fun oY_157 h => ?_) fu _ _ h
    · refine SW.iload_n C dX10_teas_157 rfl 1 rfl ?_
      refine SW.callSi_pure C (ctX10_bits l D cI cZ v1_37 _ h) gX10_teas_X10_bits rfl rfl rfl pdX10_bits ⟨by decide, by decide⟩ rfl rfl (Nat.le_of_ble_eq_true rfl) dX10_teas_158 (by decide) (fun r158 u h => ?_)
      try dsimp only at h
      refine SW.aload_n C dX10_teas_161 rfl 0 rfl ?_
      refine SW.get (v := .ref (qY 8)) (T := TX10) (N := 25) C inX10_teas_X10 0 rfl rfl 21 (by decide) lkX10_teas_44 rfl dX10_teas_162 ?_
      refine SW.iload_n C dX10_teas_165 rfl 1 rfl ?_
      refine SW.iald C 8 0 rfl rfl h.1 dX10_teas_166 ?_
      replace h := h.2
      refine SW.isub C dX10_teas_167 ?_
      exact SW.iret C oY_157 rfl h dX10_teas_168
def wpX10_worth (oY : Ob) (v1 : Int32) (v2 : Int32) (post : Int32 → Prop) : Prop := wpX10_lengthOf oY v1 v2 (oY 0 5) (fun (r7 : Int32) => post (((10 : Int32) * (r7 / (10 : Int32))) - ((oY 0 4) * r7)))
theorem pdX10_worth : yX10_worth.cls = RX10 ∧ yX10_worth.cls ≠ "java/lang/invoke/MethodHandle" ∧ yX10_worth.cls ≠ "java/lang/invoke/VarHandle" ∧ (parseMethodDescriptor yX10_worth.desc).map (fun d => d.parameters.length) = some 2 := by decide +kernel
theorem lkX10_worth_60 : Cond.fieldLink RX10 60 (TX10 5).1 (TX10 5).2.1 (TX10 5).2.2.1 ∈ wsX10_worth := by decide +kernel
theorem inX10_worth_X10 : ∀ w ∈ u_ws RX10 TX10 25, w ∈ wsX10_worth := by decide +kernel
theorem lkX10_worth_23 : Cond.fieldLink RX10 23 (TX10 4).1 (TX10 4).2.1 (TX10 4).2.2.1 ∈ wsX10_worth := by decide +kernel
set_option maxHeartbeats 4000000 in
set_option maxRecDepth 100000 in
theorem ctX10_worth (l : Launch) (D : va_G) (cI cZ : ClassId) (qY : Nat → Nat) (oY : Ob) (v1 : Int32) (v2 : Int32) (post : Int32 → Prop) (h : wpX10_worth oY v1 v2 post) : CTi l yX10_worth wsX10_worth { frames := 2, cells := 0, slots := 0, locals := 49 } D [(cI, .int), (cZ, .boolean)] [.ref (qY 0), .int v1, .int v2] (w10 cI cZ qY oY) (fun _ : Unit => w10 cI cZ qY oY) (fun (r : Int32) (_ : Unit) => post r) := by
  refine CTi.of (cc := cX10_worth) (own := RX10) (maxL := 4) (ret := (some .int)) (lv0 := [(0, .ref (qY 0)), (1, .int v1), (2, .int v2)]) (by decide) rfl rfl (Nat.le_of_ble_eq_true rfl) rfl ?_
  intro p e s m args below meth c A C
  unfold wpX10_worth at h
  refine SW.aload_n C dX10_worth_0 rfl 0 rfl ?_
  refine SW.iload_n C dX10_worth_1 rfl 1 rfl ?_
  refine SW.iload_n C dX10_worth_2 rfl 2 rfl ?_
  refine SW.aload_n C dX10_worth_3 rfl 0 rfl ?_
  refine SW.get (v := .int (oY 0 5)) (T := TX10) (N := 25) C inX10_worth_X10 0 rfl rfl 5 (by decide) lkX10_worth_60 rfl dX10_worth_4 ?_
  refine SW.callVi_same C (ctX10_lengthOf l D cI cZ qY oY v1 v2 (oY 0 5) _ h) gX10_worth_X10_lengthOf rfl rfl rfl pdX10_lengthOf ⟨by decide, by decide⟩ 0 rfl rfl rfl rfl rfl (Nat.le_of_ble_eq_true rfl) dX10_worth_7 (by decide) (fun r7 u h => ?_)
  try dsimp only at h
  refine SW.istore_n (lv' := [(3, .int r7), (0, .ref (qY 0)), (1, .int v1), (2, .int v2)]) C dX10_worth_10 rfl (by decide) rfl ?_
  refine SW.bipush (v := (10 : Int32)) C dX10_worth_11 (by decide) ?_
  refine SW.iload_n C dX10_worth_13 rfl 0 rfl ?_
  refine SW.bipush (v := (10 : Int32)) C dX10_worth_14 (by decide) ?_
  refine SW.idiv C dX10_worth_16 (by decide) ?_
  refine SW.imul C dX10_worth_17 ?_
  refine SW.aload_n C dX10_worth_18 rfl 1 rfl ?_
  refine SW.get (v := .int (oY 0 4)) (T := TX10) (N := 25) C inX10_worth_X10 0 rfl rfl 4 (by decide) lkX10_worth_23 rfl dX10_worth_19 ?_
  refine SW.iload_n C dX10_worth_22 rfl 0 rfl ?_
  refine SW.imul C dX10_worth_23 ?_
  refine SW.isub C dX10_worth_24 ?_
  exact SW.iret C () rfl h dX10_worth_25
def wpX10_feet_L4 (oYc_4 : Ob) (K63 : Int32 → Prop) : Nat → Int32 → Int32 → Prop
  | 0, _, _ => False
  | fu4 + 1, v1_4, v2_4 => (((oYc_4 0 0) ≤ v2_4) → K63 v1_4) ∧ (¬ ((oYc_4 0 0) ≤ v2_4) → wpX10_canBe oYc_4 ((oYc_4 0 6) ^^^ (jshl (1 : Int32) v2_4)) (fun (r24 : Int32) => jn2 (fun (p0_55 : Int32) (p1_55 : Int32) => wpX10_feet_L4 oYc_4 K63 fu4 (p1_55 ||| p0_55) (v2_4 + (1 : Int32))) (fun J55 => jn1 (fun (p0_54 : Int32) => J55 (0 : Int32) p0_54) (fun J54 => ((r24 = 0) → J54 v1_4) ∧ (¬ (r24 = 0) → wpX10_worth oYc_4 v2_4 ((oYc_4 0 6) ^^^ (jshl (1 : Int32) v2_4)) (fun (r33 : Int32) => wpX10_worth oYc_4 v2_4 (oYc_4 0 6) (fun (r42 : Int32) => ((r33 ≤ r42) → J54 v1_4) ∧ (¬ (r33 ≤ r42) → J55 (jshl (1 : Int32) v2_4) v1_4))))))))
def wpX10_feet (oY : Ob) (post : Int32 → Prop) : Prop := ∃ fu4 : Nat, wpX10_feet_L4 oY (fun (v1_63 : Int32) => post v1_63) fu4 (0 : Int32) (0 : Int32)
theorem pdX10_feet : yX10_feet.cls = RX10 ∧ yX10_feet.cls ≠ "java/lang/invoke/MethodHandle" ∧ yX10_feet.cls ≠ "java/lang/invoke/VarHandle" ∧ (parseMethodDescriptor yX10_feet.desc).map (fun d => d.parameters.length) = some 0 := by decide +kernel
theorem lkX10_feet_7 : Cond.fieldLink RX10 7 (TX10 0).1 (TX10 0).2.1 (TX10 0).2.2.1 ∈ wsX10_feet := by decide +kernel
theorem inX10_feet_X10 : ∀ w ∈ u_ws RX10 TX10 25, w ∈ wsX10_feet := by decide +kernel
theorem lkX10_feet_63 : Cond.fieldLink RX10 63 (TX10 6).1 (TX10 6).2.1 (TX10 6).2.2.1 ∈ wsX10_feet := by decide +kernel
set_option maxHeartbeats 4000000 in
set_option maxRecDepth 100000 in
theorem ctX10_feet (l : Launch) (D : va_G) (cI cZ : ClassId) (qY : Nat → Nat) (oY : Ob) (post : Int32 → Prop) (h : wpX10_feet oY post) : CTi l yX10_feet wsX10_feet { frames := 3, cells := 0, slots := 0, locals := 72 } D [(cI, .int), (cZ, .boolean)] [.ref (qY 0)] (w10 cI cZ qY oY) (fun _ : Unit => w10 cI cZ qY oY) (fun (r : Int32) (_ : Unit) => post r) := by
  refine CTi.of (cc := cX10_feet) (own := RX10) (maxL := 4) (ret := (some .int)) (lv0 := [(0, .ref (qY 0))]) (by decide) rfl rfl (Nat.le_of_ble_eq_true rfl) rfl ?_
  intro p e s m args below meth c A C
  unfold wpX10_feet at h
  refine SW.iconst (v := (0 : Int32)) C dX10_feet_0 (by decide) ?_
  refine SW.istore_n (lv' := [(1, .int (0 : Int32)), (0, .ref (qY 0))]) C dX10_feet_1 rfl (by decide) rfl ?_
  refine SW.iconst (v := (0 : Int32)) C dX10_feet_2 (by decide) ?_
  refine SW.istore_n (lv' := [(2, .int (0 : Int32)), (1, .int (0 : Int32)), (0, .ref (qY 0))]) C dX10_feet_3 rfl (by decide) rfl ?_
  have L4 : ∀ (K63 : Int32 → Prop) (hK63 : ∀ (v1_63 : Int32), K63 v1_63 → SW p l e { frames := 3, cells := 0, slots := 0, locals := 72 } s m args below meth c A D 4 0 0 (MQ below (va_Qi (fun (r : Int32) (_ : Unit) => post r) (ctB D A (fun _ : Unit => w10 cI cZ qY oY)) A) args s 0 0 A) (w10 cI cZ qY oY) 63 [(1, .int v1_63)] []) (fu : Nat) (v1_4 : Int32) (v2_4 : Int32), wpX10_feet_L4 oY K63 fu v1_4 v2_4 → SW p l e { frames := 3, cells := 0, slots := 0, locals := 72 } s m args below meth c A D 4 0 0 (MQ below (va_Qi (fun (r : Int32) (_ : Unit) => post r) (ctB D A (fun _ : Unit => w10 cI cZ qY oY)) A) args s 0 0 A) (w10 cI cZ qY oY) 4 [(0, .ref (qY 0)), (1, .int v1_4), (2, .int v2_4)] [] := by
    intro K63 hK63 fu
    induction fu with
    | zero =>
      intro v1_4 v2_4 h
      exact False.elim h
    | succ fu ih =>
      intro v1_4 v2_4 h
      unfold wpX10_feet_L4 at h
      refine SW.iload_n C dX10_feet_4 rfl 2 rfl ?_
      refine SW.aload_n C dX10_feet_5 rfl 0 rfl ?_
      refine SW.get (v := .int (oY 0 0)) (T := TX10) (N := 25) C inX10_feet_X10 0 rfl rfl 0 (by decide) lkX10_feet_7 rfl dX10_feet_6 ?_
      refine SW.icmp_ge (tgt := 63) C dX10_feet_9 (by decide) (fun hc => ?_) (fun hc => ?_)
      · replace h := h.1 hc
        refine SW.sub [1] rfl ?_
        exact hK63 _ h
      · replace h := h.2 hc
        refine SW.aload_n C dX10_feet_12 rfl 0 rfl ?_
        refine SW.get (v := .int (oY 0 6)) (T := TX10) (N := 25) C inX10_feet_X10 0 rfl rfl 6 (by decide) lkX10_feet_63 rfl dX10_feet_13 ?_
        refine SW.iconst (v := (1 : Int32)) C dX10_feet_16 (by decide) ?_
        refine SW.iload_n C dX10_feet_17 rfl 2 rfl ?_
        refine SW.ishl C dX10_feet_18 ?_
        refine SW.ixor C dX10_feet_19 ?_
        refine SW.istore_n (lv' := [(3, .int ((oY 0 6) ^^^ (jshl (1 : Int32) v2_4))), (0, .ref (qY 0)), (1, .int v1_4), (2, .int v2_4)]) C dX10_feet_20 rfl (by decide) rfl ?_
        refine SW.iload_n C dX10_feet_21 rfl 2 rfl ?_
        refine SW.aload_n C dX10_feet_22 rfl 1 rfl ?_
        refine SW.iload_n C dX10_feet_23 rfl 0 rfl ?_
        refine SW.callVi_same C (ctX10_canBe l D cI cZ qY oY ((oY 0 6) ^^^ (jshl (1 : Int32) v2_4)) _ h) gX10_feet_X10_canBe rfl rfl rfl pdX10_canBe ⟨by decide, by decide⟩ 0 rfl rfl rfl rfl rfl (Nat.le_of_ble_eq_true rfl) dX10_feet_24 (by decide) (fun r24 u h => ?_)
        try dsimp only at h
        refine jn2_elim (G := fun p0_55 p1_55 => SW p l e { frames := 3, cells := 0, slots := 0, locals := 72 } s m args below meth c A D 4 0 0 (MQ below (va_Qi (fun (r : Int32) (_ : Unit) => post r) (ctB D A (fun _ : Unit => w10 cI cZ qY oY)) A) args s 0 0 A) (w10 cI cZ qY oY) 55 [(0, .ref (qY 0)), (2, .int v2_4)] [.int p0_55, .int p1_55]) h (fun p0_55 p1_55 h => ?_) (fun J55 hJ55 h => ?_)
        · refine SW.ior C dX10_feet_55 ?_
          refine SW.istore_n (lv' := [(1, .int (p1_55 ||| p0_55)), (0, .ref (qY 0)), (2, .int v2_4)]) C dX10_feet_56 rfl (by decide) rfl ?_
          refine SW.iinc (q := 2) (v := (v2_4 + (1 : Int32))) (lv' := [(2, .int (v2_4 + (1 : Int32))), (1, .int (p1_55 ||| p0_55)), (0, .ref (qY 0))]) C dX10_feet_57 rfl rfl (by decide) rfl ?_
          refine SW.goto (tgt := 4) C dX10_feet_60 (by decide) ?_
          refine SW.sub [2, 1, 0] rfl ?_
          exact ih _ _ h
        · refine jn1_elim (G := fun p0_54 => SW p l e { frames := 3, cells := 0, slots := 0, locals := 72 } s m args below meth c A D 4 0 0 (MQ below (va_Qi (fun (r : Int32) (_ : Unit) => post r) (ctB D A (fun _ : Unit => w10 cI cZ qY oY)) A) args s 0 0 A) (w10 cI cZ qY oY) 54 [(0, .ref (qY 0)), (2, .int v2_4)] [.int p0_54]) h (fun p0_54 h => ?_) (fun J54 hJ54 h => ?_)
          · refine SW.iconst (v := (0 : Int32)) C dX10_feet_54 (by decide) ?_
            exact hJ55 _ _ h
          · refine SW.if_eq (tgt := 54) C dX10_feet_27 (by decide) (fun hc => ?_) (fun hc => ?_)
            · replace h := h.1 hc
              refine SW.sub [1, 3] rfl ?_
              exact hJ54 _ h
            · replace h := h.2 hc
              refine SW.aload_n C dX10_feet_30 rfl 1 rfl ?_
              refine SW.iload_n C dX10_feet_31 rfl 3 rfl ?_
              refine SW.iload_n C dX10_feet_32 rfl 0 rfl ?_
              refine SW.callVi_same C (ctX10_worth l D cI cZ qY oY v2_4 ((oY 0 6) ^^^ (jshl (1 : Int32) v2_4)) _ h) gX10_feet_X10_worth rfl rfl rfl pdX10_worth ⟨by decide, by decide⟩ 0 rfl rfl rfl rfl rfl (Nat.le_of_ble_eq_true rfl) dX10_feet_33 (by decide) (fun r33 u h => ?_)
              try dsimp only at h
              refine SW.aload_n C dX10_feet_36 rfl 1 rfl ?_
              refine SW.iload_n C dX10_feet_37 rfl 3 rfl ?_
              refine SW.aload_n C dX10_feet_38 rfl 1 rfl ?_
              refine SW.get (v := .int (oY 0 6)) (T := TX10) (N := 25) C inX10_feet_X10 0 rfl rfl 6 (by decide) lkX10_feet_63 rfl dX10_feet_39 ?_
              refine SW.callVi_same C (ctX10_worth l D cI cZ qY oY v2_4 (oY 0 6) _ h) gX10_feet_X10_worth rfl rfl rfl pdX10_worth ⟨by decide, by decide⟩ 0 rfl rfl rfl rfl rfl (Nat.le_of_ble_eq_true rfl) dX10_feet_42 (by decide) (fun r42 u h => ?_)
              try dsimp only at h
              refine SW.icmp_le (tgt := 54) C dX10_feet_45 (by decide) (fun hc => ?_) (fun hc => ?_)
              · replace h := h.1 hc
                refine SW.sub [1, 3] rfl ?_
                exact hJ54 _ h
              · replace h := h.2 hc
                refine SW.iconst (v := (1 : Int32)) C dX10_feet_48 (by decide) ?_
                refine SW.iload_n C dX10_feet_49 rfl 3 rfl ?_
                refine SW.ishl C dX10_feet_50 ?_
                refine SW.goto (tgt := 55) C dX10_feet_51 (by decide) ?_
                refine SW.sub [1, 3] rfl ?_
                exact hJ55 _ _ h
  obtain ⟨fu, h⟩ := h
  refine SW.sub [2, 1, 0] rfl ?_
  refine L4 _ (fun v1_63 h => ?_) fu _ _ h
  · refine SW.iload_n C dX10_feet_63 rfl 0 rfl ?_
    exact SW.iret C () rfl h dX10_feet_64
def wpX10_had_L14 (c0_14 : Int32) (c2_14 : Int32) (K54 : Int32 → Prop) : Nat → Int32 → Int32 → Prop
  | 0, _, _ => False
  | fu14 + 1, v1_14, v3_14 => (((17 : Int32) ≤ v3_14) → K54 v1_14) ∧ (¬ ((17 : Int32) ≤ v3_14) → wpX10_has c0_14 c2_14 (fun (r23 : Int32) => jn2 (fun (p0_46 : Int32) (p1_46 : Int32) => wpX10_had_L14 c0_14 c2_14 K54 fu14 (p1_46 ||| p0_46) (v3_14 + (1 : Int32))) (fun J46 => jn1 (fun (p0_45 : Int32) => J46 (0 : Int32) p0_45) (fun J45 => ((r23 = 0) → J45 v1_14) ∧ (¬ (r23 = 0) → wpX10_has c0_14 v3_14 (fun (r31 : Int32) => ((r31 = 0) → J45 v1_14) ∧ (¬ (r31 = 0) → J46 (jshl (1 : Int32) (v3_14 - c2_14)) v1_14)))))))
def wpX10_had_L4 (c0_4 : Int32) (K60 : Int32 → Prop) : Nat → Int32 → Int32 → Prop
  | 0, _, _ => False
  | fu4 + 1, v1_4, v2_4 => (((17 : Int32) ≤ v2_4) → K60 v1_4) ∧ (¬ ((17 : Int32) ≤ v2_4) → ∃ fu14 : Nat, wpX10_had_L14 c0_4 v2_4 (fun (v1_54 : Int32) => wpX10_had_L4 c0_4 K60 fu4 v1_54 (v2_4 + (1 : Int32))) fu14 v1_4 (v2_4 + (1 : Int32)))
def wpX10_had (v0 : Int32) (post : Int32 → Prop) : Prop := ∃ fu4 : Nat, wpX10_had_L4 v0 (fun (v1_60 : Int32) => post v1_60) fu4 (0 : Int32) (0 : Int32)
theorem pdX10_had : yX10_had.cls ≠ "java/lang/invoke/MethodHandle" ∧ yX10_had.cls ≠ "java/lang/invoke/VarHandle" ∧ (parseMethodDescriptor yX10_had.desc).map (fun d => d.parameters.length) = some 1 := by decide +kernel
set_option maxHeartbeats 4000000 in
set_option maxRecDepth 100000 in
theorem ctX10_had (l : Launch) (D : va_G) (cI cZ : ClassId) (v0 : Int32) (post : Int32 → Prop) (h : wpX10_had v0 post) : CTi l yX10_had wsX10_had { frames := 1, cells := 0, slots := 0, locals := 21 } D [(cI, .int), (cZ, .boolean)] [.int v0] (([] : va_W)) (fun _ : Unit => ([] : va_W)) (fun (r : Int32) (_ : Unit) => post r) := by
  refine CTi.of (cc := cX10_had) (own := RX10) (maxL := 4) (ret := (some .int)) (lv0 := [(0, .int v0)]) (by decide) rfl rfl (Nat.le_of_ble_eq_true rfl) rfl ?_
  intro p e s m args below meth c A C
  unfold wpX10_had at h
  refine SW.iconst (v := (0 : Int32)) C dX10_had_0 (by decide) ?_
  refine SW.istore_n (lv' := [(1, .int (0 : Int32)), (0, .int v0)]) C dX10_had_1 rfl (by decide) rfl ?_
  refine SW.iconst (v := (0 : Int32)) C dX10_had_2 (by decide) ?_
  refine SW.istore_n (lv' := [(2, .int (0 : Int32)), (1, .int (0 : Int32)), (0, .int v0)]) C dX10_had_3 rfl (by decide) rfl ?_
  have L4 : ∀ (K60 : Int32 → Prop) (hK60 : ∀ (v1_60 : Int32), K60 v1_60 → SW p l e { frames := 1, cells := 0, slots := 0, locals := 21 } s m args below meth c A D 4 0 0 (MQ below (va_Qi (fun (r : Int32) (_ : Unit) => post r) (ctB D A (fun _ : Unit => ([] : va_W))) A) args s 0 0 A) (([] : va_W)) 60 [(1, .int v1_60)] []) (fu : Nat) (v1_4 : Int32) (v2_4 : Int32), wpX10_had_L4 v0 K60 fu v1_4 v2_4 → SW p l e { frames := 1, cells := 0, slots := 0, locals := 21 } s m args below meth c A D 4 0 0 (MQ below (va_Qi (fun (r : Int32) (_ : Unit) => post r) (ctB D A (fun _ : Unit => ([] : va_W))) A) args s 0 0 A) (([] : va_W)) 4 [(0, .int v0), (1, .int v1_4), (2, .int v2_4)] [] := by
    intro K60 hK60 fu
    induction fu with
    | zero =>
      intro v1_4 v2_4 h
      exact False.elim h
    | succ fu ih =>
      intro v1_4 v2_4 h
      unfold wpX10_had_L4 at h
      refine SW.iload_n C dX10_had_4 rfl 2 rfl ?_
      refine SW.bipush (v := (17 : Int32)) C dX10_had_5 (by decide) ?_
      refine SW.icmp_ge (tgt := 60) C dX10_had_7 (by decide) (fun hc => ?_) (fun hc => ?_)
      · replace h := h.1 hc
        refine SW.sub [1] rfl ?_
        exact hK60 _ h
      · replace h := h.2 hc
        refine SW.iload_n C dX10_had_10 rfl 2 rfl ?_
        refine SW.iconst (v := (1 : Int32)) C dX10_had_11 (by decide) ?_
        refine SW.iadd C dX10_had_12 ?_
        refine SW.istore_n (lv' := [(3, .int (v2_4 + (1 : Int32))), (0, .int v0), (1, .int v1_4), (2, .int v2_4)]) C dX10_had_13 rfl (by decide) rfl ?_
        have L14 : ∀ (K54 : Int32 → Prop) (hK54 : ∀ (v1_54 : Int32), K54 v1_54 → SW p l e { frames := 1, cells := 0, slots := 0, locals := 21 } s m args below meth c A D 4 0 0 (MQ below (va_Qi (fun (r : Int32) (_ : Unit) => post r) (ctB D A (fun _ : Unit => ([] : va_W))) A) args s 0 0 A) (([] : va_W)) 54 [(0, .int v0), (1, .int v1_54), (2, .int v2_4)] []) (fu : Nat) (v1_14 : Int32) (v3_14 : Int32), wpX10_had_L14 v0 v2_4 K54 fu v1_14 v3_14 → SW p l e { frames := 1, cells := 0, slots := 0, locals := 21 } s m args below meth c A D 4 0 0 (MQ below (va_Qi (fun (r : Int32) (_ : Unit) => post r) (ctB D A (fun _ : Unit => ([] : va_W))) A) args s 0 0 A) (([] : va_W)) 14 [(0, .int v0), (1, .int v1_14), (2, .int v2_4), (3, .int v3_14)] [] := by
          intro K54 hK54 fu
          induction fu with
          | zero =>
            intro v1_14 v3_14 h
            exact False.elim h
          | succ fu ih =>
            intro v1_14 v3_14 h
            unfold wpX10_had_L14 at h
            refine SW.iload_n C dX10_had_14 rfl 3 rfl ?_
            refine SW.bipush (v := (17 : Int32)) C dX10_had_15 (by decide) ?_
            refine SW.icmp_ge (tgt := 54) C dX10_had_17 (by decide) (fun hc => ?_) (fun hc => ?_)
            · replace h := h.1 hc
              refine SW.sub [0, 1, 2] rfl ?_
              exact hK54 _ h
            · replace h := h.2 hc
              refine SW.iload_n C dX10_had_20 rfl 1 rfl ?_
              refine SW.iload_n C dX10_had_21 rfl 0 rfl ?_
              refine SW.iload_n C dX10_had_22 rfl 2 rfl ?_
              refine SW.callSi_pure C (ctX10_has l D cI cZ v0 v2_4 _ h) gX10_had_X10_has rfl rfl rfl pdX10_has ⟨by decide, by decide⟩ rfl rfl (Nat.le_of_ble_eq_true rfl) dX10_had_23 (by decide) (fun r23 u h => ?_)
              try dsimp only at h
              refine jn2_elim (G := fun p0_46 p1_46 => SW p l e { frames := 1, cells := 0, slots := 0, locals := 21 } s m args below meth c A D 4 0 0 (MQ below (va_Qi (fun (r : Int32) (_ : Unit) => post r) (ctB D A (fun _ : Unit => ([] : va_W))) A) args s 0 0 A) (([] : va_W)) 46 [(0, .int v0), (2, .int v2_4), (3, .int v3_14)] [.int p0_46, .int p1_46]) h (fun p0_46 p1_46 h => ?_) (fun J46 hJ46 h => ?_)
              · refine SW.ior C dX10_had_46 ?_
                refine SW.istore_n (lv' := [(1, .int (p1_46 ||| p0_46)), (0, .int v0), (2, .int v2_4), (3, .int v3_14)]) C dX10_had_47 rfl (by decide) rfl ?_
                refine SW.iinc (q := 3) (v := (v3_14 + (1 : Int32))) (lv' := [(3, .int (v3_14 + (1 : Int32))), (1, .int (p1_46 ||| p0_46)), (0, .int v0), (2, .int v2_4)]) C dX10_had_48 rfl rfl (by decide) rfl ?_
                refine SW.goto (tgt := 14) C dX10_had_51 (by decide) ?_
                refine SW.sub [2, 1, 3, 0] rfl ?_
                exact ih _ _ h
              · refine jn1_elim (G := fun p0_45 => SW p l e { frames := 1, cells := 0, slots := 0, locals := 21 } s m args below meth c A D 4 0 0 (MQ below (va_Qi (fun (r : Int32) (_ : Unit) => post r) (ctB D A (fun _ : Unit => ([] : va_W))) A) args s 0 0 A) (([] : va_W)) 45 [(0, .int v0), (2, .int v2_4), (3, .int v3_14)] [.int p0_45]) h (fun p0_45 h => ?_) (fun J45 hJ45 h => ?_)
                · refine SW.iconst (v := (0 : Int32)) C dX10_had_45 (by decide) ?_
                  exact hJ46 _ _ h
                · refine SW.if_eq (tgt := 45) C dX10_had_26 (by decide) (fun hc => ?_) (fun hc => ?_)
                  · replace h := h.1 hc
                    refine SW.sub [0, 2, 3] rfl ?_
                    exact hJ45 _ h
                  · replace h := h.2 hc
                    refine SW.iload_n C dX10_had_29 rfl 0 rfl ?_
                    refine SW.iload_n C dX10_had_30 rfl 3 rfl ?_
                    refine SW.callSi_pure C (ctX10_has l D cI cZ v0 v3_14 _ h) gX10_had_X10_has rfl rfl rfl pdX10_has ⟨by decide, by decide⟩ rfl rfl (Nat.le_of_ble_eq_true rfl) dX10_had_31 (by decide) (fun r31 u h => ?_)
                    try dsimp only at h
                    refine SW.if_eq (tgt := 45) C dX10_had_34 (by decide) (fun hc => ?_) (fun hc => ?_)
                    · replace h := h.1 hc
                      refine SW.sub [0, 2, 3] rfl ?_
                      exact hJ45 _ h
                    · replace h := h.2 hc
                      refine SW.iconst (v := (1 : Int32)) C dX10_had_37 (by decide) ?_
                      refine SW.iload_n C dX10_had_38 rfl 3 rfl ?_
                      refine SW.iload_n C dX10_had_39 rfl 2 rfl ?_
                      refine SW.isub C dX10_had_40 ?_
                      refine SW.ishl C dX10_had_41 ?_
                      refine SW.goto (tgt := 46) C dX10_had_42 (by decide) ?_
                      refine SW.sub [0, 2, 3] rfl ?_
                      exact hJ46 _ _ h
        obtain ⟨fu, h⟩ := h
        refine SW.sub [1, 2, 3, 0] rfl ?_
        refine L14 _ (fun v1_54 h => ?_) fu _ _ h
        · refine SW.iinc (q := 2) (v := (v2_4 + (1 : Int32))) (lv' := [(2, .int (v2_4 + (1 : Int32))), (0, .int v0), (1, .int v1_54)]) C dX10_had_54 rfl rfl (by decide) rfl ?_
          refine SW.goto (tgt := 4) C dX10_had_57 (by decide) ?_
          refine SW.sub [1, 2, 0] rfl ?_
          exact ih _ _ h
  obtain ⟨fu, h⟩ := h
  refine SW.sub [2, 1, 0] rfl ?_
  refine L4 _ (fun v1_60 h => ?_) fu _ _ h
  · refine SW.iload_n C dX10_had_60 rfl 0 rfl ?_
    exact SW.iret C () rfl h dX10_had_61
