def wpX10_hooks_L46 (c1_46 : Int32) (c2_46 : Int32) (K127 : Int32 → Prop) : Nat → Int32 → Int32 → Prop
  | 0, _, _ => False
  | fu46 + 1, v4_46, v5_46 => (((jshl (1 : Int32) c1_46) ≤ v5_46) → K127 v4_46) ∧ (¬ ((jshl (1 : Int32) c1_46) ≤ v5_46) → wpX10_bits v5_46 (fun (r56 : Int32) => jn1 (fun (p0_87 : Int32) => jn1 (fun (p0_119 : Int32) => wpX10_hooks_L46 c1_46 c2_46 K127 fu46 p0_119 (v5_46 + (2 : Int32))) (fun J119 => jn0 (J119 v4_46) (fun J117 => ((p0_87 = 0) → J117) ∧ (¬ (p0_87 = 0) → wpX10_had ((v5_46 ||| (1 : Int32)) ||| (jshl (1 : Int32) c1_46)) (fun (r103 : Int32) => (((c2_46 &&& (r103 ^^^ (-1 : Int32))) = 0) → J119 v5_46) ∧ (¬ ((c2_46 &&& (r103 ^^^ (-1 : Int32))) = 0) → J117)))))) (fun J87 => jn0 (J87 (0 : Int32)) (fun J86 => (((6 : Int32) < r56) → J86) ∧ (¬ ((6 : Int32) < r56) → jn0 (J87 (1 : Int32)) (fun J82 => ((v4_46 < 0) → J82) ∧ (¬ (v4_46 < 0) → wpX10_bits v5_46 (fun (r71 : Int32) => wpX10_bits v4_46 (fun (r76 : Int32) => ((r76 ≤ r71) → J86) ∧ (¬ (r76 ≤ r71) → J82))))))))))
def wpX10_hooks (oY : Ob) (v1 : Int32) (v2 : Int32) (v3 : Int32) (post : Int32 → Prop) : Prop := wpX10_in v1 (2 : Int32) (16 : Int32) (fun (r4 : Int32) => ((r4 = 0) → post (-2 : Int32)) ∧ (¬ (r4 = 0) → wpX10_in v2 (0 : Int32) (131071 : Int32) (fun (r14 : Int32) => ((r14 = 0) → post (-2 : Int32)) ∧ (¬ (r14 = 0) → (((jrem v2 (2 : Int32)) = (1 : Int32)) → post (-2 : Int32)) ∧ (¬ ((jrem v2 (2 : Int32)) = (1 : Int32)) → wpX10_in v3 (0 : Int32) (1 : Int32) (fun (r30 : Int32) => ((r30 = 0) → post (-2 : Int32)) ∧ (¬ (r30 = 0) → ∃ fu46 : Nat, wpX10_hooks_L46 v1 v2 (fun (v4_127 : Int32) => jn0 (post v4_127) (fun J137 => ((v4_127 < 0) → J137) ∧ (¬ (v4_127 < 0) → ((v3 = (1 : Int32)) → J137) ∧ (¬ (v3 = (1 : Int32)) → wpX10_bits v4_127 (fun (r144 : Int32) => post r144))))) fu46 (-6 : Int32) (0 : Int32))))))))
theorem pdX10_hooks : yX10_hooks.cls = RX10 ∧ yX10_hooks.cls ≠ "java/lang/invoke/MethodHandle" ∧ yX10_hooks.cls ≠ "java/lang/invoke/VarHandle" ∧ (parseMethodDescriptor yX10_hooks.desc).map (fun d => d.parameters.length) = some 3 := by decide +kernel
set_option maxHeartbeats 4000000 in
set_option maxRecDepth 100000 in
theorem ctX10_hooks (l : Launch) (D : va_G) (cI cZ : ClassId) (qY : Nat → Nat) (oY : Ob) (v1 : Int32) (v2 : Int32) (v3 : Int32) (post : Int32 → Prop) (h : wpX10_hooks oY v1 v2 v3 post) : CTi l yX10_hooks wsX10_hooks { frames := 2, cells := 0, slots := 0, locals := 44 } D [(cI, .int), (cZ, .boolean)] [.ref (qY 0), .int v1, .int v2, .int v3] (w10 cI cZ qY oY) (fun _ : Unit => w10 cI cZ qY oY) (fun (r : Int32) (_ : Unit) => post r) := by
  refine CTi.of (cc := cX10_hooks) (own := RX10) (maxL := 7) (ret := (some .int)) (lv0 := [(0, .ref (qY 0)), (1, .int v1), (2, .int v2), (3, .int v3)]) (by decide) rfl rfl (Nat.le_of_ble_eq_true rfl) rfl ?_
  intro p e s m args below meth c A C
  unfold wpX10_hooks at h
  refine SW.iload_n C dX10_hooks_0 rfl 1 rfl ?_
  refine SW.iconst (v := (2 : Int32)) C dX10_hooks_1 (by decide) ?_
  refine SW.bipush (v := (16 : Int32)) C dX10_hooks_2 (by decide) ?_
  refine SW.callSi_pure C (ctX10_in l D cI cZ v1 (2 : Int32) (16 : Int32) _ h) gX10_hooks_X10_in rfl rfl rfl pdX10_in ⟨by decide, by decide⟩ rfl rfl (Nat.le_of_ble_eq_true rfl) dX10_hooks_4 (by decide) (fun r4 u h => ?_)
  try dsimp only at h
  refine SW.if_eq (tgt := 36) C dX10_hooks_7 (by decide) (fun hc => ?_) (fun hc => ?_)
  · replace h := h.1 hc
    refine SW.bipush (v := (-2 : Int32)) C dX10_hooks_36 (by decide) ?_
    exact SW.iret C () rfl h dX10_hooks_38
  · replace h := h.2 hc
    refine SW.iload_n C dX10_hooks_10 rfl 2 rfl ?_
    refine SW.iconst (v := (0 : Int32)) C dX10_hooks_11 (by decide) ?_
    refine SW.ldc (v := (131071 : Int32)) C (by decide +kernel) dX10_hooks_12 ?_
    refine SW.callSi_pure C (ctX10_in l D cI cZ v2 (0 : Int32) (131071 : Int32) _ h) gX10_hooks_X10_in rfl rfl rfl pdX10_in ⟨by decide, by decide⟩ rfl rfl (Nat.le_of_ble_eq_true rfl) dX10_hooks_14 (by decide) (fun r14 u h => ?_)
    try dsimp only at h
    refine SW.if_eq (tgt := 36) C dX10_hooks_17 (by decide) (fun hc => ?_) (fun hc => ?_)
    · replace h := h.1 hc
      refine SW.bipush (v := (-2 : Int32)) C dX10_hooks_36 (by decide) ?_
      exact SW.iret C () rfl h dX10_hooks_38
    · replace h := h.2 hc
      refine SW.iload_n C dX10_hooks_20 rfl 2 rfl ?_
      refine SW.iconst (v := (2 : Int32)) C dX10_hooks_21 (by decide) ?_
      refine SW.irem C dX10_hooks_22 (by decide) ?_
      refine SW.iconst (v := (1 : Int32)) C dX10_hooks_23 (by decide) ?_
      refine SW.icmp_eq (tgt := 36) C dX10_hooks_24 (by decide) (fun hc => ?_) (fun hc => ?_)
      · replace h := h.1 hc
        refine SW.bipush (v := (-2 : Int32)) C dX10_hooks_36 (by decide) ?_
        exact SW.iret C () rfl h dX10_hooks_38
      · replace h := h.2 hc
        refine SW.iload_n C dX10_hooks_27 rfl 3 rfl ?_
        refine SW.iconst (v := (0 : Int32)) C dX10_hooks_28 (by decide) ?_
        refine SW.iconst (v := (1 : Int32)) C dX10_hooks_29 (by decide) ?_
        refine SW.callSi_pure C (ctX10_in l D cI cZ v3 (0 : Int32) (1 : Int32) _ h) gX10_hooks_X10_in rfl rfl rfl pdX10_in ⟨by decide, by decide⟩ rfl rfl (Nat.le_of_ble_eq_true rfl) dX10_hooks_30 (by decide) (fun r30 u h => ?_)
        try dsimp only at h
        refine SW.if_ne (tgt := 39) C dX10_hooks_33 (by decide) (fun hc => ?_) (fun hc => ?_)
        · replace h := h.2 hc
          refine SW.bipush (v := (-6 : Int32)) C dX10_hooks_39 (by decide) ?_
          refine SW.istore (lv' := [(4, .int (-6 : Int32)), (0, .ref (qY 0)), (1, .int v1), (2, .int v2), (3, .int v3)]) C dX10_hooks_41 (by decide) rfl ?_
          refine SW.iconst (v := (0 : Int32)) C dX10_hooks_43 (by decide) ?_
          refine SW.istore (lv' := [(5, .int (0 : Int32)), (4, .int (-6 : Int32)), (0, .ref (qY 0)), (1, .int v1), (2, .int v2), (3, .int v3)]) C dX10_hooks_44 (by decide) rfl ?_
          have L46 : ∀ (K127 : Int32 → Prop) (hK127 : ∀ (v4_127 : Int32), K127 v4_127 → SW p l e { frames := 2, cells := 0, slots := 0, locals := 44 } s m args below meth c A D 7 0 0 (MQ below (va_Qi (fun (r : Int32) (_ : Unit) => post r) (ctB D A (fun _ : Unit => w10 cI cZ qY oY)) A) args s 0 0 A) (w10 cI cZ qY oY) 127 [(3, .int v3), (4, .int v4_127)] []) (fu : Nat) (v4_46 : Int32) (v5_46 : Int32), wpX10_hooks_L46 v1 v2 K127 fu v4_46 v5_46 → SW p l e { frames := 2, cells := 0, slots := 0, locals := 44 } s m args below meth c A D 7 0 0 (MQ below (va_Qi (fun (r : Int32) (_ : Unit) => post r) (ctB D A (fun _ : Unit => w10 cI cZ qY oY)) A) args s 0 0 A) (w10 cI cZ qY oY) 46 [(1, .int v1), (2, .int v2), (3, .int v3), (4, .int v4_46), (5, .int v5_46)] [] := by
            intro K127 hK127 fu
            induction fu with
            | zero =>
              intro v4_46 v5_46 h
              exact False.elim h
            | succ fu ih =>
              intro v4_46 v5_46 h
              unfold wpX10_hooks_L46 at h
              refine SW.iload C dX10_hooks_46 4 rfl ?_
              refine SW.iconst (v := (1 : Int32)) C dX10_hooks_48 (by decide) ?_
              refine SW.iload_n C dX10_hooks_49 rfl 0 rfl ?_
              refine SW.ishl C dX10_hooks_50 ?_
              refine SW.icmp_ge (tgt := 127) C dX10_hooks_51 (by decide) (fun hc => ?_) (fun hc => ?_)
              · replace h := h.1 hc
                refine SW.sub [2, 3] rfl ?_
                exact hK127 _ h
              · replace h := h.2 hc
                refine SW.iload C dX10_hooks_54 4 rfl ?_
                refine SW.callSi_pure C (ctX10_bits l D cI cZ v5_46 _ h) gX10_hooks_X10_bits rfl rfl rfl pdX10_bits ⟨by decide, by decide⟩ rfl rfl (Nat.le_of_ble_eq_true rfl) dX10_hooks_56 (by decide) (fun r56 u h => ?_)
                try dsimp only at h
                refine SW.bipush (v := (6 : Int32)) C dX10_hooks_59 (by decide) ?_
                refine jn1_elim (G := fun p0_87 => SW p l e { frames := 2, cells := 0, slots := 0, locals := 44 } s m args below meth c A D 7 0 0 (MQ below (va_Qi (fun (r : Int32) (_ : Unit) => post r) (ctB D A (fun _ : Unit => w10 cI cZ qY oY)) A) args s 0 0 A) (w10 cI cZ qY oY) 87 [(1, .int v1), (2, .int v2), (3, .int v3), (4, .int v4_46), (5, .int v5_46)] [.int p0_87]) h (fun p0_87 h => ?_) (fun J87 hJ87 h => ?_)
                · refine SW.istore (lv' := [(6, .int p0_87), (1, .int v1), (2, .int v2), (3, .int v3), (4, .int v4_46), (5, .int v5_46)]) C dX10_hooks_87 (by decide) rfl ?_
                  refine SW.iload C dX10_hooks_89 0 rfl ?_
                  refine jn1_elim (G := fun p0_119 => SW p l e { frames := 2, cells := 0, slots := 0, locals := 44 } s m args below meth c A D 7 0 0 (MQ below (va_Qi (fun (r : Int32) (_ : Unit) => post r) (ctB D A (fun _ : Unit => w10 cI cZ qY oY)) A) args s 0 0 A) (w10 cI cZ qY oY) 119 [(1, .int v1), (2, .int v2), (3, .int v3), (5, .int v5_46)] [.int p0_119]) h (fun p0_119 h => ?_) (fun J119 hJ119 h => ?_)
                  · refine SW.istore (lv' := [(4, .int p0_119), (1, .int v1), (2, .int v2), (3, .int v3), (5, .int v5_46)]) C dX10_hooks_119 (by decide) rfl ?_
                    refine SW.iinc (q := 4) (v := (v5_46 + (2 : Int32))) (lv' := [(5, .int (v5_46 + (2 : Int32))), (4, .int p0_119), (1, .int v1), (2, .int v2), (3, .int v3)]) C dX10_hooks_121 rfl rfl (by decide) rfl ?_
                    refine SW.goto (tgt := 46) C dX10_hooks_124 (by decide) ?_
                    refine SW.sub [2, 3, 4, 1, 0] rfl ?_
                    exact ih _ _ h
                  · refine jn0_elim (G := SW p l e { frames := 2, cells := 0, slots := 0, locals := 44 } s m args below meth c A D 7 0 0 (MQ below (va_Qi (fun (r : Int32) (_ : Unit) => post r) (ctB D A (fun _ : Unit => w10 cI cZ qY oY)) A) args s 0 0 A) (w10 cI cZ qY oY) 117 [(1, .int v1), (2, .int v2), (3, .int v3), (4, .int v4_46), (5, .int v5_46)] []) h (fun h => ?_) (fun J117 hJ117 h => ?_)
                    · refine SW.iload C dX10_hooks_117 3 rfl ?_
                      refine SW.sub [0, 1, 2, 4] rfl ?_
                      exact hJ119 _ h
                    · refine SW.if_eq (tgt := 117) C dX10_hooks_91 (by decide) (fun hc => ?_) (fun hc => ?_)
                      · replace h := h.1 hc
                        refine SW.sub [1, 2, 3, 4, 5] rfl ?_
                        exact hJ117 h
                      · replace h := h.2 hc
                        refine SW.iload_n C dX10_hooks_94 rfl 2 rfl ?_
                        refine SW.iload C dX10_hooks_95 5 rfl ?_
                        refine SW.iconst (v := (1 : Int32)) C dX10_hooks_97 (by decide) ?_
                        refine SW.ior C dX10_hooks_98 ?_
                        refine SW.iconst (v := (1 : Int32)) C dX10_hooks_99 (by decide) ?_
                        refine SW.iload_n C dX10_hooks_100 rfl 1 rfl ?_
                        refine SW.ishl C dX10_hooks_101 ?_
                        refine SW.ior C dX10_hooks_102 ?_
                        refine SW.callSi_pure C (ctX10_had l D cI cZ ((v5_46 ||| (1 : Int32)) ||| (jshl (1 : Int32) v1)) _ h) gX10_hooks_X10_had rfl rfl rfl pdX10_had ⟨by decide, by decide⟩ rfl rfl (Nat.le_of_ble_eq_true rfl) dX10_hooks_103 (by decide) (fun r103 u h => ?_)
                        try dsimp only at h
                        refine SW.iconst (v := (-1 : Int32)) C dX10_hooks_106 (by decide) ?_
                        refine SW.ixor C dX10_hooks_107 ?_
                        refine SW.iand C dX10_hooks_108 ?_
                        refine SW.if_ne (tgt := 117) C dX10_hooks_109 (by decide) (fun hc => ?_) (fun hc => ?_)
                        · replace h := h.2 hc
                          refine SW.sub [1, 2, 3, 4, 5] rfl ?_
                          exact hJ117 h
                        · replace h := h.1 hc
                          refine SW.iload C dX10_hooks_112 5 rfl ?_
                          refine SW.goto (tgt := 119) C dX10_hooks_114 (by decide) ?_
                          refine SW.sub [1, 2, 3, 5] rfl ?_
                          exact hJ119 _ h
                · refine jn0_elim (G := SW p l e { frames := 2, cells := 0, slots := 0, locals := 44 } s m args below meth c A D 7 0 0 (MQ below (va_Qi (fun (r : Int32) (_ : Unit) => post r) (ctB D A (fun _ : Unit => w10 cI cZ qY oY)) A) args s 0 0 A) (w10 cI cZ qY oY) 86 [(1, .int v1), (2, .int v2), (3, .int v3), (4, .int v4_46), (5, .int v5_46)] []) h (fun h => ?_) (fun J86 hJ86 h => ?_)
                  · refine SW.iconst (v := (0 : Int32)) C dX10_hooks_86 (by decide) ?_
                    exact hJ87 _ h
                  · refine SW.icmp_gt (tgt := 86) C dX10_hooks_61 (by decide) (fun hc => ?_) (fun hc => ?_)
                    · replace h := h.1 hc
                      exact hJ86 h
                    · replace h := h.2 hc
                      refine SW.iload C dX10_hooks_64 3 rfl ?_
                      refine jn0_elim (G := SW p l e { frames := 2, cells := 0, slots := 0, locals := 44 } s m args below meth c A D 7 0 0 (MQ below (va_Qi (fun (r : Int32) (_ : Unit) => post r) (ctB D A (fun _ : Unit => w10 cI cZ qY oY)) A) args s 0 0 A) (w10 cI cZ qY oY) 82 [(1, .int v1), (2, .int v2), (3, .int v3), (4, .int v4_46), (5, .int v5_46)] []) h (fun h => ?_) (fun J82 hJ82 h => ?_)
                      · refine SW.iconst (v := (1 : Int32)) C dX10_hooks_82 (by decide) ?_
                        refine SW.goto (tgt := 87) C dX10_hooks_83 (by decide) ?_
                        exact hJ87 _ h
                      · refine SW.if_lt (tgt := 82) C dX10_hooks_66 (by decide) (fun hc => ?_) (fun hc => ?_)
                        · replace h := h.1 hc
                          exact hJ82 h
                        · replace h := h.2 hc
                          refine SW.iload C dX10_hooks_69 4 rfl ?_
                          refine SW.callSi_pure C (ctX10_bits l D cI cZ v5_46 _ h) gX10_hooks_X10_bits rfl rfl rfl pdX10_bits ⟨by decide, by decide⟩ rfl rfl (Nat.le_of_ble_eq_true rfl) dX10_hooks_71 (by decide) (fun r71 u h => ?_)
                          try dsimp only at h
                          refine SW.iload C dX10_hooks_74 3 rfl ?_
                          refine SW.callSi_pure C (ctX10_bits l D cI cZ v4_46 _ h) gX10_hooks_X10_bits rfl rfl rfl pdX10_bits ⟨by decide, by decide⟩ rfl rfl (Nat.le_of_ble_eq_true rfl) dX10_hooks_76 (by decide) (fun r76 u h => ?_)
                          try dsimp only at h
                          refine SW.icmp_ge (tgt := 86) C dX10_hooks_79 (by decide) (fun hc => ?_) (fun hc => ?_)
                          · replace h := h.1 hc
                            exact hJ86 h
                          · replace h := h.2 hc
                            exact hJ82 h
          obtain ⟨fu, h⟩ := h
          refine SW.sub [3, 4, 5, 1, 0] rfl ?_
          refine L46 _ (fun v4_127 h => ?_) fu _ _ h
          · refine SW.iload C dX10_hooks_127 1 rfl ?_
            refine jn0_elim (G := SW p l e { frames := 2, cells := 0, slots := 0, locals := 44 } s m args below meth c A D 7 0 0 (MQ below (va_Qi (fun (r : Int32) (_ : Unit) => post r) (ctB D A (fun _ : Unit => w10 cI cZ qY oY)) A) args s 0 0 A) (w10 cI cZ qY oY) 137 [(4, .int v4_127)] []) h (fun h => ?_) (fun J137 hJ137 h => ?_)
            · refine SW.iload C dX10_hooks_137 0 rfl ?_
              refine SW.goto (tgt := 147) C dX10_hooks_139 (by decide) ?_
              exact SW.iret C () rfl h dX10_hooks_147
            · refine SW.if_lt (tgt := 137) C dX10_hooks_129 (by decide) (fun hc => ?_) (fun hc => ?_)
              · replace h := h.1 hc
                refine SW.sub [1] rfl ?_
                exact hJ137 h
              · replace h := h.2 hc
                refine SW.iload_n C dX10_hooks_132 rfl 0 rfl ?_
                refine SW.iconst (v := (1 : Int32)) C dX10_hooks_133 (by decide) ?_
                refine SW.icmp_ne (tgt := 142) C dX10_hooks_134 (by decide) (fun hc => ?_) (fun hc => ?_)
                · replace h := h.2 hc
                  refine SW.iload C dX10_hooks_142 1 rfl ?_
                  refine SW.callSi_pure C (ctX10_bits l D cI cZ v4_127 _ h) gX10_hooks_X10_bits rfl rfl rfl pdX10_bits ⟨by decide, by decide⟩ rfl rfl (Nat.le_of_ble_eq_true rfl) dX10_hooks_144 (by decide) (fun r144 u h => ?_)
                  try dsimp only at h
                  exact SW.iret C () rfl h dX10_hooks_147
                · replace h := h.1 hc
                  refine SW.sub [1] rfl ?_
                  exact hJ137 h
        · replace h := h.1 hc
          refine SW.bipush (v := (-2 : Int32)) C dX10_hooks_36 (by decide) ?_
          exact SW.iret C () rfl h dX10_hooks_38
def wpX10_canPut (oY : Ob) (v1 : Int32) (v2 : Int32) (post : Int32 → Prop) : Prop := wpX10_has v1 v2 (fun (r8 : Int32) => jn0 (post (0 : Int32)) (fun J38 => ((r8 = 0) → wpX10_canBe oY (v1 ||| (jshl (1 : Int32) v2)) (fun (r16 : Int32) => ((r16 = 0) → J38) ∧ (¬ (r16 = 0) → wpX10_clashes oY (v1 ||| (jshl (1 : Int32) v2)) (oY 0 5) (fun (r28 : Int32) => ((r28 = 0) → post (1 : Int32)) ∧ (¬ (r28 = 0) → J38))))) ∧ (¬ (r8 = 0) → J38)))
theorem pdX10_canPut : yX10_canPut.cls = RX10 ∧ yX10_canPut.cls ≠ "java/lang/invoke/MethodHandle" ∧ yX10_canPut.cls ≠ "java/lang/invoke/VarHandle" ∧ (parseMethodDescriptor yX10_canPut.desc).map (fun d => d.parameters.length) = some 2 := by decide +kernel
theorem lkX10_canPut_60 : Cond.fieldLink RX10 60 (TX10 5).1 (TX10 5).2.1 (TX10 5).2.2.1 ∈ wsX10_canPut := by decide +kernel
theorem inX10_canPut_X10 : ∀ w ∈ u_ws RX10 TX10 25, w ∈ wsX10_canPut := by decide +kernel
set_option maxHeartbeats 4000000 in
set_option maxRecDepth 100000 in
theorem ctX10_canPut (l : Launch) (D : va_G) (cI cZ : ClassId) (qY : Nat → Nat) (oY : Ob) (v1 : Int32) (v2 : Int32) (post : Int32 → Prop) (h : wpX10_canPut oY v1 v2 post) : CTi l yX10_canPut wsX10_canPut { frames := 3, cells := 0, slots := 0, locals := 74 } D [(cI, .int), (cZ, .boolean)] [.ref (qY 0), .int v1, .int v2] (w10 cI cZ qY oY) (fun _ : Unit => w10 cI cZ qY oY) (fun (r : Int32) (_ : Unit) => post r) := by
  refine CTi.of (cc := cX10_canPut) (own := RX10) (maxL := 4) (ret := (some .boolean)) (lv0 := [(0, .ref (qY 0)), (1, .int v1), (2, .int v2)]) (by decide) rfl rfl (Nat.le_of_ble_eq_true rfl) rfl ?_
  intro p e s m args below meth c A C
  unfold wpX10_canPut at h
  refine SW.iload_n C dX10_canPut_0 rfl 1 rfl ?_
  refine SW.iconst (v := (1 : Int32)) C dX10_canPut_1 (by decide) ?_
  refine SW.iload_n C dX10_canPut_2 rfl 2 rfl ?_
  refine SW.ishl C dX10_canPut_3 ?_
  refine SW.ior C dX10_canPut_4 ?_
  refine SW.istore_n (lv' := [(3, .int (v1 ||| (jshl (1 : Int32) v2))), (0, .ref (qY 0)), (1, .int v1), (2, .int v2)]) C dX10_canPut_5 rfl (by decide) rfl ?_
  refine SW.iload_n C dX10_canPut_6 rfl 2 rfl ?_
  refine SW.iload_n C dX10_canPut_7 rfl 3 rfl ?_
  refine SW.callSi_pure C (ctX10_has l D cI cZ v1 v2 _ h) gX10_canPut_X10_has rfl rfl rfl pdX10_has ⟨by decide, by decide⟩ rfl rfl (Nat.le_of_ble_eq_true rfl) dX10_canPut_8 (by decide) (fun r8 u h => ?_)
  try dsimp only at h
  refine jn0_elim (G := SW p l e { frames := 3, cells := 0, slots := 0, locals := 74 } s m args below meth c A D 4 0 0 (MQ below (va_Qi (fun (r : Int32) (_ : Unit) => post r) (ctB D A (fun _ : Unit => w10 cI cZ qY oY)) A) args s 0 0 A) (w10 cI cZ qY oY) 38 [] []) h (fun h => ?_) (fun J38 hJ38 h => ?_)
  · refine SW.iconst (v := (0 : Int32)) C dX10_canPut_38 (by decide) ?_
    exact SW.zret C () (by decide) rfl h dX10_canPut_39
  · refine SW.if_ne (tgt := 38) C dX10_canPut_11 (by decide) (fun hc => ?_) (fun hc => ?_)
    · replace h := h.2 hc
      refine SW.sub [] rfl ?_
      exact hJ38 h
    · replace h := h.1 hc
      refine SW.aload_n C dX10_canPut_14 rfl 1 rfl ?_
      refine SW.iload_n C dX10_canPut_15 rfl 0 rfl ?_
      refine SW.callVi_same C (ctX10_canBe l D cI cZ qY oY (v1 ||| (jshl (1 : Int32) v2)) _ h) gX10_canPut_X10_canBe rfl rfl rfl pdX10_canBe ⟨by decide, by decide⟩ 0 rfl rfl rfl rfl rfl (Nat.le_of_ble_eq_true rfl) dX10_canPut_16 (by decide) (fun r16 u h => ?_)
      try dsimp only at h
      refine SW.if_eq (tgt := 38) C dX10_canPut_19 (by decide) (fun hc => ?_) (fun hc => ?_)
      · replace h := h.1 hc
        refine SW.sub [] rfl ?_
        exact hJ38 h
      · replace h := h.2 hc
        refine SW.aload_n C dX10_canPut_22 rfl 1 rfl ?_
        refine SW.iload_n C dX10_canPut_23 rfl 0 rfl ?_
        refine SW.aload_n C dX10_canPut_24 rfl 1 rfl ?_
        refine SW.get (v := .int (oY 0 5)) (T := TX10) (N := 25) C inX10_canPut_X10 0 rfl rfl 5 (by decide) lkX10_canPut_60 rfl dX10_canPut_25 ?_
        refine SW.callVi_same C (ctX10_clashes l D cI cZ qY oY (v1 ||| (jshl (1 : Int32) v2)) (oY 0 5) _ h) gX10_canPut_X10_clashes rfl rfl rfl pdX10_clashes ⟨by decide, by decide⟩ 0 rfl rfl rfl rfl rfl (Nat.le_of_ble_eq_true rfl) dX10_canPut_28 (by decide) (fun r28 u h => ?_)
        try dsimp only at h
        refine SW.if_ne (tgt := 38) C dX10_canPut_31 (by decide) (fun hc => ?_) (fun hc => ?_)
        · replace h := h.2 hc
          refine SW.sub [] rfl ?_
          exact hJ38 h
        · replace h := h.1 hc
          refine SW.iconst (v := (1 : Int32)) C dX10_canPut_34 (by decide) ?_
          refine SW.goto (tgt := 39) C dX10_canPut_35 (by decide) ?_
          exact SW.zret C () (by decide) rfl h dX10_canPut_39
def wpX10_turns_L43 (c3_43 : Int32) (K130 : Int32 → Ob → Prop) : Nat → Int32 → Int32 → Ob → Prop
  | 0, _, _, _ => False
  | fu43 + 1, v2_43, v4_43, oY_43 => ((v4_43 < 0) → K130 v2_43 oY_43) ∧ (¬ (v4_43 < 0) → wpX10_canPut oY_43 c3_43 v4_43 (fun (r52 : Int32) => jn1 (fun (p0_77 : Int32) => (vp_in c3_43 1024) ∧ (jn2 (fun (p0_103 : Int32) (p1_103 : Int32) => (vp_in p1_103 1024) ∧ (jn1 (fun (p0_123 : Int32) => wpX10_turns_L43 c3_43 K130 fu43 p0_123 (v4_43 + (-1 : Int32)) (pa oY_43 9 (nC p1_103) (jb p0_103))) (fun J123 => jn0 (J123 v2_43) (fun J122 => ((p0_77 = 0) → J122) ∧ (¬ (p0_77 = 0) → ((c3_43 = (oY_43 0 6)) → J123 v4_43) ∧ (¬ (c3_43 = (oY_43 0 6)) → J122)))))) (fun J103 => jn1 (fun (p0_98 : Int32) => J103 (1 : Int32) p0_98) (fun J98 => (((jld (oY_43 9) c3_43) = 0) → ((p0_77 = 0) → J103 (0 : Int32) c3_43) ∧ (¬ (p0_77 = 0) → J98 c3_43)) ∧ (¬ ((jld (oY_43 9) c3_43) = 0) → J98 c3_43))))) (fun J77 => jn0 (J77 (0 : Int32)) (fun J76 => ((r52 = 0) → J76) ∧ (¬ (r52 = 0) → (vp_in (c3_43 ||| (jshl (1 : Int32) v4_43)) 1024) ∧ ((((jld (oY_43 9) (c3_43 ||| (jshl (1 : Int32) v4_43))) = 0) → J77 (1 : Int32)) ∧ (¬ ((jld (oY_43 9) (c3_43 ||| (jshl (1 : Int32) v4_43))) = 0) → J76)))))))
def wpX10_turns_L24 (K136 : Int32 → Ob → Prop) : Nat → Int32 → Int32 → Ob → Prop
  | 0, _, _, _ => False
  | fu24 + 1, v2_24, v3_24, oY_24 => ((v3_24 < 0) → K136 v2_24 oY_24) ∧ (¬ (v3_24 < 0) → (vp_in v3_24 1024) ∧ (∃ fu43 : Nat, wpX10_turns_L43 v3_24 (fun (v2_130 : Int32) (oY_130 : Ob) => wpX10_turns_L24 K136 fu24 v2_130 (v3_24 + (-1 : Int32)) oY_130) fu43 v2_24 ((oY_24 0 0) - (1 : Int32)) (pa oY_24 9 (nC v3_24) (jb (0 : Int32)))))
def wpX10_turns (oY : Ob) (v1 : Int32) (post : Int32 → Ob → Prop) : Prop := wpX10_in v1 (0 : Int32) (1 : Int32) (fun (r3 : Int32) => ((r3 = 0) → post (-2 : Int32) oY) ∧ (¬ (r3 = 0) → ∃ fu24 : Nat, wpX10_turns_L24 (fun (v2_136 : Int32) (oY_136 : Ob) => ((v1 = (1 : Int32)) → post v2_136 oY_136) ∧ (¬ (v1 = (1 : Int32)) → (vp_in (oY_136 0 6) 1024) ∧ ((((jld (oY_136 9) (oY_136 0 6)) = 0) → post (1 : Int32) oY_136) ∧ (¬ ((jld (oY_136 9) (oY_136 0 6)) = 0) → post (0 : Int32) oY_136)))) fu24 (-6 : Int32) ((jshl (1 : Int32) (oY 0 0)) - (1 : Int32)) oY))
theorem pdX10_turns : yX10_turns.cls = RX10 ∧ yX10_turns.cls ≠ "java/lang/invoke/MethodHandle" ∧ yX10_turns.cls ≠ "java/lang/invoke/VarHandle" ∧ (parseMethodDescriptor yX10_turns.desc).map (fun d => d.parameters.length) = some 1 := by decide +kernel
theorem lkX10_turns_7 : Cond.fieldLink RX10 7 (TX10 0).1 (TX10 0).2.1 (TX10 0).2.2.1 ∈ wsX10_turns := by decide +kernel
theorem inX10_turns_X10 : ∀ w ∈ u_ws RX10 TX10 25, w ∈ wsX10_turns := by decide +kernel
theorem lkX10_turns_47 : Cond.fieldLink RX10 47 (TX10 22).1 (TX10 22).2.1 (TX10 22).2.2.1 ∈ wsX10_turns := by decide +kernel
theorem lkX10_turns_63 : Cond.fieldLink RX10 63 (TX10 6).1 (TX10 6).2.1 (TX10 6).2.2.1 ∈ wsX10_turns := by decide +kernel
set_option maxHeartbeats 4000000 in
set_option maxRecDepth 100000 in
theorem ctX10_turns (l : Launch) (D : va_G) (cI cZ : ClassId) (qY : Nat → Nat) (oY : Ob) (v1 : Int32) (post : Int32 → Ob → Prop) (h : wpX10_turns oY v1 post) : CTi l yX10_turns wsX10_turns { frames := 4, cells := 0, slots := 0, locals := 97 } D [(cI, .int), (cZ, .boolean)] [.ref (qY 0), .int v1] (w10 cI cZ qY oY) (fun u : Ob => w10 cI cZ qY u) (fun (r : Int32) (u : Ob) => post r u) := by
  refine CTi.of (cc := cX10_turns) (own := RX10) (maxL := 6) (ret := (some .int)) (lv0 := [(0, .ref (qY 0)), (1, .int v1)]) (by decide) rfl rfl (Nat.le_of_ble_eq_true rfl) rfl ?_
  intro p e s m args below meth c A C
  unfold wpX10_turns at h
  refine SW.iload_n C dX10_turns_0 rfl 1 rfl ?_
  refine SW.iconst (v := (0 : Int32)) C dX10_turns_1 (by decide) ?_
  refine SW.iconst (v := (1 : Int32)) C dX10_turns_2 (by decide) ?_
  refine SW.callSi_pure C (ctX10_in l D cI cZ v1 (0 : Int32) (1 : Int32) _ h) gX10_turns_X10_in rfl rfl rfl pdX10_in ⟨by decide, by decide⟩ rfl rfl (Nat.le_of_ble_eq_true rfl) dX10_turns_3 (by decide) (fun r3 u h => ?_)
  try dsimp only at h
  refine SW.if_ne (tgt := 12) C dX10_turns_6 (by decide) (fun hc => ?_) (fun hc => ?_)
  · replace h := h.2 hc
    refine SW.bipush (v := (-6 : Int32)) C dX10_turns_12 (by decide) ?_
    refine SW.istore_n (lv' := [(2, .int (-6 : Int32)), (0, .ref (qY 0)), (1, .int v1)]) C dX10_turns_14 rfl (by decide) rfl ?_
    refine SW.iconst (v := (1 : Int32)) C dX10_turns_15 (by decide) ?_
    refine SW.aload_n C dX10_turns_16 rfl 1 rfl ?_
    refine SW.get (v := .int (oY 0 0)) (T := TX10) (N := 25) C inX10_turns_X10 0 rfl rfl 0 (by decide) lkX10_turns_7 rfl dX10_turns_17 ?_
    refine SW.ishl C dX10_turns_20 ?_
    refine SW.iconst (v := (1 : Int32)) C dX10_turns_21 (by decide) ?_
    refine SW.isub C dX10_turns_22 ?_
    refine SW.istore_n (lv' := [(3, .int ((jshl (1 : Int32) (oY 0 0)) - (1 : Int32))), (2, .int (-6 : Int32)), (0, .ref (qY 0)), (1, .int v1)]) C dX10_turns_23 rfl (by decide) rfl ?_
    have L24 : ∀ (K136 : Int32 → Ob → Prop) (hK136 : ∀ (v2_136 : Int32) (oY_136 : Ob), K136 v2_136 oY_136 → SW p l e { frames := 4, cells := 0, slots := 0, locals := 97 } s m args below meth c A D 6 0 0 (MQ below (va_Qi (fun (r : Int32) (u : Ob) => post r u) (ctB D A (fun u : Ob => w10 cI cZ qY u)) A) args s 0 0 A) (w10 cI cZ qY oY_136) 136 [(0, .ref (qY 0)), (1, .int v1), (2, .int v2_136)] []) (fu : Nat) (v2_24 : Int32) (v3_24 : Int32) (oY_24 : Ob), wpX10_turns_L24 K136 fu v2_24 v3_24 oY_24 → SW p l e { frames := 4, cells := 0, slots := 0, locals := 97 } s m args below meth c A D 6 0 0 (MQ below (va_Qi (fun (r : Int32) (u : Ob) => post r u) (ctB D A (fun u : Ob => w10 cI cZ qY u)) A) args s 0 0 A) (w10 cI cZ qY oY_24) 24 [(0, .ref (qY 0)), (1, .int v1), (2, .int v2_24), (3, .int v3_24)] [] := by
      intro K136 hK136 fu
      induction fu with
      | zero =>
        intro v2_24 v3_24 oY_24 h
        exact False.elim h
      | succ fu ih =>
        intro v2_24 v3_24 oY_24 h
        unfold wpX10_turns_L24 at h
        refine SW.iload_n C dX10_turns_24 rfl 3 rfl ?_
        refine SW.if_lt (tgt := 136) C dX10_turns_25 (by decide) (fun hc => ?_) (fun hc => ?_)
        · replace h := h.1 hc
          refine SW.sub [0, 1, 2] rfl ?_
          exact hK136 _ _ h
        · replace h := h.2 hc
          refine SW.aload_n C dX10_turns_28 rfl 0 rfl ?_
          refine SW.get (v := .ref (qY 9)) (T := TX10) (N := 25) C inX10_turns_X10 0 rfl rfl 22 (by decide) lkX10_turns_47 rfl dX10_turns_29 ?_
          refine SW.iload_n C dX10_turns_32 rfl 3 rfl ?_
          refine SW.iconst (v := (0 : Int32)) C dX10_turns_33 (by decide) ?_
          refine SW.zast (ws' := w10 cI cZ qY (pa oY_24 9 (nC v3_24) (jb (0 : Int32)))) C 9 1 rfl rfl h.1 rfl dX10_turns_34 ?_
          replace h := h.2
          refine SW.aload_n C dX10_turns_35 rfl 0 rfl ?_
          refine SW.get (v := .int (oY_24 0 0)) (T := TX10) (N := 25) C inX10_turns_X10 0 rfl rfl 0 (by decide) lkX10_turns_7 rfl dX10_turns_36 ?_
          refine SW.iconst (v := (1 : Int32)) C dX10_turns_39 (by decide) ?_
          refine SW.isub C dX10_turns_40 ?_
          refine SW.istore (lv' := [(4, .int ((oY_24 0 0) - (1 : Int32))), (0, .ref (qY 0)), (1, .int v1), (2, .int v2_24), (3, .int v3_24)]) C dX10_turns_41 (by decide) rfl ?_
          have L43 : ∀ (K130 : Int32 → Ob → Prop) (hK130 : ∀ (v2_130 : Int32) (oY_130 : Ob), K130 v2_130 oY_130 → SW p l e { frames := 4, cells := 0, slots := 0, locals := 97 } s m args below meth c A D 6 0 0 (MQ below (va_Qi (fun (r : Int32) (u : Ob) => post r u) (ctB D A (fun u : Ob => w10 cI cZ qY u)) A) args s 0 0 A) (w10 cI cZ qY oY_130) 130 [(0, .ref (qY 0)), (1, .int v1), (2, .int v2_130), (3, .int v3_24)] []) (fu : Nat) (v2_43 : Int32) (v4_43 : Int32) (oY_43 : Ob), wpX10_turns_L43 v3_24 K130 fu v2_43 v4_43 oY_43 → SW p l e { frames := 4, cells := 0, slots := 0, locals := 97 } s m args below meth c A D 6 0 0 (MQ below (va_Qi (fun (r : Int32) (u : Ob) => post r u) (ctB D A (fun u : Ob => w10 cI cZ qY u)) A) args s 0 0 A) (w10 cI cZ qY oY_43) 43 [(0, .ref (qY 0)), (1, .int v1), (2, .int v2_43), (3, .int v3_24), (4, .int v4_43)] [] := by
            intro K130 hK130 fu
            induction fu with
            | zero =>
              intro v2_43 v4_43 oY_43 h
              exact False.elim h
            | succ fu ih =>
              intro v2_43 v4_43 oY_43 h
              unfold wpX10_turns_L43 at h
              refine SW.iload C dX10_turns_43 4 rfl ?_
              refine SW.if_lt (tgt := 130) C dX10_turns_45 (by decide) (fun hc => ?_) (fun hc => ?_)
              · replace h := h.1 hc
                refine SW.sub [0, 1, 2, 3] rfl ?_
                exact hK130 _ _ h
              · replace h := h.2 hc
                refine SW.aload_n C dX10_turns_48 rfl 0 rfl ?_
                refine SW.iload_n C dX10_turns_49 rfl 3 rfl ?_
                refine SW.iload C dX10_turns_50 4 rfl ?_
                refine SW.callVi_same C (ctX10_canPut l D cI cZ qY oY_43 v3_24 v4_43 _ h) gX10_turns_X10_canPut rfl rfl rfl pdX10_canPut ⟨by decide, by decide⟩ 0 rfl rfl rfl rfl rfl (Nat.le_of_ble_eq_true rfl) dX10_turns_52 (by decide) (fun r52 u h => ?_)
                try dsimp only at h
                refine jn1_elim (G := fun p0_77 => SW p l e { frames := 4, cells := 0, slots := 0, locals := 97 } s m args below meth c A D 6 0 0 (MQ below (va_Qi (fun (r : Int32) (u : Ob) => post r u) (ctB D A (fun u : Ob => w10 cI cZ qY u)) A) args s 0 0 A) (w10 cI cZ qY oY_43) 77 [(0, .ref (qY 0)), (1, .int v1), (2, .int v2_43), (3, .int v3_24), (4, .int v4_43)] [.int p0_77]) h (fun p0_77 h => ?_) (fun J77 hJ77 h => ?_)
                · refine SW.istore (lv' := [(5, .int p0_77), (0, .ref (qY 0)), (1, .int v1), (2, .int v2_43), (3, .int v3_24), (4, .int v4_43)]) C dX10_turns_77 (by decide) rfl ?_
                  refine SW.aload_n C dX10_turns_79 rfl 1 rfl ?_
                  refine SW.get (v := .ref (qY 9)) (T := TX10) (N := 25) C inX10_turns_X10 0 rfl rfl 22 (by decide) lkX10_turns_47 rfl dX10_turns_80 ?_
                  refine SW.iload_n C dX10_turns_83 rfl 4 rfl ?_
                  refine SW.aload_n C dX10_turns_84 rfl 1 rfl ?_
                  refine SW.get (v := .ref (qY 9)) (T := TX10) (N := 25) C inX10_turns_X10 0 rfl rfl 22 (by decide) lkX10_turns_47 rfl dX10_turns_85 ?_
                  refine SW.iload_n C dX10_turns_88 rfl 4 rfl ?_
                  refine SW.zald C 9 1 rfl rfl h.1 dX10_turns_89 ?_
                  replace h := h.2
                  refine jn2_elim (G := fun p0_103 p1_103 => SW p l e { frames := 4, cells := 0, slots := 0, locals := 97 } s m args below meth c A D 6 0 0 (MQ below (va_Qi (fun (r : Int32) (u : Ob) => post r u) (ctB D A (fun u : Ob => w10 cI cZ qY u)) A) args s 0 0 A) (w10 cI cZ qY oY_43) 103 [(0, .ref (qY 0)), (1, .int v1), (2, .int v2_43), (3, .int v3_24), (4, .int v4_43), (5, .int p0_77)] [.int p0_103, .int p1_103, .ref (qY 9)]) h (fun p0_103 p1_103 h => ?_) (fun J103 hJ103 h => ?_)
                  · refine SW.zast (ws' := w10 cI cZ qY (pa oY_43 9 (nC p1_103) (jb p0_103))) C 9 1 rfl rfl h.1 rfl dX10_turns_103 ?_
                    replace h := h.2
                    refine SW.iload C dX10_turns_104 5 rfl ?_
                    refine jn1_elim (G := fun p0_123 => SW p l e { frames := 4, cells := 0, slots := 0, locals := 97 } s m args below meth c A D 6 0 0 (MQ below (va_Qi (fun (r : Int32) (u : Ob) => post r u) (ctB D A (fun u : Ob => w10 cI cZ qY u)) A) args s 0 0 A) (w10 cI cZ qY (pa oY_43 9 (nC p1_103) (jb p0_103))) 123 [(0, .ref (qY 0)), (1, .int v1), (3, .int v3_24), (4, .int v4_43)] [.int p0_123]) h (fun p0_123 h => ?_) (fun J123 hJ123 h => ?_)
                    · refine SW.istore_n (lv' := [(2, .int p0_123), (0, .ref (qY 0)), (1, .int v1), (3, .int v3_24), (4, .int v4_43)]) C dX10_turns_123 rfl (by decide) rfl ?_
                      refine SW.iinc (q := 4) (v := (v4_43 + (-1 : Int32))) (lv' := [(4, .int (v4_43 + (-1 : Int32))), (2, .int p0_123), (0, .ref (qY 0)), (1, .int v1), (3, .int v3_24)]) C dX10_turns_124 rfl rfl (by decide) rfl ?_
                      refine SW.goto (tgt := 43) C dX10_turns_127 (by decide) ?_
                      refine SW.sub [2, 3, 1, 4, 0] rfl ?_
                      exact ih _ _ _ h
                    · refine jn0_elim (G := SW p l e { frames := 4, cells := 0, slots := 0, locals := 97 } s m args below meth c A D 6 0 0 (MQ below (va_Qi (fun (r : Int32) (u : Ob) => post r u) (ctB D A (fun u : Ob => w10 cI cZ qY u)) A) args s 0 0 A) (w10 cI cZ qY (pa oY_43 9 (nC p1_103) (jb p0_103))) 122 [(0, .ref (qY 0)), (1, .int v1), (2, .int v2_43), (3, .int v3_24), (4, .int v4_43)] []) h (fun h => ?_) (fun J122 hJ122 h => ?_)
                      · refine SW.iload_n C dX10_turns_122 rfl 2 rfl ?_
                        refine SW.sub [0, 1, 3, 4] rfl ?_
                        exact hJ123 _ h
                      · refine SW.if_eq (tgt := 122) C dX10_turns_106 (by decide) (fun hc => ?_) (fun hc => ?_)
                        · replace h := h.1 hc
                          refine SW.sub [0, 1, 2, 3, 4] rfl ?_
                          exact hJ122 h
                        · replace h := h.2 hc
                          refine SW.iload_n C dX10_turns_109 rfl 3 rfl ?_
                          refine SW.aload_n C dX10_turns_110 rfl 0 rfl ?_
                          refine SW.get (v := .int (oY_43 0 6)) (T := TX10) (N := 25) C inX10_turns_X10 0 rfl rfl 6 (by decide) lkX10_turns_63 rfl dX10_turns_111 ?_
                          refine SW.icmp_ne (tgt := 122) C dX10_turns_114 (by decide) (fun hc => ?_) (fun hc => ?_)
                          · replace h := h.2 hc
                            refine SW.sub [0, 1, 2, 3, 4] rfl ?_
                            exact hJ122 h
                          · replace h := h.1 hc
                            refine SW.iload C dX10_turns_117 4 rfl ?_
                            refine SW.goto (tgt := 123) C dX10_turns_119 (by decide) ?_
                            refine SW.sub [0, 1, 3, 4] rfl ?_
                            exact hJ123 _ h
                  · refine jn1_elim (G := fun p0_98 => SW p l e { frames := 4, cells := 0, slots := 0, locals := 97 } s m args below meth c A D 6 0 0 (MQ below (va_Qi (fun (r : Int32) (u : Ob) => post r u) (ctB D A (fun u : Ob => w10 cI cZ qY u)) A) args s 0 0 A) (w10 cI cZ qY oY_43) 98 [(0, .ref (qY 0)), (1, .int v1), (2, .int v2_43), (3, .int v3_24), (4, .int v4_43), (5, .int p0_77)] [.int p0_98, .ref (qY 9)]) h (fun p0_98 h => ?_) (fun J98 hJ98 h => ?_)
                    · refine SW.iconst (v := (1 : Int32)) C dX10_turns_98 (by decide) ?_
                      refine SW.goto (tgt := 103) C dX10_turns_99 (by decide) ?_
                      exact hJ103 _ _ h
                    · refine SW.if_ne (tgt := 98) C dX10_turns_90 (by decide) (fun hc => ?_) (fun hc => ?_)
                      · replace h := h.2 hc
                        refine SW.sub [1, 2, 3, 4, 5, 0] rfl ?_
                        exact hJ98 _ h
                      · replace h := h.1 hc
                        refine SW.iload C dX10_turns_93 0 rfl ?_
                        refine SW.if_eq (tgt := 102) C dX10_turns_95 (by decide) (fun hc => ?_) (fun hc => ?_)
                        · replace h := h.1 hc
                          refine SW.iconst (v := (0 : Int32)) C dX10_turns_102 (by decide) ?_
                          refine SW.sub [1, 2, 3, 4, 5, 0] rfl ?_
                          exact hJ103 _ _ h
                        · replace h := h.2 hc
                          refine SW.sub [1, 2, 3, 4, 5, 0] rfl ?_
                          exact hJ98 _ h
                · refine jn0_elim (G := SW p l e { frames := 4, cells := 0, slots := 0, locals := 97 } s m args below meth c A D 6 0 0 (MQ below (va_Qi (fun (r : Int32) (u : Ob) => post r u) (ctB D A (fun u : Ob => w10 cI cZ qY u)) A) args s 0 0 A) (w10 cI cZ qY oY_43) 76 [(0, .ref (qY 0)), (1, .int v1), (2, .int v2_43), (3, .int v3_24), (4, .int v4_43)] []) h (fun h => ?_) (fun J76 hJ76 h => ?_)
                  · refine SW.iconst (v := (0 : Int32)) C dX10_turns_76 (by decide) ?_
                    exact hJ77 _ h
                  · refine SW.if_eq (tgt := 76) C dX10_turns_55 (by decide) (fun hc => ?_) (fun hc => ?_)
                    · replace h := h.1 hc
                      exact hJ76 h
                    · replace h := h.2 hc
                      refine SW.aload_n C dX10_turns_58 rfl 0 rfl ?_
                      refine SW.get (v := .ref (qY 9)) (T := TX10) (N := 25) C inX10_turns_X10 0 rfl rfl 22 (by decide) lkX10_turns_47 rfl dX10_turns_59 ?_
                      refine SW.iload_n C dX10_turns_62 rfl 3 rfl ?_
                      refine SW.iconst (v := (1 : Int32)) C dX10_turns_63 (by decide) ?_
                      refine SW.iload C dX10_turns_64 4 rfl ?_
                      refine SW.ishl C dX10_turns_66 ?_
                      refine SW.ior C dX10_turns_67 ?_
                      refine SW.zald C 9 1 rfl rfl h.1 dX10_turns_68 ?_
                      replace h := h.2
                      refine SW.if_ne (tgt := 76) C dX10_turns_69 (by decide) (fun hc => ?_) (fun hc => ?_)
                      · replace h := h.2 hc
                        exact hJ76 h
                      · replace h := h.1 hc
                        refine SW.iconst (v := (1 : Int32)) C dX10_turns_72 (by decide) ?_
                        refine SW.goto (tgt := 77) C dX10_turns_73 (by decide) ?_
                        exact hJ77 _ h
          obtain ⟨fu, h⟩ := h
          refine SW.sub [1, 2, 3, 4, 0] rfl ?_
          refine L43 _ (fun v2_130 oY_130 h => ?_) fu _ _ _ h
          · refine SW.iinc (q := 3) (v := (v3_24 + (-1 : Int32))) (lv' := [(3, .int (v3_24 + (-1 : Int32))), (0, .ref (qY 0)), (1, .int v1), (2, .int v2_130)]) C dX10_turns_130 rfl rfl (by decide) rfl ?_
            refine SW.goto (tgt := 24) C dX10_turns_133 (by decide) ?_
            refine SW.sub [1, 2, 3, 0] rfl ?_
            exact ih _ _ _ h
    obtain ⟨fu, h⟩ := h
    refine SW.sub [2, 3, 1, 0] rfl ?_
    refine L24 _ (fun v2_136 oY_136 h => ?_) fu _ _ _ h
    · refine SW.iload_n C dX10_turns_136 rfl 1 rfl ?_
      refine SW.iconst (v := (1 : Int32)) C dX10_turns_137 (by decide) ?_
      refine SW.icmp_ne (tgt := 145) C dX10_turns_138 (by decide) (fun hc => ?_) (fun hc => ?_)
      · replace h := h.2 hc
        refine SW.aload_n C dX10_turns_145 rfl 0 rfl ?_
        refine SW.get (v := .ref (qY 9)) (T := TX10) (N := 25) C inX10_turns_X10 0 rfl rfl 22 (by decide) lkX10_turns_47 rfl dX10_turns_146 ?_
        refine SW.aload_n C dX10_turns_149 rfl 0 rfl ?_
        refine SW.get (v := .int (oY_136 0 6)) (T := TX10) (N := 25) C inX10_turns_X10 0 rfl rfl 6 (by decide) lkX10_turns_63 rfl dX10_turns_150 ?_
        refine SW.zald C 9 1 rfl rfl h.1 dX10_turns_153 ?_
        replace h := h.2
        refine SW.if_eq (tgt := 161) C dX10_turns_154 (by decide) (fun hc => ?_) (fun hc => ?_)
        · replace h := h.1 hc
          refine SW.iconst (v := (1 : Int32)) C dX10_turns_161 (by decide) ?_
          exact SW.iret C oY_136 rfl h dX10_turns_162
        · replace h := h.2 hc
          refine SW.iconst (v := (0 : Int32)) C dX10_turns_157 (by decide) ?_
          refine SW.goto (tgt := 162) C dX10_turns_158 (by decide) ?_
          exact SW.iret C oY_136 rfl h dX10_turns_162
      · replace h := h.1 hc
        refine SW.iload_n C dX10_turns_141 rfl 2 rfl ?_
        refine SW.goto (tgt := 162) C dX10_turns_142 (by decide) ?_
        exact SW.iret C oY_136 rfl h dX10_turns_162
  · replace h := h.1 hc
    refine SW.bipush (v := (-2 : Int32)) C dX10_turns_9 (by decide) ?_
    exact SW.iret C oY rfl h dX10_turns_11
def wpX10_likely_L35 (c3_35 : Int32) (c6_35 : Int32) (oYc_35 : Ob) (K91 : Int64 → Prop) : Nat → Int64 → Int32 → Prop
  | 0, _, _ => False
  | fu35 + 1, v7_35, v9_35 => (((oYc_35 0 0) ≤ v9_35) → K91 v7_35) ∧ (¬ ((oYc_35 0 0) ≤ v9_35) → wpX10_has (oYc_35 0 6) v9_35 (fun (r52 : Int32) => jn2 (fun (p0_82 : Int64) (p1_82 : Int64) => wpX10_likely_L35 c3_35 c6_35 oYc_35 K91 fu35 (p1_82 * p0_82) (v9_35 + (1 : Int32))) (fun J82 => ((r52 = 0) → J82 (1 : Int64) v7_35) ∧ (¬ (r52 = 0) → wpX10_has c6_35 v9_35 (fun (r66 : Int32) => ((r66 = 0) → J82 (Int32.toInt64 c3_35) v7_35) ∧ (¬ (r66 = 0) → J82 (Int32.toInt64 ((10 : Int32) - c3_35)) v7_35))))))
def wpX10_likely_L6 (c1_6 : Int32) (c2_6 : Int32) (c3_6 : Int32) (oYc_6 : Ob) (K160 : Int64 → Prop) : Nat → Int64 → Int32 → Prop
  | 0, _, _ => False
  | fu6 + 1, v4_6, v6_6 => (((jshl (1 : Int32) (oYc_6 0 0)) ≤ v6_6) → K160 v4_6) ∧ (¬ ((jshl (1 : Int32) (oYc_6 0 0)) ≤ v6_6) → jn1 (fun (v4_154 : Int64) => wpX10_likely_L6 c1_6 c2_6 c3_6 oYc_6 K160 fu6 v4_154 (v6_6 + (1 : Int32))) (fun J154 => (((v6_6 &&& ((oYc_6 0 6) ^^^ (-1 : Int32))) = 0) → ∃ fu35 : Nat, wpX10_likely_L35 c3_6 v6_6 oYc_6 (fun (v7_91 : Int64) => jn1 (fun (p0_136 : Int32) => jn2 (fun (p0_151 : Int64) (p1_151 : Int64) => J154 (p1_151 + p0_151)) (fun J151 => ((p0_136 = 0) → J151 (0 : Int64) v4_6) ∧ (¬ (p0_136 = 0) → J151 v7_91 v4_6))) (fun J136 => ((0 ≤ c1_6) → wpX10_lengthOf oYc_6 c1_6 v6_6 (oYc_6 0 5) (fun (r124 : Int32) => ((r124 = c2_6) → J136 (1 : Int32)) ∧ (¬ (r124 = c2_6) → J136 (0 : Int32)))) ∧ (¬ (0 ≤ c1_6) → wpX10_clashes oYc_6 v6_6 (oYc_6 0 5) (fun (r102 : Int32) => ((r102 = 0) → J136 (1 : Int32)) ∧ (¬ (r102 = 0) → J136 (0 : Int32)))))) fu35 (1 : Int64) (0 : Int32)) ∧ (¬ ((v6_6 &&& ((oYc_6 0 6) ^^^ (-1 : Int32))) = 0) → J154 v4_6)))
def wpX10_likely (oY : Ob) (v1 : Int32) (v2 : Int32) (v3 : Int32) (post : Int64 → Prop) : Prop := ∃ fu6 : Nat, wpX10_likely_L6 v1 v2 v3 oY (fun (v4_160 : Int64) => post v4_160) fu6 (0 : Int64) (0 : Int32)
theorem pdX10_likely : yX10_likely.cls = RX10 ∧ yX10_likely.cls ≠ "java/lang/invoke/MethodHandle" ∧ yX10_likely.cls ≠ "java/lang/invoke/VarHandle" ∧ (parseMethodDescriptor yX10_likely.desc).map (fun d => d.parameters.length) = some 3 := by decide +kernel
theorem lkX10_likely_7 : Cond.fieldLink RX10 7 (TX10 0).1 (TX10 0).2.1 (TX10 0).2.2.1 ∈ wsX10_likely := by decide +kernel
theorem inX10_likely_X10 : ∀ w ∈ u_ws RX10 TX10 25, w ∈ wsX10_likely := by decide +kernel
theorem lkX10_likely_63 : Cond.fieldLink RX10 63 (TX10 6).1 (TX10 6).2.1 (TX10 6).2.2.1 ∈ wsX10_likely := by decide +kernel
theorem lkX10_likely_60 : Cond.fieldLink RX10 60 (TX10 5).1 (TX10 5).2.1 (TX10 5).2.2.1 ∈ wsX10_likely := by decide +kernel
set_option maxHeartbeats 4000000 in
set_option maxRecDepth 100000 in
theorem ctX10_likely (l : Launch) (D : va_G) (cI cZ : ClassId) (qY : Nat → Nat) (oY : Ob) (v1 : Int32) (v2 : Int32) (v3 : Int32) (post : Int64 → Prop) (h : wpX10_likely oY v1 v2 v3 post) : CTl l yX10_likely wsX10_likely { frames := 3, cells := 0, slots := 0, locals := 74 } D [(cI, .int), (cZ, .boolean)] [.ref (qY 0), .int v1, .int v2, .int v3] (w10 cI cZ qY oY) (fun _ : Unit => w10 cI cZ qY oY) (fun (r : Int64) (_ : Unit) => post r) := by
  refine CTl.of (cc := cX10_likely) (own := RX10) (maxL := 10) (ret := (some .long)) (lv0 := [(0, .ref (qY 0)), (1, .int v1), (2, .int v2), (3, .int v3)]) (by decide) rfl rfl (Nat.le_of_ble_eq_true rfl) rfl ?_
  intro p e s m args below meth c A C
  unfold wpX10_likely at h
  refine SW.lconst (v := (0 : Int64)) C dX10_likely_0 (by decide) ?_
  refine SW.lstore (lv' := [(4, .long (0 : Int64)), (0, .ref (qY 0)), (1, .int v1), (2, .int v2), (3, .int v3)]) C dX10_likely_1 (by decide) rfl ?_
  refine SW.iconst (v := (0 : Int32)) C dX10_likely_3 (by decide) ?_
  refine SW.istore (lv' := [(6, .int (0 : Int32)), (4, .long (0 : Int64)), (0, .ref (qY 0)), (1, .int v1), (2, .int v2), (3, .int v3)]) C dX10_likely_4 (by decide) rfl ?_
  have L6 : ∀ (K160 : Int64 → Prop) (hK160 : ∀ (v4_160 : Int64), K160 v4_160 → SW p l e { frames := 3, cells := 0, slots := 0, locals := 74 } s m args below meth c A D 10 0 0 (MQ below (va_Ql (fun (r : Int64) (_ : Unit) => post r) (ctB D A (fun _ : Unit => w10 cI cZ qY oY)) A) args s 0 0 A) (w10 cI cZ qY oY) 160 [(4, .long v4_160)] []) (fu : Nat) (v4_6 : Int64) (v6_6 : Int32), wpX10_likely_L6 v1 v2 v3 oY K160 fu v4_6 v6_6 → SW p l e { frames := 3, cells := 0, slots := 0, locals := 74 } s m args below meth c A D 10 0 0 (MQ below (va_Ql (fun (r : Int64) (_ : Unit) => post r) (ctB D A (fun _ : Unit => w10 cI cZ qY oY)) A) args s 0 0 A) (w10 cI cZ qY oY) 6 [(0, .ref (qY 0)), (1, .int v1), (2, .int v2), (3, .int v3), (4, .long v4_6), (6, .int v6_6)] [] := by
    intro K160 hK160 fu
    induction fu with
    | zero =>
      intro v4_6 v6_6 h
      exact False.elim h
    | succ fu ih =>
      intro v4_6 v6_6 h
      unfold wpX10_likely_L6 at h
      refine SW.iload C dX10_likely_6 5 rfl ?_
      refine SW.iconst (v := (1 : Int32)) C dX10_likely_8 (by decide) ?_
      refine SW.aload_n C dX10_likely_9 rfl 0 rfl ?_
      refine SW.get (v := .int (oY 0 0)) (T := TX10) (N := 25) C inX10_likely_X10 0 rfl rfl 0 (by decide) lkX10_likely_7 rfl dX10_likely_10 ?_
      refine SW.ishl C dX10_likely_13 ?_
      refine SW.icmp_ge (tgt := 160) C dX10_likely_14 (by decide) (fun hc => ?_) (fun hc => ?_)
      · replace h := h.1 hc
        refine SW.sub [4] rfl ?_
        exact hK160 _ h
      · replace h := h.2 hc
        refine SW.iload C dX10_likely_17 5 rfl ?_
        refine SW.aload_n C dX10_likely_19 rfl 0 rfl ?_
        refine SW.get (v := .int (oY 0 6)) (T := TX10) (N := 25) C inX10_likely_X10 0 rfl rfl 6 (by decide) lkX10_likely_63 rfl dX10_likely_20 ?_
        refine SW.iconst (v := (-1 : Int32)) C dX10_likely_23 (by decide) ?_
        refine SW.ixor C dX10_likely_24 ?_
        refine SW.iand C dX10_likely_25 ?_
        refine jn1_elim (G := fun v4_154 => SW p l e { frames := 3, cells := 0, slots := 0, locals := 74 } s m args below meth c A D 10 0 0 (MQ below (va_Ql (fun (r : Int64) (_ : Unit) => post r) (ctB D A (fun _ : Unit => w10 cI cZ qY oY)) A) args s 0 0 A) (w10 cI cZ qY oY) 154 [(0, .ref (qY 0)), (1, .int v1), (2, .int v2), (3, .int v3), (4, .long v4_154), (6, .int v6_6)] []) h (fun v4_154 h => ?_) (fun J154 hJ154 h => ?_)
        · refine SW.iinc (q := 5) (v := (v6_6 + (1 : Int32))) (lv' := [(6, .int (v6_6 + (1 : Int32))), (0, .ref (qY 0)), (1, .int v1), (2, .int v2), (3, .int v3), (4, .long v4_154)]) C dX10_likely_154 rfl rfl (by decide) rfl ?_
          refine SW.goto (tgt := 6) C dX10_likely_157 (by decide) ?_
          refine SW.sub [1, 2, 3, 4, 5, 0] rfl ?_
          exact ih _ _ h
        · refine SW.if_ne (tgt := 154) C dX10_likely_26 (by decide) (fun hc => ?_) (fun hc => ?_)
          · replace h := h.2 hc
            exact hJ154 _ h
          · replace h := h.1 hc
            refine SW.lconst (v := (1 : Int64)) C dX10_likely_29 (by decide) ?_
            refine SW.lstore (lv' := [(7, .long (1 : Int64)), (0, .ref (qY 0)), (1, .int v1), (2, .int v2), (3, .int v3), (4, .long v4_6), (6, .int v6_6)]) C dX10_likely_30 (by decide) rfl ?_
            refine SW.iconst (v := (0 : Int32)) C dX10_likely_32 (by decide) ?_
            refine SW.istore (lv' := [(9, .int (0 : Int32)), (7, .long (1 : Int64)), (0, .ref (qY 0)), (1, .int v1), (2, .int v2), (3, .int v3), (4, .long v4_6), (6, .int v6_6)]) C dX10_likely_33 (by decide) rfl ?_
            have L35 : ∀ (K91 : Int64 → Prop) (hK91 : ∀ (v7_91 : Int64), K91 v7_91 → SW p l e { frames := 3, cells := 0, slots := 0, locals := 74 } s m args below meth c A D 10 0 0 (MQ below (va_Ql (fun (r : Int64) (_ : Unit) => post r) (ctB D A (fun _ : Unit => w10 cI cZ qY oY)) A) args s 0 0 A) (w10 cI cZ qY oY) 91 [(0, .ref (qY 0)), (1, .int v1), (2, .int v2), (3, .int v3), (4, .long v4_6), (6, .int v6_6), (7, .long v7_91)] []) (fu : Nat) (v7_35 : Int64) (v9_35 : Int32), wpX10_likely_L35 v3 v6_6 oY K91 fu v7_35 v9_35 → SW p l e { frames := 3, cells := 0, slots := 0, locals := 74 } s m args below meth c A D 10 0 0 (MQ below (va_Ql (fun (r : Int64) (_ : Unit) => post r) (ctB D A (fun _ : Unit => w10 cI cZ qY oY)) A) args s 0 0 A) (w10 cI cZ qY oY) 35 [(0, .ref (qY 0)), (1, .int v1), (2, .int v2), (3, .int v3), (4, .long v4_6), (6, .int v6_6), (7, .long v7_35), (9, .int v9_35)] [] := by
              intro K91 hK91 fu
              induction fu with
              | zero =>
                intro v7_35 v9_35 h
                exact False.elim h
              | succ fu ih =>
                intro v7_35 v9_35 h
                unfold wpX10_likely_L35 at h
                refine SW.iload C dX10_likely_35 7 rfl ?_
                refine SW.aload_n C dX10_likely_37 rfl 0 rfl ?_
                refine SW.get (v := .int (oY 0 0)) (T := TX10) (N := 25) C inX10_likely_X10 0 rfl rfl 0 (by decide) lkX10_likely_7 rfl dX10_likely_38 ?_
                refine SW.icmp_ge (tgt := 91) C dX10_likely_41 (by decide) (fun hc => ?_) (fun hc => ?_)
                · replace h := h.1 hc
                  refine SW.sub [0, 1, 2, 3, 4, 5, 6] rfl ?_
                  exact hK91 _ h
                · replace h := h.2 hc
                  refine SW.lload C dX10_likely_44 6 rfl ?_
                  refine SW.aload_n C dX10_likely_46 rfl 0 rfl ?_
                  refine SW.get (v := .int (oY 0 6)) (T := TX10) (N := 25) C inX10_likely_X10 0 rfl rfl 6 (by decide) lkX10_likely_63 rfl dX10_likely_47 ?_
                  refine SW.iload C dX10_likely_50 7 rfl ?_
                  refine SW.callSi_pure C (ctX10_has l D cI cZ (oY 0 6) v9_35 _ h) gX10_likely_X10_has rfl rfl rfl pdX10_has ⟨by decide, by decide⟩ rfl rfl (Nat.le_of_ble_eq_true rfl) dX10_likely_52 (by decide) (fun r52 u h => ?_)
                  try dsimp only at h
                  refine jn2_elim (G := fun p0_82 p1_82 => SW p l e { frames := 3, cells := 0, slots := 0, locals := 74 } s m args below meth c A D 10 0 0 (MQ below (va_Ql (fun (r : Int64) (_ : Unit) => post r) (ctB D A (fun _ : Unit => w10 cI cZ qY oY)) A) args s 0 0 A) (w10 cI cZ qY oY) 82 [(0, .ref (qY 0)), (1, .int v1), (2, .int v2), (3, .int v3), (4, .long v4_6), (6, .int v6_6), (9, .int v9_35)] [.long p0_82, .long p1_82]) h (fun p0_82 p1_82 h => ?_) (fun J82 hJ82 h => ?_)
                  · refine SW.lmul C dX10_likely_82 ?_
                    refine SW.lstore (lv' := [(7, .long (p1_82 * p0_82)), (0, .ref (qY 0)), (1, .int v1), (2, .int v2), (3, .int v3), (4, .long v4_6), (6, .int v6_6), (9, .int v9_35)]) C dX10_likely_83 (by decide) rfl ?_
                    refine SW.iinc (q := 7) (v := (v9_35 + (1 : Int32))) (lv' := [(9, .int (v9_35 + (1 : Int32))), (7, .long (p1_82 * p0_82)), (0, .ref (qY 0)), (1, .int v1), (2, .int v2), (3, .int v3), (4, .long v4_6), (6, .int v6_6)]) C dX10_likely_85 rfl rfl (by decide) rfl ?_
                    refine SW.goto (tgt := 35) C dX10_likely_88 (by decide) ?_
                    refine SW.sub [2, 3, 4, 5, 6, 7, 1, 0] rfl ?_
                    exact ih _ _ h
                  · refine SW.if_ne (tgt := 62) C dX10_likely_55 (by decide) (fun hc => ?_) (fun hc => ?_)
                    · replace h := h.2 hc
                      refine SW.iload C dX10_likely_62 5 rfl ?_
                      refine SW.iload C dX10_likely_64 7 rfl ?_
                      refine SW.callSi_pure C (ctX10_has l D cI cZ v6_6 v9_35 _ h) gX10_likely_X10_has rfl rfl rfl pdX10_has ⟨by decide, by decide⟩ rfl rfl (Nat.le_of_ble_eq_true rfl) dX10_likely_66 (by decide) (fun r66 u h => ?_)
                      try dsimp only at h
                      refine SW.if_eq (tgt := 80) C dX10_likely_69 (by decide) (fun hc => ?_) (fun hc => ?_)
                      · replace h := h.1 hc
                        refine SW.iload_n C dX10_likely_80 rfl 3 rfl ?_
                        refine SW.i2l C dX10_likely_81 ?_
                        refine SW.sub [0, 1, 2, 3, 4, 5, 7] rfl ?_
                        exact hJ82 _ _ h
                      · replace h := h.2 hc
                        refine SW.bipush (v := (10 : Int32)) C dX10_likely_72 (by decide) ?_
                        refine SW.iload_n C dX10_likely_74 rfl 3 rfl ?_
                        refine SW.isub C dX10_likely_75 ?_
                        refine SW.i2l C dX10_likely_76 ?_
                        refine SW.goto (tgt := 82) C dX10_likely_77 (by decide) ?_
                        refine SW.sub [0, 1, 2, 3, 4, 5, 7] rfl ?_
                        exact hJ82 _ _ h
                    · replace h := h.1 hc
                      refine SW.lconst (v := (1 : Int64)) C dX10_likely_58 (by decide) ?_
                      refine SW.goto (tgt := 82) C dX10_likely_59 (by decide) ?_
                      refine SW.sub [0, 1, 2, 3, 4, 5, 7] rfl ?_
                      exact hJ82 _ _ h
            obtain ⟨fu, h⟩ := h
            refine SW.sub [2, 3, 4, 5, 6, 7, 1, 0] rfl ?_
            refine L35 _ (fun v7_91 h => ?_) fu _ _ h
            · refine SW.iload_n C dX10_likely_91 rfl 1 rfl ?_
              refine jn1_elim (G := fun p0_136 => SW p l e { frames := 3, cells := 0, slots := 0, locals := 74 } s m args below meth c A D 10 0 0 (MQ below (va_Ql (fun (r : Int64) (_ : Unit) => post r) (ctB D A (fun _ : Unit => w10 cI cZ qY oY)) A) args s 0 0 A) (w10 cI cZ qY oY) 136 [(0, .ref (qY 0)), (1, .int v1), (2, .int v2), (3, .int v3), (4, .long v4_6), (6, .int v6_6), (7, .long v7_91)] [.int p0_136]) h (fun p0_136 h => ?_) (fun J136 hJ136 h => ?_)
              · refine SW.istore (lv' := [(9, .int p0_136), (0, .ref (qY 0)), (1, .int v1), (2, .int v2), (3, .int v3), (4, .long v4_6), (6, .int v6_6), (7, .long v7_91)]) C dX10_likely_136 (by decide) rfl ?_
                refine SW.lload C dX10_likely_138 5 rfl ?_
                refine SW.iload C dX10_likely_140 0 rfl ?_
                refine jn2_elim (G := fun p0_151 p1_151 => SW p l e { frames := 3, cells := 0, slots := 0, locals := 74 } s m args below meth c A D 10 0 0 (MQ below (va_Ql (fun (r : Int64) (_ : Unit) => post r) (ctB D A (fun _ : Unit => w10 cI cZ qY oY)) A) args s 0 0 A) (w10 cI cZ qY oY) 151 [(0, .ref (qY 0)), (1, .int v1), (2, .int v2), (3, .int v3), (6, .int v6_6)] [.long p0_151, .long p1_151]) h (fun p0_151 p1_151 h => ?_) (fun J151 hJ151 h => ?_)
                · refine SW.ladd C dX10_likely_151 ?_
                  refine SW.lstore (lv' := [(4, .long (p1_151 + p0_151)), (0, .ref (qY 0)), (1, .int v1), (2, .int v2), (3, .int v3), (6, .int v6_6)]) C dX10_likely_152 (by decide) rfl ?_
                  refine SW.sub [1, 2, 3, 4, 0, 5] rfl ?_
                  exact hJ154 _ h
                · refine SW.if_eq (tgt := 150) C dX10_likely_142 (by decide) (fun hc => ?_) (fun hc => ?_)
                  · replace h := h.1 hc
                    refine SW.lconst (v := (0 : Int64)) C dX10_likely_150 (by decide) ?_
                    refine SW.sub [1, 2, 3, 4, 6] rfl ?_
                    exact hJ151 _ _ h
                  · replace h := h.2 hc
                    refine SW.lload C dX10_likely_145 7 rfl ?_
                    refine SW.goto (tgt := 151) C dX10_likely_147 (by decide) ?_
                    refine SW.sub [1, 2, 3, 4, 6] rfl ?_
                    exact hJ151 _ _ h
              · refine SW.if_ge (tgt := 116) C dX10_likely_92 (by decide) (fun hc => ?_) (fun hc => ?_)
                · replace h := h.1 hc
                  refine SW.aload_n C dX10_likely_116 rfl 0 rfl ?_
                  refine SW.iload_n C dX10_likely_117 rfl 1 rfl ?_
                  refine SW.iload C dX10_likely_118 5 rfl ?_
                  refine SW.aload_n C dX10_likely_120 rfl 0 rfl ?_
                  refine SW.get (v := .int (oY 0 5)) (T := TX10) (N := 25) C inX10_likely_X10 0 rfl rfl 5 (by decide) lkX10_likely_60 rfl dX10_likely_121 ?_
                  refine SW.callVi_same C (ctX10_lengthOf l D cI cZ qY oY v1 v6_6 (oY 0 5) _ h) gX10_likely_X10_lengthOf rfl rfl rfl pdX10_lengthOf ⟨by decide, by decide⟩ 0 rfl rfl rfl rfl rfl (Nat.le_of_ble_eq_true rfl) dX10_likely_124 (by decide) (fun r124 u h => ?_)
                  try dsimp only at h
                  refine SW.iload_n C dX10_likely_127 rfl 2 rfl ?_
                  refine SW.icmp_ne (tgt := 135) C dX10_likely_128 (by decide) (fun hc => ?_) (fun hc => ?_)
                  · replace h := h.2 hc
                    refine SW.iconst (v := (0 : Int32)) C dX10_likely_135 (by decide) ?_
                    exact hJ136 _ h
                  · replace h := h.1 hc
                    refine SW.iconst (v := (1 : Int32)) C dX10_likely_131 (by decide) ?_
                    refine SW.goto (tgt := 136) C dX10_likely_132 (by decide) ?_
                    exact hJ136 _ h
                · replace h := h.2 hc
                  refine SW.aload_n C dX10_likely_95 rfl 0 rfl ?_
                  refine SW.iload C dX10_likely_96 5 rfl ?_
                  refine SW.aload_n C dX10_likely_98 rfl 0 rfl ?_
                  refine SW.get (v := .int (oY 0 5)) (T := TX10) (N := 25) C inX10_likely_X10 0 rfl rfl 5 (by decide) lkX10_likely_60 rfl dX10_likely_99 ?_
                  refine SW.callVi_same C (ctX10_clashes l D cI cZ qY oY v6_6 (oY 0 5) _ h) gX10_likely_X10_clashes rfl rfl rfl pdX10_clashes ⟨by decide, by decide⟩ 0 rfl rfl rfl rfl rfl (Nat.le_of_ble_eq_true rfl) dX10_likely_102 (by decide) (fun r102 u h => ?_)
                  try dsimp only at h
                  refine SW.if_ne (tgt := 112) C dX10_likely_105 (by decide) (fun hc => ?_) (fun hc => ?_)
                  · replace h := h.2 hc
                    refine SW.iconst (v := (0 : Int32)) C dX10_likely_112 (by decide) ?_
                    refine SW.goto (tgt := 136) C dX10_likely_113 (by decide) ?_
                    exact hJ136 _ h
                  · replace h := h.1 hc
                    refine SW.iconst (v := (1 : Int32)) C dX10_likely_108 (by decide) ?_
                    refine SW.goto (tgt := 136) C dX10_likely_109 (by decide) ?_
                    exact hJ136 _ h
  obtain ⟨fu, h⟩ := h
  refine SW.sub [2, 3, 4, 5, 1, 0] rfl ?_
  refine L6 _ (fun v4_160 h => ?_) fu _ _ h
  · refine SW.lload C dX10_likely_160 0 rfl ?_
    exact SW.lret C () rfl h dX10_likely_162
def wpX10_part_L6 (oYc_6 : Ob) (K32 : Int64 → Prop) : Nat → Int64 → Int32 → Prop
  | 0, _, _ => False
  | fu6 + 1, v4_6, v6_6 => wpX10_bits (oYc_6 0 6) (fun (r12 : Int32) => ((r12 ≤ v6_6) → K32 v4_6) ∧ (¬ (r12 ≤ v6_6) → wpX10_part_L6 oYc_6 K32 fu6 (v4_6 * (10 : Int64)) (v6_6 + (1 : Int32))))
def wpX10_part_L39 (K64 : Int64 → Prop) : Nat → Int64 → Int64 → Prop
  | 0, _, _ => False
  | fu39 + 1, v6_39, v8_39 => (((lg_cmp v8_39 (0 : Int64)) = 0) → K64 v6_39) ∧ (¬ ((lg_cmp v8_39 (0 : Int64)) = 0) → (¬ v8_39 = 0) ∧ (wpX10_part_L39 K64 fu39 v8_39 (jremL v6_39 v8_39)))
def wpX10_part (oY : Ob) (v1 : Int64) (v3 : Int32) (post : Int64 → Prop) : Prop := ∃ fu6 : Nat, wpX10_part_L6 oY (fun (v4_32 : Int64) => ∃ fu39 : Nat, wpX10_part_L39 (fun (v6_64 : Int64) => ((v3 = 0) → (¬ v6_64 = 0) ∧ (post (v1 / v6_64))) ∧ (¬ (v3 = 0) → (¬ v6_64 = 0) ∧ (post (v4_32 / v6_64)))) fu39 v1 v4_32) fu6 (1 : Int64) (0 : Int32)
theorem pdX10_part : yX10_part.cls = RX10 ∧ yX10_part.cls ≠ "java/lang/invoke/MethodHandle" ∧ yX10_part.cls ≠ "java/lang/invoke/VarHandle" ∧ (parseMethodDescriptor yX10_part.desc).map (fun d => d.parameters.length) = some 2 := by decide +kernel
theorem lkX10_part_63 : Cond.fieldLink RX10 63 (TX10 6).1 (TX10 6).2.1 (TX10 6).2.2.1 ∈ wsX10_part := by decide +kernel
theorem inX10_part_X10 : ∀ w ∈ u_ws RX10 TX10 25, w ∈ wsX10_part := by decide +kernel
set_option maxHeartbeats 4000000 in
set_option maxRecDepth 100000 in
theorem ctX10_part (l : Launch) (D : va_G) (cI cZ : ClassId) (qY : Nat → Nat) (oY : Ob) (v1 : Int64) (v3 : Int32) (post : Int64 → Prop) (h : wpX10_part oY v1 v3 post) : CTl l yX10_part wsX10_part { frames := 1, cells := 0, slots := 0, locals := 22 } D [(cI, .int), (cZ, .boolean)] [.ref (qY 0), .long v1, .int v3] (w10 cI cZ qY oY) (fun _ : Unit => w10 cI cZ qY oY) (fun (r : Int64) (_ : Unit) => post r) := by
  refine CTl.of (cc := cX10_part) (own := RX10) (maxL := 12) (ret := (some .long)) (lv0 := [(0, .ref (qY 0)), (1, .long v1), (3, .int v3)]) (by decide) rfl rfl (Nat.le_of_ble_eq_true rfl) rfl ?_
  intro p e s m args below meth c A C
  unfold wpX10_part at h
  refine SW.lconst (v := (1 : Int64)) C dX10_part_0 (by decide) ?_
  refine SW.lstore (lv' := [(4, .long (1 : Int64)), (0, .ref (qY 0)), (1, .long v1), (3, .int v3)]) C dX10_part_1 (by decide) rfl ?_
  refine SW.iconst (v := (0 : Int32)) C dX10_part_3 (by decide) ?_
  refine SW.istore (lv' := [(6, .int (0 : Int32)), (4, .long (1 : Int64)), (0, .ref (qY 0)), (1, .long v1), (3, .int v3)]) C dX10_part_4 (by decide) rfl ?_
  have L6 : ∀ (K32 : Int64 → Prop) (hK32 : ∀ (v4_32 : Int64), K32 v4_32 → SW p l e { frames := 1, cells := 0, slots := 0, locals := 22 } s m args below meth c A D 12 0 0 (MQ below (va_Ql (fun (r : Int64) (_ : Unit) => post r) (ctB D A (fun _ : Unit => w10 cI cZ qY oY)) A) args s 0 0 A) (w10 cI cZ qY oY) 32 [(1, .long v1), (3, .int v3), (4, .long v4_32)] []) (fu : Nat) (v4_6 : Int64) (v6_6 : Int32), wpX10_part_L6 oY K32 fu v4_6 v6_6 → SW p l e { frames := 1, cells := 0, slots := 0, locals := 22 } s m args below meth c A D 12 0 0 (MQ below (va_Ql (fun (r : Int64) (_ : Unit) => post r) (ctB D A (fun _ : Unit => w10 cI cZ qY oY)) A) args s 0 0 A) (w10 cI cZ qY oY) 6 [(0, .ref (qY 0)), (1, .long v1), (3, .int v3), (4, .long v4_6), (6, .int v6_6)] [] := by
    intro K32 hK32 fu
    induction fu with
    | zero =>
      intro v4_6 v6_6 h
      exact False.elim h
    | succ fu ih =>
      intro v4_6 v6_6 h
      unfold wpX10_part_L6 at h
      refine SW.iload C dX10_part_6 4 rfl ?_
      refine SW.aload_n C dX10_part_8 rfl 0 rfl ?_
      refine SW.get (v := .int (oY 0 6)) (T := TX10) (N := 25) C inX10_part_X10 0 rfl rfl 6 (by decide) lkX10_part_63 rfl dX10_part_9 ?_
      refine SW.callSi_pure C (ctX10_bits l D cI cZ (oY 0 6) _ h) gX10_part_X10_bits rfl rfl rfl pdX10_bits ⟨by decide, by decide⟩ rfl rfl (Nat.le_of_ble_eq_true rfl) dX10_part_12 (by decide) (fun r12 u h => ?_)
      try dsimp only at h
      refine SW.icmp_ge (tgt := 32) C dX10_part_15 (by decide) (fun hc => ?_) (fun hc => ?_)
      · replace h := h.1 hc
        refine SW.sub [1, 2, 3] rfl ?_
        exact hK32 _ h
      · replace h := h.2 hc
        refine SW.lload C dX10_part_18 3 rfl ?_
        refine SW.ldc2 (v := (10 : Int64)) C (by decide +kernel) dX10_part_20 ?_
        refine SW.lmul C dX10_part_23 ?_
        refine SW.lstore (lv' := [(4, .long (v4_6 * (10 : Int64))), (0, .ref (qY 0)), (1, .long v1), (3, .int v3), (6, .int v6_6)]) C dX10_part_24 (by decide) rfl ?_
        refine SW.iinc (q := 4) (v := (v6_6 + (1 : Int32))) (lv' := [(6, .int (v6_6 + (1 : Int32))), (4, .long (v4_6 * (10 : Int64))), (0, .ref (qY 0)), (1, .long v1), (3, .int v3)]) C dX10_part_26 rfl rfl (by decide) rfl ?_
        refine SW.goto (tgt := 6) C dX10_part_29 (by decide) ?_
        refine SW.sub [2, 3, 4, 1, 0] rfl ?_
        exact ih _ _ h
  obtain ⟨fu, h⟩ := h
  refine SW.sub [2, 3, 4, 1, 0] rfl ?_
  refine L6 _ (fun v4_32 h => ?_) fu _ _ h
  · refine SW.lload_n C dX10_part_32 rfl 0 rfl ?_
    refine SW.lstore (lv' := [(6, .long v1), (1, .long v1), (3, .int v3), (4, .long v4_32)]) C dX10_part_33 (by decide) rfl ?_
    refine SW.lload C dX10_part_35 3 rfl ?_
    refine SW.lstore (lv' := [(8, .long v4_32), (6, .long v1), (1, .long v1), (3, .int v3), (4, .long v4_32)]) C dX10_part_37 (by decide) rfl ?_
    have L39 : ∀ (K64 : Int64 → Prop) (hK64 : ∀ (v6_64 : Int64), K64 v6_64 → SW p l e { frames := 1, cells := 0, slots := 0, locals := 22 } s m args below meth c A D 12 0 0 (MQ below (va_Ql (fun (r : Int64) (_ : Unit) => post r) (ctB D A (fun _ : Unit => w10 cI cZ qY oY)) A) args s 0 0 A) (w10 cI cZ qY oY) 64 [(1, .long v1), (3, .int v3), (4, .long v4_32), (6, .long v6_64)] []) (fu : Nat) (v6_39 : Int64) (v8_39 : Int64), wpX10_part_L39 K64 fu v6_39 v8_39 → SW p l e { frames := 1, cells := 0, slots := 0, locals := 22 } s m args below meth c A D 12 0 0 (MQ below (va_Ql (fun (r : Int64) (_ : Unit) => post r) (ctB D A (fun _ : Unit => w10 cI cZ qY oY)) A) args s 0 0 A) (w10 cI cZ qY oY) 39 [(1, .long v1), (3, .int v3), (4, .long v4_32), (6, .long v6_39), (8, .long v8_39)] [] := by
      intro K64 hK64 fu
      induction fu with
      | zero =>
        intro v6_39 v8_39 h
        exact False.elim h
      | succ fu ih =>
        intro v6_39 v8_39 h
        unfold wpX10_part_L39 at h
        refine SW.lload C dX10_part_39 4 rfl ?_
        refine SW.lconst (v := (0 : Int64)) C dX10_part_41 (by decide) ?_
        refine SW.lcmp C dX10_part_42 ?_
        refine SW.if_eq (tgt := 64) C dX10_part_43 (by decide) (fun hc => ?_) (fun hc => ?_)
        · replace h := h.1 hc
          refine SW.sub [0, 1, 2, 3] rfl ?_
          exact hK64 _ h
        · replace h := h.2 hc
          refine SW.lload C dX10_part_46 3 rfl ?_
          refine SW.lload C dX10_part_48 4 rfl ?_
          refine SW.lrem C dX10_part_50 h.1 ?_
          replace h := h.2
          refine SW.lstore (lv' := [(10, .long (jremL v6_39 v8_39)), (1, .long v1), (3, .int v3), (4, .long v4_32), (6, .long v6_39), (8, .long v8_39)]) C dX10_part_51 (by decide) rfl ?_
          refine SW.lload C dX10_part_53 5 rfl ?_
          refine SW.lstore (lv' := [(6, .long v8_39), (10, .long (jremL v6_39 v8_39)), (1, .long v1), (3, .int v3), (4, .long v4_32), (8, .long v8_39)]) C dX10_part_55 (by decide) rfl ?_
          refine SW.lload C dX10_part_57 1 rfl ?_
          refine SW.lstore (lv' := [(8, .long (jremL v6_39 v8_39)), (6, .long v8_39), (10, .long (jremL v6_39 v8_39)), (1, .long v1), (3, .int v3), (4, .long v4_32)]) C dX10_part_59 (by decide) rfl ?_
          refine SW.goto (tgt := 39) C dX10_part_61 (by decide) ?_
          refine SW.sub [3, 4, 5, 1, 0] rfl ?_
          exact ih _ _ h
    obtain ⟨fu, h⟩ := h
    refine SW.sub [2, 3, 4, 1, 0] rfl ?_
    refine L39 _ (fun v6_64 h => ?_) fu _ _ h
    · refine SW.iload_n C dX10_part_64 rfl 1 rfl ?_
      refine SW.if_ne (tgt := 75) C dX10_part_65 (by decide) (fun hc => ?_) (fun hc => ?_)
      · replace h := h.2 hc
        refine SW.lload C dX10_part_75 2 rfl ?_
        refine SW.lload C dX10_part_77 3 rfl ?_
        refine SW.ldiv C dX10_part_79 h.1 ?_
        replace h := h.2
        exact SW.lret C () rfl h dX10_part_80
      · replace h := h.1 hc
        refine SW.lload_n C dX10_part_68 rfl 0 rfl ?_
        refine SW.lload C dX10_part_69 3 rfl ?_
        refine SW.ldiv C dX10_part_71 h.1 ?_
        replace h := h.2
        refine SW.goto (tgt := 80) C dX10_part_72 (by decide) ?_
        exact SW.lret C () rfl h dX10_part_80
def wpX10_slips (oY : Ob) (v1 : Int32) (v2 : Int32) (v3 : Int32) (v4 : Int32) (post : Int64 → Prop) : Prop := wpX10_isWindow oY v1 (fun (r2 : Int32) => ((r2 = 0) → post (-1000000000000000001 : Int64)) ∧ (¬ (r2 = 0) → wpX10_in v2 (1 : Int32) (200 : Int32) (fun (r17 : Int32) => ((r17 = 0) → post (-1000000000000000002 : Int64)) ∧ (¬ (r17 = 0) → wpX10_in v3 (0 : Int32) (10 : Int32) (fun (r27 : Int32) => ((r27 = 0) → post (-1000000000000000002 : Int64)) ∧ (¬ (r27 = 0) → wpX10_in v4 (0 : Int32) (1 : Int32) (fun (r37 : Int32) => ((r37 = 0) → post (-1000000000000000002 : Int64)) ∧ (¬ (r37 = 0) → wpX10_likely oY v1 v2 v3 (fun (r52 : Int64) => wpX10_part oY r52 v4 (fun (r57 : Int64) => post r57))))))))))
theorem pdX10_slips : yX10_slips.cls = RX10 ∧ yX10_slips.cls ≠ "java/lang/invoke/MethodHandle" ∧ yX10_slips.cls ≠ "java/lang/invoke/VarHandle" ∧ (parseMethodDescriptor yX10_slips.desc).map (fun d => d.parameters.length) = some 4 := by decide +kernel
set_option maxHeartbeats 4000000 in
set_option maxRecDepth 100000 in
theorem ctX10_slips (l : Launch) (D : va_G) (cI cZ : ClassId) (qY : Nat → Nat) (oY : Ob) (v1 : Int32) (v2 : Int32) (v3 : Int32) (v4 : Int32) (post : Int64 → Prop) (h : wpX10_slips oY v1 v2 v3 v4 post) : CTl l yX10_slips wsX10_slips { frames := 4, cells := 0, slots := 0, locals := 103 } D [(cI, .int), (cZ, .boolean)] [.ref (qY 0), .int v1, .int v2, .int v3, .int v4] (w10 cI cZ qY oY) (fun _ : Unit => w10 cI cZ qY oY) (fun (r : Int64) (_ : Unit) => post r) := by
  refine CTl.of (cc := cX10_slips) (own := RX10) (maxL := 5) (ret := (some .long)) (lv0 := [(0, .ref (qY 0)), (1, .int v1), (2, .int v2), (3, .int v3), (4, .int v4)]) (by decide) rfl rfl (Nat.le_of_ble_eq_true rfl) rfl ?_
  intro p e s m args below meth c A C
  unfold wpX10_slips at h
  refine SW.aload_n C dX10_slips_0 rfl 0 rfl ?_
  refine SW.iload_n C dX10_slips_1 rfl 1 rfl ?_
  refine SW.callVi_same C (ctX10_isWindow l D cI cZ qY oY v1 _ h) gX10_slips_X10_isWindow rfl rfl rfl pdX10_isWindow ⟨by decide, by decide⟩ 0 rfl rfl rfl rfl rfl (Nat.le_of_ble_eq_true rfl) dX10_slips_2 (by decide) (fun r2 u h => ?_)
  try dsimp only at h
  refine SW.if_ne (tgt := 12) C dX10_slips_5 (by decide) (fun hc => ?_) (fun hc => ?_)
  · replace h := h.2 hc
    refine SW.iload_n C dX10_slips_12 rfl 2 rfl ?_
    refine SW.iconst (v := (1 : Int32)) C dX10_slips_13 (by decide) ?_
    refine SW.sipush (v := (200 : Int32)) C dX10_slips_14 (by decide) ?_
    refine SW.callSi_pure C (ctX10_in l D cI cZ v2 (1 : Int32) (200 : Int32) _ h) gX10_slips_X10_in rfl rfl rfl pdX10_in ⟨by decide, by decide⟩ rfl rfl (Nat.le_of_ble_eq_true rfl) dX10_slips_17 (by decide) (fun r17 u h => ?_)
    try dsimp only at h
    refine SW.if_eq (tgt := 43) C dX10_slips_20 (by decide) (fun hc => ?_) (fun hc => ?_)
    · replace h := h.1 hc
      refine SW.ldc2 (v := (-1000000000000000002 : Int64)) C (by decide +kernel) dX10_slips_43 ?_
      exact SW.lret C () rfl h dX10_slips_46
    · replace h := h.2 hc
      refine SW.iload_n C dX10_slips_23 rfl 3 rfl ?_
      refine SW.iconst (v := (0 : Int32)) C dX10_slips_24 (by decide) ?_
      refine SW.bipush (v := (10 : Int32)) C dX10_slips_25 (by decide) ?_
      refine SW.callSi_pure C (ctX10_in l D cI cZ v3 (0 : Int32) (10 : Int32) _ h) gX10_slips_X10_in rfl rfl rfl pdX10_in ⟨by decide, by decide⟩ rfl rfl (Nat.le_of_ble_eq_true rfl) dX10_slips_27 (by decide) (fun r27 u h => ?_)
      try dsimp only at h
      refine SW.if_eq (tgt := 43) C dX10_slips_30 (by decide) (fun hc => ?_) (fun hc => ?_)
      · replace h := h.1 hc
        refine SW.ldc2 (v := (-1000000000000000002 : Int64)) C (by decide +kernel) dX10_slips_43 ?_
        exact SW.lret C () rfl h dX10_slips_46
      · replace h := h.2 hc
        refine SW.iload C dX10_slips_33 4 rfl ?_
        refine SW.iconst (v := (0 : Int32)) C dX10_slips_35 (by decide) ?_
        refine SW.iconst (v := (1 : Int32)) C dX10_slips_36 (by decide) ?_
        refine SW.callSi_pure C (ctX10_in l D cI cZ v4 (0 : Int32) (1 : Int32) _ h) gX10_slips_X10_in rfl rfl rfl pdX10_in ⟨by decide, by decide⟩ rfl rfl (Nat.le_of_ble_eq_true rfl) dX10_slips_37 (by decide) (fun r37 u h => ?_)
        try dsimp only at h
        refine SW.if_ne (tgt := 47) C dX10_slips_40 (by decide) (fun hc => ?_) (fun hc => ?_)
        · replace h := h.2 hc
          refine SW.aload_n C dX10_slips_47 rfl 0 rfl ?_
          refine SW.aload_n C dX10_slips_48 rfl 0 rfl ?_
          refine SW.iload_n C dX10_slips_49 rfl 1 rfl ?_
          refine SW.iload_n C dX10_slips_50 rfl 2 rfl ?_
          refine SW.iload_n C dX10_slips_51 rfl 3 rfl ?_
          refine SW.callVl_same C (ctX10_likely l D cI cZ qY oY v1 v2 v3 _ h) gX10_slips_X10_likely rfl rfl rfl pdX10_likely ⟨by decide, by decide⟩ 0 rfl rfl rfl rfl rfl (Nat.le_of_ble_eq_true rfl) dX10_slips_52 (by decide) (fun r52 u h => ?_)
          try dsimp only at h
          refine SW.iload C dX10_slips_55 4 rfl ?_
          refine SW.callVl_same C (ctX10_part l D cI cZ qY oY r52 v4 _ h) gX10_slips_X10_part rfl rfl rfl pdX10_part ⟨by decide, by decide⟩ 0 rfl rfl rfl rfl rfl (Nat.le_of_ble_eq_true rfl) dX10_slips_57 (by decide) (fun r57 u h => ?_)
          try dsimp only at h
          exact SW.lret C () rfl h dX10_slips_60
        · replace h := h.1 hc
          refine SW.ldc2 (v := (-1000000000000000002 : Int64)) C (by decide +kernel) dX10_slips_43 ?_
          exact SW.lret C () rfl h dX10_slips_46
  · replace h := h.1 hc
    refine SW.ldc2 (v := (-1000000000000000001 : Int64)) C (by decide +kernel) dX10_slips_8 ?_
    exact SW.lret C () rfl h dX10_slips_11
def wpX10_calm (oY : Ob) (v1 : Int32) (v2 : Int32) (post : Int64 → Prop) : Prop := wpX10_in v1 (0 : Int32) (10 : Int32) (fun (r4 : Int32) => ((r4 = 0) → post (-1000000000000000002 : Int64)) ∧ (¬ (r4 = 0) → wpX10_in v2 (0 : Int32) (1 : Int32) (fun (r13 : Int32) => ((r13 = 0) → post (-1000000000000000002 : Int64)) ∧ (¬ (r13 = 0) → wpX10_likely oY (-6 : Int32) (0 : Int32) v1 (fun (r29 : Int64) => wpX10_part oY r29 v2 (fun (r33 : Int64) => post r33))))))
theorem pdX10_calm : yX10_calm.cls = RX10 ∧ yX10_calm.cls ≠ "java/lang/invoke/MethodHandle" ∧ yX10_calm.cls ≠ "java/lang/invoke/VarHandle" ∧ (parseMethodDescriptor yX10_calm.desc).map (fun d => d.parameters.length) = some 2 := by decide +kernel
set_option maxHeartbeats 4000000 in
set_option maxRecDepth 100000 in
theorem ctX10_calm (l : Launch) (D : va_G) (cI cZ : ClassId) (qY : Nat → Nat) (oY : Ob) (v1 : Int32) (v2 : Int32) (post : Int64 → Prop) (h : wpX10_calm oY v1 v2 post) : CTl l yX10_calm wsX10_calm { frames := 4, cells := 0, slots := 0, locals := 103 } D [(cI, .int), (cZ, .boolean)] [.ref (qY 0), .int v1, .int v2] (w10 cI cZ qY oY) (fun _ : Unit => w10 cI cZ qY oY) (fun (r : Int64) (_ : Unit) => post r) := by
  refine CTl.of (cc := cX10_calm) (own := RX10) (maxL := 3) (ret := (some .long)) (lv0 := [(0, .ref (qY 0)), (1, .int v1), (2, .int v2)]) (by decide) rfl rfl (Nat.le_of_ble_eq_true rfl) rfl ?_
  intro p e s m args below meth c A C
  unfold wpX10_calm at h
  refine SW.iload_n C dX10_calm_0 rfl 1 rfl ?_
  refine SW.iconst (v := (0 : Int32)) C dX10_calm_1 (by decide) ?_
  refine SW.bipush (v := (10 : Int32)) C dX10_calm_2 (by decide) ?_
  refine SW.callSi_pure C (ctX10_in l D cI cZ v1 (0 : Int32) (10 : Int32) _ h) gX10_calm_X10_in rfl rfl rfl pdX10_in ⟨by decide, by decide⟩ rfl rfl (Nat.le_of_ble_eq_true rfl) dX10_calm_4 (by decide) (fun r4 u h => ?_)
  try dsimp only at h
  refine SW.if_eq (tgt := 19) C dX10_calm_7 (by decide) (fun hc => ?_) (fun hc => ?_)
  · replace h := h.1 hc
    refine SW.ldc2 (v := (-1000000000000000002 : Int64)) C (by decide +kernel) dX10_calm_19 ?_
    exact SW.lret C () rfl h dX10_calm_22
  · replace h := h.2 hc
    refine SW.iload_n C dX10_calm_10 rfl 2 rfl ?_
    refine SW.iconst (v := (0 : Int32)) C dX10_calm_11 (by decide) ?_
    refine SW.iconst (v := (1 : Int32)) C dX10_calm_12 (by decide) ?_
    refine SW.callSi_pure C (ctX10_in l D cI cZ v2 (0 : Int32) (1 : Int32) _ h) gX10_calm_X10_in rfl rfl rfl pdX10_in ⟨by decide, by decide⟩ rfl rfl (Nat.le_of_ble_eq_true rfl) dX10_calm_13 (by decide) (fun r13 u h => ?_)
    try dsimp only at h
    refine SW.if_ne (tgt := 23) C dX10_calm_16 (by decide) (fun hc => ?_) (fun hc => ?_)
    · replace h := h.2 hc
      refine SW.aload_n C dX10_calm_23 rfl 0 rfl ?_
      refine SW.aload_n C dX10_calm_24 rfl 0 rfl ?_
      refine SW.bipush (v := (-6 : Int32)) C dX10_calm_25 (by decide) ?_
      refine SW.iconst (v := (0 : Int32)) C dX10_calm_27 (by decide) ?_
      refine SW.iload_n C dX10_calm_28 rfl 1 rfl ?_
      refine SW.callVl_same C (ctX10_likely l D cI cZ qY oY (-6 : Int32) (0 : Int32) v1 _ h) gX10_calm_X10_likely rfl rfl rfl pdX10_likely ⟨by decide, by decide⟩ 0 rfl rfl rfl rfl rfl (Nat.le_of_ble_eq_true rfl) dX10_calm_29 (by decide) (fun r29 u h => ?_)
      try dsimp only at h
      refine SW.iload_n C dX10_calm_32 rfl 2 rfl ?_
      refine SW.callVl_same C (ctX10_part l D cI cZ qY oY r29 v2 _ h) gX10_calm_X10_part rfl rfl rfl pdX10_part ⟨by decide, by decide⟩ 0 rfl rfl rfl rfl rfl (Nat.le_of_ble_eq_true rfl) dX10_calm_33 (by decide) (fun r33 u h => ?_)
      try dsimp only at h
      exact SW.lret C () rfl h dX10_calm_36
    · replace h := h.1 hc
      refine SW.ldc2 (v := (-1000000000000000002 : Int64)) C (by decide +kernel) dX10_calm_19 ?_
      exact SW.lret C () rfl h dX10_calm_22
def wpX10_year_L61 (c2_61 : Int32) (K185 : Int32 → Int32 → Ob → Prop) : Nat → Int32 → Int32 → Int32 → Int32 → Ob → Prop
  | 0, _, _, _, _, _ => False
  | fu61 + 1, v4_61, v5_61, v6_61, v7_61, oY_61 => ((c2_61 ≤ v7_61) → K185 v5_61 v6_61 oY_61) ∧ (¬ (c2_61 ≤ v7_61) → ∀ y78 : Int32, y78 = (jrem (((75 : Int32) * v4_61) + (74 : Int32)) (65537 : Int32)) → (jn1 (fun (p0_119 : Int32) => wpX10_whyNot oY_61 p0_119 (fun (r124 : Int32) => jn1 (fun (oY_136 : Ob) => wpX10_clashes oY_136 (oY_136 0 12) (oY_136 0 13) (fun (r147 : Int32) => jn2 (fun (p0_158 : Int32) (p1_158 : Int32) => wpX10_lengthOf oY_136 (0 : Int32) (oY_136 0 12) (oY_136 0 13) (fun (r173 : Int32) => wpX10_year_L61 c2_61 K185 fu61 y78 (p1_158 + p0_158) (v6_61 + r173) (v7_61 + (1 : Int32)) oY_136)) (fun J158 => ((r147 = 0) → J158 (0 : Int32) v5_61) ∧ (¬ (r147 = 0) → J158 (1 : Int32) v5_61)))) (fun J136 => ((r124 = 0) → wpX10_act oY_61 p0_119 (fun (oY_133 : Ob) => J136 oY_133)) ∧ (¬ (r124 = 0) → J136 oY_61)))) (fun J119 => (((jrem y78 (5 : Int32)) = 0) → J119 (43 : Int32)) ∧ (¬ ((jrem y78 (5 : Int32)) = 0) → (((jrem y78 (5 : Int32)) = (1 : Int32)) → J119 (45 : Int32)) ∧ (¬ ((jrem y78 (5 : Int32)) = (1 : Int32)) → (¬ (oY_61 0 0) = 0) ∧ (J119 ((97 : Int32) + (jrem (y78 / (5 : Int32)) (oY_61 0 0)))))))))
def wpX10_year (oY : Ob) (v1 : Int32) (v2 : Int32) (v3 : Int32) (post : Int32 → Ob → Prop) : Prop := wpX10_in v1 (0 : Int32) (9999 : Int32) (fun (r5 : Int32) => ((r5 = 0) → post (-2 : Int32) oY) ∧ (¬ (r5 = 0) → wpX10_in v2 (1 : Int32) (99 : Int32) (fun (r15 : Int32) => ((r15 = 0) → post (-2 : Int32) oY) ∧ (¬ (r15 = 0) → wpX10_in v3 (0 : Int32) (2 : Int32) (fun (r24 : Int32) => ((r24 = 0) → post (-2 : Int32) oY) ∧ (¬ (r24 = 0) → ∀ oY_46n : Ob, oY_46n = (pf oY 12 (oY 0 6)) → (∃ fu61 : Nat, wpX10_year_L61 v2 (fun (v5_185 : Int32) (v6_185 : Int32) (oY_185 : Ob) => ((v3 = 0) → post v5_185 oY_185) ∧ (¬ (v3 = 0) → ((v3 = (1 : Int32)) → post v6_185 oY_185) ∧ (¬ (v3 = (1 : Int32)) → post (oY_185 0 12) oY_185))) fu61 v1 (0 : Int32) (0 : Int32) (0 : Int32) (pf oY_46n 13 (oY 0 5)))))))))
theorem pdX10_year : yX10_year.cls = RX10 ∧ yX10_year.cls ≠ "java/lang/invoke/MethodHandle" ∧ yX10_year.cls ≠ "java/lang/invoke/VarHandle" ∧ (parseMethodDescriptor yX10_year.desc).map (fun d => d.parameters.length) = some 3 := by decide +kernel
theorem lkX10_year_63 : Cond.fieldLink RX10 63 (TX10 6).1 (TX10 6).2.1 (TX10 6).2.2.1 ∈ wsX10_year := by decide +kernel
theorem inX10_year_X10 : ∀ w ∈ u_ws RX10 TX10 25, w ∈ wsX10_year := by decide +kernel
theorem lkX10_year_109 : Cond.fieldLink RX10 109 (TX10 12).1 (TX10 12).2.1 (TX10 12).2.2.1 ∈ wsX10_year := by decide +kernel
theorem lkX10_year_60 : Cond.fieldLink RX10 60 (TX10 5).1 (TX10 5).2.1 (TX10 5).2.2.1 ∈ wsX10_year := by decide +kernel
theorem lkX10_year_106 : Cond.fieldLink RX10 106 (TX10 13).1 (TX10 13).2.1 (TX10 13).2.2.1 ∈ wsX10_year := by decide +kernel
theorem lkX10_year_7 : Cond.fieldLink RX10 7 (TX10 0).1 (TX10 0).2.1 (TX10 0).2.2.1 ∈ wsX10_year := by decide +kernel
set_option maxHeartbeats 4000000 in
set_option maxRecDepth 100000 in
theorem ctX10_year (l : Launch) (D : va_G) (cI cZ : ClassId) (qY : Nat → Nat) (oY : Ob) (v1 : Int32) (v2 : Int32) (v3 : Int32) (post : Int32 → Ob → Prop) (h : wpX10_year oY v1 v2 v3 post) : CTi l yX10_year wsX10_year { frames := 3, cells := 0, slots := 0, locals := 74 } D [(cI, .int), (cZ, .boolean)] [.ref (qY 0), .int v1, .int v2, .int v3] (w10 cI cZ qY oY) (fun u : Ob => w10 cI cZ qY u) (fun (r : Int32) (u : Ob) => post r u) := by
  refine CTi.of (cc := cX10_year) (own := RX10) (maxL := 10) (ret := (some .int)) (lv0 := [(0, .ref (qY 0)), (1, .int v1), (2, .int v2), (3, .int v3)]) (by decide) rfl rfl (Nat.le_of_ble_eq_true rfl) rfl ?_
  intro p e s m args below meth c A C
  unfold wpX10_year at h
  refine SW.iload_n C dX10_year_0 rfl 1 rfl ?_
  refine SW.iconst (v := (0 : Int32)) C dX10_year_1 (by decide) ?_
  refine SW.sipush (v := (9999 : Int32)) C dX10_year_2 (by decide) ?_
  refine SW.callSi_pure C (ctX10_in l D cI cZ v1 (0 : Int32) (9999 : Int32) _ h) gX10_year_X10_in rfl rfl rfl pdX10_in ⟨by decide, by decide⟩ rfl rfl (Nat.le_of_ble_eq_true rfl) dX10_year_5 (by decide) (fun r5 u h => ?_)
  try dsimp only at h
  refine SW.if_eq (tgt := 30) C dX10_year_8 (by decide) (fun hc => ?_) (fun hc => ?_)
  · replace h := h.1 hc
    refine SW.bipush (v := (-2 : Int32)) C dX10_year_30 (by decide) ?_
    exact SW.iret C oY rfl h dX10_year_32
  · replace h := h.2 hc
    refine SW.iload_n C dX10_year_11 rfl 2 rfl ?_
    refine SW.iconst (v := (1 : Int32)) C dX10_year_12 (by decide) ?_
    refine SW.bipush (v := (99 : Int32)) C dX10_year_13 (by decide) ?_
    refine SW.callSi_pure C (ctX10_in l D cI cZ v2 (1 : Int32) (99 : Int32) _ h) gX10_year_X10_in rfl rfl rfl pdX10_in ⟨by decide, by decide⟩ rfl rfl (Nat.le_of_ble_eq_true rfl) dX10_year_15 (by decide) (fun r15 u h => ?_)
    try dsimp only at h
    refine SW.if_eq (tgt := 30) C dX10_year_18 (by decide) (fun hc => ?_) (fun hc => ?_)
    · replace h := h.1 hc
      refine SW.bipush (v := (-2 : Int32)) C dX10_year_30 (by decide) ?_
      exact SW.iret C oY rfl h dX10_year_32
    · replace h := h.2 hc
      refine SW.iload_n C dX10_year_21 rfl 3 rfl ?_
      refine SW.iconst (v := (0 : Int32)) C dX10_year_22 (by decide) ?_
      refine SW.iconst (v := (2 : Int32)) C dX10_year_23 (by decide) ?_
      refine SW.callSi_pure C (ctX10_in l D cI cZ v3 (0 : Int32) (2 : Int32) _ h) gX10_year_X10_in rfl rfl rfl pdX10_in ⟨by decide, by decide⟩ rfl rfl (Nat.le_of_ble_eq_true rfl) dX10_year_24 (by decide) (fun r24 u h => ?_)
      try dsimp only at h
      refine SW.if_ne (tgt := 33) C dX10_year_27 (by decide) (fun hc => ?_) (fun hc => ?_)
      · replace h := h.2 hc
        refine SW.aload_n C dX10_year_33 rfl 0 rfl ?_
        refine SW.aload_n C dX10_year_34 rfl 0 rfl ?_
        refine SW.get (v := .int (oY 0 6)) (T := TX10) (N := 25) C inX10_year_X10 0 rfl rfl 6 (by decide) lkX10_year_63 rfl dX10_year_35 ?_
        refine SW.put (ws' := w10 cI cZ qY (pf oY 12 (oY 0 6))) (T := TX10) (N := 25) C inX10_year_X10 tyX10 tyX10_ok nmX10 0 rfl rfl 12 (by decide) lkX10_year_109 rfl rfl rfl (Nat.le_of_ble_eq_true rfl) rfl dX10_year_38 ?_
        refine SW.aload_n C dX10_year_41 rfl 0 rfl ?_
        refine SW.aload_n C dX10_year_42 rfl 0 rfl ?_
        refine SW.get (v := .int (oY 0 5)) (T := TX10) (N := 25) C inX10_year_X10 0 rfl rfl 5 (by decide) lkX10_year_60 rfl dX10_year_43 ?_
        refine SW.nameOb (wz := fun z => w10 cI cZ qY z) (o := (pf oY 12 (oY 0 6))) (fun oY_46n he => ?_)
        replace h := h oY_46n he
        refine SW.put (ws' := w10 cI cZ qY (pf oY_46n 13 (oY 0 5))) (T := TX10) (N := 25) C inX10_year_X10 tyX10 tyX10_ok nmX10 0 rfl rfl 13 (by decide) lkX10_year_106 rfl rfl rfl (Nat.le_of_ble_eq_true rfl) rfl dX10_year_46 ?_
        refine SW.iload_n C dX10_year_49 rfl 1 rfl ?_
        refine SW.istore (lv' := [(4, .int v1), (0, .ref (qY 0)), (1, .int v1), (2, .int v2), (3, .int v3)]) C dX10_year_50 (by decide) rfl ?_
        refine SW.iconst (v := (0 : Int32)) C dX10_year_52 (by decide) ?_
        refine SW.istore (lv' := [(5, .int (0 : Int32)), (4, .int v1), (0, .ref (qY 0)), (1, .int v1), (2, .int v2), (3, .int v3)]) C dX10_year_53 (by decide) rfl ?_
        refine SW.iconst (v := (0 : Int32)) C dX10_year_55 (by decide) ?_
        refine SW.istore (lv' := [(6, .int (0 : Int32)), (5, .int (0 : Int32)), (4, .int v1), (0, .ref (qY 0)), (1, .int v1), (2, .int v2), (3, .int v3)]) C dX10_year_56 (by decide) rfl ?_
        refine SW.iconst (v := (0 : Int32)) C dX10_year_58 (by decide) ?_
        refine SW.istore (lv' := [(7, .int (0 : Int32)), (6, .int (0 : Int32)), (5, .int (0 : Int32)), (4, .int v1), (0, .ref (qY 0)), (1, .int v1), (2, .int v2), (3, .int v3)]) C dX10_year_59 (by decide) rfl ?_
        have L61 : ∀ (K185 : Int32 → Int32 → Ob → Prop) (hK185 : ∀ (v5_185 : Int32) (v6_185 : Int32) (oY_185 : Ob), K185 v5_185 v6_185 oY_185 → SW p l e { frames := 3, cells := 0, slots := 0, locals := 74 } s m args below meth c A D 10 0 0 (MQ below (va_Qi (fun (r : Int32) (u : Ob) => post r u) (ctB D A (fun u : Ob => w10 cI cZ qY u)) A) args s 0 0 A) (w10 cI cZ qY oY_185) 185 [(0, .ref (qY 0)), (3, .int v3), (5, .int v5_185), (6, .int v6_185)] []) (fu : Nat) (v4_61 : Int32) (v5_61 : Int32) (v6_61 : Int32) (v7_61 : Int32) (oY_61 : Ob), wpX10_year_L61 v2 K185 fu v4_61 v5_61 v6_61 v7_61 oY_61 → SW p l e { frames := 3, cells := 0, slots := 0, locals := 74 } s m args below meth c A D 10 0 0 (MQ below (va_Qi (fun (r : Int32) (u : Ob) => post r u) (ctB D A (fun u : Ob => w10 cI cZ qY u)) A) args s 0 0 A) (w10 cI cZ qY oY_61) 61 [(0, .ref (qY 0)), (2, .int v2), (3, .int v3), (4, .int v4_61), (5, .int v5_61), (6, .int v6_61), (7, .int v7_61)] [] := by
          intro K185 hK185 fu
          induction fu with
          | zero =>
            intro v4_61 v5_61 v6_61 v7_61 oY_61 h
            exact False.elim h
          | succ fu ih =>
            intro v4_61 v5_61 v6_61 v7_61 oY_61 h
            unfold wpX10_year_L61 at h
            refine SW.iload C dX10_year_61 6 rfl ?_
            refine SW.iload_n C dX10_year_63 rfl 1 rfl ?_
            refine SW.icmp_ge (tgt := 185) C dX10_year_64 (by decide) (fun hc => ?_) (fun hc => ?_)
            · replace h := h.1 hc
              refine SW.sub [0, 2, 4, 5] rfl ?_
              exact hK185 _ _ _ h
            · replace h := h.2 hc
              refine SW.bipush (v := (75 : Int32)) C dX10_year_67 (by decide) ?_
              refine SW.iload C dX10_year_69 3 rfl ?_
              refine SW.imul C dX10_year_71 ?_
              refine SW.bipush (v := (74 : Int32)) C dX10_year_72 (by decide) ?_
              refine SW.iadd C dX10_year_74 ?_
              refine SW.ldc (v := (65537 : Int32)) C (by decide +kernel) dX10_year_75 ?_
              refine SW.irem C dX10_year_77 (by decide) ?_
              refine SW.topi (fun y78 he => ?_)
              replace h := h y78 he
              refine SW.istore (lv' := [(4, .int y78), (0, .ref (qY 0)), (2, .int v2), (3, .int v3), (5, .int v5_61), (6, .int v6_61), (7, .int v7_61)]) C dX10_year_78 (by decide) rfl ?_
              refine SW.iload C dX10_year_80 0 rfl ?_
              refine SW.iconst (v := (5 : Int32)) C dX10_year_82 (by decide) ?_
              refine SW.irem C dX10_year_83 (by decide) ?_
              refine SW.istore (lv' := [(8, .int (jrem y78 (5 : Int32))), (4, .int y78), (0, .ref (qY 0)), (2, .int v2), (3, .int v3), (5, .int v5_61), (6, .int v6_61), (7, .int v7_61)]) C dX10_year_84 (by decide) rfl ?_
              refine SW.iload C dX10_year_86 0 rfl ?_
              refine jn1_elim (G := fun p0_119 => SW p l e { frames := 3, cells := 0, slots := 0, locals := 74 } s m args below meth c A D 10 0 0 (MQ below (va_Qi (fun (r : Int32) (u : Ob) => post r u) (ctB D A (fun u : Ob => w10 cI cZ qY u)) A) args s 0 0 A) (w10 cI cZ qY oY_61) 119 [(0, .ref (qY 0)), (2, .int v2), (3, .int v3), (4, .int y78), (5, .int v5_61), (6, .int v6_61), (7, .int v7_61)] [.int p0_119]) h (fun p0_119 h => ?_) (fun J119 hJ119 h => ?_)
              · refine SW.istore (lv' := [(9, .int p0_119), (0, .ref (qY 0)), (2, .int v2), (3, .int v3), (4, .int y78), (5, .int v5_61), (6, .int v6_61), (7, .int v7_61)]) C dX10_year_119 (by decide) rfl ?_
                refine SW.aload_n C dX10_year_121 rfl 1 rfl ?_
                refine SW.iload C dX10_year_122 0 rfl ?_
                refine SW.callVi_same C (ctX10_whyNot l D cI cZ qY oY_61 p0_119 _ h) gX10_year_X10_whyNot rfl rfl rfl pdX10_whyNot ⟨by decide, by decide⟩ 0 rfl rfl rfl rfl rfl (Nat.le_of_ble_eq_true rfl) dX10_year_124 (by decide) (fun r124 u h => ?_)
                try dsimp only at h
                refine jn1_elim (G := fun oY_136 => SW p l e { frames := 3, cells := 0, slots := 0, locals := 74 } s m args below meth c A D 10 0 0 (MQ below (va_Qi (fun (r : Int32) (u : Ob) => post r u) (ctB D A (fun u : Ob => w10 cI cZ qY u)) A) args s 0 0 A) (w10 cI cZ qY oY_136) 136 [(0, .ref (qY 0)), (2, .int v2), (3, .int v3), (4, .int y78), (5, .int v5_61), (6, .int v6_61), (7, .int v7_61)] []) h (fun oY_136 h => ?_) (fun J136 hJ136 h => ?_)
                · refine SW.iload C dX10_year_136 4 rfl ?_
                  refine SW.aload_n C dX10_year_138 rfl 0 rfl ?_
                  refine SW.aload_n C dX10_year_139 rfl 0 rfl ?_
                  refine SW.get (v := .int (oY_136 0 12)) (T := TX10) (N := 25) C inX10_year_X10 0 rfl rfl 12 (by decide) lkX10_year_109 rfl dX10_year_140 ?_
                  refine SW.aload_n C dX10_year_143 rfl 0 rfl ?_
                  refine SW.get (v := .int (oY_136 0 13)) (T := TX10) (N := 25) C inX10_year_X10 0 rfl rfl 13 (by decide) lkX10_year_106 rfl dX10_year_144 ?_
                  refine SW.callVi_same C (ctX10_clashes l D cI cZ qY oY_136 (oY_136 0 12) (oY_136 0 13) _ h) gX10_year_X10_clashes rfl rfl rfl pdX10_clashes ⟨by decide, by decide⟩ 0 rfl rfl rfl rfl rfl (Nat.le_of_ble_eq_true rfl) dX10_year_147 (by decide) (fun r147 u h => ?_)
                  try dsimp only at h
                  refine jn2_elim (G := fun p0_158 p1_158 => SW p l e { frames := 3, cells := 0, slots := 0, locals := 74 } s m args below meth c A D 10 0 0 (MQ below (va_Qi (fun (r : Int32) (u : Ob) => post r u) (ctB D A (fun u : Ob => w10 cI cZ qY u)) A) args s 0 0 A) (w10 cI cZ qY oY_136) 158 [(0, .ref (qY 0)), (2, .int v2), (3, .int v3), (4, .int y78), (6, .int v6_61), (7, .int v7_61)] [.int p0_158, .int p1_158]) h (fun p0_158 p1_158 h => ?_) (fun J158 hJ158 h => ?_)
                  · refine SW.iadd C dX10_year_158 ?_
                    refine SW.istore (lv' := [(5, .int (p1_158 + p0_158)), (0, .ref (qY 0)), (2, .int v2), (3, .int v3), (4, .int y78), (6, .int v6_61), (7, .int v7_61)]) C dX10_year_159 (by decide) rfl ?_
                    refine SW.iload C dX10_year_161 5 rfl ?_
                    refine SW.aload_n C dX10_year_163 rfl 1 rfl ?_
                    refine SW.iconst (v := (0 : Int32)) C dX10_year_164 (by decide) ?_
                    refine SW.aload_n C dX10_year_165 rfl 1 rfl ?_
                    refine SW.get (v := .int (oY_136 0 12)) (T := TX10) (N := 25) C inX10_year_X10 0 rfl rfl 12 (by decide) lkX10_year_109 rfl dX10_year_166 ?_
                    refine SW.aload_n C dX10_year_169 rfl 1 rfl ?_
                    refine SW.get (v := .int (oY_136 0 13)) (T := TX10) (N := 25) C inX10_year_X10 0 rfl rfl 13 (by decide) lkX10_year_106 rfl dX10_year_170 ?_
                    refine SW.callVi_same C (ctX10_lengthOf l D cI cZ qY oY_136 (0 : Int32) (oY_136 0 12) (oY_136 0 13) _ h) gX10_year_X10_lengthOf rfl rfl rfl pdX10_lengthOf ⟨by decide, by decide⟩ 0 rfl rfl rfl rfl rfl (Nat.le_of_ble_eq_true rfl) dX10_year_173 (by decide) (fun r173 u h => ?_)
                    try dsimp only at h
                    refine SW.iadd C dX10_year_176 ?_
                    refine SW.istore (lv' := [(6, .int (v6_61 + r173)), (5, .int (p1_158 + p0_158)), (0, .ref (qY 0)), (2, .int v2), (3, .int v3), (4, .int y78), (7, .int v7_61)]) C dX10_year_177 (by decide) rfl ?_
                    refine SW.iinc (q := 6) (v := (v7_61 + (1 : Int32))) (lv' := [(7, .int (v7_61 + (1 : Int32))), (6, .int (v6_61 + r173)), (5, .int (p1_158 + p0_158)), (0, .ref (qY 0)), (2, .int v2), (3, .int v3), (4, .int y78)]) C dX10_year_179 rfl rfl (by decide) rfl ?_
                    refine SW.goto (tgt := 61) C dX10_year_182 (by decide) ?_
                    refine SW.sub [3, 4, 5, 6, 2, 1, 0] rfl ?_
                    exact ih _ _ _ _ _ h
                  · refine SW.if_eq (tgt := 157) C dX10_year_150 (by decide) (fun hc => ?_) (fun hc => ?_)
                    · replace h := h.1 hc
                      refine SW.iconst (v := (0 : Int32)) C dX10_year_157 (by decide) ?_
                      refine SW.sub [0, 1, 2, 3, 5, 6] rfl ?_
                      exact hJ158 _ _ h
                    · replace h := h.2 hc
                      refine SW.iconst (v := (1 : Int32)) C dX10_year_153 (by decide) ?_
                      refine SW.goto (tgt := 158) C dX10_year_154 (by decide) ?_
                      refine SW.sub [0, 1, 2, 3, 5, 6] rfl ?_
                      exact hJ158 _ _ h
                · refine SW.if_ne (tgt := 136) C dX10_year_127 (by decide) (fun hc => ?_) (fun hc => ?_)
                  · replace h := h.2 hc
                    refine SW.sub [1, 2, 3, 4, 5, 6, 7] rfl ?_
                    exact hJ136 _ h
                  · replace h := h.1 hc
                    refine SW.aload_n C dX10_year_130 rfl 1 rfl ?_
                    refine SW.iload C dX10_year_131 0 rfl ?_
                    refine SW.callVv_same C (ctX10_act l D cI cZ qY oY_61 p0_119 _ h) gX10_year_X10_act rfl rfl rfl pdX10_act ⟨by decide, by decide⟩ 0 rfl rfl rfl rfl rfl (Nat.le_of_ble_eq_true rfl) dX10_year_133 (by decide) (fun u h => ?_)
                    obtain ⟨oY_133, rfl⟩ : ∃ z, z = u := ⟨_, rfl⟩
                    try dsimp only at h
                    refine SW.sub [1, 2, 3, 4, 5, 6, 7] rfl ?_
                    exact hJ136 _ h
              · refine SW.if_ne (tgt := 96) C dX10_year_88 (by decide) (fun hc => ?_) (fun hc => ?_)
                · replace h := h.2 hc
                  refine SW.iload C dX10_year_96 0 rfl ?_
                  refine SW.iconst (v := (1 : Int32)) C dX10_year_98 (by decide) ?_
                  refine SW.icmp_ne (tgt := 107) C dX10_year_99 (by decide) (fun hc => ?_) (fun hc => ?_)
                  · replace h := h.2 hc
                    refine SW.bipush (v := (97 : Int32)) C dX10_year_107 (by decide) ?_
                    refine SW.iload C dX10_year_109 1 rfl ?_
                    refine SW.iconst (v := (5 : Int32)) C dX10_year_111 (by decide) ?_
                    refine SW.idiv C dX10_year_112 (by decide) ?_
                    refine SW.aload_n C dX10_year_113 rfl 2 rfl ?_
                    refine SW.get (v := .int (oY_61 0 0)) (T := TX10) (N := 25) C inX10_year_X10 0 rfl rfl 0 (by decide) lkX10_year_7 rfl dX10_year_114 ?_
                    refine SW.irem C dX10_year_117 h.1 ?_
                    replace h := h.2
                    refine SW.iadd C dX10_year_118 ?_
                    refine SW.sub [2, 3, 4, 1, 5, 6, 7] rfl ?_
                    exact hJ119 _ h
                  · replace h := h.1 hc
                    refine SW.bipush (v := (45 : Int32)) C dX10_year_102 (by decide) ?_
                    refine SW.goto (tgt := 119) C dX10_year_104 (by decide) ?_
                    refine SW.sub [2, 3, 4, 1, 5, 6, 7] rfl ?_
                    exact hJ119 _ h
                · replace h := h.1 hc
                  refine SW.bipush (v := (43 : Int32)) C dX10_year_91 (by decide) ?_
                  refine SW.goto (tgt := 119) C dX10_year_93 (by decide) ?_
                  refine SW.sub [2, 3, 4, 1, 5, 6, 7] rfl ?_
                  exact hJ119 _ h
        obtain ⟨fu, h⟩ := h
        refine SW.sub [4, 6, 7, 3, 2, 1, 0] rfl ?_
        refine L61 _ (fun v5_185 v6_185 oY_185 h => ?_) fu _ _ _ _ _ h
        · refine SW.iload_n C dX10_year_185 rfl 1 rfl ?_
          refine SW.if_ne (tgt := 194) C dX10_year_186 (by decide) (fun hc => ?_) (fun hc => ?_)
          · replace h := h.2 hc
            refine SW.iload_n C dX10_year_194 rfl 1 rfl ?_
            refine SW.iconst (v := (1 : Int32)) C dX10_year_195 (by decide) ?_
            refine SW.icmp_ne (tgt := 204) C dX10_year_196 (by decide) (fun hc => ?_) (fun hc => ?_)
            · replace h := h.2 hc
              refine SW.aload_n C dX10_year_204 rfl 0 rfl ?_
              refine SW.get (v := .int (oY_185 0 12)) (T := TX10) (N := 25) C inX10_year_X10 0 rfl rfl 12 (by decide) lkX10_year_109 rfl dX10_year_205 ?_
              exact SW.iret C oY_185 rfl h dX10_year_208
            · replace h := h.1 hc
              refine SW.iload C dX10_year_199 3 rfl ?_
              refine SW.goto (tgt := 208) C dX10_year_201 (by decide) ?_
              exact SW.iret C oY_185 rfl h dX10_year_208
          · replace h := h.1 hc
            refine SW.iload C dX10_year_189 2 rfl ?_
            refine SW.goto (tgt := 208) C dX10_year_191 (by decide) ?_
            exact SW.iret C oY_185 rfl h dX10_year_208
      · replace h := h.1 hc
        refine SW.bipush (v := (-2 : Int32)) C dX10_year_30 (by decide) ?_
        exact SW.iret C oY rfl h dX10_year_32
def wpX10_image_L19 (c2_19 : Int32) (K62 : Ob → Prop) : Nat → Int32 → Ob → Prop
  | 0, _, _ => False
  | fu19 + 1, v3_19, oY_19 => (((10 : Int32) ≤ v3_19) → K62 oY_19) ∧ (¬ ((10 : Int32) ≤ v3_19) → (vp_in v3_19 10) ∧ ((vp_in (c2_19 + v3_19) 100) ∧ ((vp_in v3_19 10) ∧ (∀ oY_55n : Ob, oY_55n = (pa oY_19 10 (nC (c2_19 + v3_19)) (jld (oY_19 1) v3_19)) → ((vp_in ((c2_19 + (10 : Int32)) + v3_19) 100) ∧ (wpX10_image_L19 c2_19 K62 fu19 (v3_19 + (1 : Int32)) (pa oY_55n 10 (nC ((c2_19 + (10 : Int32)) + v3_19)) (jld (oY_19 2) v3_19))))))))
def wpX10_image_L64 (c2_64 : Int32) (K93 : Ob → Prop) : Nat → Int32 → Ob → Prop
  | 0, _, _ => False
  | fu64 + 1, v3_64, oY_64 => (((16 : Int32) ≤ v3_64) → K93 oY_64) ∧ (¬ ((16 : Int32) ≤ v3_64) → (vp_in v3_64 16) ∧ ((vp_in ((c2_64 + (20 : Int32)) + v3_64) 100) ∧ (wpX10_image_L64 c2_64 K93 fu64 (v3_64 + (1 : Int32)) (pa oY_64 10 (nC ((c2_64 + (20 : Int32)) + v3_64)) (jld (oY_64 3) v3_64)))))
def wpX10_image (oY : Ob) (v1 : Int32) (post : Int32 → Ob → Prop) : Prop := wpX10_in v1 (0 : Int32) (1 : Int32) (fun (r3 : Int32) => ((r3 = 0) → post (-2 : Int32) oY) ∧ (¬ (r3 = 0) → ∃ fu19 : Nat, wpX10_image_L19 ((50 : Int32) * v1) (fun (oY_62 : Ob) => ∃ fu64 : Nat, wpX10_image_L64 ((50 : Int32) * v1) (fun (oY_93 : Ob) => (vp_in (((50 : Int32) * v1) + (40 : Int32)) 100) ∧ (∀ oY_118n : Ob, oY_118n = (pa oY_93 10 (nC (((50 : Int32) * v1) + (40 : Int32))) (oY_93 0 0)) → ((vp_in (((50 : Int32) * v1) + (41 : Int32)) 100) ∧ (∀ oY_131n : Ob, oY_131n = (pa oY_118n 10 (nC (((50 : Int32) * v1) + (41 : Int32))) (oY_93 0 2)) → ((vp_in (((50 : Int32) * v1) + (42 : Int32)) 100) ∧ (∀ oY_144n : Ob, oY_144n = (pa oY_131n 10 (nC (((50 : Int32) * v1) + (42 : Int32))) (oY_118n 0 3)) → ((vp_in (((50 : Int32) * v1) + (43 : Int32)) 100) ∧ (∀ oY_157n : Ob, oY_157n = (pa oY_144n 10 (nC (((50 : Int32) * v1) + (43 : Int32))) (oY_131n 0 4)) → ((vp_in (((50 : Int32) * v1) + (44 : Int32)) 100) ∧ (∀ oY_170n : Ob, oY_170n = (pa oY_157n 10 (nC (((50 : Int32) * v1) + (44 : Int32))) (oY_144n 0 5)) → ((vp_in (((50 : Int32) * v1) + (45 : Int32)) 100) ∧ (∀ oY_183n : Ob, oY_183n = (pa oY_170n 10 (nC (((50 : Int32) * v1) + (45 : Int32))) (oY_157n 0 6)) → ((vp_in (((50 : Int32) * v1) + (46 : Int32)) 100) ∧ (∀ oY_190n : Ob, oY_190n = (pa oY_183n 10 (nC (((50 : Int32) * v1) + (46 : Int32))) (oY_170n 0 8)) → ((vp_in v1 2) ∧ (post (1 : Int32) (pa oY_190n 11 (nC v1) (jb (1 : Int32))))))))))))))))))) fu64 (0 : Int32) oY_62) fu19 (0 : Int32) oY))
theorem pdX10_image : yX10_image.cls = RX10 ∧ yX10_image.cls ≠ "java/lang/invoke/MethodHandle" ∧ yX10_image.cls ≠ "java/lang/invoke/VarHandle" ∧ (parseMethodDescriptor yX10_image.desc).map (fun d => d.parameters.length) = some 1 := by decide +kernel
theorem lkX10_image_51 : Cond.fieldLink RX10 51 (TX10 23).1 (TX10 23).2.1 (TX10 23).2.2.1 ∈ wsX10_image := by decide +kernel
theorem inX10_image_X10 : ∀ w ∈ u_ws RX10 TX10 25, w ∈ wsX10_image := by decide +kernel
theorem lkX10_image_13 : Cond.fieldLink RX10 13 (TX10 1).1 (TX10 1).2.1 (TX10 1).2.2.1 ∈ wsX10_image := by decide +kernel
theorem lkX10_image_26 : Cond.fieldLink RX10 26 (TX10 7).1 (TX10 7).2.1 (TX10 7).2.2.1 ∈ wsX10_image := by decide +kernel
theorem lkX10_image_29 : Cond.fieldLink RX10 29 (TX10 9).1 (TX10 9).2.1 (TX10 9).2.2.1 ∈ wsX10_image := by decide +kernel
theorem lkX10_image_7 : Cond.fieldLink RX10 7 (TX10 0).1 (TX10 0).2.1 (TX10 0).2.2.1 ∈ wsX10_image := by decide +kernel
theorem lkX10_image_17 : Cond.fieldLink RX10 17 (TX10 2).1 (TX10 2).2.1 (TX10 2).2.2.1 ∈ wsX10_image := by decide +kernel
theorem lkX10_image_20 : Cond.fieldLink RX10 20 (TX10 3).1 (TX10 3).2.1 (TX10 3).2.2.1 ∈ wsX10_image := by decide +kernel
theorem lkX10_image_23 : Cond.fieldLink RX10 23 (TX10 4).1 (TX10 4).2.1 (TX10 4).2.2.1 ∈ wsX10_image := by decide +kernel
theorem lkX10_image_60 : Cond.fieldLink RX10 60 (TX10 5).1 (TX10 5).2.1 (TX10 5).2.2.1 ∈ wsX10_image := by decide +kernel
theorem lkX10_image_63 : Cond.fieldLink RX10 63 (TX10 6).1 (TX10 6).2.1 (TX10 6).2.2.1 ∈ wsX10_image := by decide +kernel
theorem lkX10_image_66 : Cond.fieldLink RX10 66 (TX10 8).1 (TX10 8).2.1 (TX10 8).2.2.1 ∈ wsX10_image := by decide +kernel
theorem lkX10_image_54 : Cond.fieldLink RX10 54 (TX10 24).1 (TX10 24).2.1 (TX10 24).2.2.1 ∈ wsX10_image := by decide +kernel
set_option maxHeartbeats 4000000 in
set_option maxRecDepth 100000 in
theorem ctX10_image (l : Launch) (D : va_G) (cI cZ : ClassId) (qY : Nat → Nat) (oY : Ob) (v1 : Int32) (post : Int32 → Ob → Prop) (h : wpX10_image oY v1 post) : CTi l yX10_image wsX10_image { frames := 1, cells := 0, slots := 0, locals := 22 } D [(cI, .int), (cZ, .boolean)] [.ref (qY 0), .int v1] (w10 cI cZ qY oY) (fun u : Ob => w10 cI cZ qY u) (fun (r : Int32) (u : Ob) => post r u) := by
  refine CTi.of (cc := cX10_image) (own := RX10) (maxL := 4) (ret := (some .int)) (lv0 := [(0, .ref (qY 0)), (1, .int v1)]) (by decide) rfl rfl (Nat.le_of_ble_eq_true rfl) rfl ?_
  intro p e s m args below meth c A C
  unfold wpX10_image at h
  refine SW.iload_n C dX10_image_0 rfl 1 rfl ?_
  refine SW.iconst (v := (0 : Int32)) C dX10_image_1 (by decide) ?_
  refine SW.iconst (v := (1 : Int32)) C dX10_image_2 (by decide) ?_
  refine SW.callSi_pure C (ctX10_in l D cI cZ v1 (0 : Int32) (1 : Int32) _ h) gX10_image_X10_in rfl rfl rfl pdX10_in ⟨by decide, by decide⟩ rfl rfl (Nat.le_of_ble_eq_true rfl) dX10_image_3 (by decide) (fun r3 u h => ?_)
  try dsimp only at h
  refine SW.if_ne (tgt := 12) C dX10_image_6 (by decide) (fun hc => ?_) (fun hc => ?_)
  · replace h := h.2 hc
    refine SW.bipush (v := (50 : Int32)) C dX10_image_12 (by decide) ?_
    refine SW.iload_n C dX10_image_14 rfl 1 rfl ?_
    refine SW.imul C dX10_image_15 ?_
    refine SW.istore_n (lv' := [(2, .int ((50 : Int32) * v1)), (0, .ref (qY 0)), (1, .int v1)]) C dX10_image_16 rfl (by decide) rfl ?_
    refine SW.iconst (v := (0 : Int32)) C dX10_image_17 (by decide) ?_
    refine SW.istore_n (lv' := [(3, .int (0 : Int32)), (2, .int ((50 : Int32) * v1)), (0, .ref (qY 0)), (1, .int v1)]) C dX10_image_18 rfl (by decide) rfl ?_
    have L19 : ∀ (K62 : Ob → Prop) (hK62 : ∀ (oY_62 : Ob), K62 oY_62 → SW p l e { frames := 1, cells := 0, slots := 0, locals := 22 } s m args below meth c A D 4 0 0 (MQ below (va_Qi (fun (r : Int32) (u : Ob) => post r u) (ctB D A (fun u : Ob => w10 cI cZ qY u)) A) args s 0 0 A) (w10 cI cZ qY oY_62) 62 [(0, .ref (qY 0)), (1, .int v1), (2, .int ((50 : Int32) * v1))] []) (fu : Nat) (v3_19 : Int32) (oY_19 : Ob), wpX10_image_L19 ((50 : Int32) * v1) K62 fu v3_19 oY_19 → SW p l e { frames := 1, cells := 0, slots := 0, locals := 22 } s m args below meth c A D 4 0 0 (MQ below (va_Qi (fun (r : Int32) (u : Ob) => post r u) (ctB D A (fun u : Ob => w10 cI cZ qY u)) A) args s 0 0 A) (w10 cI cZ qY oY_19) 19 [(0, .ref (qY 0)), (1, .int v1), (2, .int ((50 : Int32) * v1)), (3, .int v3_19)] [] := by
      intro K62 hK62 fu
      induction fu with
      | zero =>
        intro v3_19 oY_19 h
        exact False.elim h
      | succ fu ih =>
        intro v3_19 oY_19 h
        unfold wpX10_image_L19 at h
        refine SW.iload_n C dX10_image_19 rfl 3 rfl ?_
        refine SW.bipush (v := (10 : Int32)) C dX10_image_20 (by decide) ?_
        refine SW.icmp_ge (tgt := 62) C dX10_image_22 (by decide) (fun hc => ?_) (fun hc => ?_)
        · replace h := h.1 hc
          refine SW.sub [0, 1, 2] rfl ?_
          exact hK62 _ h
        · replace h := h.2 hc
          refine SW.aload_n C dX10_image_25 rfl 0 rfl ?_
          refine SW.get (v := .ref (qY 10)) (T := TX10) (N := 25) C inX10_image_X10 0 rfl rfl 23 (by decide) lkX10_image_51 rfl dX10_image_26 ?_
          refine SW.iload_n C dX10_image_29 rfl 2 rfl ?_
          refine SW.iload_n C dX10_image_30 rfl 3 rfl ?_
          refine SW.iadd C dX10_image_31 ?_
          refine SW.aload_n C dX10_image_32 rfl 0 rfl ?_
          refine SW.get (v := .ref (qY 1)) (T := TX10) (N := 25) C inX10_image_X10 0 rfl rfl 1 (by decide) lkX10_image_13 rfl dX10_image_33 ?_
          refine SW.iload_n C dX10_image_36 rfl 3 rfl ?_
          refine SW.iald C 1 0 rfl rfl h.1 dX10_image_37 ?_
          replace h := h.2
          refine SW.iast (ws' := w10 cI cZ qY (pa oY_19 10 (nC (((50 : Int32) * v1) + v3_19)) (jld (oY_19 1) v3_19))) C 10 0 rfl rfl h.1 rfl dX10_image_38 ?_
          replace h := h.2
          refine SW.aload_n C dX10_image_39 rfl 0 rfl ?_
          refine SW.get (v := .ref (qY 10)) (T := TX10) (N := 25) C inX10_image_X10 0 rfl rfl 23 (by decide) lkX10_image_51 rfl dX10_image_40 ?_
          refine SW.iload_n C dX10_image_43 rfl 2 rfl ?_
          refine SW.bipush (v := (10 : Int32)) C dX10_image_44 (by decide) ?_
          refine SW.iadd C dX10_image_46 ?_
          refine SW.iload_n C dX10_image_47 rfl 3 rfl ?_
          refine SW.iadd C dX10_image_48 ?_
          refine SW.aload_n C dX10_image_49 rfl 0 rfl ?_
          refine SW.get (v := .ref (qY 2)) (T := TX10) (N := 25) C inX10_image_X10 0 rfl rfl 7 (by decide) lkX10_image_26 rfl dX10_image_50 ?_
          refine SW.iload_n C dX10_image_53 rfl 3 rfl ?_
          refine SW.iald C 2 0 rfl rfl h.1 dX10_image_54 ?_
          replace h := h.2
          refine SW.nameOb (wz := fun z => w10 cI cZ qY z) (o := (pa oY_19 10 (nC (((50 : Int32) * v1) + v3_19)) (jld (oY_19 1) v3_19))) (fun oY_55n he => ?_)
          replace h := h oY_55n he
          refine SW.iast (ws' := w10 cI cZ qY (pa oY_55n 10 (nC ((((50 : Int32) * v1) + (10 : Int32)) + v3_19)) (jld (oY_19 2) v3_19))) C 10 0 rfl rfl h.1 rfl dX10_image_55 ?_
          replace h := h.2
          refine SW.iinc (q := 3) (v := (v3_19 + (1 : Int32))) (lv' := [(3, .int (v3_19 + (1 : Int32))), (0, .ref (qY 0)), (1, .int v1), (2, .int ((50 : Int32) * v1))]) C dX10_image_56 rfl rfl (by decide) rfl ?_
          refine SW.goto (tgt := 19) C dX10_image_59 (by decide) ?_
          refine SW.sub [1, 2, 3, 0] rfl ?_
          exact ih _ _ h
    obtain ⟨fu, h⟩ := h
    refine SW.sub [2, 3, 1, 0] rfl ?_
    refine L19 _ (fun oY_62 h => ?_) fu _ _ h
    · refine SW.iconst (v := (0 : Int32)) C dX10_image_62 (by decide) ?_
      refine SW.istore_n (lv' := [(3, .int (0 : Int32)), (0, .ref (qY 0)), (1, .int v1), (2, .int ((50 : Int32) * v1))]) C dX10_image_63 rfl (by decide) rfl ?_
      have L64 : ∀ (K93 : Ob → Prop) (hK93 : ∀ (oY_93 : Ob), K93 oY_93 → SW p l e { frames := 1, cells := 0, slots := 0, locals := 22 } s m args below meth c A D 4 0 0 (MQ below (va_Qi (fun (r : Int32) (u : Ob) => post r u) (ctB D A (fun u : Ob => w10 cI cZ qY u)) A) args s 0 0 A) (w10 cI cZ qY oY_93) 93 [(0, .ref (qY 0)), (1, .int v1), (2, .int ((50 : Int32) * v1))] []) (fu : Nat) (v3_64 : Int32) (oY_64 : Ob), wpX10_image_L64 ((50 : Int32) * v1) K93 fu v3_64 oY_64 → SW p l e { frames := 1, cells := 0, slots := 0, locals := 22 } s m args below meth c A D 4 0 0 (MQ below (va_Qi (fun (r : Int32) (u : Ob) => post r u) (ctB D A (fun u : Ob => w10 cI cZ qY u)) A) args s 0 0 A) (w10 cI cZ qY oY_64) 64 [(0, .ref (qY 0)), (1, .int v1), (2, .int ((50 : Int32) * v1)), (3, .int v3_64)] [] := by
        intro K93 hK93 fu
        induction fu with
        | zero =>
          intro v3_64 oY_64 h
          exact False.elim h
        | succ fu ih =>
          intro v3_64 oY_64 h
          unfold wpX10_image_L64 at h
          refine SW.iload_n C dX10_image_64 rfl 3 rfl ?_
          refine SW.bipush (v := (16 : Int32)) C dX10_image_65 (by decide) ?_
          refine SW.icmp_ge (tgt := 93) C dX10_image_67 (by decide) (fun hc => ?_) (fun hc => ?_)
          · replace h := h.1 hc
            refine SW.sub [0, 1, 2] rfl ?_
            exact hK93 _ h
          · replace h := h.2 hc
            refine SW.aload_n C dX10_image_70 rfl 0 rfl ?_
            refine SW.get (v := .ref (qY 10)) (T := TX10) (N := 25) C inX10_image_X10 0 rfl rfl 23 (by decide) lkX10_image_51 rfl dX10_image_71 ?_
            refine SW.iload_n C dX10_image_74 rfl 2 rfl ?_
            refine SW.bipush (v := (20 : Int32)) C dX10_image_75 (by decide) ?_
            refine SW.iadd C dX10_image_77 ?_
            refine SW.iload_n C dX10_image_78 rfl 3 rfl ?_
            refine SW.iadd C dX10_image_79 ?_
            refine SW.aload_n C dX10_image_80 rfl 0 rfl ?_
            refine SW.get (v := .ref (qY 3)) (T := TX10) (N := 25) C inX10_image_X10 0 rfl rfl 9 (by decide) lkX10_image_29 rfl dX10_image_81 ?_
            refine SW.iload_n C dX10_image_84 rfl 3 rfl ?_
            refine SW.iald C 3 0 rfl rfl h.1 dX10_image_85 ?_
            replace h := h.2
            refine SW.iast (ws' := w10 cI cZ qY (pa oY_64 10 (nC ((((50 : Int32) * v1) + (20 : Int32)) + v3_64)) (jld (oY_64 3) v3_64))) C 10 0 rfl rfl h.1 rfl dX10_image_86 ?_
            replace h := h.2
            refine SW.iinc (q := 3) (v := (v3_64 + (1 : Int32))) (lv' := [(3, .int (v3_64 + (1 : Int32))), (0, .ref (qY 0)), (1, .int v1), (2, .int ((50 : Int32) * v1))]) C dX10_image_87 rfl rfl (by decide) rfl ?_
            refine SW.goto (tgt := 64) C dX10_image_90 (by decide) ?_
            refine SW.sub [1, 2, 3, 0] rfl ?_
            exact ih _ _ h
      obtain ⟨fu, h⟩ := h
      refine SW.sub [1, 2, 3, 0] rfl ?_
      refine L64 _ (fun oY_93 h => ?_) fu _ _ h
      · refine SW.aload_n C dX10_image_93 rfl 0 rfl ?_
        refine SW.get (v := .ref (qY 10)) (T := TX10) (N := 25) C inX10_image_X10 0 rfl rfl 23 (by decide) lkX10_image_51 rfl dX10_image_94 ?_
        refine SW.iload_n C dX10_image_97 rfl 2 rfl ?_
        refine SW.bipush (v := (40 : Int32)) C dX10_image_98 (by decide) ?_
        refine SW.iadd C dX10_image_100 ?_
        refine SW.aload_n C dX10_image_101 rfl 0 rfl ?_
        refine SW.get (v := .int (oY_93 0 0)) (T := TX10) (N := 25) C inX10_image_X10 0 rfl rfl 0 (by decide) lkX10_image_7 rfl dX10_image_102 ?_
        refine SW.iast (ws' := w10 cI cZ qY (pa oY_93 10 (nC (((50 : Int32) * v1) + (40 : Int32))) (oY_93 0 0))) C 10 0 rfl rfl h.1 rfl dX10_image_105 ?_
        replace h := h.2
        refine SW.aload_n C dX10_image_106 rfl 0 rfl ?_
        refine SW.get (v := .ref (qY 10)) (T := TX10) (N := 25) C inX10_image_X10 0 rfl rfl 23 (by decide) lkX10_image_51 rfl dX10_image_107 ?_
        refine SW.iload_n C dX10_image_110 rfl 2 rfl ?_
        refine SW.bipush (v := (41 : Int32)) C dX10_image_111 (by decide) ?_
        refine SW.iadd C dX10_image_113 ?_
        refine SW.aload_n C dX10_image_114 rfl 0 rfl ?_
        refine SW.get (v := .int (oY_93 0 2)) (T := TX10) (N := 25) C inX10_image_X10 0 rfl rfl 2 (by decide) lkX10_image_17 rfl dX10_image_115 ?_
        refine SW.nameOb (wz := fun z => w10 cI cZ qY z) (o := (pa oY_93 10 (nC (((50 : Int32) * v1) + (40 : Int32))) (oY_93 0 0))) (fun oY_118n he => ?_)
        replace h := h oY_118n he
        refine SW.iast (ws' := w10 cI cZ qY (pa oY_118n 10 (nC (((50 : Int32) * v1) + (41 : Int32))) (oY_93 0 2))) C 10 0 rfl rfl h.1 rfl dX10_image_118 ?_
        replace h := h.2
        refine SW.aload_n C dX10_image_119 rfl 0 rfl ?_
        refine SW.get (v := .ref (qY 10)) (T := TX10) (N := 25) C inX10_image_X10 0 rfl rfl 23 (by decide) lkX10_image_51 rfl dX10_image_120 ?_
        refine SW.iload_n C dX10_image_123 rfl 2 rfl ?_
        refine SW.bipush (v := (42 : Int32)) C dX10_image_124 (by decide) ?_
        refine SW.iadd C dX10_image_126 ?_
        refine SW.aload_n C dX10_image_127 rfl 0 rfl ?_
        refine SW.get (v := .int (oY_118n 0 3)) (T := TX10) (N := 25) C inX10_image_X10 0 rfl rfl 3 (by decide) lkX10_image_20 rfl dX10_image_128 ?_
        refine SW.nameOb (wz := fun z => w10 cI cZ qY z) (o := (pa oY_118n 10 (nC (((50 : Int32) * v1) + (41 : Int32))) (oY_93 0 2))) (fun oY_131n he => ?_)
        replace h := h oY_131n he
        refine SW.iast (ws' := w10 cI cZ qY (pa oY_131n 10 (nC (((50 : Int32) * v1) + (42 : Int32))) (oY_118n 0 3))) C 10 0 rfl rfl h.1 rfl dX10_image_131 ?_
        replace h := h.2
        refine SW.aload_n C dX10_image_132 rfl 0 rfl ?_
        refine SW.get (v := .ref (qY 10)) (T := TX10) (N := 25) C inX10_image_X10 0 rfl rfl 23 (by decide) lkX10_image_51 rfl dX10_image_133 ?_
        refine SW.iload_n C dX10_image_136 rfl 2 rfl ?_
        refine SW.bipush (v := (43 : Int32)) C dX10_image_137 (by decide) ?_
        refine SW.iadd C dX10_image_139 ?_
        refine SW.aload_n C dX10_image_140 rfl 0 rfl ?_
        refine SW.get (v := .int (oY_131n 0 4)) (T := TX10) (N := 25) C inX10_image_X10 0 rfl rfl 4 (by decide) lkX10_image_23 rfl dX10_image_141 ?_
        refine SW.nameOb (wz := fun z => w10 cI cZ qY z) (o := (pa oY_131n 10 (nC (((50 : Int32) * v1) + (42 : Int32))) (oY_118n 0 3))) (fun oY_144n he => ?_)
        replace h := h oY_144n he
        refine SW.iast (ws' := w10 cI cZ qY (pa oY_144n 10 (nC (((50 : Int32) * v1) + (43 : Int32))) (oY_131n 0 4))) C 10 0 rfl rfl h.1 rfl dX10_image_144 ?_
        replace h := h.2
        refine SW.aload_n C dX10_image_145 rfl 0 rfl ?_
        refine SW.get (v := .ref (qY 10)) (T := TX10) (N := 25) C inX10_image_X10 0 rfl rfl 23 (by decide) lkX10_image_51 rfl dX10_image_146 ?_
        refine SW.iload_n C dX10_image_149 rfl 2 rfl ?_
        refine SW.bipush (v := (44 : Int32)) C dX10_image_150 (by decide) ?_
        refine SW.iadd C dX10_image_152 ?_
        refine SW.aload_n C dX10_image_153 rfl 0 rfl ?_
        refine SW.get (v := .int (oY_144n 0 5)) (T := TX10) (N := 25) C inX10_image_X10 0 rfl rfl 5 (by decide) lkX10_image_60 rfl dX10_image_154 ?_
        refine SW.nameOb (wz := fun z => w10 cI cZ qY z) (o := (pa oY_144n 10 (nC (((50 : Int32) * v1) + (43 : Int32))) (oY_131n 0 4))) (fun oY_157n he => ?_)
        replace h := h oY_157n he
        refine SW.iast (ws' := w10 cI cZ qY (pa oY_157n 10 (nC (((50 : Int32) * v1) + (44 : Int32))) (oY_144n 0 5))) C 10 0 rfl rfl h.1 rfl dX10_image_157 ?_
        replace h := h.2
        refine SW.aload_n C dX10_image_158 rfl 0 rfl ?_
        refine SW.get (v := .ref (qY 10)) (T := TX10) (N := 25) C inX10_image_X10 0 rfl rfl 23 (by decide) lkX10_image_51 rfl dX10_image_159 ?_
        refine SW.iload_n C dX10_image_162 rfl 2 rfl ?_
        refine SW.bipush (v := (45 : Int32)) C dX10_image_163 (by decide) ?_
        refine SW.iadd C dX10_image_165 ?_
        refine SW.aload_n C dX10_image_166 rfl 0 rfl ?_
        refine SW.get (v := .int (oY_157n 0 6)) (T := TX10) (N := 25) C inX10_image_X10 0 rfl rfl 6 (by decide) lkX10_image_63 rfl dX10_image_167 ?_
        refine SW.nameOb (wz := fun z => w10 cI cZ qY z) (o := (pa oY_157n 10 (nC (((50 : Int32) * v1) + (44 : Int32))) (oY_144n 0 5))) (fun oY_170n he => ?_)
        replace h := h oY_170n he
        refine SW.iast (ws' := w10 cI cZ qY (pa oY_170n 10 (nC (((50 : Int32) * v1) + (45 : Int32))) (oY_157n 0 6))) C 10 0 rfl rfl h.1 rfl dX10_image_170 ?_
        replace h := h.2
        refine SW.aload_n C dX10_image_171 rfl 0 rfl ?_
        refine SW.get (v := .ref (qY 10)) (T := TX10) (N := 25) C inX10_image_X10 0 rfl rfl 23 (by decide) lkX10_image_51 rfl dX10_image_172 ?_
        refine SW.iload_n C dX10_image_175 rfl 2 rfl ?_
        refine SW.bipush (v := (46 : Int32)) C dX10_image_176 (by decide) ?_
        refine SW.iadd C dX10_image_178 ?_
        refine SW.aload_n C dX10_image_179 rfl 0 rfl ?_
        refine SW.get (v := .int (oY_170n 0 8)) (T := TX10) (N := 25) C inX10_image_X10 0 rfl rfl 8 (by decide) lkX10_image_66 rfl dX10_image_180 ?_
        refine SW.nameOb (wz := fun z => w10 cI cZ qY z) (o := (pa oY_170n 10 (nC (((50 : Int32) * v1) + (45 : Int32))) (oY_157n 0 6))) (fun oY_183n he => ?_)
        replace h := h oY_183n he
        refine SW.iast (ws' := w10 cI cZ qY (pa oY_183n 10 (nC (((50 : Int32) * v1) + (46 : Int32))) (oY_170n 0 8))) C 10 0 rfl rfl h.1 rfl dX10_image_183 ?_
        replace h := h.2
        refine SW.aload_n C dX10_image_184 rfl 0 rfl ?_
        refine SW.get (v := .ref (qY 11)) (T := TX10) (N := 25) C inX10_image_X10 0 rfl rfl 24 (by decide) lkX10_image_54 rfl dX10_image_185 ?_
        refine SW.iload_n C dX10_image_188 rfl 1 rfl ?_
        refine SW.iconst (v := (1 : Int32)) C dX10_image_189 (by decide) ?_
        refine SW.nameOb (wz := fun z => w10 cI cZ qY z) (o := (pa oY_183n 10 (nC (((50 : Int32) * v1) + (46 : Int32))) (oY_170n 0 8))) (fun oY_190n he => ?_)
        replace h := h oY_190n he
        refine SW.zast (ws' := w10 cI cZ qY (pa oY_190n 11 (nC v1) (jb (1 : Int32)))) C 11 1 rfl rfl h.1 rfl dX10_image_190 ?_
        replace h := h.2
        refine SW.iconst (v := (1 : Int32)) C dX10_image_191 (by decide) ?_
        exact SW.iret C (pa oY_190n 11 (nC v1) (jb (1 : Int32))) rfl h dX10_image_192
  · replace h := h.1 hc
    refine SW.bipush (v := (-2 : Int32)) C dX10_image_9 (by decide) ?_
    exact SW.iret C oY rfl h dX10_image_11
def wpX10_restore_L31 (c2_31 : Int32) (K74 : Ob → Prop) : Nat → Int32 → Ob → Prop
  | 0, _, _ => False
  | fu31 + 1, v3_31, oY_31 => (((10 : Int32) ≤ v3_31) → K74 oY_31) ∧ (¬ ((10 : Int32) ≤ v3_31) → (vp_in (c2_31 + v3_31) 100) ∧ ((vp_in v3_31 10) ∧ ((vp_in ((c2_31 + (10 : Int32)) + v3_31) 100) ∧ (∀ oY_67n : Ob, oY_67n = (pa oY_31 1 (nC v3_31) (jld (oY_31 10) (c2_31 + v3_31))) → ((vp_in v3_31 10) ∧ (wpX10_restore_L31 c2_31 K74 fu31 (v3_31 + (1 : Int32)) (pa oY_67n 2 (nC v3_31) (jld (oY_31 10) ((c2_31 + (10 : Int32)) + v3_31)))))))))
def wpX10_restore_L76 (c2_76 : Int32) (K105 : Ob → Prop) : Nat → Int32 → Ob → Prop
  | 0, _, _ => False
  | fu76 + 1, v3_76, oY_76 => (((16 : Int32) ≤ v3_76) → K105 oY_76) ∧ (¬ ((16 : Int32) ≤ v3_76) → (vp_in ((c2_76 + (20 : Int32)) + v3_76) 100) ∧ ((vp_in v3_76 16) ∧ (wpX10_restore_L76 c2_76 K105 fu76 (v3_76 + (1 : Int32)) (pa oY_76 3 (nC v3_76) (jld (oY_76 10) ((c2_76 + (20 : Int32)) + v3_76))))))
def wpX10_restore (oY : Ob) (v1 : Int32) (post : Int32 → Ob → Prop) : Prop := wpX10_in v1 (0 : Int32) (1 : Int32) (fun (r3 : Int32) => ((r3 = 0) → post (-2 : Int32) oY) ∧ (¬ (r3 = 0) → (vp_in v1 2) ∧ ((((jld (oY 11) v1) = 0) → post (-3 : Int32) oY) ∧ (¬ ((jld (oY 11) v1) = 0) → ∃ fu31 : Nat, wpX10_restore_L31 ((50 : Int32) * v1) (fun (oY_74 : Ob) => ∃ fu76 : Nat, wpX10_restore_L76 ((50 : Int32) * v1) (fun (oY_105 : Ob) => (vp_in (((50 : Int32) * v1) + (40 : Int32)) 100) ∧ ((vp_in (((50 : Int32) * v1) + (41 : Int32)) 100) ∧ (∀ oY_128n : Ob, oY_128n = (pf oY_105 0 (jld (oY_105 10) (((50 : Int32) * v1) + (40 : Int32)))) → ((vp_in (((50 : Int32) * v1) + (42 : Int32)) 100) ∧ (∀ oY_141n : Ob, oY_141n = (pf oY_128n 2 (jld (oY_105 10) (((50 : Int32) * v1) + (41 : Int32)))) → ((vp_in (((50 : Int32) * v1) + (43 : Int32)) 100) ∧ (∀ oY_154n : Ob, oY_154n = (pf oY_141n 3 (jld (oY_128n 10) (((50 : Int32) * v1) + (42 : Int32)))) → ((vp_in (((50 : Int32) * v1) + (44 : Int32)) 100) ∧ (∀ oY_167n : Ob, oY_167n = (pf oY_154n 4 (jld (oY_141n 10) (((50 : Int32) * v1) + (43 : Int32)))) → ((vp_in (((50 : Int32) * v1) + (45 : Int32)) 100) ∧ (∀ oY_180n : Ob, oY_180n = (pf oY_167n 5 (jld (oY_154n 10) (((50 : Int32) * v1) + (44 : Int32)))) → ((vp_in (((50 : Int32) * v1) + (46 : Int32)) 100) ∧ (∀ oY_193n : Ob, oY_193n = (pf oY_180n 6 (jld (oY_167n 10) (((50 : Int32) * v1) + (45 : Int32)))) → (post (1 : Int32) (pf oY_193n 8 (jld (oY_180n 10) (((50 : Int32) * v1) + (46 : Int32)))))))))))))))))) fu76 (0 : Int32) oY_74) fu31 (0 : Int32) oY))))
theorem pdX10_restore : yX10_restore.cls = RX10 ∧ yX10_restore.cls ≠ "java/lang/invoke/MethodHandle" ∧ yX10_restore.cls ≠ "java/lang/invoke/VarHandle" ∧ (parseMethodDescriptor yX10_restore.desc).map (fun d => d.parameters.length) = some 1 := by decide +kernel
theorem lkX10_restore_54 : Cond.fieldLink RX10 54 (TX10 24).1 (TX10 24).2.1 (TX10 24).2.2.1 ∈ wsX10_restore := by decide +kernel
theorem inX10_restore_X10 : ∀ w ∈ u_ws RX10 TX10 25, w ∈ wsX10_restore := by decide +kernel
theorem lkX10_restore_13 : Cond.fieldLink RX10 13 (TX10 1).1 (TX10 1).2.1 (TX10 1).2.2.1 ∈ wsX10_restore := by decide +kernel
theorem lkX10_restore_51 : Cond.fieldLink RX10 51 (TX10 23).1 (TX10 23).2.1 (TX10 23).2.2.1 ∈ wsX10_restore := by decide +kernel
theorem lkX10_restore_26 : Cond.fieldLink RX10 26 (TX10 7).1 (TX10 7).2.1 (TX10 7).2.2.1 ∈ wsX10_restore := by decide +kernel
theorem lkX10_restore_29 : Cond.fieldLink RX10 29 (TX10 9).1 (TX10 9).2.1 (TX10 9).2.2.1 ∈ wsX10_restore := by decide +kernel
theorem lkX10_restore_7 : Cond.fieldLink RX10 7 (TX10 0).1 (TX10 0).2.1 (TX10 0).2.2.1 ∈ wsX10_restore := by decide +kernel
theorem lkX10_restore_17 : Cond.fieldLink RX10 17 (TX10 2).1 (TX10 2).2.1 (TX10 2).2.2.1 ∈ wsX10_restore := by decide +kernel
theorem lkX10_restore_20 : Cond.fieldLink RX10 20 (TX10 3).1 (TX10 3).2.1 (TX10 3).2.2.1 ∈ wsX10_restore := by decide +kernel
theorem lkX10_restore_23 : Cond.fieldLink RX10 23 (TX10 4).1 (TX10 4).2.1 (TX10 4).2.2.1 ∈ wsX10_restore := by decide +kernel
theorem lkX10_restore_60 : Cond.fieldLink RX10 60 (TX10 5).1 (TX10 5).2.1 (TX10 5).2.2.1 ∈ wsX10_restore := by decide +kernel
theorem lkX10_restore_63 : Cond.fieldLink RX10 63 (TX10 6).1 (TX10 6).2.1 (TX10 6).2.2.1 ∈ wsX10_restore := by decide +kernel
theorem lkX10_restore_66 : Cond.fieldLink RX10 66 (TX10 8).1 (TX10 8).2.1 (TX10 8).2.2.1 ∈ wsX10_restore := by decide +kernel
set_option maxHeartbeats 4000000 in
set_option maxRecDepth 100000 in
theorem ctX10_restore (l : Launch) (D : va_G) (cI cZ : ClassId) (qY : Nat → Nat) (oY : Ob) (v1 : Int32) (post : Int32 → Ob → Prop) (h : wpX10_restore oY v1 post) : CTi l yX10_restore wsX10_restore { frames := 1, cells := 0, slots := 0, locals := 22 } D [(cI, .int), (cZ, .boolean)] [.ref (qY 0), .int v1] (w10 cI cZ qY oY) (fun u : Ob => w10 cI cZ qY u) (fun (r : Int32) (u : Ob) => post r u) := by
  refine CTi.of (cc := cX10_restore) (own := RX10) (maxL := 4) (ret := (some .int)) (lv0 := [(0, .ref (qY 0)), (1, .int v1)]) (by decide) rfl rfl (Nat.le_of_ble_eq_true rfl) rfl ?_
  intro p e s m args below meth c A C
  unfold wpX10_restore at h
  refine SW.iload_n C dX10_restore_0 rfl 1 rfl ?_
  refine SW.iconst (v := (0 : Int32)) C dX10_restore_1 (by decide) ?_
  refine SW.iconst (v := (1 : Int32)) C dX10_restore_2 (by decide) ?_
  refine SW.callSi_pure C (ctX10_in l D cI cZ v1 (0 : Int32) (1 : Int32) _ h) gX10_restore_X10_in rfl rfl rfl pdX10_in ⟨by decide, by decide⟩ rfl rfl (Nat.le_of_ble_eq_true rfl) dX10_restore_3 (by decide) (fun r3 u h => ?_)
  try dsimp only at h
  refine SW.if_ne (tgt := 12) C dX10_restore_6 (by decide) (fun hc => ?_) (fun hc => ?_)
  · replace h := h.2 hc
    refine SW.aload_n C dX10_restore_12 rfl 0 rfl ?_
    refine SW.get (v := .ref (qY 11)) (T := TX10) (N := 25) C inX10_restore_X10 0 rfl rfl 24 (by decide) lkX10_restore_54 rfl dX10_restore_13 ?_
    refine SW.iload_n C dX10_restore_16 rfl 1 rfl ?_
    refine SW.zald C 11 1 rfl rfl h.1 dX10_restore_17 ?_
    replace h := h.2
    refine SW.if_ne (tgt := 24) C dX10_restore_18 (by decide) (fun hc => ?_) (fun hc => ?_)
    · replace h := h.2 hc
      refine SW.bipush (v := (50 : Int32)) C dX10_restore_24 (by decide) ?_
      refine SW.iload_n C dX10_restore_26 rfl 1 rfl ?_
      refine SW.imul C dX10_restore_27 ?_
      refine SW.istore_n (lv' := [(2, .int ((50 : Int32) * v1)), (0, .ref (qY 0)), (1, .int v1)]) C dX10_restore_28 rfl (by decide) rfl ?_
      refine SW.iconst (v := (0 : Int32)) C dX10_restore_29 (by decide) ?_
      refine SW.istore_n (lv' := [(3, .int (0 : Int32)), (2, .int ((50 : Int32) * v1)), (0, .ref (qY 0)), (1, .int v1)]) C dX10_restore_30 rfl (by decide) rfl ?_
      have L31 : ∀ (K74 : Ob → Prop) (hK74 : ∀ (oY_74 : Ob), K74 oY_74 → SW p l e { frames := 1, cells := 0, slots := 0, locals := 22 } s m args below meth c A D 4 0 0 (MQ below (va_Qi (fun (r : Int32) (u : Ob) => post r u) (ctB D A (fun u : Ob => w10 cI cZ qY u)) A) args s 0 0 A) (w10 cI cZ qY oY_74) 74 [(0, .ref (qY 0)), (2, .int ((50 : Int32) * v1))] []) (fu : Nat) (v3_31 : Int32) (oY_31 : Ob), wpX10_restore_L31 ((50 : Int32) * v1) K74 fu v3_31 oY_31 → SW p l e { frames := 1, cells := 0, slots := 0, locals := 22 } s m args below meth c A D 4 0 0 (MQ below (va_Qi (fun (r : Int32) (u : Ob) => post r u) (ctB D A (fun u : Ob => w10 cI cZ qY u)) A) args s 0 0 A) (w10 cI cZ qY oY_31) 31 [(0, .ref (qY 0)), (2, .int ((50 : Int32) * v1)), (3, .int v3_31)] [] := by
        intro K74 hK74 fu
        induction fu with
        | zero =>
          intro v3_31 oY_31 h
          exact False.elim h
        | succ fu ih =>
          intro v3_31 oY_31 h
          unfold wpX10_restore_L31 at h
          refine SW.iload_n C dX10_restore_31 rfl 2 rfl ?_
          refine SW.bipush (v := (10 : Int32)) C dX10_restore_32 (by decide) ?_
          refine SW.icmp_ge (tgt := 74) C dX10_restore_34 (by decide) (fun hc => ?_) (fun hc => ?_)
          · replace h := h.1 hc
            refine SW.sub [0, 1] rfl ?_
            exact hK74 _ h
          · replace h := h.2 hc
            refine SW.aload_n C dX10_restore_37 rfl 0 rfl ?_
            refine SW.get (v := .ref (qY 1)) (T := TX10) (N := 25) C inX10_restore_X10 0 rfl rfl 1 (by decide) lkX10_restore_13 rfl dX10_restore_38 ?_
            refine SW.iload_n C dX10_restore_41 rfl 2 rfl ?_
            refine SW.aload_n C dX10_restore_42 rfl 0 rfl ?_
            refine SW.get (v := .ref (qY 10)) (T := TX10) (N := 25) C inX10_restore_X10 0 rfl rfl 23 (by decide) lkX10_restore_51 rfl dX10_restore_43 ?_
            refine SW.iload_n C dX10_restore_46 rfl 1 rfl ?_
            refine SW.iload_n C dX10_restore_47 rfl 2 rfl ?_
            refine SW.iadd C dX10_restore_48 ?_
            refine SW.iald C 10 0 rfl rfl h.1 dX10_restore_49 ?_
            replace h := h.2
            refine SW.iast (ws' := w10 cI cZ qY (pa oY_31 1 (nC v3_31) (jld (oY_31 10) (((50 : Int32) * v1) + v3_31)))) C 1 0 rfl rfl h.1 rfl dX10_restore_50 ?_
            replace h := h.2
            refine SW.aload_n C dX10_restore_51 rfl 0 rfl ?_
            refine SW.get (v := .ref (qY 2)) (T := TX10) (N := 25) C inX10_restore_X10 0 rfl rfl 7 (by decide) lkX10_restore_26 rfl dX10_restore_52 ?_
            refine SW.iload_n C dX10_restore_55 rfl 2 rfl ?_
            refine SW.aload_n C dX10_restore_56 rfl 0 rfl ?_
            refine SW.get (v := .ref (qY 10)) (T := TX10) (N := 25) C inX10_restore_X10 0 rfl rfl 23 (by decide) lkX10_restore_51 rfl dX10_restore_57 ?_
            refine SW.iload_n C dX10_restore_60 rfl 1 rfl ?_
            refine SW.bipush (v := (10 : Int32)) C dX10_restore_61 (by decide) ?_
            refine SW.iadd C dX10_restore_63 ?_
            refine SW.iload_n C dX10_restore_64 rfl 2 rfl ?_
            refine SW.iadd C dX10_restore_65 ?_
            refine SW.iald C 10 0 rfl rfl h.1 dX10_restore_66 ?_
            replace h := h.2
            refine SW.nameOb (wz := fun z => w10 cI cZ qY z) (o := (pa oY_31 1 (nC v3_31) (jld (oY_31 10) (((50 : Int32) * v1) + v3_31)))) (fun oY_67n he => ?_)
            replace h := h oY_67n he
            refine SW.iast (ws' := w10 cI cZ qY (pa oY_67n 2 (nC v3_31) (jld (oY_31 10) ((((50 : Int32) * v1) + (10 : Int32)) + v3_31)))) C 2 0 rfl rfl h.1 rfl dX10_restore_67 ?_
            replace h := h.2
            refine SW.iinc (q := 2) (v := (v3_31 + (1 : Int32))) (lv' := [(3, .int (v3_31 + (1 : Int32))), (0, .ref (qY 0)), (2, .int ((50 : Int32) * v1))]) C dX10_restore_68 rfl rfl (by decide) rfl ?_
            refine SW.goto (tgt := 31) C dX10_restore_71 (by decide) ?_
            refine SW.sub [1, 2, 0] rfl ?_
            exact ih _ _ h
      obtain ⟨fu, h⟩ := h
      refine SW.sub [2, 1, 0] rfl ?_
      refine L31 _ (fun oY_74 h => ?_) fu _ _ h
      · refine SW.iconst (v := (0 : Int32)) C dX10_restore_74 (by decide) ?_
        refine SW.istore_n (lv' := [(3, .int (0 : Int32)), (0, .ref (qY 0)), (2, .int ((50 : Int32) * v1))]) C dX10_restore_75 rfl (by decide) rfl ?_
        have L76 : ∀ (K105 : Ob → Prop) (hK105 : ∀ (oY_105 : Ob), K105 oY_105 → SW p l e { frames := 1, cells := 0, slots := 0, locals := 22 } s m args below meth c A D 4 0 0 (MQ below (va_Qi (fun (r : Int32) (u : Ob) => post r u) (ctB D A (fun u : Ob => w10 cI cZ qY u)) A) args s 0 0 A) (w10 cI cZ qY oY_105) 105 [(0, .ref (qY 0)), (2, .int ((50 : Int32) * v1))] []) (fu : Nat) (v3_76 : Int32) (oY_76 : Ob), wpX10_restore_L76 ((50 : Int32) * v1) K105 fu v3_76 oY_76 → SW p l e { frames := 1, cells := 0, slots := 0, locals := 22 } s m args below meth c A D 4 0 0 (MQ below (va_Qi (fun (r : Int32) (u : Ob) => post r u) (ctB D A (fun u : Ob => w10 cI cZ qY u)) A) args s 0 0 A) (w10 cI cZ qY oY_76) 76 [(0, .ref (qY 0)), (2, .int ((50 : Int32) * v1)), (3, .int v3_76)] [] := by
          intro K105 hK105 fu
          induction fu with
          | zero =>
            intro v3_76 oY_76 h
            exact False.elim h
          | succ fu ih =>
            intro v3_76 oY_76 h
            unfold wpX10_restore_L76 at h
            refine SW.iload_n C dX10_restore_76 rfl 2 rfl ?_
            refine SW.bipush (v := (16 : Int32)) C dX10_restore_77 (by decide) ?_
            refine SW.icmp_ge (tgt := 105) C dX10_restore_79 (by decide) (fun hc => ?_) (fun hc => ?_)
            · replace h := h.1 hc
              refine SW.sub [0, 1] rfl ?_
              exact hK105 _ h
            · replace h := h.2 hc
              refine SW.aload_n C dX10_restore_82 rfl 0 rfl ?_
              refine SW.get (v := .ref (qY 3)) (T := TX10) (N := 25) C inX10_restore_X10 0 rfl rfl 9 (by decide) lkX10_restore_29 rfl dX10_restore_83 ?_
              refine SW.iload_n C dX10_restore_86 rfl 2 rfl ?_
              refine SW.aload_n C dX10_restore_87 rfl 0 rfl ?_
              refine SW.get (v := .ref (qY 10)) (T := TX10) (N := 25) C inX10_restore_X10 0 rfl rfl 23 (by decide) lkX10_restore_51 rfl dX10_restore_88 ?_
              refine SW.iload_n C dX10_restore_91 rfl 1 rfl ?_
              refine SW.bipush (v := (20 : Int32)) C dX10_restore_92 (by decide) ?_
              refine SW.iadd C dX10_restore_94 ?_
              refine SW.iload_n C dX10_restore_95 rfl 2 rfl ?_
              refine SW.iadd C dX10_restore_96 ?_
              refine SW.iald C 10 0 rfl rfl h.1 dX10_restore_97 ?_
              replace h := h.2
              refine SW.iast (ws' := w10 cI cZ qY (pa oY_76 3 (nC v3_76) (jld (oY_76 10) ((((50 : Int32) * v1) + (20 : Int32)) + v3_76)))) C 3 0 rfl rfl h.1 rfl dX10_restore_98 ?_
              replace h := h.2
              refine SW.iinc (q := 2) (v := (v3_76 + (1 : Int32))) (lv' := [(3, .int (v3_76 + (1 : Int32))), (0, .ref (qY 0)), (2, .int ((50 : Int32) * v1))]) C dX10_restore_99 rfl rfl (by decide) rfl ?_
              refine SW.goto (tgt := 76) C dX10_restore_102 (by decide) ?_
              refine SW.sub [1, 2, 0] rfl ?_
              exact ih _ _ h
        obtain ⟨fu, h⟩ := h
        refine SW.sub [1, 2, 0] rfl ?_
        refine L76 _ (fun oY_105 h => ?_) fu _ _ h
        · refine SW.aload_n C dX10_restore_105 rfl 0 rfl ?_
          refine SW.aload_n C dX10_restore_106 rfl 0 rfl ?_
          refine SW.get (v := .ref (qY 10)) (T := TX10) (N := 25) C inX10_restore_X10 0 rfl rfl 23 (by decide) lkX10_restore_51 rfl dX10_restore_107 ?_
          refine SW.iload_n C dX10_restore_110 rfl 1 rfl ?_
          refine SW.bipush (v := (40 : Int32)) C dX10_restore_111 (by decide) ?_
          refine SW.iadd C dX10_restore_113 ?_
          refine SW.iald C 10 0 rfl rfl h.1 dX10_restore_114 ?_
          replace h := h.2
          refine SW.put (ws' := w10 cI cZ qY (pf oY_105 0 (jld (oY_105 10) (((50 : Int32) * v1) + (40 : Int32))))) (T := TX10) (N := 25) C inX10_restore_X10 tyX10 tyX10_ok nmX10 0 rfl rfl 0 (by decide) lkX10_restore_7 rfl rfl rfl (Nat.le_of_ble_eq_true rfl) rfl dX10_restore_115 ?_
          refine SW.aload_n C dX10_restore_118 rfl 0 rfl ?_
          refine SW.aload_n C dX10_restore_119 rfl 0 rfl ?_
          refine SW.get (v := .ref (qY 10)) (T := TX10) (N := 25) C inX10_restore_X10 0 rfl rfl 23 (by decide) lkX10_restore_51 rfl dX10_restore_120 ?_
          refine SW.iload_n C dX10_restore_123 rfl 1 rfl ?_
          refine SW.bipush (v := (41 : Int32)) C dX10_restore_124 (by decide) ?_
          refine SW.iadd C dX10_restore_126 ?_
          refine SW.iald C 10 0 rfl rfl h.1 dX10_restore_127 ?_
          replace h := h.2
          refine SW.nameOb (wz := fun z => w10 cI cZ qY z) (o := (pf oY_105 0 (jld (oY_105 10) (((50 : Int32) * v1) + (40 : Int32))))) (fun oY_128n he => ?_)
          replace h := h oY_128n he
          refine SW.put (ws' := w10 cI cZ qY (pf oY_128n 2 (jld (oY_105 10) (((50 : Int32) * v1) + (41 : Int32))))) (T := TX10) (N := 25) C inX10_restore_X10 tyX10 tyX10_ok nmX10 0 rfl rfl 2 (by decide) lkX10_restore_17 rfl rfl rfl (Nat.le_of_ble_eq_true rfl) rfl dX10_restore_128 ?_
          refine SW.aload_n C dX10_restore_131 rfl 0 rfl ?_
          refine SW.aload_n C dX10_restore_132 rfl 0 rfl ?_
          refine SW.get (v := .ref (qY 10)) (T := TX10) (N := 25) C inX10_restore_X10 0 rfl rfl 23 (by decide) lkX10_restore_51 rfl dX10_restore_133 ?_
          refine SW.iload_n C dX10_restore_136 rfl 1 rfl ?_
          refine SW.bipush (v := (42 : Int32)) C dX10_restore_137 (by decide) ?_
          refine SW.iadd C dX10_restore_139 ?_
          refine SW.iald C 10 0 rfl rfl h.1 dX10_restore_140 ?_
          replace h := h.2
          refine SW.nameOb (wz := fun z => w10 cI cZ qY z) (o := (pf oY_128n 2 (jld (oY_105 10) (((50 : Int32) * v1) + (41 : Int32))))) (fun oY_141n he => ?_)
          replace h := h oY_141n he
          refine SW.put (ws' := w10 cI cZ qY (pf oY_141n 3 (jld (oY_128n 10) (((50 : Int32) * v1) + (42 : Int32))))) (T := TX10) (N := 25) C inX10_restore_X10 tyX10 tyX10_ok nmX10 0 rfl rfl 3 (by decide) lkX10_restore_20 rfl rfl rfl (Nat.le_of_ble_eq_true rfl) rfl dX10_restore_141 ?_
          refine SW.aload_n C dX10_restore_144 rfl 0 rfl ?_
          refine SW.aload_n C dX10_restore_145 rfl 0 rfl ?_
          refine SW.get (v := .ref (qY 10)) (T := TX10) (N := 25) C inX10_restore_X10 0 rfl rfl 23 (by decide) lkX10_restore_51 rfl dX10_restore_146 ?_
          refine SW.iload_n C dX10_restore_149 rfl 1 rfl ?_
          refine SW.bipush (v := (43 : Int32)) C dX10_restore_150 (by decide) ?_
          refine SW.iadd C dX10_restore_152 ?_
          refine SW.iald C 10 0 rfl rfl h.1 dX10_restore_153 ?_
          replace h := h.2
          refine SW.nameOb (wz := fun z => w10 cI cZ qY z) (o := (pf oY_141n 3 (jld (oY_128n 10) (((50 : Int32) * v1) + (42 : Int32))))) (fun oY_154n he => ?_)
          replace h := h oY_154n he
          refine SW.put (ws' := w10 cI cZ qY (pf oY_154n 4 (jld (oY_141n 10) (((50 : Int32) * v1) + (43 : Int32))))) (T := TX10) (N := 25) C inX10_restore_X10 tyX10 tyX10_ok nmX10 0 rfl rfl 4 (by decide) lkX10_restore_23 rfl rfl rfl (Nat.le_of_ble_eq_true rfl) rfl dX10_restore_154 ?_
          refine SW.aload_n C dX10_restore_157 rfl 0 rfl ?_
          refine SW.aload_n C dX10_restore_158 rfl 0 rfl ?_
          refine SW.get (v := .ref (qY 10)) (T := TX10) (N := 25) C inX10_restore_X10 0 rfl rfl 23 (by decide) lkX10_restore_51 rfl dX10_restore_159 ?_
          refine SW.iload_n C dX10_restore_162 rfl 1 rfl ?_
          refine SW.bipush (v := (44 : Int32)) C dX10_restore_163 (by decide) ?_
          refine SW.iadd C dX10_restore_165 ?_
          refine SW.iald C 10 0 rfl rfl h.1 dX10_restore_166 ?_
          replace h := h.2
          refine SW.nameOb (wz := fun z => w10 cI cZ qY z) (o := (pf oY_154n 4 (jld (oY_141n 10) (((50 : Int32) * v1) + (43 : Int32))))) (fun oY_167n he => ?_)
          replace h := h oY_167n he
          refine SW.put (ws' := w10 cI cZ qY (pf oY_167n 5 (jld (oY_154n 10) (((50 : Int32) * v1) + (44 : Int32))))) (T := TX10) (N := 25) C inX10_restore_X10 tyX10 tyX10_ok nmX10 0 rfl rfl 5 (by decide) lkX10_restore_60 rfl rfl rfl (Nat.le_of_ble_eq_true rfl) rfl dX10_restore_167 ?_
          refine SW.aload_n C dX10_restore_170 rfl 0 rfl ?_
          refine SW.aload_n C dX10_restore_171 rfl 0 rfl ?_
          refine SW.get (v := .ref (qY 10)) (T := TX10) (N := 25) C inX10_restore_X10 0 rfl rfl 23 (by decide) lkX10_restore_51 rfl dX10_restore_172 ?_
          refine SW.iload_n C dX10_restore_175 rfl 1 rfl ?_
          refine SW.bipush (v := (45 : Int32)) C dX10_restore_176 (by decide) ?_
          refine SW.iadd C dX10_restore_178 ?_
          refine SW.iald C 10 0 rfl rfl h.1 dX10_restore_179 ?_
          replace h := h.2
          refine SW.nameOb (wz := fun z => w10 cI cZ qY z) (o := (pf oY_167n 5 (jld (oY_154n 10) (((50 : Int32) * v1) + (44 : Int32))))) (fun oY_180n he => ?_)
          replace h := h oY_180n he
          refine SW.put (ws' := w10 cI cZ qY (pf oY_180n 6 (jld (oY_167n 10) (((50 : Int32) * v1) + (45 : Int32))))) (T := TX10) (N := 25) C inX10_restore_X10 tyX10 tyX10_ok nmX10 0 rfl rfl 6 (by decide) lkX10_restore_63 rfl rfl rfl (Nat.le_of_ble_eq_true rfl) rfl dX10_restore_180 ?_
          refine SW.aload_n C dX10_restore_183 rfl 0 rfl ?_
          refine SW.aload_n C dX10_restore_184 rfl 0 rfl ?_
          refine SW.get (v := .ref (qY 10)) (T := TX10) (N := 25) C inX10_restore_X10 0 rfl rfl 23 (by decide) lkX10_restore_51 rfl dX10_restore_185 ?_
          refine SW.iload_n C dX10_restore_188 rfl 1 rfl ?_
          refine SW.bipush (v := (46 : Int32)) C dX10_restore_189 (by decide) ?_
          refine SW.iadd C dX10_restore_191 ?_
          refine SW.iald C 10 0 rfl rfl h.1 dX10_restore_192 ?_
          replace h := h.2
          refine SW.nameOb (wz := fun z => w10 cI cZ qY z) (o := (pf oY_180n 6 (jld (oY_167n 10) (((50 : Int32) * v1) + (45 : Int32))))) (fun oY_193n he => ?_)
          replace h := h oY_193n he
          refine SW.put (ws' := w10 cI cZ qY (pf oY_193n 8 (jld (oY_180n 10) (((50 : Int32) * v1) + (46 : Int32))))) (T := TX10) (N := 25) C inX10_restore_X10 tyX10 tyX10_ok nmX10 0 rfl rfl 8 (by decide) lkX10_restore_66 rfl rfl rfl (Nat.le_of_ble_eq_true rfl) rfl dX10_restore_193 ?_
          refine SW.iconst (v := (1 : Int32)) C dX10_restore_196 (by decide) ?_
          exact SW.iret C (pf oY_193n 8 (jld (oY_180n 10) (((50 : Int32) * v1) + (46 : Int32)))) rfl h dX10_restore_197
    · replace h := h.1 hc
      refine SW.bipush (v := (-3 : Int32)) C dX10_restore_21 (by decide) ?_
      exact SW.iret C oY rfl h dX10_restore_23
  · replace h := h.1 hc
    refine SW.bipush (v := (-2 : Int32)) C dX10_restore_9 (by decide) ?_
    exact SW.iret C oY rfl h dX10_restore_11
def wpX10_told (oY : Ob) (v1 : Int32) (post : Int32 → Prop) : Prop := ((v1 < (10 : Int32)) → ((v1 = (0 : Int32)) → post (oY 0 10)) ∧ ((v1 = (1 : Int32)) → post (oY 0 0)) ∧ ((v1 = (2 : Int32)) → post (oY 0 2)) ∧ ((v1 = (3 : Int32)) → post (oY 0 3)) ∧ ((v1 = (4 : Int32)) → post (oY 0 4)) ∧ ((v1 = (5 : Int32)) → post (oY 0 5)) ∧ ((v1 = (6 : Int32)) → post (oY 0 6)) ∧ (¬ v1 = (0 : Int32) → ¬ v1 = (1 : Int32) → ¬ v1 = (2 : Int32) → ¬ v1 = (3 : Int32) → ¬ v1 = (4 : Int32) → ¬ v1 = (5 : Int32) → ¬ v1 = (6 : Int32) → (((v1 = (7 : Int32)) → post (oY 0 8)) ∧ (¬ (v1 = (7 : Int32)) → post (-2 : Int32))))) ∧ (¬ (v1 < (10 : Int32)) → wpX10_isWindow oY (v1 - (10 : Int32)) (fun (r11 : Int32) => ((r11 = 0) → post (-2 : Int32)) ∧ (¬ (r11 = 0) → (vp_in (v1 - (10 : Int32)) 10) ∧ (post (jld (oY 1) (v1 - (10 : Int32)))))))
theorem pdX10_told : yX10_told.cls = RX10 ∧ yX10_told.cls ≠ "java/lang/invoke/MethodHandle" ∧ yX10_told.cls ≠ "java/lang/invoke/VarHandle" ∧ (parseMethodDescriptor yX10_told.desc).map (fun d => d.parameters.length) = some 1 := by decide +kernel
theorem lkX10_told_77 : Cond.fieldLink RX10 77 (TX10 10).1 (TX10 10).2.1 (TX10 10).2.2.1 ∈ wsX10_told := by decide +kernel
theorem inX10_told_X10 : ∀ w ∈ u_ws RX10 TX10 25, w ∈ wsX10_told := by decide +kernel
theorem lkX10_told_7 : Cond.fieldLink RX10 7 (TX10 0).1 (TX10 0).2.1 (TX10 0).2.2.1 ∈ wsX10_told := by decide +kernel
theorem lkX10_told_17 : Cond.fieldLink RX10 17 (TX10 2).1 (TX10 2).2.1 (TX10 2).2.2.1 ∈ wsX10_told := by decide +kernel
theorem lkX10_told_20 : Cond.fieldLink RX10 20 (TX10 3).1 (TX10 3).2.1 (TX10 3).2.2.1 ∈ wsX10_told := by decide +kernel
theorem lkX10_told_23 : Cond.fieldLink RX10 23 (TX10 4).1 (TX10 4).2.1 (TX10 4).2.2.1 ∈ wsX10_told := by decide +kernel
theorem lkX10_told_60 : Cond.fieldLink RX10 60 (TX10 5).1 (TX10 5).2.1 (TX10 5).2.2.1 ∈ wsX10_told := by decide +kernel
theorem lkX10_told_63 : Cond.fieldLink RX10 63 (TX10 6).1 (TX10 6).2.1 (TX10 6).2.2.1 ∈ wsX10_told := by decide +kernel
theorem lkX10_told_66 : Cond.fieldLink RX10 66 (TX10 8).1 (TX10 8).2.1 (TX10 8).2.2.1 ∈ wsX10_told := by decide +kernel
theorem lkX10_told_13 : Cond.fieldLink RX10 13 (TX10 1).1 (TX10 1).2.1 (TX10 1).2.2.1 ∈ wsX10_told := by decide +kernel
set_option maxHeartbeats 4000000 in
set_option maxRecDepth 100000 in
theorem ctX10_told (l : Launch) (D : va_G) (cI cZ : ClassId) (qY : Nat → Nat) (oY : Ob) (v1 : Int32) (post : Int32 → Prop) (h : wpX10_told oY v1 post) : CTi l yX10_told wsX10_told { frames := 2, cells := 0, slots := 0, locals := 43 } D [(cI, .int), (cZ, .boolean)] [.ref (qY 0), .int v1] (w10 cI cZ qY oY) (fun _ : Unit => w10 cI cZ qY oY) (fun (r : Int32) (_ : Unit) => post r) := by
  refine CTi.of (cc := cX10_told) (own := RX10) (maxL := 2) (ret := (some .int)) (lv0 := [(0, .ref (qY 0)), (1, .int v1)]) (by decide) rfl rfl (Nat.le_of_ble_eq_true rfl) rfl ?_
  intro p e s m args below meth c A C
  unfold wpX10_told at h
  refine SW.iload_n C dX10_told_0 rfl 1 rfl ?_
  refine SW.bipush (v := (10 : Int32)) C dX10_told_1 (by decide) ?_
  refine SW.icmp_lt (tgt := 32) C dX10_told_3 (by decide) (fun hc => ?_) (fun hc => ?_)
  · replace h := h.1 hc
    refine SW.iload_n C dX10_told_32 rfl 1 rfl ?_
    by_cases hs0 : v1 = (0 : Int32)
    · replace h := h.1 hs0
      refine SW.tableIn (tgt := 76) (off := 43) C dX10_told_33 (by rw [hs0]; decide) (by rw [hs0]; decide) (by rw [hs0]; rfl) (by decide) ?_
      refine SW.aload_n C dX10_told_76 rfl 0 rfl ?_
      refine SW.get (v := .int (oY 0 10)) (T := TX10) (N := 25) C inX10_told_X10 0 rfl rfl 10 (by decide) lkX10_told_77 rfl dX10_told_77 ?_
      exact SW.iret C () rfl h dX10_told_80
    by_cases hs1 : v1 = (1 : Int32)
    · replace h := h.2.1 hs1
      refine SW.tableIn (tgt := 81) (off := 48) C dX10_told_33 (by rw [hs1]; decide) (by rw [hs1]; decide) (by rw [hs1]; rfl) (by decide) ?_
      refine SW.aload_n C dX10_told_81 rfl 0 rfl ?_
      refine SW.get (v := .int (oY 0 0)) (T := TX10) (N := 25) C inX10_told_X10 0 rfl rfl 0 (by decide) lkX10_told_7 rfl dX10_told_82 ?_
      exact SW.iret C () rfl h dX10_told_85
    by_cases hs2 : v1 = (2 : Int32)
    · replace h := h.2.2.1 hs2
      refine SW.tableIn (tgt := 86) (off := 53) C dX10_told_33 (by rw [hs2]; decide) (by rw [hs2]; decide) (by rw [hs2]; rfl) (by decide) ?_
      refine SW.aload_n C dX10_told_86 rfl 0 rfl ?_
      refine SW.get (v := .int (oY 0 2)) (T := TX10) (N := 25) C inX10_told_X10 0 rfl rfl 2 (by decide) lkX10_told_17 rfl dX10_told_87 ?_
      exact SW.iret C () rfl h dX10_told_90
    by_cases hs3 : v1 = (3 : Int32)
    · replace h := h.2.2.2.1 hs3
      refine SW.tableIn (tgt := 91) (off := 58) C dX10_told_33 (by rw [hs3]; decide) (by rw [hs3]; decide) (by rw [hs3]; rfl) (by decide) ?_
      refine SW.aload_n C dX10_told_91 rfl 0 rfl ?_
      refine SW.get (v := .int (oY 0 3)) (T := TX10) (N := 25) C inX10_told_X10 0 rfl rfl 3 (by decide) lkX10_told_20 rfl dX10_told_92 ?_
      exact SW.iret C () rfl h dX10_told_95
    by_cases hs4 : v1 = (4 : Int32)
    · replace h := h.2.2.2.2.1 hs4
      refine SW.tableIn (tgt := 96) (off := 63) C dX10_told_33 (by rw [hs4]; decide) (by rw [hs4]; decide) (by rw [hs4]; rfl) (by decide) ?_
      refine SW.aload_n C dX10_told_96 rfl 0 rfl ?_
      refine SW.get (v := .int (oY 0 4)) (T := TX10) (N := 25) C inX10_told_X10 0 rfl rfl 4 (by decide) lkX10_told_23 rfl dX10_told_97 ?_
      exact SW.iret C () rfl h dX10_told_100
    by_cases hs5 : v1 = (5 : Int32)
    · replace h := h.2.2.2.2.2.1 hs5
      refine SW.tableIn (tgt := 101) (off := 68) C dX10_told_33 (by rw [hs5]; decide) (by rw [hs5]; decide) (by rw [hs5]; rfl) (by decide) ?_
      refine SW.aload_n C dX10_told_101 rfl 0 rfl ?_
      refine SW.get (v := .int (oY 0 5)) (T := TX10) (N := 25) C inX10_told_X10 0 rfl rfl 5 (by decide) lkX10_told_60 rfl dX10_told_102 ?_
      exact SW.iret C () rfl h dX10_told_105
    by_cases hs6 : v1 = (6 : Int32)
    · replace h := h.2.2.2.2.2.2.1 hs6
      refine SW.tableIn (tgt := 106) (off := 73) C dX10_told_33 (by rw [hs6]; decide) (by rw [hs6]; decide) (by rw [hs6]; rfl) (by decide) ?_
      refine SW.aload_n C dX10_told_106 rfl 0 rfl ?_
      refine SW.get (v := .int (oY 0 6)) (T := TX10) (N := 25) C inX10_told_X10 0 rfl rfl 6 (by decide) lkX10_told_63 rfl dX10_told_107 ?_
      exact SW.iret C () rfl h dX10_told_110
    replace h := h.2.2.2.2.2.2.2 hs0 hs1 hs2 hs3 hs4 hs5 hs6
    refine SW.tableOut (tgt := 111) C dX10_told_33 (by have e0 := sw_ne hs0; have e1 := sw_ne hs1; have e2 := sw_ne hs2; have e3 := sw_ne hs3; have e4 := sw_ne hs4; have e5 := sw_ne hs5; have e6 := sw_ne hs6; simp only [Int32.reduceToInt] at e0 e1 e2 e3 e4 e5 e6; omega) (by decide) ?_
    refine SW.iload_n C dX10_told_111 rfl 1 rfl ?_
    refine SW.bipush (v := (7 : Int32)) C dX10_told_112 (by decide) ?_
    refine SW.icmp_ne (tgt := 124) C dX10_told_114 (by decide) (fun hc => ?_) (fun hc => ?_)
    · replace h := h.2 hc
      refine SW.bipush (v := (-2 : Int32)) C dX10_told_124 (by decide) ?_
      exact SW.iret C () rfl h dX10_told_126
    · replace h := h.1 hc
      refine SW.aload_n C dX10_told_117 rfl 0 rfl ?_
      refine SW.get (v := .int (oY 0 8)) (T := TX10) (N := 25) C inX10_told_X10 0 rfl rfl 8 (by decide) lkX10_told_66 rfl dX10_told_118 ?_
      refine SW.goto (tgt := 126) C dX10_told_121 (by decide) ?_
      exact SW.iret C () rfl h dX10_told_126
  · replace h := h.2 hc
    refine SW.aload_n C dX10_told_6 rfl 0 rfl ?_
    refine SW.iload_n C dX10_told_7 rfl 1 rfl ?_
    refine SW.bipush (v := (10 : Int32)) C dX10_told_8 (by decide) ?_
    refine SW.isub C dX10_told_10 ?_
    refine SW.callVi_same C (ctX10_isWindow l D cI cZ qY oY (v1 - (10 : Int32)) _ h) gX10_told_X10_isWindow rfl rfl rfl pdX10_isWindow ⟨by decide, by decide⟩ 0 rfl rfl rfl rfl rfl (Nat.le_of_ble_eq_true rfl) dX10_told_11 (by decide) (fun r11 u h => ?_)
    try dsimp only at h
    refine SW.if_eq (tgt := 29) C dX10_told_14 (by decide) (fun hc => ?_) (fun hc => ?_)
    · replace h := h.1 hc
      refine SW.bipush (v := (-2 : Int32)) C dX10_told_29 (by decide) ?_
      exact SW.iret C () rfl h dX10_told_31
    · replace h := h.2 hc
      refine SW.aload_n C dX10_told_17 rfl 0 rfl ?_
      refine SW.get (v := .ref (qY 1)) (T := TX10) (N := 25) C inX10_told_X10 0 rfl rfl 1 (by decide) lkX10_told_13 rfl dX10_told_18 ?_
      refine SW.iload_n C dX10_told_21 rfl 1 rfl ?_
      refine SW.bipush (v := (10 : Int32)) C dX10_told_22 (by decide) ?_
      refine SW.isub C dX10_told_24 ?_
      refine SW.iald C 1 0 rfl rfl h.1 dX10_told_25 ?_
      replace h := h.2
      refine SW.goto (tgt := 31) C dX10_told_26 (by decide) ?_
      exact SW.iret C () rfl h dX10_told_31
