def wpX7_playTune_L17 (c2_17 : Int32) (c4_17 : Int32) (oSc_17 : Ob) (K79 : Ob → Prop) : Nat → Int32 → Ob → Prop
  | 0, _, _ => False
  | fu17 + 1, v5_17, oK_17 => ((c4_17 ≤ v5_17) → K79 oK_17) ∧ (¬ (c4_17 ≤ v5_17) → wpX8_allows oSc_17 v5_17 (fun (r33 : Int32) => jn2 (fun (p0_50 : Int32) (p1_50 : Int32) => (vp_in p1_50 1024) ∧ (jn2 (fun (p0_72 : Int32) (p1_72 : Int32) => ∀ oK_72n : Ob, oK_72n = (pa oK_17 1 (nC p1_50) p0_50) → ((vp_in p1_72 1024) ∧ (wpX7_playTune_L17 c2_17 c4_17 oSc_17 K79 fu17 (v5_17 + (1 : Int32)) (pa oK_72n 2 (nC p1_72) p0_72)))) (fun J72 => ((v5_17 = (oSc_17 0 5)) → J72 (0 : Int32) v5_17) ∧ (¬ (v5_17 = (oSc_17 0 5)) → J72 (1000000 : Int32) v5_17)))) (fun J50 => ((r33 = 0) → J50 (0 : Int32) v5_17) ∧ (¬ (r33 = 0) → wpX8_lengthAt oSc_17 c2_17 v5_17 (fun (r43 : Int32) => J50 r43 v5_17)))))
def wpX7_playTune_L82 (c4_82 : Int32) (oSc_82 : Ob) (oPc_82 : Ob) (K119 : Ob → Prop) : Nat → Int32 → Ob → Prop
  | 0, _, _ => False
  | fu82 + 1, v5_82, oK_82 => wpX5_toneCount oPc_82 (fun (r85 : Int32) => ((r85 ≤ v5_82) → K119 oK_82) ∧ (¬ (r85 ≤ v5_82) → wpX7_spreadCosts oK_82 (oSc_82 0 0) c4_82 (fun (oK_98 : Ob) => wpX5_toneAt oPc_82 v5_82 (fun (r105 : Int32) => wpX7_keepTone oK_98 r105 c4_82 (fun (oK_110 : Ob) => wpX7_playTune_L82 c4_82 oSc_82 oPc_82 K119 fu82 (v5_82 + (1 : Int32)) oK_110)))))
def wpX7_playTune (oS : Ob) (oP : Ob) (oK : Ob) (v2 : Int32) (post : Ob → Prop) : Prop := ∀ y12 : Int32, y12 = (jmin (jshl (1 : Int32) (oS 0 0)) (1024 : Int32)) → (∃ fu17 : Nat, wpX7_playTune_L17 v2 y12 oS (fun (oK_79 : Ob) => ∃ fu82 : Nat, wpX7_playTune_L82 y12 oS oP (fun (oK_119 : Ob) => wpX7_chooseLast oK_119 y12 (fun (oK_122 : Ob) => post oK_122)) fu82 (0 : Int32) oK_79) fu17 (0 : Int32) oK)
theorem pdX7_playTune : yX7_playTune.cls = RX7 ∧ yX7_playTune.cls ≠ "java/lang/invoke/MethodHandle" ∧ yX7_playTune.cls ≠ "java/lang/invoke/VarHandle" ∧ (parseMethodDescriptor yX7_playTune.desc).map (fun d => d.parameters.length) = some 3 := by decide +kernel
theorem lkX7_playTune_31 : Cond.fieldLink RX7 31 (TX8 0).1 (TX8 0).2.1 (TX8 0).2.2.1 ∈ wsX7_playTune := by decide +kernel
theorem inX7_playTune_X8 : ∀ w ∈ u_ws RX8 TX8 13, w ∈ wsX7_playTune := by decide +kernel
theorem lkX7_playTune_9 : Cond.fieldLink RX7 9 (TX7 0).1 (TX7 0).2.1 (TX7 0).2.2.1 ∈ wsX7_playTune := by decide +kernel
theorem inX7_playTune_X7 : ∀ w ∈ u_ws RX7 TX7 7, w ∈ wsX7_playTune := by decide +kernel
theorem lkX7_playTune_15 : Cond.fieldLink RX7 15 (TX7 1).1 (TX7 1).2.1 (TX7 1).2.2.1 ∈ wsX7_playTune := by decide +kernel
theorem lkX7_playTune_53 : Cond.fieldLink RX7 53 (TX8 5).1 (TX8 5).2.1 (TX8 5).2.2.1 ∈ wsX7_playTune := by decide +kernel
set_option maxHeartbeats 4000000 in
set_option maxRecDepth 100000 in
theorem ctX7_playTune (l : Launch) (D : va_G) (cI cZ : ClassId) (qS : Nat → Nat) (qP : Nat → Nat) (qK : Nat → Nat) (oS : Ob) (oP : Ob) (oK : Ob) (v2 : Int32) (post : Ob → Prop) (h : wpX7_playTune oS oP oK v2 post) : CTv l yX7_playTune wsX7_playTune { frames := 3, cells := 0, slots := 0, locals := 66 } D [(cI, .int), (cZ, .boolean)] [.ref (qK 0), .ref (qS 0), .int v2, .ref (qP 0)] (w8 cI cZ qS oS ++ w5 cI cZ qP oP ++ w7 cI cZ qK oK) (fun u : Ob => w8 cI cZ qS oS ++ w5 cI cZ qP oP ++ w7 cI cZ qK u) (fun (u : Ob) => post u) := by
  refine CTv.of (cc := cX7_playTune) (own := RX7) (maxL := 6) (ret := none) (lv0 := [(0, .ref (qK 0)), (1, .ref (qS 0)), (2, .int v2), (3, .ref (qP 0))]) (by decide) rfl rfl (Nat.le_of_ble_eq_true rfl) rfl ?_
  intro p e s m args below meth c A C
  unfold wpX7_playTune at h
  refine SW.iconst (v := (1 : Int32)) C dX7_playTune_0 (by decide) ?_
  refine SW.aload_n C dX7_playTune_1 rfl 1 rfl ?_
  refine SW.get (v := .int (oS 0 0)) (T := TX8) (N := 13) C inX7_playTune_X8 0 rfl rfl 0 (by decide) lkX7_playTune_31 rfl dX7_playTune_2 ?_
  refine SW.ishl C dX7_playTune_5 ?_
  refine SW.sipush (v := (1024 : Int32)) C dX7_playTune_6 (by decide) ?_
  refine SW.mmin C (by decide +kernel) (by decide +kernel) (by decide +kernel) (by decide +kernel) (by decide) (Nat.le_of_ble_eq_true rfl) (by decide) (by decide) dX7_playTune_9 ?_
  refine SW.topi (fun y12 he => ?_)
  replace h := h y12 he
  refine SW.istore (lv' := [(4, .int y12), (0, .ref (qK 0)), (1, .ref (qS 0)), (2, .int v2), (3, .ref (qP 0))]) C dX7_playTune_12 (by decide) rfl ?_
  refine SW.iconst (v := (0 : Int32)) C dX7_playTune_14 (by decide) ?_
  refine SW.istore (lv' := [(5, .int (0 : Int32)), (4, .int y12), (0, .ref (qK 0)), (1, .ref (qS 0)), (2, .int v2), (3, .ref (qP 0))]) C dX7_playTune_15 (by decide) rfl ?_
  have L17 : ∀ (K79 : Ob → Prop) (hK79 : ∀ (oK_79 : Ob), K79 oK_79 → SW p l e { frames := 3, cells := 0, slots := 0, locals := 66 } s m args below meth c A D 6 0 0 (MQ below (va_Qv (fun (u : Ob) => post u) (ctB D A (fun u : Ob => w8 cI cZ qS oS ++ w5 cI cZ qP oP ++ w7 cI cZ qK u)) A) args s 0 0 A) (w8 cI cZ qS oS ++ w5 cI cZ qP oP ++ w7 cI cZ qK oK_79) 79 [(0, .ref (qK 0)), (1, .ref (qS 0)), (3, .ref (qP 0)), (4, .int y12)] []) (fu : Nat) (v5_17 : Int32) (oK_17 : Ob), wpX7_playTune_L17 v2 y12 oS K79 fu v5_17 oK_17 → SW p l e { frames := 3, cells := 0, slots := 0, locals := 66 } s m args below meth c A D 6 0 0 (MQ below (va_Qv (fun (u : Ob) => post u) (ctB D A (fun u : Ob => w8 cI cZ qS oS ++ w5 cI cZ qP oP ++ w7 cI cZ qK u)) A) args s 0 0 A) (w8 cI cZ qS oS ++ w5 cI cZ qP oP ++ w7 cI cZ qK oK_17) 17 [(0, .ref (qK 0)), (1, .ref (qS 0)), (2, .int v2), (3, .ref (qP 0)), (4, .int y12), (5, .int v5_17)] [] := by
    intro K79 hK79 fu
    induction fu with
    | zero =>
      intro v5_17 oK_17 h
      exact False.elim h
    | succ fu ih =>
      intro v5_17 oK_17 h
      unfold wpX7_playTune_L17 at h
      refine SW.iload C dX7_playTune_17 5 rfl ?_
      refine SW.iload C dX7_playTune_19 4 rfl ?_
      refine SW.icmp_ge (tgt := 79) C dX7_playTune_21 (by decide) (fun hc => ?_) (fun hc => ?_)
      · replace h := h.1 hc
        refine SW.sub [0, 1, 3, 4] rfl ?_
        exact hK79 _ h
      · replace h := h.2 hc
        refine SW.aload_n C dX7_playTune_24 rfl 0 rfl ?_
        refine SW.get (v := .ref (qK 1)) (T := TX7) (N := 7) C inX7_playTune_X7 9 rfl rfl 0 (by decide) lkX7_playTune_9 rfl dX7_playTune_25 ?_
        refine SW.iload C dX7_playTune_28 5 rfl ?_
        refine SW.aload_n C dX7_playTune_30 rfl 1 rfl ?_
        refine SW.iload C dX7_playTune_31 5 rfl ?_
        refine SW.callVi_sub (wr := w5 cI cZ qP oP ++ w7 cI cZ qK oK_17) (wn := fun u : Unit => w8 cI cZ qS oS ++ w5 cI cZ qP oP ++ w7 cI cZ qK oK_17) C (ctX8_allows l D cI cZ qS oS v5_17 _ h) gX7_playTune_X8_allows rfl rfl rfl pdX8_allows ⟨by decide, by decide⟩ [0, 1, 2, 3, 4, 5, 6] [7, 8, 9, 10, 11, 12] [6, 7, 8, 9, 10, 11, 12, 0, 1, 2, 3, 4, 5] rfl rfl (by decide) (by decide) (by decide) (by decide) (fun _ => rfl) 0 rfl rfl rfl rfl rfl (Nat.le_of_ble_eq_true rfl) dX7_playTune_33 (by decide) (fun r33 u h => ?_)
        try dsimp only at h
        refine jn2_elim (G := fun p0_50 p1_50 => SW p l e { frames := 3, cells := 0, slots := 0, locals := 66 } s m args below meth c A D 6 0 0 (MQ below (va_Qv (fun (u : Ob) => post u) (ctB D A (fun u : Ob => w8 cI cZ qS oS ++ w5 cI cZ qP oP ++ w7 cI cZ qK u)) A) args s 0 0 A) (w8 cI cZ qS oS ++ w5 cI cZ qP oP ++ w7 cI cZ qK oK_17) 50 [(0, .ref (qK 0)), (1, .ref (qS 0)), (2, .int v2), (3, .ref (qP 0)), (4, .int y12), (5, .int v5_17)] [.int p0_50, .int p1_50, .ref (qK 1)]) h (fun p0_50 p1_50 h => ?_) (fun J50 hJ50 h => ?_)
        · refine SW.iast (ws' := w8 cI cZ qS oS ++ w5 cI cZ qP oP ++ w7 cI cZ qK (pa oK_17 1 (nC p1_50) p0_50)) C 10 0 rfl rfl h.1 rfl dX7_playTune_50 ?_
          replace h := h.2
          refine SW.aload_n C dX7_playTune_51 rfl 0 rfl ?_
          refine SW.get (v := .ref (qK 2)) (T := TX7) (N := 7) C inX7_playTune_X7 9 rfl rfl 1 (by decide) lkX7_playTune_15 rfl dX7_playTune_52 ?_
          refine SW.iload C dX7_playTune_55 5 rfl ?_
          refine SW.iload C dX7_playTune_57 5 rfl ?_
          refine SW.aload_n C dX7_playTune_59 rfl 1 rfl ?_
          refine SW.get (v := .int (oS 0 5)) (T := TX8) (N := 13) C inX7_playTune_X8 0 rfl rfl 5 (by decide) lkX7_playTune_53 rfl dX7_playTune_60 ?_
          refine jn2_elim (G := fun p0_72 p1_72 => SW p l e { frames := 3, cells := 0, slots := 0, locals := 66 } s m args below meth c A D 6 0 0 (MQ below (va_Qv (fun (u : Ob) => post u) (ctB D A (fun u : Ob => w8 cI cZ qS oS ++ w5 cI cZ qP oP ++ w7 cI cZ qK u)) A) args s 0 0 A) (w8 cI cZ qS oS ++ w5 cI cZ qP oP ++ w7 cI cZ qK (pa oK_17 1 (nC p1_50) p0_50)) 72 [(0, .ref (qK 0)), (1, .ref (qS 0)), (2, .int v2), (3, .ref (qP 0)), (4, .int y12), (5, .int v5_17)] [.int p0_72, .int p1_72, .ref (qK 2)]) h (fun p0_72 p1_72 h => ?_) (fun J72 hJ72 h => ?_)
          · refine SW.nameOb (wz := fun z => w8 cI cZ qS oS ++ w5 cI cZ qP oP ++ w7 cI cZ qK z) (o := (pa oK_17 1 (nC p1_50) p0_50)) (fun oK_72n he => ?_)
            replace h := h oK_72n he
            refine SW.iast (ws' := w8 cI cZ qS oS ++ w5 cI cZ qP oP ++ w7 cI cZ qK (pa oK_72n 2 (nC p1_72) p0_72)) C 11 0 rfl rfl h.1 rfl dX7_playTune_72 ?_
            replace h := h.2
            refine SW.iinc (q := 5) (v := (v5_17 + (1 : Int32))) (lv' := [(5, .int (v5_17 + (1 : Int32))), (0, .ref (qK 0)), (1, .ref (qS 0)), (2, .int v2), (3, .ref (qP 0)), (4, .int y12)]) C dX7_playTune_73 rfl rfl (by decide) rfl ?_
            refine SW.goto (tgt := 17) C dX7_playTune_76 (by decide) ?_
            refine SW.sub [1, 2, 3, 4, 5, 0] rfl ?_
            exact ih _ _ h
          · refine SW.icmp_ne (tgt := 70) C dX7_playTune_63 (by decide) (fun hc => ?_) (fun hc => ?_)
            · replace h := h.2 hc
              refine SW.ldc (v := (1000000 : Int32)) C (by decide +kernel) dX7_playTune_70 ?_
              exact hJ72 _ _ h
            · replace h := h.1 hc
              refine SW.iconst (v := (0 : Int32)) C dX7_playTune_66 (by decide) ?_
              refine SW.goto (tgt := 72) C dX7_playTune_67 (by decide) ?_
              exact hJ72 _ _ h
        · refine SW.if_eq (tgt := 49) C dX7_playTune_36 (by decide) (fun hc => ?_) (fun hc => ?_)
          · replace h := h.1 hc
            refine SW.iconst (v := (0 : Int32)) C dX7_playTune_49 (by decide) ?_
            exact hJ50 _ _ h
          · replace h := h.2 hc
            refine SW.aload_n C dX7_playTune_39 rfl 1 rfl ?_
            refine SW.iload_n C dX7_playTune_40 rfl 2 rfl ?_
            refine SW.iload C dX7_playTune_41 5 rfl ?_
            refine SW.callVi_sub (wr := w5 cI cZ qP oP ++ w7 cI cZ qK oK_17) (wn := fun u : Unit => w8 cI cZ qS oS ++ w5 cI cZ qP oP ++ w7 cI cZ qK oK_17) C (ctX8_lengthAt l D cI cZ qS oS v2 v5_17 _ h) gX7_playTune_X8_lengthAt rfl rfl rfl pdX8_lengthAt ⟨by decide, by decide⟩ [0, 1, 2, 3, 4, 5, 6] [7, 8, 9, 10, 11, 12] [6, 7, 8, 9, 10, 11, 12, 0, 1, 2, 3, 4, 5] rfl rfl (by decide) (by decide) (by decide) (by decide) (fun _ => rfl) 0 rfl rfl rfl rfl rfl (Nat.le_of_ble_eq_true rfl) dX7_playTune_43 (by decide) (fun r43 u h => ?_)
            try dsimp only at h
            refine SW.goto (tgt := 50) C dX7_playTune_46 (by decide) ?_
            exact hJ50 _ _ h
  obtain ⟨fu, h⟩ := h
  refine SW.sub [2, 3, 4, 5, 1, 0] rfl ?_
  refine L17 _ (fun oK_79 h => ?_) fu _ _ h
  · refine SW.iconst (v := (0 : Int32)) C dX7_playTune_79 (by decide) ?_
    refine SW.istore (lv' := [(5, .int (0 : Int32)), (0, .ref (qK 0)), (1, .ref (qS 0)), (3, .ref (qP 0)), (4, .int y12)]) C dX7_playTune_80 (by decide) rfl ?_
    have L82 : ∀ (K119 : Ob → Prop) (hK119 : ∀ (oK_119 : Ob), K119 oK_119 → SW p l e { frames := 3, cells := 0, slots := 0, locals := 66 } s m args below meth c A D 6 0 0 (MQ below (va_Qv (fun (u : Ob) => post u) (ctB D A (fun u : Ob => w8 cI cZ qS oS ++ w5 cI cZ qP oP ++ w7 cI cZ qK u)) A) args s 0 0 A) (w8 cI cZ qS oS ++ w5 cI cZ qP oP ++ w7 cI cZ qK oK_119) 119 [(0, .ref (qK 0)), (4, .int y12)] []) (fu : Nat) (v5_82 : Int32) (oK_82 : Ob), wpX7_playTune_L82 y12 oS oP K119 fu v5_82 oK_82 → SW p l e { frames := 3, cells := 0, slots := 0, locals := 66 } s m args below meth c A D 6 0 0 (MQ below (va_Qv (fun (u : Ob) => post u) (ctB D A (fun u : Ob => w8 cI cZ qS oS ++ w5 cI cZ qP oP ++ w7 cI cZ qK u)) A) args s 0 0 A) (w8 cI cZ qS oS ++ w5 cI cZ qP oP ++ w7 cI cZ qK oK_82) 82 [(0, .ref (qK 0)), (1, .ref (qS 0)), (3, .ref (qP 0)), (4, .int y12), (5, .int v5_82)] [] := by
      intro K119 hK119 fu
      induction fu with
      | zero =>
        intro v5_82 oK_82 h
        exact False.elim h
      | succ fu ih =>
        intro v5_82 oK_82 h
        unfold wpX7_playTune_L82 at h
        refine SW.iload C dX7_playTune_82 4 rfl ?_
        refine SW.aload_n C dX7_playTune_84 rfl 2 rfl ?_
        refine SW.callVi_sub (wr := w8 cI cZ qS oS ++ w7 cI cZ qK oK_82) (wn := fun u : Unit => w8 cI cZ qS oS ++ w5 cI cZ qP oP ++ w7 cI cZ qK oK_82) C (ctX5_toneCount l D cI cZ qP oP _ h) gX7_playTune_X5_toneCount rfl rfl rfl pdX5_toneCount ⟨by decide, by decide⟩ [7, 8] [0, 1, 2, 3, 4, 5, 6, 9, 10, 11, 12] [0, 1, 2, 3, 4, 5, 6, 11, 12, 7, 8, 9, 10] rfl rfl (by decide) (by decide) (by decide) (by decide) (fun _ => rfl) 0 rfl rfl rfl rfl rfl (Nat.le_of_ble_eq_true rfl) dX7_playTune_85 (by decide) (fun r85 u h => ?_)
        try dsimp only at h
        refine SW.icmp_ge (tgt := 119) C dX7_playTune_88 (by decide) (fun hc => ?_) (fun hc => ?_)
        · replace h := h.1 hc
          refine SW.sub [0, 3] rfl ?_
          exact hK119 _ h
        · replace h := h.2 hc
          refine SW.aload_n C dX7_playTune_91 rfl 0 rfl ?_
          refine SW.aload_n C dX7_playTune_92 rfl 1 rfl ?_
          refine SW.get (v := .int (oS 0 0)) (T := TX8) (N := 13) C inX7_playTune_X8 0 rfl rfl 0 (by decide) lkX7_playTune_31 rfl dX7_playTune_93 ?_
          refine SW.iload C dX7_playTune_96 3 rfl ?_
          refine SW.callVv_sub (wr := w8 cI cZ qS oS ++ w5 cI cZ qP oP) (wn := fun u : Ob => w8 cI cZ qS oS ++ w5 cI cZ qP oP ++ w7 cI cZ qK u) C (ctX7_spreadCosts l D cI cZ qK oK_82 (oS 0 0) y12 _ h) gX7_playTune_X7_spreadCosts rfl rfl rfl pdX7_spreadCosts ⟨by decide, by decide⟩ [9, 10, 11, 12] [0, 1, 2, 3, 4, 5, 6, 7, 8] [0, 1, 2, 3, 4, 5, 6, 7, 8, 9, 10, 11, 12] rfl rfl (by decide) (by decide) (by decide) (by decide) (fun _ => rfl) 0 rfl rfl rfl rfl rfl (Nat.le_of_ble_eq_true rfl) dX7_playTune_98 (by decide) (fun u h => ?_)
          obtain ⟨oK_98, rfl⟩ : ∃ z, z = u := ⟨_, rfl⟩
          try dsimp only at h
          refine SW.aload_n C dX7_playTune_101 rfl 0 rfl ?_
          refine SW.aload_n C dX7_playTune_102 rfl 2 rfl ?_
          refine SW.iload C dX7_playTune_103 4 rfl ?_
          refine SW.callVi_sub (wr := w8 cI cZ qS oS ++ w7 cI cZ qK oK_98) (wn := fun u : Unit => w8 cI cZ qS oS ++ w5 cI cZ qP oP ++ w7 cI cZ qK oK_98) C (ctX5_toneAt l D cI cZ qP oP v5_82 _ h) gX7_playTune_X5_toneAt rfl rfl rfl pdX5_toneAt ⟨by decide, by decide⟩ [7, 8] [0, 1, 2, 3, 4, 5, 6, 9, 10, 11, 12] [0, 1, 2, 3, 4, 5, 6, 11, 12, 7, 8, 9, 10] rfl rfl (by decide) (by decide) (by decide) (by decide) (fun _ => rfl) 0 rfl rfl rfl rfl rfl (Nat.le_of_ble_eq_true rfl) dX7_playTune_105 (by decide) (fun r105 u h => ?_)
          try dsimp only at h
          refine SW.iload C dX7_playTune_108 3 rfl ?_
          refine SW.callVv_sub (wr := w8 cI cZ qS oS ++ w5 cI cZ qP oP) (wn := fun u : Ob => w8 cI cZ qS oS ++ w5 cI cZ qP oP ++ w7 cI cZ qK u) C (ctX7_keepTone l D cI cZ qK oK_98 r105 y12 _ h) gX7_playTune_X7_keepTone rfl rfl rfl pdX7_keepTone ⟨by decide, by decide⟩ [9, 10, 11, 12] [0, 1, 2, 3, 4, 5, 6, 7, 8] [0, 1, 2, 3, 4, 5, 6, 7, 8, 9, 10, 11, 12] rfl rfl (by decide) (by decide) (by decide) (by decide) (fun _ => rfl) 0 rfl rfl rfl rfl rfl (Nat.le_of_ble_eq_true rfl) dX7_playTune_110 (by decide) (fun u h => ?_)
          obtain ⟨oK_110, rfl⟩ : ∃ z, z = u := ⟨_, rfl⟩
          try dsimp only at h
          refine SW.iinc (q := 4) (v := (v5_82 + (1 : Int32))) (lv' := [(5, .int (v5_82 + (1 : Int32))), (0, .ref (qK 0)), (1, .ref (qS 0)), (3, .ref (qP 0)), (4, .int y12)]) C dX7_playTune_113 rfl rfl (by decide) rfl ?_
          refine SW.goto (tgt := 82) C dX7_playTune_116 (by decide) ?_
          refine SW.sub [1, 2, 3, 4, 0] rfl ?_
          exact ih _ _ h
    obtain ⟨fu, h⟩ := h
    refine SW.sub [1, 2, 3, 4, 0] rfl ?_
    refine L82 _ (fun oK_119 h => ?_) fu _ _ h
    · refine SW.aload_n C dX7_playTune_119 rfl 0 rfl ?_
      refine SW.iload C dX7_playTune_120 1 rfl ?_
      refine SW.callVv_sub (wr := w8 cI cZ qS oS ++ w5 cI cZ qP oP) (wn := fun u : Ob => w8 cI cZ qS oS ++ w5 cI cZ qP oP ++ w7 cI cZ qK u) C (ctX7_chooseLast l D cI cZ qK oK_119 y12 _ h) gX7_playTune_X7_chooseLast rfl rfl rfl pdX7_chooseLast ⟨by decide, by decide⟩ [9, 10, 11, 12] [0, 1, 2, 3, 4, 5, 6, 7, 8] [0, 1, 2, 3, 4, 5, 6, 7, 8, 9, 10, 11, 12] rfl rfl (by decide) (by decide) (by decide) (by decide) (fun _ => rfl) 0 rfl rfl rfl rfl rfl (Nat.le_of_ble_eq_true rfl) dX7_playTune_122 (by decide) (fun u h => ?_)
      obtain ⟨oK_122, rfl⟩ : ∃ z, z = u := ⟨_, rfl⟩
      try dsimp only at h
      exact SW.vret C oK_122 rfl h dX7_playTune_125
