theorem fsX1 : ∀ j, j < 6 → defaultValue (tyX1 j) = vp_V [.null, .int 0, .int 0, .int 0, .int 0, .int 0] j := by
  intro j hj
  match j, hj with
  | 0, _ => rfl
  | 1, _ => rfl
  | 2, _ => rfl
  | 3, _ => rfl
  | 4, _ => rfl
  | 5, _ => rfl
  | j + 6, hj => exact absurd hj (by omega)
theorem fsX2 : ∀ j, j < 1 → defaultValue (tyX2 j) = vp_V [.null] j := by
  intro j hj
  match j, hj with
  | 0, _ => rfl
  | j + 1, hj => exact absurd hj (by omega)
theorem fsX3 : ∀ j, j < 5 → defaultValue (tyX3 j) = vp_V [.null, .null, .int 0, .int 0, .int 0] j := by
  intro j hj
  match j, hj with
  | 0, _ => rfl
  | 1, _ => rfl
  | 2, _ => rfl
  | 3, _ => rfl
  | 4, _ => rfl
  | j + 5, hj => exact absurd hj (by omega)
theorem fsX4 : ∀ j, j < 2 → defaultValue (tyX4 j) = vp_V [.null, .null] j := by
  intro j hj
  match j, hj with
  | 0, _ => rfl
  | 1, _ => rfl
  | j + 2, hj => exact absurd hj (by omega)
theorem fsX5 : ∀ j, j < 2 → defaultValue (tyX5 j) = vp_V [.int 0, .null] j := by
  intro j hj
  match j, hj with
  | 0, _ => rfl
  | 1, _ => rfl
  | j + 2, hj => exact absurd hj (by omega)
theorem fsX7 : ∀ j, j < 7 → defaultValue (tyX7 j) = vp_V [.null, .null, .null, .int 0, .int 0, .int 0, .int 0] j := by
  intro j hj
  match j, hj with
  | 0, _ => rfl
  | 1, _ => rfl
  | 2, _ => rfl
  | 3, _ => rfl
  | 4, _ => rfl
  | 5, _ => rfl
  | 6, _ => rfl
  | j + 7, hj => exact absurd hj (by omega)
theorem fsX8 : ∀ j, j < 13 → defaultValue (tyX8 j) = vp_V [.int 0, .int 0, .int 0, .int 0, .int 0, .int 0, .int 0, .null, .null, .null, .null, .null, .null] j := by
  intro j hj
  match j, hj with
  | 0, _ => rfl
  | 1, _ => rfl
  | 2, _ => rfl
  | 3, _ => rfl
  | 4, _ => rfl
  | 5, _ => rfl
  | 6, _ => rfl
  | 7, _ => rfl
  | 8, _ => rfl
  | 9, _ => rfl
  | 10, _ => rfl
  | 11, _ => rfl
  | 12, _ => rfl
  | j + 13, hj => exact absurd hj (by omega)
theorem fsX9 : ∀ j, j < 11 → defaultValue (tyX9 j) = vp_V [.null, .null, .null, .int 0, .int 0, .null, .null, .null, .null, .null, .null] j := by
  intro j hj
  match j, hj with
  | 0, _ => rfl
  | 1, _ => rfl
  | 2, _ => rfl
  | 3, _ => rfl
  | 4, _ => rfl
  | 5, _ => rfl
  | 6, _ => rfl
  | 7, _ => rfl
  | 8, _ => rfl
  | 9, _ => rfl
  | 10, _ => rfl
  | j + 11, hj => exact absurd hj (by omega)
theorem fsX10 : ∀ j, j < 25 → defaultValue (tyX10 j) = vp_V [.int 0, .null, .int 0, .int 0, .int 0, .int 0, .int 0, .null, .int 0, .null, .int 0, .null, .int 0, .int 0, .int 0, .int 0, .int 0, .int 0, .null, .null, .null, .null, .null, .null, .null] j := by
  intro j hj
  match j, hj with
  | 0, _ => rfl
  | 1, _ => rfl
  | 2, _ => rfl
  | 3, _ => rfl
  | 4, _ => rfl
  | 5, _ => rfl
  | 6, _ => rfl
  | 7, _ => rfl
  | 8, _ => rfl
  | 9, _ => rfl
  | 10, _ => rfl
  | 11, _ => rfl
  | 12, _ => rfl
  | 13, _ => rfl
  | 14, _ => rfl
  | 15, _ => rfl
  | 16, _ => rfl
  | 17, _ => rfl
  | 18, _ => rfl
  | 19, _ => rfl
  | 20, _ => rfl
  | 21, _ => rfl
  | 22, _ => rfl
  | 23, _ => rfl
  | 24, _ => rfl
  | j + 25, hj => exact absurd hj (by omega)
def wpX2_init (post : (Nat → Ob) → Prop) : Prop := post (obs [z0])
theorem pdX2_init : yX2_init.cls ≠ "java/lang/invoke/MethodHandle" ∧ yX2_init.cls ≠ "java/lang/invoke/VarHandle" ∧ (parseMethodDescriptor yX2_init.desc).map (fun d => d.parameters.length) = some 0 := by decide +kernel
theorem inX2_init_X2 : ∀ w ∈ u_ws RX2 TX2 1, w ∈ wsX2_init := by decide +kernel
theorem lkX2_init_9 : Cond.fieldLink RX2 9 (TX2 0).1 (TX2 0).2.1 (TX2 0).2.2.1 ∈ wsX2_init := by decide +kernel
set_option maxHeartbeats 4000000 in
set_option maxRecDepth 100000 in
theorem ctX2_init (l : Launch) (D : va_G) (cI cZ : ClassId) (h0 : Nat) (post : (Nat → Ob) → Prop) (h : wpX2_init post) : CTn l yX2_init wsX2_init { frames := 1, cells := 1, slots := 1024, locals := 14 } D [(cI, .int), (cZ, .boolean)] [.ref h0] [(h0, .inr (1, [.null]))] (fun u : UC => w2 cI cZ (u.1 0) (u.2 0)) (fun u : UC => u.1 0 0 = h0 ∧ post u.2) 1 1024 := by
  refine CTn.of (cc := cX2_init) (own := RX2) (maxL := 1) (lv0 := [(0, .ref h0)]) (by decide) rfl rfl rfl (Nat.le_of_ble_eq_true rfl) rfl ?_
  intro p e s m args below meth c A C hin
  unfold wpX2_init at h
  refine SW.aload_n C dX2_init_0 rfl 0 rfl ?_
  refine SW.objInit C (by decide +kernel) (by decide +kernel) (by decide +kernel) dX2_init_1 (by decide) (Nat.le_of_ble_eq_true rfl) ?_
  refine SW.aload_n C dX2_init_4 rfl 0 rfl ?_
  refine SW.sipush (v := (1024 : Int32)) C dX2_init_5 (by decide) ?_
  refine SW.newaI (N := 1024) (wn := fun a1 => [(h0, .inr (1, [.null])), (a1, .inl (cI, 1024, .inl (fun _ => 0)))]) C 0 rfl (by decide +kernel) (by decide) (by decide) (by decide) (by decide) (by decide) dX2_init_8 (fun _ => rfl) (fun a1 => ?_)
  refine SW.putF (ws' := [(h0, .inr (1, [.ref a1])), (a1, .inl (cI, 1024, .inl (fun _ => 0)))]) (T := TX2) (N := 1) C hin inX2_init_X2 tyX2 tyX2_ok nmX2 0 rfl rfl 0 (by decide) lkX2_init_9 rfl rfl rfl rfl (Nat.le_of_ble_eq_true rfl) rfl dX2_init_10 ?_
  exact SW.nret C (qfs [(qf [h0, a1])], obs [z0]) rfl ⟨rfl, h⟩ dX2_init_13
def wpX3_init (post : (Nat → Ob) → Prop) : Prop := post (obs [(pf (pf z0 3 (-6 : Int32)) 4 (-6 : Int32))])
theorem pdX3_init : yX3_init.cls ≠ "java/lang/invoke/MethodHandle" ∧ yX3_init.cls ≠ "java/lang/invoke/VarHandle" ∧ (parseMethodDescriptor yX3_init.desc).map (fun d => d.parameters.length) = some 0 := by decide +kernel
theorem inX3_init_X3 : ∀ w ∈ u_ws RX3 TX3 5, w ∈ wsX3_init := by decide +kernel
theorem lkX3_init_9 : Cond.fieldLink RX3 9 (TX3 0).1 (TX3 0).2.1 (TX3 0).2.2.1 ∈ wsX3_init := by decide +kernel
theorem lkX3_init_15 : Cond.fieldLink RX3 15 (TX3 1).1 (TX3 1).2.1 (TX3 1).2.2.1 ∈ wsX3_init := by decide +kernel
theorem lkX3_init_18 : Cond.fieldLink RX3 18 (TX3 3).1 (TX3 3).2.1 (TX3 3).2.2.1 ∈ wsX3_init := by decide +kernel
theorem lkX3_init_22 : Cond.fieldLink RX3 22 (TX3 4).1 (TX3 4).2.1 (TX3 4).2.2.1 ∈ wsX3_init := by decide +kernel
set_option maxHeartbeats 4000000 in
set_option maxRecDepth 100000 in
theorem ctX3_init (l : Launch) (D : va_G) (cI cZ : ClassId) (h0 : Nat) (post : (Nat → Ob) → Prop) (h : wpX3_init post) : CTn l yX3_init wsX3_init { frames := 1, cells := 2, slots := 1225, locals := 14 } D [(cI, .int), (cZ, .boolean)] [.ref h0] [(h0, .inr (2, [.null, .null, .int 0, .int 0, .int 0]))] (fun u : UC => w3 cI cZ (u.1 0) (u.2 0)) (fun u : UC => u.1 0 0 = h0 ∧ post u.2) 2 1225 := by
  refine CTn.of (cc := cX3_init) (own := RX3) (maxL := 1) (lv0 := [(0, .ref h0)]) (by decide) rfl rfl rfl (Nat.le_of_ble_eq_true rfl) rfl ?_
  intro p e s m args below meth c A C hin
  unfold wpX3_init at h
  refine SW.aload_n C dX3_init_0 rfl 0 rfl ?_
  refine SW.objInit C (by decide +kernel) (by decide +kernel) (by decide +kernel) dX3_init_1 (by decide) (Nat.le_of_ble_eq_true rfl) ?_
  refine SW.aload_n C dX3_init_4 rfl 0 rfl ?_
  refine SW.sipush (v := (1024 : Int32)) C dX3_init_5 (by decide) ?_
  refine SW.newaI (N := 1024) (wn := fun a1 => [(h0, .inr (2, [.null, .null, .int 0, .int 0, .int 0])), (a1, .inl (cI, 1024, .inl (fun _ => 0)))]) C 0 rfl (by decide +kernel) (by decide) (by decide) (by decide) (by decide) (by decide) dX3_init_8 (fun _ => rfl) (fun a1 => ?_)
  refine SW.putF (ws' := [(h0, .inr (2, [.ref a1, .null, .int 0, .int 0, .int 0])), (a1, .inl (cI, 1024, .inl (fun _ => 0)))]) (T := TX3) (N := 5) C hin inX3_init_X3 tyX3 tyX3_ok nmX3 0 rfl rfl 0 (by decide) lkX3_init_9 rfl rfl rfl rfl (Nat.le_of_ble_eq_true rfl) rfl dX3_init_10 ?_
  refine SW.aload_n C dX3_init_13 rfl 0 rfl ?_
  refine SW.sipush (v := (201 : Int32)) C dX3_init_14 (by decide) ?_
  refine SW.newaI (N := 201) (wn := fun a2 => [(h0, .inr (2, [.ref a1, .null, .int 0, .int 0, .int 0])), (a1, .inl (cI, 1024, .inl (fun _ => 0))), (a2, .inl (cI, 201, .inl (fun _ => 0)))]) C 0 rfl (by decide +kernel) (by decide) (by decide) (by decide) (by decide) (by decide) dX3_init_17 (fun _ => rfl) (fun a2 => ?_)
  refine SW.putF (ws' := [(h0, .inr (2, [.ref a1, .ref a2, .int 0, .int 0, .int 0])), (a1, .inl (cI, 1024, .inl (fun _ => 0))), (a2, .inl (cI, 201, .inl (fun _ => 0)))]) (T := TX3) (N := 5) C hin inX3_init_X3 tyX3 tyX3_ok nmX3 0 rfl rfl 1 (by decide) lkX3_init_15 rfl rfl rfl rfl (Nat.le_of_ble_eq_true rfl) rfl dX3_init_19 ?_
  refine SW.aload_n C dX3_init_22 rfl 0 rfl ?_
  refine SW.bipush (v := (-6 : Int32)) C dX3_init_23 (by decide) ?_
  refine SW.put (ws' := [(h0, .inr (2, [.ref a1, .ref a2, .int 0, .int (-6 : Int32), .int 0])), (a1, .inl (cI, 1024, .inl (fun _ => 0))), (a2, .inl (cI, 201, .inl (fun _ => 0)))]) (T := TX3) (N := 5) C inX3_init_X3 tyX3 tyX3_ok nmX3 0 rfl rfl 3 (by decide) lkX3_init_18 rfl rfl rfl (Nat.le_of_ble_eq_true rfl) rfl dX3_init_25 ?_
  refine SW.aload_n C dX3_init_28 rfl 0 rfl ?_
  refine SW.bipush (v := (-6 : Int32)) C dX3_init_29 (by decide) ?_
  refine SW.put (ws' := [(h0, .inr (2, [.ref a1, .ref a2, .int 0, .int (-6 : Int32), .int (-6 : Int32)])), (a1, .inl (cI, 1024, .inl (fun _ => 0))), (a2, .inl (cI, 201, .inl (fun _ => 0)))]) (T := TX3) (N := 5) C inX3_init_X3 tyX3 tyX3_ok nmX3 0 rfl rfl 4 (by decide) lkX3_init_22 rfl rfl rfl (Nat.le_of_ble_eq_true rfl) rfl dX3_init_31 ?_
  exact SW.nret C (qfs [(qf [h0, a1, a2])], obs [(pf (pf z0 3 (-6 : Int32)) 4 (-6 : Int32))]) rfl ⟨rfl, h⟩ dX3_init_34
def wpX4_init (post : (Nat → Ob) → Prop) : Prop := post (obs [z0])
theorem pdX4_init : yX4_init.cls ≠ "java/lang/invoke/MethodHandle" ∧ yX4_init.cls ≠ "java/lang/invoke/VarHandle" ∧ (parseMethodDescriptor yX4_init.desc).map (fun d => d.parameters.length) = some 0 := by decide +kernel
theorem inX4_init_X4 : ∀ w ∈ u_ws RX4 TX4 2, w ∈ wsX4_init := by decide +kernel
theorem lkX4_init_9 : Cond.fieldLink RX4 9 (TX4 0).1 (TX4 0).2.1 (TX4 0).2.2.1 ∈ wsX4_init := by decide +kernel
theorem lkX4_init_15 : Cond.fieldLink RX4 15 (TX4 1).1 (TX4 1).2.1 (TX4 1).2.2.1 ∈ wsX4_init := by decide +kernel
set_option maxHeartbeats 4000000 in
set_option maxRecDepth 100000 in
theorem ctX4_init (l : Launch) (D : va_G) (cI cZ : ClassId) (h0 : Nat) (post : (Nat → Ob) → Prop) (h : wpX4_init post) : CTn l yX4_init wsX4_init { frames := 1, cells := 2, slots := 2048, locals := 14 } D [(cI, .int), (cZ, .boolean)] [.ref h0] [(h0, .inr (3, [.null, .null]))] (fun u : UC => w4 cI cZ (u.1 0) (u.2 0)) (fun u : UC => u.1 0 0 = h0 ∧ post u.2) 2 2048 := by
  refine CTn.of (cc := cX4_init) (own := RX4) (maxL := 1) (lv0 := [(0, .ref h0)]) (by decide) rfl rfl rfl (Nat.le_of_ble_eq_true rfl) rfl ?_
  intro p e s m args below meth c A C hin
  unfold wpX4_init at h
  refine SW.aload_n C dX4_init_0 rfl 0 rfl ?_
  refine SW.objInit C (by decide +kernel) (by decide +kernel) (by decide +kernel) dX4_init_1 (by decide) (Nat.le_of_ble_eq_true rfl) ?_
  refine SW.aload_n C dX4_init_4 rfl 0 rfl ?_
  refine SW.sipush (v := (1024 : Int32)) C dX4_init_5 (by decide) ?_
  refine SW.newaI (N := 1024) (wn := fun a1 => [(h0, .inr (3, [.null, .null])), (a1, .inl (cI, 1024, .inl (fun _ => 0)))]) C 0 rfl (by decide +kernel) (by decide) (by decide) (by decide) (by decide) (by decide) dX4_init_8 (fun _ => rfl) (fun a1 => ?_)
  refine SW.putF (ws' := [(h0, .inr (3, [.ref a1, .null])), (a1, .inl (cI, 1024, .inl (fun _ => 0)))]) (T := TX4) (N := 2) C hin inX4_init_X4 tyX4 tyX4_ok nmX4 0 rfl rfl 0 (by decide) lkX4_init_9 rfl rfl rfl rfl (Nat.le_of_ble_eq_true rfl) rfl dX4_init_10 ?_
  refine SW.aload_n C dX4_init_13 rfl 0 rfl ?_
  refine SW.sipush (v := (1024 : Int32)) C dX4_init_14 (by decide) ?_
  refine SW.newaI (N := 1024) (wn := fun a2 => [(h0, .inr (3, [.ref a1, .null])), (a1, .inl (cI, 1024, .inl (fun _ => 0))), (a2, .inl (cI, 1024, .inl (fun _ => 0)))]) C 0 rfl (by decide +kernel) (by decide) (by decide) (by decide) (by decide) (by decide) dX4_init_17 (fun _ => rfl) (fun a2 => ?_)
  refine SW.putF (ws' := [(h0, .inr (3, [.ref a1, .ref a2])), (a1, .inl (cI, 1024, .inl (fun _ => 0))), (a2, .inl (cI, 1024, .inl (fun _ => 0)))]) (T := TX4) (N := 2) C hin inX4_init_X4 tyX4 tyX4_ok nmX4 0 rfl rfl 1 (by decide) lkX4_init_15 rfl rfl rfl rfl (Nat.le_of_ble_eq_true rfl) rfl dX4_init_19 ?_
  exact SW.nret C (qfs [(qf [h0, a1, a2])], obs [z0]) rfl ⟨rfl, h⟩ dX4_init_22
def wpX5_init (post : (Nat → Ob) → Prop) : Prop := post (obs [(pf z0 0 (0 : Int32))])
theorem pdX5_init : yX5_init.cls ≠ "java/lang/invoke/MethodHandle" ∧ yX5_init.cls ≠ "java/lang/invoke/VarHandle" ∧ (parseMethodDescriptor yX5_init.desc).map (fun d => d.parameters.length) = some 0 := by decide +kernel
theorem inX5_init_X5 : ∀ w ∈ u_ws RX5 TX5 2, w ∈ wsX5_init := by decide +kernel
theorem lkX5_init_9 : Cond.fieldLink RX5 9 (TX5 0).1 (TX5 0).2.1 (TX5 0).2.2.1 ∈ wsX5_init := by decide +kernel
theorem lkX5_init_15 : Cond.fieldLink RX5 15 (TX5 1).1 (TX5 1).2.1 (TX5 1).2.2.1 ∈ wsX5_init := by decide +kernel
set_option maxHeartbeats 4000000 in
set_option maxRecDepth 100000 in
theorem ctX5_init (l : Launch) (D : va_G) (cI cZ : ClassId) (h0 : Nat) (post : (Nat → Ob) → Prop) (h : wpX5_init post) : CTn l yX5_init wsX5_init { frames := 1, cells := 1, slots := 60, locals := 14 } D [(cI, .int), (cZ, .boolean)] [.ref h0] [(h0, .inr (4, [.int 0, .null]))] (fun u : UC => w5 cI cZ (u.1 0) (u.2 0)) (fun u : UC => u.1 0 0 = h0 ∧ post u.2) 1 60 := by
  refine CTn.of (cc := cX5_init) (own := RX5) (maxL := 1) (lv0 := [(0, .ref h0)]) (by decide) rfl rfl rfl (Nat.le_of_ble_eq_true rfl) rfl ?_
  intro p e s m args below meth c A C hin
  unfold wpX5_init at h
  refine SW.aload_n C dX5_init_0 rfl 0 rfl ?_
  refine SW.objInit C (by decide +kernel) (by decide +kernel) (by decide +kernel) dX5_init_1 (by decide) (Nat.le_of_ble_eq_true rfl) ?_
  refine SW.aload_n C dX5_init_4 rfl 0 rfl ?_
  refine SW.iconst (v := (0 : Int32)) C dX5_init_5 (by decide) ?_
  refine SW.put (ws' := [(h0, .inr (4, [.int (0 : Int32), .null]))]) (T := TX5) (N := 2) C inX5_init_X5 tyX5 tyX5_ok nmX5 0 rfl rfl 0 (by decide) lkX5_init_9 rfl rfl rfl (Nat.le_of_ble_eq_true rfl) rfl dX5_init_6 ?_
  refine SW.aload_n C dX5_init_9 rfl 0 rfl ?_
  refine SW.bipush (v := (60 : Int32)) C dX5_init_10 (by decide) ?_
  refine SW.newaI (N := 60) (wn := fun a1 => [(h0, .inr (4, [.int (0 : Int32), .null])), (a1, .inl (cI, 60, .inl (fun _ => 0)))]) C 0 rfl (by decide +kernel) (by decide) (by decide) (by decide) (by decide) (by decide) dX5_init_12 (fun _ => rfl) (fun a1 => ?_)
  refine SW.putF (ws' := [(h0, .inr (4, [.int (0 : Int32), .ref a1])), (a1, .inl (cI, 60, .inl (fun _ => 0)))]) (T := TX5) (N := 2) C hin inX5_init_X5 tyX5 tyX5_ok nmX5 0 rfl rfl 1 (by decide) lkX5_init_15 rfl rfl rfl rfl (Nat.le_of_ble_eq_true rfl) rfl dX5_init_14 ?_
  exact SW.nret C (qfs [(qf [h0, a1])], obs [(pf z0 0 (0 : Int32))]) rfl ⟨rfl, h⟩ dX5_init_17
def wpX7_init (post : (Nat → Ob) → Prop) : Prop := post (obs [(pf z0 3 (-6 : Int32))])
theorem pdX7_init : yX7_init.cls ≠ "java/lang/invoke/MethodHandle" ∧ yX7_init.cls ≠ "java/lang/invoke/VarHandle" ∧ (parseMethodDescriptor yX7_init.desc).map (fun d => d.parameters.length) = some 0 := by decide +kernel
theorem inX7_init_X7 : ∀ w ∈ u_ws RX7 TX7 7, w ∈ wsX7_init := by decide +kernel
theorem lkX7_init_9 : Cond.fieldLink RX7 9 (TX7 0).1 (TX7 0).2.1 (TX7 0).2.2.1 ∈ wsX7_init := by decide +kernel
theorem lkX7_init_15 : Cond.fieldLink RX7 15 (TX7 1).1 (TX7 1).2.1 (TX7 1).2.2.1 ∈ wsX7_init := by decide +kernel
theorem lkX7_init_18 : Cond.fieldLink RX7 18 (TX7 2).1 (TX7 2).2.1 (TX7 2).2.2.1 ∈ wsX7_init := by decide +kernel
theorem lkX7_init_21 : Cond.fieldLink RX7 21 (TX7 3).1 (TX7 3).2.1 (TX7 3).2.2.1 ∈ wsX7_init := by decide +kernel
set_option maxHeartbeats 4000000 in
set_option maxRecDepth 100000 in
theorem ctX7_init (l : Launch) (D : va_G) (cI cZ : ClassId) (h0 : Nat) (post : (Nat → Ob) → Prop) (h : wpX7_init post) : CTn l yX7_init wsX7_init { frames := 1, cells := 3, slots := 2069, locals := 14 } D [(cI, .int), (cZ, .boolean)] [.ref h0] [(h0, .inr (5, [.null, .null, .null, .int 0, .int 0, .int 0, .int 0]))] (fun u : UC => w7 cI cZ (u.1 0) (u.2 0)) (fun u : UC => u.1 0 0 = h0 ∧ post u.2) 3 2069 := by
  refine CTn.of (cc := cX7_init) (own := RX7) (maxL := 1) (lv0 := [(0, .ref h0)]) (by decide) rfl rfl rfl (Nat.le_of_ble_eq_true rfl) rfl ?_
  intro p e s m args below meth c A C hin
  unfold wpX7_init at h
  refine SW.aload_n C dX7_init_0 rfl 0 rfl ?_
  refine SW.objInit C (by decide +kernel) (by decide +kernel) (by decide +kernel) dX7_init_1 (by decide) (Nat.le_of_ble_eq_true rfl) ?_
  refine SW.aload_n C dX7_init_4 rfl 0 rfl ?_
  refine SW.sipush (v := (1024 : Int32)) C dX7_init_5 (by decide) ?_
  refine SW.newaI (N := 1024) (wn := fun a1 => [(h0, .inr (5, [.null, .null, .null, .int 0, .int 0, .int 0, .int 0])), (a1, .inl (cI, 1024, .inl (fun _ => 0)))]) C 0 rfl (by decide +kernel) (by decide) (by decide) (by decide) (by decide) (by decide) dX7_init_8 (fun _ => rfl) (fun a1 => ?_)
  refine SW.putF (ws' := [(h0, .inr (5, [.ref a1, .null, .null, .int 0, .int 0, .int 0, .int 0])), (a1, .inl (cI, 1024, .inl (fun _ => 0)))]) (T := TX7) (N := 7) C hin inX7_init_X7 tyX7 tyX7_ok nmX7 0 rfl rfl 0 (by decide) lkX7_init_9 rfl rfl rfl rfl (Nat.le_of_ble_eq_true rfl) rfl dX7_init_10 ?_
  refine SW.aload_n C dX7_init_13 rfl 0 rfl ?_
  refine SW.sipush (v := (1024 : Int32)) C dX7_init_14 (by decide) ?_
  refine SW.newaI (N := 1024) (wn := fun a2 => [(h0, .inr (5, [.ref a1, .null, .null, .int 0, .int 0, .int 0, .int 0])), (a1, .inl (cI, 1024, .inl (fun _ => 0))), (a2, .inl (cI, 1024, .inl (fun _ => 0)))]) C 0 rfl (by decide +kernel) (by decide) (by decide) (by decide) (by decide) (by decide) dX7_init_17 (fun _ => rfl) (fun a2 => ?_)
  refine SW.putF (ws' := [(h0, .inr (5, [.ref a1, .ref a2, .null, .int 0, .int 0, .int 0, .int 0])), (a1, .inl (cI, 1024, .inl (fun _ => 0))), (a2, .inl (cI, 1024, .inl (fun _ => 0)))]) (T := TX7) (N := 7) C hin inX7_init_X7 tyX7 tyX7_ok nmX7 0 rfl rfl 1 (by decide) lkX7_init_15 rfl rfl rfl rfl (Nat.le_of_ble_eq_true rfl) rfl dX7_init_19 ?_
  refine SW.aload_n C dX7_init_22 rfl 0 rfl ?_
  refine SW.bipush (v := (21 : Int32)) C dX7_init_23 (by decide) ?_
  refine SW.newaI (N := 21) (wn := fun a3 => [(h0, .inr (5, [.ref a1, .ref a2, .null, .int 0, .int 0, .int 0, .int 0])), (a1, .inl (cI, 1024, .inl (fun _ => 0))), (a2, .inl (cI, 1024, .inl (fun _ => 0))), (a3, .inl (cI, 21, .inl (fun _ => 0)))]) C 0 rfl (by decide +kernel) (by decide) (by decide) (by decide) (by decide) (by decide) dX7_init_25 (fun _ => rfl) (fun a3 => ?_)
  refine SW.putF (ws' := [(h0, .inr (5, [.ref a1, .ref a2, .ref a3, .int 0, .int 0, .int 0, .int 0])), (a1, .inl (cI, 1024, .inl (fun _ => 0))), (a2, .inl (cI, 1024, .inl (fun _ => 0))), (a3, .inl (cI, 21, .inl (fun _ => 0)))]) (T := TX7) (N := 7) C hin inX7_init_X7 tyX7 tyX7_ok nmX7 0 rfl rfl 2 (by decide) lkX7_init_18 rfl rfl rfl rfl (Nat.le_of_ble_eq_true rfl) rfl dX7_init_27 ?_
  refine SW.aload_n C dX7_init_30 rfl 0 rfl ?_
  refine SW.bipush (v := (-6 : Int32)) C dX7_init_31 (by decide) ?_
  refine SW.put (ws' := [(h0, .inr (5, [.ref a1, .ref a2, .ref a3, .int (-6 : Int32), .int 0, .int 0, .int 0])), (a1, .inl (cI, 1024, .inl (fun _ => 0))), (a2, .inl (cI, 1024, .inl (fun _ => 0))), (a3, .inl (cI, 21, .inl (fun _ => 0)))]) (T := TX7) (N := 7) C inX7_init_X7 tyX7 tyX7_ok nmX7 0 rfl rfl 3 (by decide) lkX7_init_21 rfl rfl rfl (Nat.le_of_ble_eq_true rfl) rfl dX7_init_33 ?_
  exact SW.nret C (qfs [(qf [h0, a1, a2, a3])], obs [(pf z0 3 (-6 : Int32))]) rfl ⟨rfl, h⟩ dX7_init_36
def wpX8_init (post : (Nat → Ob) → Prop) : Prop := wpX8_beginAnew (pf (pf z0 2 (4 : Int32)) 3 (1 : Int32)) (6 : Int32) (fun u9 => post (obs [u9]))
theorem pdX8_init : yX8_init.cls ≠ "java/lang/invoke/MethodHandle" ∧ yX8_init.cls ≠ "java/lang/invoke/VarHandle" ∧ (parseMethodDescriptor yX8_init.desc).map (fun d => d.parameters.length) = some 0 := by decide +kernel
theorem inX8_init_X8 : ∀ w ∈ u_ws RX8 TX8 13, w ∈ wsX8_init := by decide +kernel
theorem lkX8_init_9 : Cond.fieldLink RX8 9 (TX8 2).1 (TX8 2).2.1 (TX8 2).2.2.1 ∈ wsX8_init := by decide +kernel
theorem lkX8_init_15 : Cond.fieldLink RX8 15 (TX8 3).1 (TX8 3).2.1 (TX8 3).2.2.1 ∈ wsX8_init := by decide +kernel
theorem lkX8_init_18 : Cond.fieldLink RX8 18 (TX8 7).1 (TX8 7).2.1 (TX8 7).2.2.1 ∈ wsX8_init := by decide +kernel
theorem lkX8_init_22 : Cond.fieldLink RX8 22 (TX8 8).1 (TX8 8).2.1 (TX8 8).2.2.1 ∈ wsX8_init := by decide +kernel
theorem lkX8_init_25 : Cond.fieldLink RX8 25 (TX8 9).1 (TX8 9).2.1 (TX8 9).2.2.1 ∈ wsX8_init := by decide +kernel
theorem lkX8_init_28 : Cond.fieldLink RX8 28 (TX8 10).1 (TX8 10).2.1 (TX8 10).2.2.1 ∈ wsX8_init := by decide +kernel
theorem lkX8_init_31 : Cond.fieldLink RX8 31 (TX8 11).1 (TX8 11).2.1 (TX8 11).2.2.1 ∈ wsX8_init := by decide +kernel
theorem lkX8_init_34 : Cond.fieldLink RX8 34 (TX8 12).1 (TX8 12).2.1 (TX8 12).2.2.1 ∈ wsX8_init := by decide +kernel
set_option maxHeartbeats 4000000 in
set_option maxRecDepth 100000 in
theorem ctX8_init (l : Launch) (D : va_G) (cI cZ : ClassId) (h0 : Nat) (post : (Nat → Ob) → Prop) (h : wpX8_init post) : CTn l yX8_init wsX8_init { frames := 2, cells := 6, slots := 56, locals := 44 } D [(cI, .int), (cZ, .boolean)] [.ref h0] [(h0, .inr (6, [.int 0, .int 0, .int 0, .int 0, .int 0, .int 0, .int 0, .null, .null, .null, .null, .null, .null]))] (fun u : UC => w8 cI cZ (u.1 0) (u.2 0)) (fun u : UC => u.1 0 0 = h0 ∧ post u.2) 6 56 := by
  refine CTn.of (cc := cX8_init) (own := RX8) (maxL := 1) (lv0 := [(0, .ref h0)]) (by decide) rfl rfl rfl (Nat.le_of_ble_eq_true rfl) rfl ?_
  intro p e s m args below meth c A C hin
  unfold wpX8_init at h
  refine SW.aload_n C dX8_init_0 rfl 0 rfl ?_
  refine SW.objInit C (by decide +kernel) (by decide +kernel) (by decide +kernel) dX8_init_1 (by decide) (Nat.le_of_ble_eq_true rfl) ?_
  refine SW.aload_n C dX8_init_4 rfl 0 rfl ?_
  refine SW.iconst (v := (4 : Int32)) C dX8_init_5 (by decide) ?_
  refine SW.put (ws' := [(h0, .inr (6, [.int 0, .int 0, .int (4 : Int32), .int 0, .int 0, .int 0, .int 0, .null, .null, .null, .null, .null, .null]))]) (T := TX8) (N := 13) C inX8_init_X8 tyX8 tyX8_ok nmX8 0 rfl rfl 2 (by decide) lkX8_init_9 rfl rfl rfl (Nat.le_of_ble_eq_true rfl) rfl dX8_init_6 ?_
  refine SW.aload_n C dX8_init_9 rfl 0 rfl ?_
  refine SW.iconst (v := (1 : Int32)) C dX8_init_10 (by decide) ?_
  refine SW.put (ws' := [(h0, .inr (6, [.int 0, .int 0, .int (4 : Int32), .int (1 : Int32), .int 0, .int 0, .int 0, .null, .null, .null, .null, .null, .null]))]) (T := TX8) (N := 13) C inX8_init_X8 tyX8 tyX8_ok nmX8 0 rfl rfl 3 (by decide) lkX8_init_15 rfl rfl rfl (Nat.le_of_ble_eq_true rfl) rfl dX8_init_11 ?_
  refine SW.aload_n C dX8_init_14 rfl 0 rfl ?_
  refine SW.bipush (v := (10 : Int32)) C dX8_init_15 (by decide) ?_
  refine SW.newaI (N := 10) (wn := fun a1 => [(h0, .inr (6, [.int 0, .int 0, .int (4 : Int32), .int (1 : Int32), .int 0, .int 0, .int 0, .null, .null, .null, .null, .null, .null])), (a1, .inl (cI, 10, .inl (fun _ => 0)))]) C 0 rfl (by decide +kernel) (by decide) (by decide) (by decide) (by decide) (by decide) dX8_init_17 (fun _ => rfl) (fun a1 => ?_)
  refine SW.putF (ws' := [(h0, .inr (6, [.int 0, .int 0, .int (4 : Int32), .int (1 : Int32), .int 0, .int 0, .int 0, .ref a1, .null, .null, .null, .null, .null])), (a1, .inl (cI, 10, .inl (fun _ => 0)))]) (T := TX8) (N := 13) C hin inX8_init_X8 tyX8 tyX8_ok nmX8 0 rfl rfl 7 (by decide) lkX8_init_18 rfl rfl rfl rfl (Nat.le_of_ble_eq_true rfl) rfl dX8_init_19 ?_
  refine SW.aload_n C dX8_init_22 rfl 0 rfl ?_
  refine SW.bipush (v := (10 : Int32)) C dX8_init_23 (by decide) ?_
  refine SW.newaI (N := 10) (wn := fun a2 => [(h0, .inr (6, [.int 0, .int 0, .int (4 : Int32), .int (1 : Int32), .int 0, .int 0, .int 0, .ref a1, .null, .null, .null, .null, .null])), (a1, .inl (cI, 10, .inl (fun _ => 0))), (a2, .inl (cI, 10, .inl (fun _ => 0)))]) C 0 rfl (by decide +kernel) (by decide) (by decide) (by decide) (by decide) (by decide) dX8_init_25 (fun _ => rfl) (fun a2 => ?_)
  refine SW.putF (ws' := [(h0, .inr (6, [.int 0, .int 0, .int (4 : Int32), .int (1 : Int32), .int 0, .int 0, .int 0, .ref a1, .ref a2, .null, .null, .null, .null])), (a1, .inl (cI, 10, .inl (fun _ => 0))), (a2, .inl (cI, 10, .inl (fun _ => 0)))]) (T := TX8) (N := 13) C hin inX8_init_X8 tyX8 tyX8_ok nmX8 0 rfl rfl 8 (by decide) lkX8_init_22 rfl rfl rfl rfl (Nat.le_of_ble_eq_true rfl) rfl dX8_init_27 ?_
  refine SW.aload_n C dX8_init_30 rfl 0 rfl ?_
  refine SW.bipush (v := (8 : Int32)) C dX8_init_31 (by decide) ?_
  refine SW.newaI (N := 8) (wn := fun a3 => [(h0, .inr (6, [.int 0, .int 0, .int (4 : Int32), .int (1 : Int32), .int 0, .int 0, .int 0, .ref a1, .ref a2, .null, .null, .null, .null])), (a1, .inl (cI, 10, .inl (fun _ => 0))), (a2, .inl (cI, 10, .inl (fun _ => 0))), (a3, .inl (cI, 8, .inl (fun _ => 0)))]) C 0 rfl (by decide +kernel) (by decide) (by decide) (by decide) (by decide) (by decide) dX8_init_33 (fun _ => rfl) (fun a3 => ?_)
  refine SW.putF (ws' := [(h0, .inr (6, [.int 0, .int 0, .int (4 : Int32), .int (1 : Int32), .int 0, .int 0, .int 0, .ref a1, .ref a2, .ref a3, .null, .null, .null])), (a1, .inl (cI, 10, .inl (fun _ => 0))), (a2, .inl (cI, 10, .inl (fun _ => 0))), (a3, .inl (cI, 8, .inl (fun _ => 0)))]) (T := TX8) (N := 13) C hin inX8_init_X8 tyX8 tyX8_ok nmX8 0 rfl rfl 9 (by decide) lkX8_init_25 rfl rfl rfl rfl (Nat.le_of_ble_eq_true rfl) rfl dX8_init_35 ?_
  refine SW.aload_n C dX8_init_38 rfl 0 rfl ?_
  refine SW.bipush (v := (8 : Int32)) C dX8_init_39 (by decide) ?_
  refine SW.newaI (N := 8) (wn := fun a4 => [(h0, .inr (6, [.int 0, .int 0, .int (4 : Int32), .int (1 : Int32), .int 0, .int 0, .int 0, .ref a1, .ref a2, .ref a3, .null, .null, .null])), (a1, .inl (cI, 10, .inl (fun _ => 0))), (a2, .inl (cI, 10, .inl (fun _ => 0))), (a3, .inl (cI, 8, .inl (fun _ => 0))), (a4, .inl (cI, 8, .inl (fun _ => 0)))]) C 0 rfl (by decide +kernel) (by decide) (by decide) (by decide) (by decide) (by decide) dX8_init_41 (fun _ => rfl) (fun a4 => ?_)
  refine SW.putF (ws' := [(h0, .inr (6, [.int 0, .int 0, .int (4 : Int32), .int (1 : Int32), .int 0, .int 0, .int 0, .ref a1, .ref a2, .ref a3, .ref a4, .null, .null])), (a1, .inl (cI, 10, .inl (fun _ => 0))), (a2, .inl (cI, 10, .inl (fun _ => 0))), (a3, .inl (cI, 8, .inl (fun _ => 0))), (a4, .inl (cI, 8, .inl (fun _ => 0)))]) (T := TX8) (N := 13) C hin inX8_init_X8 tyX8 tyX8_ok nmX8 0 rfl rfl 10 (by decide) lkX8_init_28 rfl rfl rfl rfl (Nat.le_of_ble_eq_true rfl) rfl dX8_init_43 ?_
  refine SW.aload_n C dX8_init_46 rfl 0 rfl ?_
  refine SW.bipush (v := (10 : Int32)) C dX8_init_47 (by decide) ?_
  refine SW.newaI (N := 10) (wn := fun a5 => [(h0, .inr (6, [.int 0, .int 0, .int (4 : Int32), .int (1 : Int32), .int 0, .int 0, .int 0, .ref a1, .ref a2, .ref a3, .ref a4, .null, .null])), (a1, .inl (cI, 10, .inl (fun _ => 0))), (a2, .inl (cI, 10, .inl (fun _ => 0))), (a3, .inl (cI, 8, .inl (fun _ => 0))), (a4, .inl (cI, 8, .inl (fun _ => 0))), (a5, .inl (cI, 10, .inl (fun _ => 0)))]) C 0 rfl (by decide +kernel) (by decide) (by decide) (by decide) (by decide) (by decide) dX8_init_49 (fun _ => rfl) (fun a5 => ?_)
  refine SW.putF (ws' := [(h0, .inr (6, [.int 0, .int 0, .int (4 : Int32), .int (1 : Int32), .int 0, .int 0, .int 0, .ref a1, .ref a2, .ref a3, .ref a4, .ref a5, .null])), (a1, .inl (cI, 10, .inl (fun _ => 0))), (a2, .inl (cI, 10, .inl (fun _ => 0))), (a3, .inl (cI, 8, .inl (fun _ => 0))), (a4, .inl (cI, 8, .inl (fun _ => 0))), (a5, .inl (cI, 10, .inl (fun _ => 0)))]) (T := TX8) (N := 13) C hin inX8_init_X8 tyX8 tyX8_ok nmX8 0 rfl rfl 11 (by decide) lkX8_init_31 rfl rfl rfl rfl (Nat.le_of_ble_eq_true rfl) rfl dX8_init_51 ?_
  refine SW.aload_n C dX8_init_54 rfl 0 rfl ?_
  refine SW.bipush (v := (10 : Int32)) C dX8_init_55 (by decide) ?_
  refine SW.newaI (N := 10) (wn := fun a6 => [(h0, .inr (6, [.int 0, .int 0, .int (4 : Int32), .int (1 : Int32), .int 0, .int 0, .int 0, .ref a1, .ref a2, .ref a3, .ref a4, .ref a5, .null])), (a1, .inl (cI, 10, .inl (fun _ => 0))), (a2, .inl (cI, 10, .inl (fun _ => 0))), (a3, .inl (cI, 8, .inl (fun _ => 0))), (a4, .inl (cI, 8, .inl (fun _ => 0))), (a5, .inl (cI, 10, .inl (fun _ => 0))), (a6, .inl (cI, 10, .inl (fun _ => 0)))]) C 0 rfl (by decide +kernel) (by decide) (by decide) (by decide) (by decide) (by decide) dX8_init_57 (fun _ => rfl) (fun a6 => ?_)
  refine SW.putF (ws' := [(h0, .inr (6, [.int 0, .int 0, .int (4 : Int32), .int (1 : Int32), .int 0, .int 0, .int 0, .ref a1, .ref a2, .ref a3, .ref a4, .ref a5, .ref a6])), (a1, .inl (cI, 10, .inl (fun _ => 0))), (a2, .inl (cI, 10, .inl (fun _ => 0))), (a3, .inl (cI, 8, .inl (fun _ => 0))), (a4, .inl (cI, 8, .inl (fun _ => 0))), (a5, .inl (cI, 10, .inl (fun _ => 0))), (a6, .inl (cI, 10, .inl (fun _ => 0)))]) (T := TX8) (N := 13) C hin inX8_init_X8 tyX8 tyX8_ok nmX8 0 rfl rfl 12 (by decide) lkX8_init_34 rfl rfl rfl rfl (Nat.le_of_ble_eq_true rfl) rfl dX8_init_59 ?_
  refine SW.aload_n C dX8_init_62 rfl 0 rfl ?_
  refine SW.bipush (v := (6 : Int32)) C dX8_init_63 (by decide) ?_
  refine SW.conv (ws' := w8 cI cZ (qf [h0, a1, a2, a3, a4, a5, a6]) (pf (pf z0 2 (4 : Int32)) 3 (1 : Int32))) rfl ?_
  refine SW.callVv_same C (ctX8_beginAnew l D cI cZ (qf [h0, a1, a2, a3, a4, a5, a6]) (pf (pf z0 2 (4 : Int32)) 3 (1 : Int32)) (6 : Int32) _ h) gX8_init_X8_beginAnew rfl rfl rfl pdX8_beginAnew ⟨by decide, by decide⟩ 0 rfl rfl rfl rfl rfl (Nat.le_of_ble_eq_true rfl) dX8_init_65 (by decide) (fun u9 h => ?_)
  try dsimp only at h
  exact SW.nret C (qfs [(qf [h0, a1, a2, a3, a4, a5, a6])], obs [u9]) rfl ⟨rfl, h⟩ dX8_init_68
def wpX1_init (post : (Nat → Ob) → Prop) : Prop := wpX8_init (fun u9 => post (obs [(pf z0 3 (-6 : Int32)), (u9 0)]))
theorem pdX1_init : yX1_init.cls ≠ "java/lang/invoke/MethodHandle" ∧ yX1_init.cls ≠ "java/lang/invoke/VarHandle" ∧ (parseMethodDescriptor yX1_init.desc).map (fun d => d.parameters.length) = some 0 := by decide +kernel
theorem inX1_init_X8 : ∀ w ∈ u_ws RX8 TX8 13, w ∈ wsX1_init := by decide +kernel
theorem inX1_init_X1 : ∀ w ∈ u_ws RX1 TX1 6, w ∈ wsX1_init := by decide +kernel
theorem lkX1_init_12 : Cond.fieldLink RX1 12 (TX1 0).1 (TX1 0).2.1 (TX1 0).2.2.1 ∈ wsX1_init := by decide +kernel
theorem lkX1_init_18 : Cond.fieldLink RX1 18 (TX1 3).1 (TX1 3).2.1 (TX1 3).2.2.1 ∈ wsX1_init := by decide +kernel
set_option maxHeartbeats 4000000 in
set_option maxRecDepth 100000 in
theorem ctX1_init (l : Launch) (D : va_G) (cI cZ : ClassId) (h0 : Nat) (post : (Nat → Ob) → Prop) (h : wpX1_init post) : CTn l yX1_init wsX1_init { frames := 3, cells := 7, slots := 69, locals := 64 } D [(cI, .int), (cZ, .boolean)] [.ref h0] [(h0, .inr (0, [.null, .int 0, .int 0, .int 0, .int 0, .int 0]))] (fun u : UC => w1 cI cZ (u.1 0) (u.1 1) (u.2 0) ++ w8 cI cZ (u.1 1) (u.2 1)) (fun u : UC => u.1 0 0 = h0 ∧ post u.2) 7 69 := by
  refine CTn.of (cc := cX1_init) (own := RX1) (maxL := 1) (lv0 := [(0, .ref h0)]) (by decide) rfl rfl rfl (Nat.le_of_ble_eq_true rfl) rfl ?_
  intro p e s m args below meth c A C hin
  unfold wpX1_init at h
  refine SW.aload_n C dX1_init_0 rfl 0 rfl ?_
  refine SW.objInit C (by decide +kernel) (by decide +kernel) (by decide +kernel) dX1_init_1 (by decide) (Nat.le_of_ble_eq_true rfl) ?_
  refine SW.aload_n C dX1_init_4 rfl 0 rfl ?_
  refine SW.new (ci := 6) (fs := [.int 0, .int 0, .int 0, .int 0, .int 0, .int 0, .int 0, .null, .null, .null, .null, .null, .null]) (T := TX8) (N := 13) (wn := fun n5 => [(h0, .inr (0, [.null, .int 0, .int 0, .int 0, .int 0, .int 0])), (n5, .inr (6, [.int 0, .int 0, .int 0, .int 0, .int 0, .int 0, .int 0, .null, .null, .null, .null, .null, .null]))]) C inX1_init_X8 tyX8 tyX8_ok (by decide +kernel) (by decide +kernel) (by decide +kernel) rfl fsX8 (by decide) (by decide) dX1_init_5 (fun _ => rfl) (fun n5 => ?_)
  refine SW.dup C dX1_init_8 rfl ?_
  refine SW.callI (wr := [(h0, .inr (0, [.null, .int 0, .int 0, .int 0, .int 0, .int 0]))]) (wn := fun u9 : UC => [(h0, .inr (0, [.null, .int 0, .int 0, .int 0, .int 0, .int 0]))] ++ w8 cI cZ (u9.1 0) (u9.2 0)) C (ctX8_init l D cI cZ n5 _ h) gX1_init_X8_init rfl rfl rfl (by decide +kernel) (by decide +kernel) (by decide +kernel) rfl pdX8_init ⟨by decide, by decide⟩ [1] [0] rfl rfl (by decide) (by decide) (by decide) (fun _ => rfl) rfl rfl (Nat.le_of_ble_eq_true rfl) dX1_init_9 ⟨by decide, by decide⟩ (fun u9 hu => ?_)
  obtain ⟨hq, h⟩ := hu
  subst hq
  refine SW.putF (ws' := [(h0, .inr (0, [.ref (u9.1 0 0), .int 0, .int 0, .int 0, .int 0, .int 0]))] ++ w8 cI cZ (u9.1 0) (u9.2 0)) (T := TX1) (N := 6) C hin inX1_init_X1 tyX1 tyX1_ok nmX1 0 rfl rfl 0 (by decide) lkX1_init_12 rfl rfl rfl rfl (Nat.le_of_ble_eq_true rfl) rfl dX1_init_12 ?_
  refine SW.aload_n C dX1_init_15 rfl 0 rfl ?_
  refine SW.bipush (v := (-6 : Int32)) C dX1_init_16 (by decide) ?_
  refine SW.put (ws' := [(h0, .inr (0, [.ref (u9.1 0 0), .int 0, .int 0, .int (-6 : Int32), .int 0, .int 0]))] ++ w8 cI cZ (u9.1 0) (u9.2 0)) (T := TX1) (N := 6) C inX1_init_X1 tyX1 tyX1_ok nmX1 0 rfl rfl 3 (by decide) lkX1_init_18 rfl rfl rfl (Nat.le_of_ble_eq_true rfl) rfl dX1_init_18 ?_
  exact SW.nret C (qfs [(qf [h0]), (u9.1 0)], obs [(pf z0 3 (-6 : Int32)), (u9.2 0)]) rfl ⟨rfl, h⟩ dX1_init_21
def wpX9_init (post : (Nat → Ob) → Prop) : Prop := wpX8_init (fun u9 => wpX8_init (fun u20 => wpX8_init (fun u31 => wpX5_init (fun u52 => wpX1_init (fun u63 => wpX7_init (fun u74 => wpX3_init (fun u85 => wpX4_init (fun u96 => wpX2_init (fun u107 => post (obs [(pf (pf z0 3 (0 : Int32)) 4 (0 : Int32)), (u9 0), (u20 0), (u31 0), (u52 0), (u63 0), (u63 1), (u74 0), (u85 0), (u96 0), (u107 0)]))))))))))
theorem pdX9_init : yX9_init.cls ≠ "java/lang/invoke/MethodHandle" ∧ yX9_init.cls ≠ "java/lang/invoke/VarHandle" ∧ (parseMethodDescriptor yX9_init.desc).map (fun d => d.parameters.length) = some 0 := by decide +kernel
theorem inX9_init_X8 : ∀ w ∈ u_ws RX8 TX8 13, w ∈ wsX9_init := by decide +kernel
theorem inX9_init_X9 : ∀ w ∈ u_ws RX9 TX9 11, w ∈ wsX9_init := by decide +kernel
theorem lkX9_init_12 : Cond.fieldLink RX9 12 (TX9 0).1 (TX9 0).2.1 (TX9 0).2.2.1 ∈ wsX9_init := by decide +kernel
theorem lkX9_init_16 : Cond.fieldLink RX9 16 (TX9 1).1 (TX9 1).2.1 (TX9 1).2.2.1 ∈ wsX9_init := by decide +kernel
theorem lkX9_init_19 : Cond.fieldLink RX9 19 (TX9 2).1 (TX9 2).2.1 (TX9 2).2.2.1 ∈ wsX9_init := by decide +kernel
theorem lkX9_init_22 : Cond.fieldLink RX9 22 (TX9 3).1 (TX9 3).2.1 (TX9 3).2.2.1 ∈ wsX9_init := by decide +kernel
theorem lkX9_init_26 : Cond.fieldLink RX9 26 (TX9 4).1 (TX9 4).2.1 (TX9 4).2.2.1 ∈ wsX9_init := by decide +kernel
theorem inX9_init_X5 : ∀ w ∈ u_ws RX5 TX5 2, w ∈ wsX9_init := by decide +kernel
theorem lkX9_init_32 : Cond.fieldLink RX9 32 (TX9 5).1 (TX9 5).2.1 (TX9 5).2.2.1 ∈ wsX9_init := by decide +kernel
theorem inX9_init_X1 : ∀ w ∈ u_ws RX1 TX1 6, w ∈ wsX9_init := by decide +kernel
theorem lkX9_init_39 : Cond.fieldLink RX9 39 (TX9 6).1 (TX9 6).2.1 (TX9 6).2.2.1 ∈ wsX9_init := by decide +kernel
theorem inX9_init_X7 : ∀ w ∈ u_ws RX7 TX7 7, w ∈ wsX9_init := by decide +kernel
theorem lkX9_init_46 : Cond.fieldLink RX9 46 (TX9 7).1 (TX9 7).2.1 (TX9 7).2.2.1 ∈ wsX9_init := by decide +kernel
theorem inX9_init_X3 : ∀ w ∈ u_ws RX3 TX3 5, w ∈ wsX9_init := by decide +kernel
theorem lkX9_init_53 : Cond.fieldLink RX9 53 (TX9 8).1 (TX9 8).2.1 (TX9 8).2.2.1 ∈ wsX9_init := by decide +kernel
theorem inX9_init_X4 : ∀ w ∈ u_ws RX4 TX4 2, w ∈ wsX9_init := by decide +kernel
theorem lkX9_init_60 : Cond.fieldLink RX9 60 (TX9 9).1 (TX9 9).2.1 (TX9 9).2.2.1 ∈ wsX9_init := by decide +kernel
theorem inX9_init_X2 : ∀ w ∈ u_ws RX2 TX2 1, w ∈ wsX9_init := by decide +kernel
theorem lkX9_init_67 : Cond.fieldLink RX9 67 (TX9 10).1 (TX9 10).2.1 (TX9 10).2.2.1 ∈ wsX9_init := by decide +kernel
set_option maxHeartbeats 4000000 in
set_option maxRecDepth 100000 in
theorem ctX9_init (l : Launch) (D : va_G) (cI cZ : ClassId) (h0 : Nat) (post : (Nat → Ob) → Prop) (h : wpX9_init post) : CTn l yX9_init wsX9_init { frames := 4, cells := 43, slots := 6725, locals := 84 } D [(cI, .int), (cZ, .boolean)] [.ref h0] [(h0, .inr (7, [.null, .null, .null, .int 0, .int 0, .null, .null, .null, .null, .null, .null]))] (fun u : UC => w9 cI cZ (u.1 0) (u.1 1) (u.1 2) (u.1 3) (u.1 4) (u.1 5) (u.1 7) (u.1 8) (u.1 9) (u.1 10) (u.2 0) ++ w8 cI cZ (u.1 1) (u.2 1) ++ w8 cI cZ (u.1 2) (u.2 2) ++ w8 cI cZ (u.1 3) (u.2 3) ++ w5 cI cZ (u.1 4) (u.2 4) ++ w1 cI cZ (u.1 5) (u.1 6) (u.2 5) ++ w8 cI cZ (u.1 6) (u.2 6) ++ w7 cI cZ (u.1 7) (u.2 7) ++ w3 cI cZ (u.1 8) (u.2 8) ++ w4 cI cZ (u.1 9) (u.2 9) ++ w2 cI cZ (u.1 10) (u.2 10)) (fun u : UC => u.1 0 0 = h0 ∧ post u.2) 43 6725 := by
  refine CTn.of (cc := cX9_init) (own := RX9) (maxL := 1) (lv0 := [(0, .ref h0)]) (by decide) rfl rfl rfl (Nat.le_of_ble_eq_true rfl) rfl ?_
  intro p e s m args below meth c A C hin
  unfold wpX9_init at h
  refine SW.aload_n C dX9_init_0 rfl 0 rfl ?_
  refine SW.objInit C (by decide +kernel) (by decide +kernel) (by decide +kernel) dX9_init_1 (by decide) (Nat.le_of_ble_eq_true rfl) ?_
  refine SW.aload_n C dX9_init_4 rfl 0 rfl ?_
  refine SW.new (ci := 6) (fs := [.int 0, .int 0, .int 0, .int 0, .int 0, .int 0, .int 0, .null, .null, .null, .null, .null, .null]) (T := TX8) (N := 13) (wn := fun n5 => [(h0, .inr (7, [.null, .null, .null, .int 0, .int 0, .null, .null, .null, .null, .null, .null])), (n5, .inr (6, [.int 0, .int 0, .int 0, .int 0, .int 0, .int 0, .int 0, .null, .null, .null, .null, .null, .null]))]) C inX9_init_X8 tyX8 tyX8_ok (by decide +kernel) (by decide +kernel) (by decide +kernel) rfl fsX8 (by decide) (by decide) dX9_init_5 (fun _ => rfl) (fun n5 => ?_)
  refine SW.dup C dX9_init_8 rfl ?_
  refine SW.callI (wr := [(h0, .inr (7, [.null, .null, .null, .int 0, .int 0, .null, .null, .null, .null, .null, .null]))]) (wn := fun u9 : UC => [(h0, .inr (7, [.null, .null, .null, .int 0, .int 0, .null, .null, .null, .null, .null, .null]))] ++ w8 cI cZ (u9.1 0) (u9.2 0)) C (ctX8_init l D cI cZ n5 _ h) gX9_init_X8_init rfl rfl rfl (by decide +kernel) (by decide +kernel) (by decide +kernel) rfl pdX8_init ⟨by decide, by decide⟩ [1] [0] rfl rfl (by decide) (by decide) (by decide) (fun _ => rfl) rfl rfl (Nat.le_of_ble_eq_true rfl) dX9_init_9 ⟨by decide, by decide⟩ (fun u9 hu => ?_)
  obtain ⟨hq, h⟩ := hu
  subst hq
  refine SW.putF (ws' := [(h0, .inr (7, [.ref (u9.1 0 0), .null, .null, .int 0, .int 0, .null, .null, .null, .null, .null, .null]))] ++ w8 cI cZ (u9.1 0) (u9.2 0)) (T := TX9) (N := 11) C hin inX9_init_X9 tyX9 tyX9_ok nmX9 0 rfl rfl 0 (by decide) lkX9_init_12 rfl rfl rfl rfl (Nat.le_of_ble_eq_true rfl) rfl dX9_init_12 ?_
  refine SW.aload_n C dX9_init_15 rfl 0 rfl ?_
  refine SW.new (ci := 6) (fs := [.int 0, .int 0, .int 0, .int 0, .int 0, .int 0, .int 0, .null, .null, .null, .null, .null, .null]) (T := TX8) (N := 13) (wn := fun n16 => [(h0, .inr (7, [.ref (u9.1 0 0), .null, .null, .int 0, .int 0, .null, .null, .null, .null, .null, .null]))] ++ w8 cI cZ (u9.1 0) (u9.2 0) ++ [(n16, .inr (6, [.int 0, .int 0, .int 0, .int 0, .int 0, .int 0, .int 0, .null, .null, .null, .null, .null, .null]))]) C inX9_init_X8 tyX8 tyX8_ok (by decide +kernel) (by decide +kernel) (by decide +kernel) rfl fsX8 (by decide) (by decide) dX9_init_16 (fun _ => rfl) (fun n16 => ?_)
  refine SW.dup C dX9_init_19 rfl ?_
  refine SW.callI (wr := [(h0, .inr (7, [.ref (u9.1 0 0), .null, .null, .int 0, .int 0, .null, .null, .null, .null, .null, .null]))] ++ w8 cI cZ (u9.1 0) (u9.2 0)) (wn := fun u20 : UC => [(h0, .inr (7, [.ref (u9.1 0 0), .null, .null, .int 0, .int 0, .null, .null, .null, .null, .null, .null]))] ++ w8 cI cZ (u9.1 0) (u9.2 0) ++ w8 cI cZ (u20.1 0) (u20.2 0)) C (ctX8_init l D cI cZ n16 _ h) gX9_init_X8_init rfl rfl rfl (by decide +kernel) (by decide +kernel) (by decide +kernel) rfl pdX8_init ⟨by decide, by decide⟩ [8] [0, 1, 2, 3, 4, 5, 6, 7] rfl rfl (by decide) (by decide) (by decide) (fun _ => rfl) rfl rfl (Nat.le_of_ble_eq_true rfl) dX9_init_20 ⟨by decide, by decide⟩ (fun u20 hu => ?_)
  obtain ⟨hq, h⟩ := hu
  subst hq
  refine SW.putF (ws' := [(h0, .inr (7, [.ref (u9.1 0 0), .ref (u20.1 0 0), .null, .int 0, .int 0, .null, .null, .null, .null, .null, .null]))] ++ w8 cI cZ (u9.1 0) (u9.2 0) ++ w8 cI cZ (u20.1 0) (u20.2 0)) (T := TX9) (N := 11) C hin inX9_init_X9 tyX9 tyX9_ok nmX9 0 rfl rfl 1 (by decide) lkX9_init_16 rfl rfl rfl rfl (Nat.le_of_ble_eq_true rfl) rfl dX9_init_23 ?_
  refine SW.aload_n C dX9_init_26 rfl 0 rfl ?_
  refine SW.new (ci := 6) (fs := [.int 0, .int 0, .int 0, .int 0, .int 0, .int 0, .int 0, .null, .null, .null, .null, .null, .null]) (T := TX8) (N := 13) (wn := fun n27 => [(h0, .inr (7, [.ref (u9.1 0 0), .ref (u20.1 0 0), .null, .int 0, .int 0, .null, .null, .null, .null, .null, .null]))] ++ w8 cI cZ (u9.1 0) (u9.2 0) ++ w8 cI cZ (u20.1 0) (u20.2 0) ++ [(n27, .inr (6, [.int 0, .int 0, .int 0, .int 0, .int 0, .int 0, .int 0, .null, .null, .null, .null, .null, .null]))]) C inX9_init_X8 tyX8 tyX8_ok (by decide +kernel) (by decide +kernel) (by decide +kernel) rfl fsX8 (by decide) (by decide) dX9_init_27 (fun _ => rfl) (fun n27 => ?_)
  refine SW.dup C dX9_init_30 rfl ?_
  refine SW.callI (wr := [(h0, .inr (7, [.ref (u9.1 0 0), .ref (u20.1 0 0), .null, .int 0, .int 0, .null, .null, .null, .null, .null, .null]))] ++ w8 cI cZ (u9.1 0) (u9.2 0) ++ w8 cI cZ (u20.1 0) (u20.2 0)) (wn := fun u31 : UC => [(h0, .inr (7, [.ref (u9.1 0 0), .ref (u20.1 0 0), .null, .int 0, .int 0, .null, .null, .null, .null, .null, .null]))] ++ w8 cI cZ (u9.1 0) (u9.2 0) ++ w8 cI cZ (u20.1 0) (u20.2 0) ++ w8 cI cZ (u31.1 0) (u31.2 0)) C (ctX8_init l D cI cZ n27 _ h) gX9_init_X8_init rfl rfl rfl (by decide +kernel) (by decide +kernel) (by decide +kernel) rfl pdX8_init ⟨by decide, by decide⟩ [15] [0, 1, 2, 3, 4, 5, 6, 7, 8, 9, 10, 11, 12, 13, 14] rfl rfl (by decide) (by decide) (by decide) (fun _ => rfl) rfl rfl (Nat.le_of_ble_eq_true rfl) dX9_init_31 ⟨by decide, by decide⟩ (fun u31 hu => ?_)
  obtain ⟨hq, h⟩ := hu
  subst hq
  refine SW.putF (ws' := [(h0, .inr (7, [.ref (u9.1 0 0), .ref (u20.1 0 0), .ref (u31.1 0 0), .int 0, .int 0, .null, .null, .null, .null, .null, .null]))] ++ w8 cI cZ (u9.1 0) (u9.2 0) ++ w8 cI cZ (u20.1 0) (u20.2 0) ++ w8 cI cZ (u31.1 0) (u31.2 0)) (T := TX9) (N := 11) C hin inX9_init_X9 tyX9 tyX9_ok nmX9 0 rfl rfl 2 (by decide) lkX9_init_19 rfl rfl rfl rfl (Nat.le_of_ble_eq_true rfl) rfl dX9_init_34 ?_
  refine SW.aload_n C dX9_init_37 rfl 0 rfl ?_
  refine SW.iconst (v := (0 : Int32)) C dX9_init_38 (by decide) ?_
  refine SW.put (ws' := [(h0, .inr (7, [.ref (u9.1 0 0), .ref (u20.1 0 0), .ref (u31.1 0 0), .int (0 : Int32), .int 0, .null, .null, .null, .null, .null, .null]))] ++ w8 cI cZ (u9.1 0) (u9.2 0) ++ w8 cI cZ (u20.1 0) (u20.2 0) ++ w8 cI cZ (u31.1 0) (u31.2 0)) (T := TX9) (N := 11) C inX9_init_X9 tyX9 tyX9_ok nmX9 0 rfl rfl 3 (by decide) lkX9_init_22 rfl rfl rfl (Nat.le_of_ble_eq_true rfl) rfl dX9_init_39 ?_
  refine SW.aload_n C dX9_init_42 rfl 0 rfl ?_
  refine SW.iconst (v := (0 : Int32)) C dX9_init_43 (by decide) ?_
  refine SW.put (ws' := [(h0, .inr (7, [.ref (u9.1 0 0), .ref (u20.1 0 0), .ref (u31.1 0 0), .int (0 : Int32), .int (0 : Int32), .null, .null, .null, .null, .null, .null]))] ++ w8 cI cZ (u9.1 0) (u9.2 0) ++ w8 cI cZ (u20.1 0) (u20.2 0) ++ w8 cI cZ (u31.1 0) (u31.2 0)) (T := TX9) (N := 11) C inX9_init_X9 tyX9 tyX9_ok nmX9 0 rfl rfl 4 (by decide) lkX9_init_26 rfl rfl rfl (Nat.le_of_ble_eq_true rfl) rfl dX9_init_44 ?_
  refine SW.aload_n C dX9_init_47 rfl 0 rfl ?_
  refine SW.new (ci := 4) (fs := [.int 0, .null]) (T := TX5) (N := 2) (wn := fun n48 => [(h0, .inr (7, [.ref (u9.1 0 0), .ref (u20.1 0 0), .ref (u31.1 0 0), .int (0 : Int32), .int (0 : Int32), .null, .null, .null, .null, .null, .null]))] ++ w8 cI cZ (u9.1 0) (u9.2 0) ++ w8 cI cZ (u20.1 0) (u20.2 0) ++ w8 cI cZ (u31.1 0) (u31.2 0) ++ [(n48, .inr (4, [.int 0, .null]))]) C inX9_init_X5 tyX5 tyX5_ok (by decide +kernel) (by decide +kernel) (by decide +kernel) rfl fsX5 (by decide) (by decide) dX9_init_48 (fun _ => rfl) (fun n48 => ?_)
  refine SW.dup C dX9_init_51 rfl ?_
  refine SW.callI (wr := [(h0, .inr (7, [.ref (u9.1 0 0), .ref (u20.1 0 0), .ref (u31.1 0 0), .int (0 : Int32), .int (0 : Int32), .null, .null, .null, .null, .null, .null]))] ++ w8 cI cZ (u9.1 0) (u9.2 0) ++ w8 cI cZ (u20.1 0) (u20.2 0) ++ w8 cI cZ (u31.1 0) (u31.2 0)) (wn := fun u52 : UC => [(h0, .inr (7, [.ref (u9.1 0 0), .ref (u20.1 0 0), .ref (u31.1 0 0), .int (0 : Int32), .int (0 : Int32), .null, .null, .null, .null, .null, .null]))] ++ w8 cI cZ (u9.1 0) (u9.2 0) ++ w8 cI cZ (u20.1 0) (u20.2 0) ++ w8 cI cZ (u31.1 0) (u31.2 0) ++ w5 cI cZ (u52.1 0) (u52.2 0)) C (ctX5_init l D cI cZ n48 _ h) gX9_init_X5_init rfl rfl rfl (by decide +kernel) (by decide +kernel) (by decide +kernel) rfl pdX5_init ⟨by decide, by decide⟩ [22] [0, 1, 2, 3, 4, 5, 6, 7, 8, 9, 10, 11, 12, 13, 14, 15, 16, 17, 18, 19, 20, 21] rfl rfl (by decide) (by decide) (by decide) (fun _ => rfl) rfl rfl (Nat.le_of_ble_eq_true rfl) dX9_init_52 ⟨by decide, by decide⟩ (fun u52 hu => ?_)
  obtain ⟨hq, h⟩ := hu
  subst hq
  refine SW.putF (ws' := [(h0, .inr (7, [.ref (u9.1 0 0), .ref (u20.1 0 0), .ref (u31.1 0 0), .int (0 : Int32), .int (0 : Int32), .ref (u52.1 0 0), .null, .null, .null, .null, .null]))] ++ w8 cI cZ (u9.1 0) (u9.2 0) ++ w8 cI cZ (u20.1 0) (u20.2 0) ++ w8 cI cZ (u31.1 0) (u31.2 0) ++ w5 cI cZ (u52.1 0) (u52.2 0)) (T := TX9) (N := 11) C hin inX9_init_X9 tyX9 tyX9_ok nmX9 0 rfl rfl 5 (by decide) lkX9_init_32 rfl rfl rfl rfl (Nat.le_of_ble_eq_true rfl) rfl dX9_init_55 ?_
  refine SW.aload_n C dX9_init_58 rfl 0 rfl ?_
  refine SW.new (ci := 0) (fs := [.null, .int 0, .int 0, .int 0, .int 0, .int 0]) (T := TX1) (N := 6) (wn := fun n59 => [(h0, .inr (7, [.ref (u9.1 0 0), .ref (u20.1 0 0), .ref (u31.1 0 0), .int (0 : Int32), .int (0 : Int32), .ref (u52.1 0 0), .null, .null, .null, .null, .null]))] ++ w8 cI cZ (u9.1 0) (u9.2 0) ++ w8 cI cZ (u20.1 0) (u20.2 0) ++ w8 cI cZ (u31.1 0) (u31.2 0) ++ w5 cI cZ (u52.1 0) (u52.2 0) ++ [(n59, .inr (0, [.null, .int 0, .int 0, .int 0, .int 0, .int 0]))]) C inX9_init_X1 tyX1 tyX1_ok (by decide +kernel) (by decide +kernel) (by decide +kernel) rfl fsX1 (by decide) (by decide) dX9_init_59 (fun _ => rfl) (fun n59 => ?_)
  refine SW.dup C dX9_init_62 rfl ?_
  refine SW.callI (wr := [(h0, .inr (7, [.ref (u9.1 0 0), .ref (u20.1 0 0), .ref (u31.1 0 0), .int (0 : Int32), .int (0 : Int32), .ref (u52.1 0 0), .null, .null, .null, .null, .null]))] ++ w8 cI cZ (u9.1 0) (u9.2 0) ++ w8 cI cZ (u20.1 0) (u20.2 0) ++ w8 cI cZ (u31.1 0) (u31.2 0) ++ w5 cI cZ (u52.1 0) (u52.2 0)) (wn := fun u63 : UC => [(h0, .inr (7, [.ref (u9.1 0 0), .ref (u20.1 0 0), .ref (u31.1 0 0), .int (0 : Int32), .int (0 : Int32), .ref (u52.1 0 0), .null, .null, .null, .null, .null]))] ++ w8 cI cZ (u9.1 0) (u9.2 0) ++ w8 cI cZ (u20.1 0) (u20.2 0) ++ w8 cI cZ (u31.1 0) (u31.2 0) ++ w5 cI cZ (u52.1 0) (u52.2 0) ++ w1 cI cZ (u63.1 0) (u63.1 1) (u63.2 0) ++ w8 cI cZ (u63.1 1) (u63.2 1)) C (ctX1_init l D cI cZ n59 _ h) gX9_init_X1_init rfl rfl rfl (by decide +kernel) (by decide +kernel) (by decide +kernel) rfl pdX1_init ⟨by decide, by decide⟩ [24] [0, 1, 2, 3, 4, 5, 6, 7, 8, 9, 10, 11, 12, 13, 14, 15, 16, 17, 18, 19, 20, 21, 22, 23] rfl rfl (by decide) (by decide) (by decide) (fun _ => rfl) rfl rfl (Nat.le_of_ble_eq_true rfl) dX9_init_63 ⟨by decide, by decide⟩ (fun u63 hu => ?_)
  obtain ⟨hq, h⟩ := hu
  subst hq
  refine SW.putF (ws' := [(h0, .inr (7, [.ref (u9.1 0 0), .ref (u20.1 0 0), .ref (u31.1 0 0), .int (0 : Int32), .int (0 : Int32), .ref (u52.1 0 0), .ref (u63.1 0 0), .null, .null, .null, .null]))] ++ w8 cI cZ (u9.1 0) (u9.2 0) ++ w8 cI cZ (u20.1 0) (u20.2 0) ++ w8 cI cZ (u31.1 0) (u31.2 0) ++ w5 cI cZ (u52.1 0) (u52.2 0) ++ w1 cI cZ (u63.1 0) (u63.1 1) (u63.2 0) ++ w8 cI cZ (u63.1 1) (u63.2 1)) (T := TX9) (N := 11) C hin inX9_init_X9 tyX9 tyX9_ok nmX9 0 rfl rfl 6 (by decide) lkX9_init_39 rfl rfl rfl rfl (Nat.le_of_ble_eq_true rfl) rfl dX9_init_66 ?_
  refine SW.aload_n C dX9_init_69 rfl 0 rfl ?_
  refine SW.new (ci := 5) (fs := [.null, .null, .null, .int 0, .int 0, .int 0, .int 0]) (T := TX7) (N := 7) (wn := fun n70 => [(h0, .inr (7, [.ref (u9.1 0 0), .ref (u20.1 0 0), .ref (u31.1 0 0), .int (0 : Int32), .int (0 : Int32), .ref (u52.1 0 0), .ref (u63.1 0 0), .null, .null, .null, .null]))] ++ w8 cI cZ (u9.1 0) (u9.2 0) ++ w8 cI cZ (u20.1 0) (u20.2 0) ++ w8 cI cZ (u31.1 0) (u31.2 0) ++ w5 cI cZ (u52.1 0) (u52.2 0) ++ w1 cI cZ (u63.1 0) (u63.1 1) (u63.2 0) ++ w8 cI cZ (u63.1 1) (u63.2 1) ++ [(n70, .inr (5, [.null, .null, .null, .int 0, .int 0, .int 0, .int 0]))]) C inX9_init_X7 tyX7 tyX7_ok (by decide +kernel) (by decide +kernel) (by decide +kernel) rfl fsX7 (by decide) (by decide) dX9_init_70 (fun _ => rfl) (fun n70 => ?_)
  refine SW.dup C dX9_init_73 rfl ?_
  refine SW.callI (wr := [(h0, .inr (7, [.ref (u9.1 0 0), .ref (u20.1 0 0), .ref (u31.1 0 0), .int (0 : Int32), .int (0 : Int32), .ref (u52.1 0 0), .ref (u63.1 0 0), .null, .null, .null, .null]))] ++ w8 cI cZ (u9.1 0) (u9.2 0) ++ w8 cI cZ (u20.1 0) (u20.2 0) ++ w8 cI cZ (u31.1 0) (u31.2 0) ++ w5 cI cZ (u52.1 0) (u52.2 0) ++ w1 cI cZ (u63.1 0) (u63.1 1) (u63.2 0) ++ w8 cI cZ (u63.1 1) (u63.2 1)) (wn := fun u74 : UC => [(h0, .inr (7, [.ref (u9.1 0 0), .ref (u20.1 0 0), .ref (u31.1 0 0), .int (0 : Int32), .int (0 : Int32), .ref (u52.1 0 0), .ref (u63.1 0 0), .null, .null, .null, .null]))] ++ w8 cI cZ (u9.1 0) (u9.2 0) ++ w8 cI cZ (u20.1 0) (u20.2 0) ++ w8 cI cZ (u31.1 0) (u31.2 0) ++ w5 cI cZ (u52.1 0) (u52.2 0) ++ w1 cI cZ (u63.1 0) (u63.1 1) (u63.2 0) ++ w8 cI cZ (u63.1 1) (u63.2 1) ++ w7 cI cZ (u74.1 0) (u74.2 0)) C (ctX7_init l D cI cZ n70 _ h) gX9_init_X7_init rfl rfl rfl (by decide +kernel) (by decide +kernel) (by decide +kernel) rfl pdX7_init ⟨by decide, by decide⟩ [32] [0, 1, 2, 3, 4, 5, 6, 7, 8, 9, 10, 11, 12, 13, 14, 15, 16, 17, 18, 19, 20, 21, 22, 23, 24, 25, 26, 27, 28, 29, 30, 31] rfl rfl (by decide) (by decide) (by decide) (fun _ => rfl) rfl rfl (Nat.le_of_ble_eq_true rfl) dX9_init_74 ⟨by decide, by decide⟩ (fun u74 hu => ?_)
  obtain ⟨hq, h⟩ := hu
  subst hq
  refine SW.putF (ws' := [(h0, .inr (7, [.ref (u9.1 0 0), .ref (u20.1 0 0), .ref (u31.1 0 0), .int (0 : Int32), .int (0 : Int32), .ref (u52.1 0 0), .ref (u63.1 0 0), .ref (u74.1 0 0), .null, .null, .null]))] ++ w8 cI cZ (u9.1 0) (u9.2 0) ++ w8 cI cZ (u20.1 0) (u20.2 0) ++ w8 cI cZ (u31.1 0) (u31.2 0) ++ w5 cI cZ (u52.1 0) (u52.2 0) ++ w1 cI cZ (u63.1 0) (u63.1 1) (u63.2 0) ++ w8 cI cZ (u63.1 1) (u63.2 1) ++ w7 cI cZ (u74.1 0) (u74.2 0)) (T := TX9) (N := 11) C hin inX9_init_X9 tyX9 tyX9_ok nmX9 0 rfl rfl 7 (by decide) lkX9_init_46 rfl rfl rfl rfl (Nat.le_of_ble_eq_true rfl) rfl dX9_init_77 ?_
  refine SW.aload_n C dX9_init_80 rfl 0 rfl ?_
  refine SW.new (ci := 2) (fs := [.null, .null, .int 0, .int 0, .int 0]) (T := TX3) (N := 5) (wn := fun n81 => [(h0, .inr (7, [.ref (u9.1 0 0), .ref (u20.1 0 0), .ref (u31.1 0 0), .int (0 : Int32), .int (0 : Int32), .ref (u52.1 0 0), .ref (u63.1 0 0), .ref (u74.1 0 0), .null, .null, .null]))] ++ w8 cI cZ (u9.1 0) (u9.2 0) ++ w8 cI cZ (u20.1 0) (u20.2 0) ++ w8 cI cZ (u31.1 0) (u31.2 0) ++ w5 cI cZ (u52.1 0) (u52.2 0) ++ w1 cI cZ (u63.1 0) (u63.1 1) (u63.2 0) ++ w8 cI cZ (u63.1 1) (u63.2 1) ++ w7 cI cZ (u74.1 0) (u74.2 0) ++ [(n81, .inr (2, [.null, .null, .int 0, .int 0, .int 0]))]) C inX9_init_X3 tyX3 tyX3_ok (by decide +kernel) (by decide +kernel) (by decide +kernel) rfl fsX3 (by decide) (by decide) dX9_init_81 (fun _ => rfl) (fun n81 => ?_)
  refine SW.dup C dX9_init_84 rfl ?_
  refine SW.callI (wr := [(h0, .inr (7, [.ref (u9.1 0 0), .ref (u20.1 0 0), .ref (u31.1 0 0), .int (0 : Int32), .int (0 : Int32), .ref (u52.1 0 0), .ref (u63.1 0 0), .ref (u74.1 0 0), .null, .null, .null]))] ++ w8 cI cZ (u9.1 0) (u9.2 0) ++ w8 cI cZ (u20.1 0) (u20.2 0) ++ w8 cI cZ (u31.1 0) (u31.2 0) ++ w5 cI cZ (u52.1 0) (u52.2 0) ++ w1 cI cZ (u63.1 0) (u63.1 1) (u63.2 0) ++ w8 cI cZ (u63.1 1) (u63.2 1) ++ w7 cI cZ (u74.1 0) (u74.2 0)) (wn := fun u85 : UC => [(h0, .inr (7, [.ref (u9.1 0 0), .ref (u20.1 0 0), .ref (u31.1 0 0), .int (0 : Int32), .int (0 : Int32), .ref (u52.1 0 0), .ref (u63.1 0 0), .ref (u74.1 0 0), .null, .null, .null]))] ++ w8 cI cZ (u9.1 0) (u9.2 0) ++ w8 cI cZ (u20.1 0) (u20.2 0) ++ w8 cI cZ (u31.1 0) (u31.2 0) ++ w5 cI cZ (u52.1 0) (u52.2 0) ++ w1 cI cZ (u63.1 0) (u63.1 1) (u63.2 0) ++ w8 cI cZ (u63.1 1) (u63.2 1) ++ w7 cI cZ (u74.1 0) (u74.2 0) ++ w3 cI cZ (u85.1 0) (u85.2 0)) C (ctX3_init l D cI cZ n81 _ h) gX9_init_X3_init rfl rfl rfl (by decide +kernel) (by decide +kernel) (by decide +kernel) rfl pdX3_init ⟨by decide, by decide⟩ [36] [0, 1, 2, 3, 4, 5, 6, 7, 8, 9, 10, 11, 12, 13, 14, 15, 16, 17, 18, 19, 20, 21, 22, 23, 24, 25, 26, 27, 28, 29, 30, 31, 32, 33, 34, 35] rfl rfl (by decide) (by decide) (by decide) (fun _ => rfl) rfl rfl (Nat.le_of_ble_eq_true rfl) dX9_init_85 ⟨by decide, by decide⟩ (fun u85 hu => ?_)
  obtain ⟨hq, h⟩ := hu
  subst hq
  refine SW.putF (ws' := [(h0, .inr (7, [.ref (u9.1 0 0), .ref (u20.1 0 0), .ref (u31.1 0 0), .int (0 : Int32), .int (0 : Int32), .ref (u52.1 0 0), .ref (u63.1 0 0), .ref (u74.1 0 0), .ref (u85.1 0 0), .null, .null]))] ++ w8 cI cZ (u9.1 0) (u9.2 0) ++ w8 cI cZ (u20.1 0) (u20.2 0) ++ w8 cI cZ (u31.1 0) (u31.2 0) ++ w5 cI cZ (u52.1 0) (u52.2 0) ++ w1 cI cZ (u63.1 0) (u63.1 1) (u63.2 0) ++ w8 cI cZ (u63.1 1) (u63.2 1) ++ w7 cI cZ (u74.1 0) (u74.2 0) ++ w3 cI cZ (u85.1 0) (u85.2 0)) (T := TX9) (N := 11) C hin inX9_init_X9 tyX9 tyX9_ok nmX9 0 rfl rfl 8 (by decide) lkX9_init_53 rfl rfl rfl rfl (Nat.le_of_ble_eq_true rfl) rfl dX9_init_88 ?_
  refine SW.aload_n C dX9_init_91 rfl 0 rfl ?_
  refine SW.new (ci := 3) (fs := [.null, .null]) (T := TX4) (N := 2) (wn := fun n92 => [(h0, .inr (7, [.ref (u9.1 0 0), .ref (u20.1 0 0), .ref (u31.1 0 0), .int (0 : Int32), .int (0 : Int32), .ref (u52.1 0 0), .ref (u63.1 0 0), .ref (u74.1 0 0), .ref (u85.1 0 0), .null, .null]))] ++ w8 cI cZ (u9.1 0) (u9.2 0) ++ w8 cI cZ (u20.1 0) (u20.2 0) ++ w8 cI cZ (u31.1 0) (u31.2 0) ++ w5 cI cZ (u52.1 0) (u52.2 0) ++ w1 cI cZ (u63.1 0) (u63.1 1) (u63.2 0) ++ w8 cI cZ (u63.1 1) (u63.2 1) ++ w7 cI cZ (u74.1 0) (u74.2 0) ++ w3 cI cZ (u85.1 0) (u85.2 0) ++ [(n92, .inr (3, [.null, .null]))]) C inX9_init_X4 tyX4 tyX4_ok (by decide +kernel) (by decide +kernel) (by decide +kernel) rfl fsX4 (by decide) (by decide) dX9_init_92 (fun _ => rfl) (fun n92 => ?_)
  refine SW.dup C dX9_init_95 rfl ?_
  refine SW.callI (wr := [(h0, .inr (7, [.ref (u9.1 0 0), .ref (u20.1 0 0), .ref (u31.1 0 0), .int (0 : Int32), .int (0 : Int32), .ref (u52.1 0 0), .ref (u63.1 0 0), .ref (u74.1 0 0), .ref (u85.1 0 0), .null, .null]))] ++ w8 cI cZ (u9.1 0) (u9.2 0) ++ w8 cI cZ (u20.1 0) (u20.2 0) ++ w8 cI cZ (u31.1 0) (u31.2 0) ++ w5 cI cZ (u52.1 0) (u52.2 0) ++ w1 cI cZ (u63.1 0) (u63.1 1) (u63.2 0) ++ w8 cI cZ (u63.1 1) (u63.2 1) ++ w7 cI cZ (u74.1 0) (u74.2 0) ++ w3 cI cZ (u85.1 0) (u85.2 0)) (wn := fun u96 : UC => [(h0, .inr (7, [.ref (u9.1 0 0), .ref (u20.1 0 0), .ref (u31.1 0 0), .int (0 : Int32), .int (0 : Int32), .ref (u52.1 0 0), .ref (u63.1 0 0), .ref (u74.1 0 0), .ref (u85.1 0 0), .null, .null]))] ++ w8 cI cZ (u9.1 0) (u9.2 0) ++ w8 cI cZ (u20.1 0) (u20.2 0) ++ w8 cI cZ (u31.1 0) (u31.2 0) ++ w5 cI cZ (u52.1 0) (u52.2 0) ++ w1 cI cZ (u63.1 0) (u63.1 1) (u63.2 0) ++ w8 cI cZ (u63.1 1) (u63.2 1) ++ w7 cI cZ (u74.1 0) (u74.2 0) ++ w3 cI cZ (u85.1 0) (u85.2 0) ++ w4 cI cZ (u96.1 0) (u96.2 0)) C (ctX4_init l D cI cZ n92 _ h) gX9_init_X4_init rfl rfl rfl (by decide +kernel) (by decide +kernel) (by decide +kernel) rfl pdX4_init ⟨by decide, by decide⟩ [39] [0, 1, 2, 3, 4, 5, 6, 7, 8, 9, 10, 11, 12, 13, 14, 15, 16, 17, 18, 19, 20, 21, 22, 23, 24, 25, 26, 27, 28, 29, 30, 31, 32, 33, 34, 35, 36, 37, 38] rfl rfl (by decide) (by decide) (by decide) (fun _ => rfl) rfl rfl (Nat.le_of_ble_eq_true rfl) dX9_init_96 ⟨by decide, by decide⟩ (fun u96 hu => ?_)
  obtain ⟨hq, h⟩ := hu
  subst hq
  refine SW.putF (ws' := [(h0, .inr (7, [.ref (u9.1 0 0), .ref (u20.1 0 0), .ref (u31.1 0 0), .int (0 : Int32), .int (0 : Int32), .ref (u52.1 0 0), .ref (u63.1 0 0), .ref (u74.1 0 0), .ref (u85.1 0 0), .ref (u96.1 0 0), .null]))] ++ w8 cI cZ (u9.1 0) (u9.2 0) ++ w8 cI cZ (u20.1 0) (u20.2 0) ++ w8 cI cZ (u31.1 0) (u31.2 0) ++ w5 cI cZ (u52.1 0) (u52.2 0) ++ w1 cI cZ (u63.1 0) (u63.1 1) (u63.2 0) ++ w8 cI cZ (u63.1 1) (u63.2 1) ++ w7 cI cZ (u74.1 0) (u74.2 0) ++ w3 cI cZ (u85.1 0) (u85.2 0) ++ w4 cI cZ (u96.1 0) (u96.2 0)) (T := TX9) (N := 11) C hin inX9_init_X9 tyX9 tyX9_ok nmX9 0 rfl rfl 9 (by decide) lkX9_init_60 rfl rfl rfl rfl (Nat.le_of_ble_eq_true rfl) rfl dX9_init_99 ?_
  refine SW.aload_n C dX9_init_102 rfl 0 rfl ?_
  refine SW.new (ci := 1) (fs := [.null]) (T := TX2) (N := 1) (wn := fun n103 => [(h0, .inr (7, [.ref (u9.1 0 0), .ref (u20.1 0 0), .ref (u31.1 0 0), .int (0 : Int32), .int (0 : Int32), .ref (u52.1 0 0), .ref (u63.1 0 0), .ref (u74.1 0 0), .ref (u85.1 0 0), .ref (u96.1 0 0), .null]))] ++ w8 cI cZ (u9.1 0) (u9.2 0) ++ w8 cI cZ (u20.1 0) (u20.2 0) ++ w8 cI cZ (u31.1 0) (u31.2 0) ++ w5 cI cZ (u52.1 0) (u52.2 0) ++ w1 cI cZ (u63.1 0) (u63.1 1) (u63.2 0) ++ w8 cI cZ (u63.1 1) (u63.2 1) ++ w7 cI cZ (u74.1 0) (u74.2 0) ++ w3 cI cZ (u85.1 0) (u85.2 0) ++ w4 cI cZ (u96.1 0) (u96.2 0) ++ [(n103, .inr (1, [.null]))]) C inX9_init_X2 tyX2 tyX2_ok (by decide +kernel) (by decide +kernel) (by decide +kernel) rfl fsX2 (by decide) (by decide) dX9_init_103 (fun _ => rfl) (fun n103 => ?_)
  refine SW.dup C dX9_init_106 rfl ?_
  refine SW.callI (wr := [(h0, .inr (7, [.ref (u9.1 0 0), .ref (u20.1 0 0), .ref (u31.1 0 0), .int (0 : Int32), .int (0 : Int32), .ref (u52.1 0 0), .ref (u63.1 0 0), .ref (u74.1 0 0), .ref (u85.1 0 0), .ref (u96.1 0 0), .null]))] ++ w8 cI cZ (u9.1 0) (u9.2 0) ++ w8 cI cZ (u20.1 0) (u20.2 0) ++ w8 cI cZ (u31.1 0) (u31.2 0) ++ w5 cI cZ (u52.1 0) (u52.2 0) ++ w1 cI cZ (u63.1 0) (u63.1 1) (u63.2 0) ++ w8 cI cZ (u63.1 1) (u63.2 1) ++ w7 cI cZ (u74.1 0) (u74.2 0) ++ w3 cI cZ (u85.1 0) (u85.2 0) ++ w4 cI cZ (u96.1 0) (u96.2 0)) (wn := fun u107 : UC => [(h0, .inr (7, [.ref (u9.1 0 0), .ref (u20.1 0 0), .ref (u31.1 0 0), .int (0 : Int32), .int (0 : Int32), .ref (u52.1 0 0), .ref (u63.1 0 0), .ref (u74.1 0 0), .ref (u85.1 0 0), .ref (u96.1 0 0), .null]))] ++ w8 cI cZ (u9.1 0) (u9.2 0) ++ w8 cI cZ (u20.1 0) (u20.2 0) ++ w8 cI cZ (u31.1 0) (u31.2 0) ++ w5 cI cZ (u52.1 0) (u52.2 0) ++ w1 cI cZ (u63.1 0) (u63.1 1) (u63.2 0) ++ w8 cI cZ (u63.1 1) (u63.2 1) ++ w7 cI cZ (u74.1 0) (u74.2 0) ++ w3 cI cZ (u85.1 0) (u85.2 0) ++ w4 cI cZ (u96.1 0) (u96.2 0) ++ w2 cI cZ (u107.1 0) (u107.2 0)) C (ctX2_init l D cI cZ n103 _ h) gX9_init_X2_init rfl rfl rfl (by decide +kernel) (by decide +kernel) (by decide +kernel) rfl pdX2_init ⟨by decide, by decide⟩ [42] [0, 1, 2, 3, 4, 5, 6, 7, 8, 9, 10, 11, 12, 13, 14, 15, 16, 17, 18, 19, 20, 21, 22, 23, 24, 25, 26, 27, 28, 29, 30, 31, 32, 33, 34, 35, 36, 37, 38, 39, 40, 41] rfl rfl (by decide) (by decide) (by decide) (fun _ => rfl) rfl rfl (Nat.le_of_ble_eq_true rfl) dX9_init_107 ⟨by decide, by decide⟩ (fun u107 hu => ?_)
  obtain ⟨hq, h⟩ := hu
  subst hq
  refine SW.putF (ws' := [(h0, .inr (7, [.ref (u9.1 0 0), .ref (u20.1 0 0), .ref (u31.1 0 0), .int (0 : Int32), .int (0 : Int32), .ref (u52.1 0 0), .ref (u63.1 0 0), .ref (u74.1 0 0), .ref (u85.1 0 0), .ref (u96.1 0 0), .ref (u107.1 0 0)]))] ++ w8 cI cZ (u9.1 0) (u9.2 0) ++ w8 cI cZ (u20.1 0) (u20.2 0) ++ w8 cI cZ (u31.1 0) (u31.2 0) ++ w5 cI cZ (u52.1 0) (u52.2 0) ++ w1 cI cZ (u63.1 0) (u63.1 1) (u63.2 0) ++ w8 cI cZ (u63.1 1) (u63.2 1) ++ w7 cI cZ (u74.1 0) (u74.2 0) ++ w3 cI cZ (u85.1 0) (u85.2 0) ++ w4 cI cZ (u96.1 0) (u96.2 0) ++ w2 cI cZ (u107.1 0) (u107.2 0)) (T := TX9) (N := 11) C hin inX9_init_X9 tyX9 tyX9_ok nmX9 0 rfl rfl 10 (by decide) lkX9_init_67 rfl rfl rfl rfl (Nat.le_of_ble_eq_true rfl) rfl dX9_init_110 ?_
  exact SW.nret C (qfs [(qf [h0]), (u9.1 0), (u20.1 0), (u31.1 0), (u52.1 0), (u63.1 0), (u63.1 1), (u74.1 0), (u85.1 0), (u96.1 0), (u107.1 0)], obs [(pf (pf z0 3 (0 : Int32)) 4 (0 : Int32)), (u9.2 0), (u20.2 0), (u31.2 0), (u52.2 0), (u63.2 0), (u63.2 1), (u74.2 0), (u85.2 0), (u96.2 0), (u107.2 0)]) rfl ⟨rfl, h⟩ dX9_init_113
def wpX10_init (post : (Nat → Ob) → Prop) : Prop := wpX10_clear (pf (pf (pf (pf z0 0 (6 : Int32)) 2 (2 : Int32)) 3 (4 : Int32)) 4 (1 : Int32)) (fun u9 => post (obs [u9]))
theorem pdX10_init : yX10_init.cls ≠ "java/lang/invoke/MethodHandle" ∧ yX10_init.cls ≠ "java/lang/invoke/VarHandle" ∧ (parseMethodDescriptor yX10_init.desc).map (fun d => d.parameters.length) = some 0 := by decide +kernel
theorem inX10_init_X10 : ∀ w ∈ u_ws RX10 TX10 25, w ∈ wsX10_init := by decide +kernel
theorem lkX10_init_7 : Cond.fieldLink RX10 7 (TX10 0).1 (TX10 0).2.1 (TX10 0).2.2.1 ∈ wsX10_init := by decide +kernel
theorem lkX10_init_13 : Cond.fieldLink RX10 13 (TX10 1).1 (TX10 1).2.1 (TX10 1).2.2.1 ∈ wsX10_init := by decide +kernel
theorem lkX10_init_17 : Cond.fieldLink RX10 17 (TX10 2).1 (TX10 2).2.1 (TX10 2).2.2.1 ∈ wsX10_init := by decide +kernel
theorem lkX10_init_20 : Cond.fieldLink RX10 20 (TX10 3).1 (TX10 3).2.1 (TX10 3).2.2.1 ∈ wsX10_init := by decide +kernel
theorem lkX10_init_23 : Cond.fieldLink RX10 23 (TX10 4).1 (TX10 4).2.1 (TX10 4).2.2.1 ∈ wsX10_init := by decide +kernel
theorem lkX10_init_26 : Cond.fieldLink RX10 26 (TX10 7).1 (TX10 7).2.1 (TX10 7).2.2.1 ∈ wsX10_init := by decide +kernel
theorem lkX10_init_29 : Cond.fieldLink RX10 29 (TX10 9).1 (TX10 9).2.1 (TX10 9).2.2.1 ∈ wsX10_init := by decide +kernel
theorem lkX10_init_32 : Cond.fieldLink RX10 32 (TX10 11).1 (TX10 11).2.1 (TX10 11).2.2.1 ∈ wsX10_init := by decide +kernel
theorem lkX10_init_35 : Cond.fieldLink RX10 35 (TX10 18).1 (TX10 18).2.1 (TX10 18).2.2.1 ∈ wsX10_init := by decide +kernel
theorem lkX10_init_38 : Cond.fieldLink RX10 38 (TX10 19).1 (TX10 19).2.1 (TX10 19).2.2.1 ∈ wsX10_init := by decide +kernel
theorem lkX10_init_41 : Cond.fieldLink RX10 41 (TX10 20).1 (TX10 20).2.1 (TX10 20).2.2.1 ∈ wsX10_init := by decide +kernel
theorem lkX10_init_44 : Cond.fieldLink RX10 44 (TX10 21).1 (TX10 21).2.1 (TX10 21).2.2.1 ∈ wsX10_init := by decide +kernel
theorem lkX10_init_47 : Cond.fieldLink RX10 47 (TX10 22).1 (TX10 22).2.1 (TX10 22).2.2.1 ∈ wsX10_init := by decide +kernel
theorem lkX10_init_51 : Cond.fieldLink RX10 51 (TX10 23).1 (TX10 23).2.1 (TX10 23).2.2.1 ∈ wsX10_init := by decide +kernel
theorem lkX10_init_54 : Cond.fieldLink RX10 54 (TX10 24).1 (TX10 24).2.1 (TX10 24).2.2.1 ∈ wsX10_init := by decide +kernel
set_option maxHeartbeats 4000000 in
set_option maxRecDepth 100000 in
theorem ctX10_init (l : Launch) (D : va_G) (cI cZ : ClassId) (h0 : Nat) (post : (Nat → Ob) → Prop) (h : wpX10_init post) : CTn l yX10_init wsX10_init { frames := 1, cells := 11, slots := 4494, locals := 21 } D [(cI, .int), (cZ, .boolean)] [.ref h0] [(h0, .inr (8, [.int 0, .null, .int 0, .int 0, .int 0, .int 0, .int 0, .null, .int 0, .null, .int 0, .null, .int 0, .int 0, .int 0, .int 0, .int 0, .int 0, .null, .null, .null, .null, .null, .null, .null]))] (fun u : UC => w10 cI cZ (u.1 0) (u.2 0)) (fun u : UC => u.1 0 0 = h0 ∧ post u.2) 11 4494 := by
  refine CTn.of (cc := cX10_init) (own := RX10) (maxL := 1) (lv0 := [(0, .ref h0)]) (by decide) rfl rfl rfl (Nat.le_of_ble_eq_true rfl) rfl ?_
  intro p e s m args below meth c A C hin
  unfold wpX10_init at h
  refine SW.aload_n C dX10_init_0 rfl 0 rfl ?_
  refine SW.objInit C (by decide +kernel) (by decide +kernel) (by decide +kernel) dX10_init_1 (by decide) (Nat.le_of_ble_eq_true rfl) ?_
  refine SW.aload_n C dX10_init_4 rfl 0 rfl ?_
  refine SW.bipush (v := (6 : Int32)) C dX10_init_5 (by decide) ?_
  refine SW.put (ws' := [(h0, .inr (8, [.int (6 : Int32), .null, .int 0, .int 0, .int 0, .int 0, .int 0, .null, .int 0, .null, .int 0, .null, .int 0, .int 0, .int 0, .int 0, .int 0, .int 0, .null, .null, .null, .null, .null, .null, .null]))]) (T := TX10) (N := 25) C inX10_init_X10 tyX10 tyX10_ok nmX10 0 rfl rfl 0 (by decide) lkX10_init_7 rfl rfl rfl (Nat.le_of_ble_eq_true rfl) rfl dX10_init_7 ?_
  refine SW.aload_n C dX10_init_10 rfl 0 rfl ?_
  refine SW.bipush (v := (10 : Int32)) C dX10_init_11 (by decide) ?_
  refine SW.newaI (N := 10) (wn := fun a1 => [(h0, .inr (8, [.int (6 : Int32), .null, .int 0, .int 0, .int 0, .int 0, .int 0, .null, .int 0, .null, .int 0, .null, .int 0, .int 0, .int 0, .int 0, .int 0, .int 0, .null, .null, .null, .null, .null, .null, .null])), (a1, .inl (cI, 10, .inl (fun _ => 0)))]) C 0 rfl (by decide +kernel) (by decide) (by decide) (by decide) (by decide) (by decide) dX10_init_13 (fun _ => rfl) (fun a1 => ?_)
  refine SW.putF (ws' := [(h0, .inr (8, [.int (6 : Int32), .ref a1, .int 0, .int 0, .int 0, .int 0, .int 0, .null, .int 0, .null, .int 0, .null, .int 0, .int 0, .int 0, .int 0, .int 0, .int 0, .null, .null, .null, .null, .null, .null, .null])), (a1, .inl (cI, 10, .inl (fun _ => 0)))]) (T := TX10) (N := 25) C hin inX10_init_X10 tyX10 tyX10_ok nmX10 0 rfl rfl 1 (by decide) lkX10_init_13 rfl rfl rfl rfl (Nat.le_of_ble_eq_true rfl) rfl dX10_init_15 ?_
  refine SW.aload_n C dX10_init_18 rfl 0 rfl ?_
  refine SW.iconst (v := (2 : Int32)) C dX10_init_19 (by decide) ?_
  refine SW.put (ws' := [(h0, .inr (8, [.int (6 : Int32), .ref a1, .int (2 : Int32), .int 0, .int 0, .int 0, .int 0, .null, .int 0, .null, .int 0, .null, .int 0, .int 0, .int 0, .int 0, .int 0, .int 0, .null, .null, .null, .null, .null, .null, .null])), (a1, .inl (cI, 10, .inl (fun _ => 0)))]) (T := TX10) (N := 25) C inX10_init_X10 tyX10 tyX10_ok nmX10 0 rfl rfl 2 (by decide) lkX10_init_17 rfl rfl rfl (Nat.le_of_ble_eq_true rfl) rfl dX10_init_20 ?_
  refine SW.aload_n C dX10_init_23 rfl 0 rfl ?_
  refine SW.iconst (v := (4 : Int32)) C dX10_init_24 (by decide) ?_
  refine SW.put (ws' := [(h0, .inr (8, [.int (6 : Int32), .ref a1, .int (2 : Int32), .int (4 : Int32), .int 0, .int 0, .int 0, .null, .int 0, .null, .int 0, .null, .int 0, .int 0, .int 0, .int 0, .int 0, .int 0, .null, .null, .null, .null, .null, .null, .null])), (a1, .inl (cI, 10, .inl (fun _ => 0)))]) (T := TX10) (N := 25) C inX10_init_X10 tyX10 tyX10_ok nmX10 0 rfl rfl 3 (by decide) lkX10_init_20 rfl rfl rfl (Nat.le_of_ble_eq_true rfl) rfl dX10_init_25 ?_
  refine SW.aload_n C dX10_init_28 rfl 0 rfl ?_
  refine SW.iconst (v := (1 : Int32)) C dX10_init_29 (by decide) ?_
  refine SW.put (ws' := [(h0, .inr (8, [.int (6 : Int32), .ref a1, .int (2 : Int32), .int (4 : Int32), .int (1 : Int32), .int 0, .int 0, .null, .int 0, .null, .int 0, .null, .int 0, .int 0, .int 0, .int 0, .int 0, .int 0, .null, .null, .null, .null, .null, .null, .null])), (a1, .inl (cI, 10, .inl (fun _ => 0)))]) (T := TX10) (N := 25) C inX10_init_X10 tyX10 tyX10_ok nmX10 0 rfl rfl 4 (by decide) lkX10_init_23 rfl rfl rfl (Nat.le_of_ble_eq_true rfl) rfl dX10_init_30 ?_
  refine SW.aload_n C dX10_init_33 rfl 0 rfl ?_
  refine SW.bipush (v := (10 : Int32)) C dX10_init_34 (by decide) ?_
  refine SW.newaI (N := 10) (wn := fun a2 => [(h0, .inr (8, [.int (6 : Int32), .ref a1, .int (2 : Int32), .int (4 : Int32), .int (1 : Int32), .int 0, .int 0, .null, .int 0, .null, .int 0, .null, .int 0, .int 0, .int 0, .int 0, .int 0, .int 0, .null, .null, .null, .null, .null, .null, .null])), (a1, .inl (cI, 10, .inl (fun _ => 0))), (a2, .inl (cI, 10, .inl (fun _ => 0)))]) C 0 rfl (by decide +kernel) (by decide) (by decide) (by decide) (by decide) (by decide) dX10_init_36 (fun _ => rfl) (fun a2 => ?_)
  refine SW.putF (ws' := [(h0, .inr (8, [.int (6 : Int32), .ref a1, .int (2 : Int32), .int (4 : Int32), .int (1 : Int32), .int 0, .int 0, .ref a2, .int 0, .null, .int 0, .null, .int 0, .int 0, .int 0, .int 0, .int 0, .int 0, .null, .null, .null, .null, .null, .null, .null])), (a1, .inl (cI, 10, .inl (fun _ => 0))), (a2, .inl (cI, 10, .inl (fun _ => 0)))]) (T := TX10) (N := 25) C hin inX10_init_X10 tyX10 tyX10_ok nmX10 0 rfl rfl 7 (by decide) lkX10_init_26 rfl rfl rfl rfl (Nat.le_of_ble_eq_true rfl) rfl dX10_init_38 ?_
  refine SW.aload_n C dX10_init_41 rfl 0 rfl ?_
  refine SW.bipush (v := (16 : Int32)) C dX10_init_42 (by decide) ?_
  refine SW.newaI (N := 16) (wn := fun a3 => [(h0, .inr (8, [.int (6 : Int32), .ref a1, .int (2 : Int32), .int (4 : Int32), .int (1 : Int32), .int 0, .int 0, .ref a2, .int 0, .null, .int 0, .null, .int 0, .int 0, .int 0, .int 0, .int 0, .int 0, .null, .null, .null, .null, .null, .null, .null])), (a1, .inl (cI, 10, .inl (fun _ => 0))), (a2, .inl (cI, 10, .inl (fun _ => 0))), (a3, .inl (cI, 16, .inl (fun _ => 0)))]) C 0 rfl (by decide +kernel) (by decide) (by decide) (by decide) (by decide) (by decide) dX10_init_44 (fun _ => rfl) (fun a3 => ?_)
  refine SW.putF (ws' := [(h0, .inr (8, [.int (6 : Int32), .ref a1, .int (2 : Int32), .int (4 : Int32), .int (1 : Int32), .int 0, .int 0, .ref a2, .int 0, .ref a3, .int 0, .null, .int 0, .int 0, .int 0, .int 0, .int 0, .int 0, .null, .null, .null, .null, .null, .null, .null])), (a1, .inl (cI, 10, .inl (fun _ => 0))), (a2, .inl (cI, 10, .inl (fun _ => 0))), (a3, .inl (cI, 16, .inl (fun _ => 0)))]) (T := TX10) (N := 25) C hin inX10_init_X10 tyX10 tyX10_ok nmX10 0 rfl rfl 9 (by decide) lkX10_init_29 rfl rfl rfl rfl (Nat.le_of_ble_eq_true rfl) rfl dX10_init_46 ?_
  refine SW.aload_n C dX10_init_49 rfl 0 rfl ?_
  refine SW.bipush (v := (60 : Int32)) C dX10_init_50 (by decide) ?_
  refine SW.newaI (N := 60) (wn := fun a4 => [(h0, .inr (8, [.int (6 : Int32), .ref a1, .int (2 : Int32), .int (4 : Int32), .int (1 : Int32), .int 0, .int 0, .ref a2, .int 0, .ref a3, .int 0, .null, .int 0, .int 0, .int 0, .int 0, .int 0, .int 0, .null, .null, .null, .null, .null, .null, .null])), (a1, .inl (cI, 10, .inl (fun _ => 0))), (a2, .inl (cI, 10, .inl (fun _ => 0))), (a3, .inl (cI, 16, .inl (fun _ => 0))), (a4, .inl (cI, 60, .inl (fun _ => 0)))]) C 0 rfl (by decide +kernel) (by decide) (by decide) (by decide) (by decide) (by decide) dX10_init_52 (fun _ => rfl) (fun a4 => ?_)
  refine SW.putF (ws' := [(h0, .inr (8, [.int (6 : Int32), .ref a1, .int (2 : Int32), .int (4 : Int32), .int (1 : Int32), .int 0, .int 0, .ref a2, .int 0, .ref a3, .int 0, .ref a4, .int 0, .int 0, .int 0, .int 0, .int 0, .int 0, .null, .null, .null, .null, .null, .null, .null])), (a1, .inl (cI, 10, .inl (fun _ => 0))), (a2, .inl (cI, 10, .inl (fun _ => 0))), (a3, .inl (cI, 16, .inl (fun _ => 0))), (a4, .inl (cI, 60, .inl (fun _ => 0)))]) (T := TX10) (N := 25) C hin inX10_init_X10 tyX10 tyX10_ok nmX10 0 rfl rfl 11 (by decide) lkX10_init_32 rfl rfl rfl rfl (Nat.le_of_ble_eq_true rfl) rfl dX10_init_54 ?_
  refine SW.aload_n C dX10_init_57 rfl 0 rfl ?_
  refine SW.sipush (v := (1024 : Int32)) C dX10_init_58 (by decide) ?_
  refine SW.newaI (N := 1024) (wn := fun a5 => [(h0, .inr (8, [.int (6 : Int32), .ref a1, .int (2 : Int32), .int (4 : Int32), .int (1 : Int32), .int 0, .int 0, .ref a2, .int 0, .ref a3, .int 0, .ref a4, .int 0, .int 0, .int 0, .int 0, .int 0, .int 0, .null, .null, .null, .null, .null, .null, .null])), (a1, .inl (cI, 10, .inl (fun _ => 0))), (a2, .inl (cI, 10, .inl (fun _ => 0))), (a3, .inl (cI, 16, .inl (fun _ => 0))), (a4, .inl (cI, 60, .inl (fun _ => 0))), (a5, .inl (cI, 1024, .inl (fun _ => 0)))]) C 0 rfl (by decide +kernel) (by decide) (by decide) (by decide) (by decide) (by decide) dX10_init_61 (fun _ => rfl) (fun a5 => ?_)
  refine SW.putF (ws' := [(h0, .inr (8, [.int (6 : Int32), .ref a1, .int (2 : Int32), .int (4 : Int32), .int (1 : Int32), .int 0, .int 0, .ref a2, .int 0, .ref a3, .int 0, .ref a4, .int 0, .int 0, .int 0, .int 0, .int 0, .int 0, .ref a5, .null, .null, .null, .null, .null, .null])), (a1, .inl (cI, 10, .inl (fun _ => 0))), (a2, .inl (cI, 10, .inl (fun _ => 0))), (a3, .inl (cI, 16, .inl (fun _ => 0))), (a4, .inl (cI, 60, .inl (fun _ => 0))), (a5, .inl (cI, 1024, .inl (fun _ => 0)))]) (T := TX10) (N := 25) C hin inX10_init_X10 tyX10 tyX10_ok nmX10 0 rfl rfl 18 (by decide) lkX10_init_35 rfl rfl rfl rfl (Nat.le_of_ble_eq_true rfl) rfl dX10_init_63 ?_
  refine SW.aload_n C dX10_init_66 rfl 0 rfl ?_
  refine SW.sipush (v := (1024 : Int32)) C dX10_init_67 (by decide) ?_
  refine SW.newaI (N := 1024) (wn := fun a6 => [(h0, .inr (8, [.int (6 : Int32), .ref a1, .int (2 : Int32), .int (4 : Int32), .int (1 : Int32), .int 0, .int 0, .ref a2, .int 0, .ref a3, .int 0, .ref a4, .int 0, .int 0, .int 0, .int 0, .int 0, .int 0, .ref a5, .null, .null, .null, .null, .null, .null])), (a1, .inl (cI, 10, .inl (fun _ => 0))), (a2, .inl (cI, 10, .inl (fun _ => 0))), (a3, .inl (cI, 16, .inl (fun _ => 0))), (a4, .inl (cI, 60, .inl (fun _ => 0))), (a5, .inl (cI, 1024, .inl (fun _ => 0))), (a6, .inl (cI, 1024, .inl (fun _ => 0)))]) C 0 rfl (by decide +kernel) (by decide) (by decide) (by decide) (by decide) (by decide) dX10_init_70 (fun _ => rfl) (fun a6 => ?_)
  refine SW.putF (ws' := [(h0, .inr (8, [.int (6 : Int32), .ref a1, .int (2 : Int32), .int (4 : Int32), .int (1 : Int32), .int 0, .int 0, .ref a2, .int 0, .ref a3, .int 0, .ref a4, .int 0, .int 0, .int 0, .int 0, .int 0, .int 0, .ref a5, .ref a6, .null, .null, .null, .null, .null])), (a1, .inl (cI, 10, .inl (fun _ => 0))), (a2, .inl (cI, 10, .inl (fun _ => 0))), (a3, .inl (cI, 16, .inl (fun _ => 0))), (a4, .inl (cI, 60, .inl (fun _ => 0))), (a5, .inl (cI, 1024, .inl (fun _ => 0))), (a6, .inl (cI, 1024, .inl (fun _ => 0)))]) (T := TX10) (N := 25) C hin inX10_init_X10 tyX10 tyX10_ok nmX10 0 rfl rfl 19 (by decide) lkX10_init_38 rfl rfl rfl rfl (Nat.le_of_ble_eq_true rfl) rfl dX10_init_72 ?_
  refine SW.aload_n C dX10_init_75 rfl 0 rfl ?_
  refine SW.sipush (v := (200 : Int32)) C dX10_init_76 (by decide) ?_
  refine SW.newaI (N := 200) (wn := fun a7 => [(h0, .inr (8, [.int (6 : Int32), .ref a1, .int (2 : Int32), .int (4 : Int32), .int (1 : Int32), .int 0, .int 0, .ref a2, .int 0, .ref a3, .int 0, .ref a4, .int 0, .int 0, .int 0, .int 0, .int 0, .int 0, .ref a5, .ref a6, .null, .null, .null, .null, .null])), (a1, .inl (cI, 10, .inl (fun _ => 0))), (a2, .inl (cI, 10, .inl (fun _ => 0))), (a3, .inl (cI, 16, .inl (fun _ => 0))), (a4, .inl (cI, 60, .inl (fun _ => 0))), (a5, .inl (cI, 1024, .inl (fun _ => 0))), (a6, .inl (cI, 1024, .inl (fun _ => 0))), (a7, .inl (cI, 200, .inl (fun _ => 0)))]) C 0 rfl (by decide +kernel) (by decide) (by decide) (by decide) (by decide) (by decide) dX10_init_79 (fun _ => rfl) (fun a7 => ?_)
  refine SW.putF (ws' := [(h0, .inr (8, [.int (6 : Int32), .ref a1, .int (2 : Int32), .int (4 : Int32), .int (1 : Int32), .int 0, .int 0, .ref a2, .int 0, .ref a3, .int 0, .ref a4, .int 0, .int 0, .int 0, .int 0, .int 0, .int 0, .ref a5, .ref a6, .ref a7, .null, .null, .null, .null])), (a1, .inl (cI, 10, .inl (fun _ => 0))), (a2, .inl (cI, 10, .inl (fun _ => 0))), (a3, .inl (cI, 16, .inl (fun _ => 0))), (a4, .inl (cI, 60, .inl (fun _ => 0))), (a5, .inl (cI, 1024, .inl (fun _ => 0))), (a6, .inl (cI, 1024, .inl (fun _ => 0))), (a7, .inl (cI, 200, .inl (fun _ => 0)))]) (T := TX10) (N := 25) C hin inX10_init_X10 tyX10 tyX10_ok nmX10 0 rfl rfl 20 (by decide) lkX10_init_41 rfl rfl rfl rfl (Nat.le_of_ble_eq_true rfl) rfl dX10_init_81 ?_
  refine SW.aload_n C dX10_init_84 rfl 0 rfl ?_
  refine SW.sipush (v := (1024 : Int32)) C dX10_init_85 (by decide) ?_
  refine SW.newaI (N := 1024) (wn := fun a8 => [(h0, .inr (8, [.int (6 : Int32), .ref a1, .int (2 : Int32), .int (4 : Int32), .int (1 : Int32), .int 0, .int 0, .ref a2, .int 0, .ref a3, .int 0, .ref a4, .int 0, .int 0, .int 0, .int 0, .int 0, .int 0, .ref a5, .ref a6, .ref a7, .null, .null, .null, .null])), (a1, .inl (cI, 10, .inl (fun _ => 0))), (a2, .inl (cI, 10, .inl (fun _ => 0))), (a3, .inl (cI, 16, .inl (fun _ => 0))), (a4, .inl (cI, 60, .inl (fun _ => 0))), (a5, .inl (cI, 1024, .inl (fun _ => 0))), (a6, .inl (cI, 1024, .inl (fun _ => 0))), (a7, .inl (cI, 200, .inl (fun _ => 0))), (a8, .inl (cI, 1024, .inl (fun _ => 0)))]) C 0 rfl (by decide +kernel) (by decide) (by decide) (by decide) (by decide) (by decide) dX10_init_88 (fun _ => rfl) (fun a8 => ?_)
  refine SW.putF (ws' := [(h0, .inr (8, [.int (6 : Int32), .ref a1, .int (2 : Int32), .int (4 : Int32), .int (1 : Int32), .int 0, .int 0, .ref a2, .int 0, .ref a3, .int 0, .ref a4, .int 0, .int 0, .int 0, .int 0, .int 0, .int 0, .ref a5, .ref a6, .ref a7, .ref a8, .null, .null, .null])), (a1, .inl (cI, 10, .inl (fun _ => 0))), (a2, .inl (cI, 10, .inl (fun _ => 0))), (a3, .inl (cI, 16, .inl (fun _ => 0))), (a4, .inl (cI, 60, .inl (fun _ => 0))), (a5, .inl (cI, 1024, .inl (fun _ => 0))), (a6, .inl (cI, 1024, .inl (fun _ => 0))), (a7, .inl (cI, 200, .inl (fun _ => 0))), (a8, .inl (cI, 1024, .inl (fun _ => 0)))]) (T := TX10) (N := 25) C hin inX10_init_X10 tyX10 tyX10_ok nmX10 0 rfl rfl 21 (by decide) lkX10_init_44 rfl rfl rfl rfl (Nat.le_of_ble_eq_true rfl) rfl dX10_init_90 ?_
  refine SW.aload_n C dX10_init_93 rfl 0 rfl ?_
  refine SW.sipush (v := (1024 : Int32)) C dX10_init_94 (by decide) ?_
  refine SW.newaZ (N := 1024) (wn := fun a9 => [(h0, .inr (8, [.int (6 : Int32), .ref a1, .int (2 : Int32), .int (4 : Int32), .int (1 : Int32), .int 0, .int 0, .ref a2, .int 0, .ref a3, .int 0, .ref a4, .int 0, .int 0, .int 0, .int 0, .int 0, .int 0, .ref a5, .ref a6, .ref a7, .ref a8, .null, .null, .null])), (a1, .inl (cI, 10, .inl (fun _ => 0))), (a2, .inl (cI, 10, .inl (fun _ => 0))), (a3, .inl (cI, 16, .inl (fun _ => 0))), (a4, .inl (cI, 60, .inl (fun _ => 0))), (a5, .inl (cI, 1024, .inl (fun _ => 0))), (a6, .inl (cI, 1024, .inl (fun _ => 0))), (a7, .inl (cI, 200, .inl (fun _ => 0))), (a8, .inl (cI, 1024, .inl (fun _ => 0))), (a9, .inl (cZ, 1024, .inl (fun _ => 0)))]) C 1 rfl (by decide +kernel) (by decide) (by decide) (by decide) (by decide) (by decide) dX10_init_97 (fun _ => rfl) (fun a9 => ?_)
  refine SW.putF (ws' := [(h0, .inr (8, [.int (6 : Int32), .ref a1, .int (2 : Int32), .int (4 : Int32), .int (1 : Int32), .int 0, .int 0, .ref a2, .int 0, .ref a3, .int 0, .ref a4, .int 0, .int 0, .int 0, .int 0, .int 0, .int 0, .ref a5, .ref a6, .ref a7, .ref a8, .ref a9, .null, .null])), (a1, .inl (cI, 10, .inl (fun _ => 0))), (a2, .inl (cI, 10, .inl (fun _ => 0))), (a3, .inl (cI, 16, .inl (fun _ => 0))), (a4, .inl (cI, 60, .inl (fun _ => 0))), (a5, .inl (cI, 1024, .inl (fun _ => 0))), (a6, .inl (cI, 1024, .inl (fun _ => 0))), (a7, .inl (cI, 200, .inl (fun _ => 0))), (a8, .inl (cI, 1024, .inl (fun _ => 0))), (a9, .inl (cZ, 1024, .inl (fun _ => 0)))]) (T := TX10) (N := 25) C hin inX10_init_X10 tyX10 tyX10_ok nmX10 0 rfl rfl 22 (by decide) lkX10_init_47 rfl rfl rfl rfl (Nat.le_of_ble_eq_true rfl) rfl dX10_init_99 ?_
  refine SW.aload_n C dX10_init_102 rfl 0 rfl ?_
  refine SW.bipush (v := (100 : Int32)) C dX10_init_103 (by decide) ?_
  refine SW.newaI (N := 100) (wn := fun a10 => [(h0, .inr (8, [.int (6 : Int32), .ref a1, .int (2 : Int32), .int (4 : Int32), .int (1 : Int32), .int 0, .int 0, .ref a2, .int 0, .ref a3, .int 0, .ref a4, .int 0, .int 0, .int 0, .int 0, .int 0, .int 0, .ref a5, .ref a6, .ref a7, .ref a8, .ref a9, .null, .null])), (a1, .inl (cI, 10, .inl (fun _ => 0))), (a2, .inl (cI, 10, .inl (fun _ => 0))), (a3, .inl (cI, 16, .inl (fun _ => 0))), (a4, .inl (cI, 60, .inl (fun _ => 0))), (a5, .inl (cI, 1024, .inl (fun _ => 0))), (a6, .inl (cI, 1024, .inl (fun _ => 0))), (a7, .inl (cI, 200, .inl (fun _ => 0))), (a8, .inl (cI, 1024, .inl (fun _ => 0))), (a9, .inl (cZ, 1024, .inl (fun _ => 0))), (a10, .inl (cI, 100, .inl (fun _ => 0)))]) C 0 rfl (by decide +kernel) (by decide) (by decide) (by decide) (by decide) (by decide) dX10_init_105 (fun _ => rfl) (fun a10 => ?_)
  refine SW.putF (ws' := [(h0, .inr (8, [.int (6 : Int32), .ref a1, .int (2 : Int32), .int (4 : Int32), .int (1 : Int32), .int 0, .int 0, .ref a2, .int 0, .ref a3, .int 0, .ref a4, .int 0, .int 0, .int 0, .int 0, .int 0, .int 0, .ref a5, .ref a6, .ref a7, .ref a8, .ref a9, .ref a10, .null])), (a1, .inl (cI, 10, .inl (fun _ => 0))), (a2, .inl (cI, 10, .inl (fun _ => 0))), (a3, .inl (cI, 16, .inl (fun _ => 0))), (a4, .inl (cI, 60, .inl (fun _ => 0))), (a5, .inl (cI, 1024, .inl (fun _ => 0))), (a6, .inl (cI, 1024, .inl (fun _ => 0))), (a7, .inl (cI, 200, .inl (fun _ => 0))), (a8, .inl (cI, 1024, .inl (fun _ => 0))), (a9, .inl (cZ, 1024, .inl (fun _ => 0))), (a10, .inl (cI, 100, .inl (fun _ => 0)))]) (T := TX10) (N := 25) C hin inX10_init_X10 tyX10 tyX10_ok nmX10 0 rfl rfl 23 (by decide) lkX10_init_51 rfl rfl rfl rfl (Nat.le_of_ble_eq_true rfl) rfl dX10_init_107 ?_
  refine SW.aload_n C dX10_init_110 rfl 0 rfl ?_
  refine SW.iconst (v := (2 : Int32)) C dX10_init_111 (by decide) ?_
  refine SW.newaZ (N := 2) (wn := fun a11 => [(h0, .inr (8, [.int (6 : Int32), .ref a1, .int (2 : Int32), .int (4 : Int32), .int (1 : Int32), .int 0, .int 0, .ref a2, .int 0, .ref a3, .int 0, .ref a4, .int 0, .int 0, .int 0, .int 0, .int 0, .int 0, .ref a5, .ref a6, .ref a7, .ref a8, .ref a9, .ref a10, .null])), (a1, .inl (cI, 10, .inl (fun _ => 0))), (a2, .inl (cI, 10, .inl (fun _ => 0))), (a3, .inl (cI, 16, .inl (fun _ => 0))), (a4, .inl (cI, 60, .inl (fun _ => 0))), (a5, .inl (cI, 1024, .inl (fun _ => 0))), (a6, .inl (cI, 1024, .inl (fun _ => 0))), (a7, .inl (cI, 200, .inl (fun _ => 0))), (a8, .inl (cI, 1024, .inl (fun _ => 0))), (a9, .inl (cZ, 1024, .inl (fun _ => 0))), (a10, .inl (cI, 100, .inl (fun _ => 0))), (a11, .inl (cZ, 2, .inl (fun _ => 0)))]) C 1 rfl (by decide +kernel) (by decide) (by decide) (by decide) (by decide) (by decide) dX10_init_112 (fun _ => rfl) (fun a11 => ?_)
  refine SW.putF (ws' := [(h0, .inr (8, [.int (6 : Int32), .ref a1, .int (2 : Int32), .int (4 : Int32), .int (1 : Int32), .int 0, .int 0, .ref a2, .int 0, .ref a3, .int 0, .ref a4, .int 0, .int 0, .int 0, .int 0, .int 0, .int 0, .ref a5, .ref a6, .ref a7, .ref a8, .ref a9, .ref a10, .ref a11])), (a1, .inl (cI, 10, .inl (fun _ => 0))), (a2, .inl (cI, 10, .inl (fun _ => 0))), (a3, .inl (cI, 16, .inl (fun _ => 0))), (a4, .inl (cI, 60, .inl (fun _ => 0))), (a5, .inl (cI, 1024, .inl (fun _ => 0))), (a6, .inl (cI, 1024, .inl (fun _ => 0))), (a7, .inl (cI, 200, .inl (fun _ => 0))), (a8, .inl (cI, 1024, .inl (fun _ => 0))), (a9, .inl (cZ, 1024, .inl (fun _ => 0))), (a10, .inl (cI, 100, .inl (fun _ => 0))), (a11, .inl (cZ, 2, .inl (fun _ => 0)))]) (T := TX10) (N := 25) C hin inX10_init_X10 tyX10 tyX10_ok nmX10 0 rfl rfl 24 (by decide) lkX10_init_54 rfl rfl rfl rfl (Nat.le_of_ble_eq_true rfl) rfl dX10_init_114 ?_
  refine SW.aload_n C dX10_init_117 rfl 0 rfl ?_
  refine SW.conv (ws' := w10 cI cZ (qf [h0, a1, a2, a3, a4, a5, a6, a7, a8, a9, a10, a11]) (pf (pf (pf (pf z0 0 (6 : Int32)) 2 (2 : Int32)) 3 (4 : Int32)) 4 (1 : Int32))) rfl ?_
  refine SW.callVv_same C (ctX10_clear l D cI cZ (qf [h0, a1, a2, a3, a4, a5, a6, a7, a8, a9, a10, a11]) (pf (pf (pf (pf z0 0 (6 : Int32)) 2 (2 : Int32)) 3 (4 : Int32)) 4 (1 : Int32)) _ h) gX10_init_X10_clear rfl rfl rfl pdX10_clear ⟨by decide, by decide⟩ 0 rfl rfl rfl rfl rfl (Nat.le_of_ble_eq_true rfl) dX10_init_118 (by decide) (fun u9 h => ?_)
  try dsimp only at h
  exact SW.nret C (qfs [(qf [h0, a1, a2, a3, a4, a5, a6, a7, a8, a9, a10, a11])], obs [u9]) rfl ⟨rfl, h⟩ dX10_init_121
