theorem lc_shifts {p : Program} {l : Launch} {e : Env} {s : State} {m : MethodId} {below : List Frame} {meth : Method} {c : Code} {D : va_G} {cI cZ : ClassId} {b L : Nat} {xs : Nat → Int32} (C : Cx p s m #[Value.ref b] meth c code 4 wsL_law RL D [(cI, .int), (cZ, .boolean)] (fun q : Nat => s.heap.size ≤ q) ret) (hX : va_X b L xs s s.heap) (hbl : b < s.heap.size) (qX qS qI qJ qP qV qT qK qG qL qM qY : Nat → Nat) (oX oS oI oJ oP oV oT oK oG oL oM oY : Ob) (v3 : Int32) (N : Ob → Ob → Ob → Ob → Ob → Ob → Ob → Ob → Ob → Ob → Ob → Ob → Prop) (kk : ∀ oX oS oI oJ oP oV oT oK oG oL oM oY : Ob, N oX oS oI oJ oP oV oT oK oG oL oM oY → SW p l e room_1 s m #[Value.ref b] below meth c (fun q : Nat => s.heap.size ≤ q) D 4 56 11255 (lw_Z below #[Value.ref b] s) (WL cI cZ qX qS qI qJ qP qV qT qK qG qL qM qY oX oS oI oJ oP oV oT oK oG oL oM oY) 1095 [(0, .ref b), (1, .ref (qX 0)), (2, .ref (qY 0)), (3, .int v3)] []) (i1 : vp_in (v3 + (1 : Int32)) L) (i2 : vp_in (v3 + (2 : Int32)) L) (h : wpX9_shifts oX oS oP oK (jld xs (v3 + (1 : Int32))) (jld xs (v3 + (2 : Int32))) (fun (r1 : Int32) (wK : Ob) => wpX10_shifts oY (jld xs (v3 + (1 : Int32))) (jld xs (v3 + (2 : Int32))) (fun (r2 : Int32) => r1 = r2 ∧ N oX oS oI oJ oP oV oT wK oG oL oM oY))) : SW p l e room_1 s m #[Value.ref b] below meth c (fun q : Nat => s.heap.size ≤ q) D 4 56 11255 (lw_Z below #[Value.ref b] s) (WL cI cZ qX qS qI qJ qP qV qT qK qG qL qM qY oX oS oI oJ oP oV oT oK oG oL oM oY) 635 [(0, .ref b), (1, .ref (qX 0)), (2, .ref (qY 0)), (3, .int v3)] [] := by
  have hbA : ¬ (fun q : Nat => s.heap.size ≤ q) b := Nat.not_le.mpr hbl
  refine SW.aload_n C dL_law_635 rfl 1 rfl ?_
  refine SW.aload_n C dL_law_636 rfl 0 rfl ?_
  refine SW.iload_n C dL_law_637 rfl 3 rfl ?_
  refine SW.iconst (v := (1 : Int32)) C dL_law_638 (by decide) ?_
  refine SW.iadd C dL_law_639 ?_
  refine SW.sld C hX hbl hbA i1 dL_law_640 ?_
  refine SW.aload_n C dL_law_641 rfl 0 rfl ?_
  refine SW.iload_n C dL_law_642 rfl 3 rfl ?_
  refine SW.iconst (v := (2 : Int32)) C dL_law_643 (by decide) ?_
  refine SW.iadd C dL_law_644 ?_
  refine SW.sld C hX hbl hbA i2 dL_law_645 ?_
  refine SW.callVi_pm (wn := fun u : Ob => WL cI cZ qX qS qI qJ qP qV qT qK qG qL qM qY oX oS oI oJ oP oV oT u oG oL oM oY) C (ctX9_shifts l D cI cZ qX qS qI qJ qP qV qT qK qG qL qM oX oS oP oK (jld xs (v3 + (1 : Int32))) (jld xs (v3 + (2 : Int32))) _ h) gL_law_X9_shifts rfl rfl rfl pdX9_shifts ⟨by decide +kernel, by decide +kernel⟩ (pm_XSPK _ _ _ _ _ _ _ _ _ _ _ _) (fun u => mp_XSPK _ _ _ _ _ _ _ _ _ _ _ _) 0 rfl rfl rfl rfl rfl (Nat.le_of_ble_eq_true rfl) dL_law_646 ⟨by decide +kernel, by decide +kernel⟩ (fun r1 u h => ?_)
  obtain ⟨wK, rfl⟩ : ∃ z, z = u := ⟨_, rfl⟩
  try dsimp only at h
  refine SW.aload_n C dL_law_649 rfl 2 rfl ?_
  refine SW.aload_n C dL_law_650 rfl 0 rfl ?_
  refine SW.iload_n C dL_law_651 rfl 3 rfl ?_
  refine SW.iconst (v := (1 : Int32)) C dL_law_652 (by decide) ?_
  refine SW.iadd C dL_law_653 ?_
  refine SW.sld C hX hbl hbA i1 dL_law_654 ?_
  refine SW.aload_n C dL_law_655 rfl 0 rfl ?_
  refine SW.iload_n C dL_law_656 rfl 3 rfl ?_
  refine SW.iconst (v := (2 : Int32)) C dL_law_657 (by decide) ?_
  refine SW.iadd C dL_law_658 ?_
  refine SW.sld C hX hbl hbA i2 dL_law_659 ?_
  refine SW.callVi_pm (wn := fun _ : Unit => WL cI cZ qX qS qI qJ qP qV qT qK qG qL qM qY oX oS oI oJ oP oV oT wK oG oL oM oY) C (ctX10_shifts l D cI cZ qY oY (jld xs (v3 + (1 : Int32))) (jld xs (v3 + (2 : Int32))) _ h) gL_law_X10_shifts rfl rfl rfl pdX10_shifts ⟨by decide +kernel, by decide +kernel⟩ (pm_Y _ _ _ _ _ _ _ _ _ _ _ _) (fun u => mp_Y _ _ _ _ _ _ _ _ _ _ _ _) 0 rfl rfl rfl rfl rfl (Nat.le_of_ble_eq_true rfl) dL_law_660 ⟨by decide +kernel, by decide +kernel⟩ (fun r2 u h => ?_)
  try dsimp only at h
  exact SW.icmp_eq (tgt := 1095) C dL_law_663 (by decide) (fun hc => kk _ _ _ _ _ _ _ _ _ _ _ _ h.2) (fun hc => absurd h.1 hc)
theorem lc_seen {p : Program} {l : Launch} {e : Env} {s : State} {m : MethodId} {below : List Frame} {meth : Method} {c : Code} {D : va_G} {cI cZ : ClassId} {b L : Nat} {xs : Nat → Int32} (C : Cx p s m #[Value.ref b] meth c code 4 wsL_law RL D [(cI, .int), (cZ, .boolean)] (fun q : Nat => s.heap.size ≤ q) ret) (hX : va_X b L xs s s.heap) (hbl : b < s.heap.size) (qX qS qI qJ qP qV qT qK qG qL qM qY : Nat → Nat) (oX oS oI oJ oP oV oT oK oG oL oM oY : Ob) (v3 : Int32) (N : Ob → Ob → Ob → Ob → Ob → Ob → Ob → Ob → Ob → Ob → Ob → Ob → Prop) (kk : ∀ oX oS oI oJ oP oV oT oK oG oL oM oY : Ob, N oX oS oI oJ oP oV oT oK oG oL oM oY → SW p l e room_1 s m #[Value.ref b] below meth c (fun q : Nat => s.heap.size ≤ q) D 4 56 11255 (lw_Z below #[Value.ref b] s) (WL cI cZ qX qS qI qJ qP qV qT qK qG qL qM qY oX oS oI oJ oP oV oT oK oG oL oM oY) 1095 [(0, .ref b), (1, .ref (qX 0)), (2, .ref (qY 0)), (3, .int v3)] []) (i1 : vp_in (v3 + (1 : Int32)) L) (i2 : vp_in (v3 + (2 : Int32)) L) (h : wpX9_seen oX oS (jld xs (v3 + (1 : Int32))) (jld xs (v3 + (2 : Int32))) (fun (r1 : Int32) (wS : Ob) => wpX10_seen oY (jld xs (v3 + (1 : Int32))) (jld xs (v3 + (2 : Int32))) (fun (r2 : Int32) (wY : Ob) => r1 = r2 ∧ N oX wS oI oJ oP oV oT oK oG oL oM wY))) : SW p l e room_1 s m #[Value.ref b] below meth c (fun q : Nat => s.heap.size ≤ q) D 4 56 11255 (lw_Z below #[Value.ref b] s) (WL cI cZ qX qS qI qJ qP qV qT qK qG qL qM qY oX oS oI oJ oP oV oT oK oG oL oM oY) 668 [(0, .ref b), (1, .ref (qX 0)), (2, .ref (qY 0)), (3, .int v3)] [] := by
  have hbA : ¬ (fun q : Nat => s.heap.size ≤ q) b := Nat.not_le.mpr hbl
  refine SW.aload_n C dL_law_668 rfl 1 rfl ?_
  refine SW.aload_n C dL_law_669 rfl 0 rfl ?_
  refine SW.iload_n C dL_law_670 rfl 3 rfl ?_
  refine SW.iconst (v := (1 : Int32)) C dL_law_671 (by decide) ?_
  refine SW.iadd C dL_law_672 ?_
  refine SW.sld C hX hbl hbA i1 dL_law_673 ?_
  refine SW.aload_n C dL_law_674 rfl 0 rfl ?_
  refine SW.iload_n C dL_law_675 rfl 3 rfl ?_
  refine SW.iconst (v := (2 : Int32)) C dL_law_676 (by decide) ?_
  refine SW.iadd C dL_law_677 ?_
  refine SW.sld C hX hbl hbA i2 dL_law_678 ?_
  refine SW.callVi_pm (wn := fun u : Ob => WL cI cZ qX qS qI qJ qP qV qT qK qG qL qM qY oX u oI oJ oP oV oT oK oG oL oM oY) C (ctX9_seen l D cI cZ qX qS qI qJ qP qV qT qK qG qL qM oX oS (jld xs (v3 + (1 : Int32))) (jld xs (v3 + (2 : Int32))) _ h) gL_law_X9_seen rfl rfl rfl pdX9_seen ⟨by decide +kernel, by decide +kernel⟩ (pm_XS _ _ _ _ _ _ _ _ _ _ _ _) (fun u => mp_XS _ _ _ _ _ _ _ _ _ _ _ _) 0 rfl rfl rfl rfl rfl (Nat.le_of_ble_eq_true rfl) dL_law_679 ⟨by decide +kernel, by decide +kernel⟩ (fun r1 u h => ?_)
  obtain ⟨wS, rfl⟩ : ∃ z, z = u := ⟨_, rfl⟩
  try dsimp only at h
  refine SW.aload_n C dL_law_682 rfl 2 rfl ?_
  refine SW.aload_n C dL_law_683 rfl 0 rfl ?_
  refine SW.iload_n C dL_law_684 rfl 3 rfl ?_
  refine SW.iconst (v := (1 : Int32)) C dL_law_685 (by decide) ?_
  refine SW.iadd C dL_law_686 ?_
  refine SW.sld C hX hbl hbA i1 dL_law_687 ?_
  refine SW.aload_n C dL_law_688 rfl 0 rfl ?_
  refine SW.iload_n C dL_law_689 rfl 3 rfl ?_
  refine SW.iconst (v := (2 : Int32)) C dL_law_690 (by decide) ?_
  refine SW.iadd C dL_law_691 ?_
  refine SW.sld C hX hbl hbA i2 dL_law_692 ?_
  refine SW.callVi_pm (wn := fun u : Ob => WL cI cZ qX qS qI qJ qP qV qT qK qG qL qM qY oX wS oI oJ oP oV oT oK oG oL oM u) C (ctX10_seen l D cI cZ qY oY (jld xs (v3 + (1 : Int32))) (jld xs (v3 + (2 : Int32))) _ h) gL_law_X10_seen rfl rfl rfl pdX10_seen ⟨by decide +kernel, by decide +kernel⟩ (pm_Y _ _ _ _ _ _ _ _ _ _ _ _) (fun u => mp_Y _ _ _ _ _ _ _ _ _ _ _ _) 0 rfl rfl rfl rfl rfl (Nat.le_of_ble_eq_true rfl) dL_law_693 ⟨by decide +kernel, by decide +kernel⟩ (fun r2 u h => ?_)
  obtain ⟨wY, rfl⟩ : ∃ z, z = u := ⟨_, rfl⟩
  try dsimp only at h
  exact SW.icmp_eq (tgt := 1095) C dL_law_696 (by decide) (fun hc => kk _ _ _ _ _ _ _ _ _ _ _ _ h.2) (fun hc => absurd h.1 hc)
theorem lc_forget {p : Program} {l : Launch} {e : Env} {s : State} {m : MethodId} {below : List Frame} {meth : Method} {c : Code} {D : va_G} {cI cZ : ClassId} {b L : Nat} {xs : Nat → Int32} (C : Cx p s m #[Value.ref b] meth c code 4 wsL_law RL D [(cI, .int), (cZ, .boolean)] (fun q : Nat => s.heap.size ≤ q) ret) (hX : va_X b L xs s s.heap) (hbl : b < s.heap.size) (qX qS qI qJ qP qV qT qK qG qL qM qY : Nat → Nat) (oX oS oI oJ oP oV oT oK oG oL oM oY : Ob) (v3 : Int32) (N : Ob → Ob → Ob → Ob → Ob → Ob → Ob → Ob → Ob → Ob → Ob → Ob → Prop) (kk : ∀ oX oS oI oJ oP oV oT oK oG oL oM oY : Ob, N oX oS oI oJ oP oV oT oK oG oL oM oY → SW p l e room_1 s m #[Value.ref b] below meth c (fun q : Nat => s.heap.size ≤ q) D 4 56 11255 (lw_Z below #[Value.ref b] s) (WL cI cZ qX qS qI qJ qP qV qT qK qG qL qM qY oX oS oI oJ oP oV oT oK oG oL oM oY) 1095 [(0, .ref b), (1, .ref (qX 0)), (2, .ref (qY 0)), (3, .int v3)] []) (h : wpX9_forget oX oS (fun (r1 : Int32) (wS : Ob) => wpX10_forget oY (fun (r2 : Int32) (wY : Ob) => r1 = r2 ∧ N oX wS oI oJ oP oV oT oK oG oL oM wY))) : SW p l e room_1 s m #[Value.ref b] below meth c (fun q : Nat => s.heap.size ≤ q) D 4 56 11255 (lw_Z below #[Value.ref b] s) (WL cI cZ qX qS qI qJ qP qV qT qK qG qL qM qY oX oS oI oJ oP oV oT oK oG oL oM oY) 701 [(0, .ref b), (1, .ref (qX 0)), (2, .ref (qY 0)), (3, .int v3)] [] := by
  have hbA : ¬ (fun q : Nat => s.heap.size ≤ q) b := Nat.not_le.mpr hbl
  refine SW.aload_n C dL_law_701 rfl 1 rfl ?_
  refine SW.callVi_pm (wn := fun u : Ob => WL cI cZ qX qS qI qJ qP qV qT qK qG qL qM qY oX u oI oJ oP oV oT oK oG oL oM oY) C (ctX9_forget l D cI cZ qX qS qI qJ qP qV qT qK qG qL qM oX oS _ h) gL_law_X9_forget rfl rfl rfl pdX9_forget ⟨by decide +kernel, by decide +kernel⟩ (pm_XS _ _ _ _ _ _ _ _ _ _ _ _) (fun u => mp_XS _ _ _ _ _ _ _ _ _ _ _ _) 0 rfl rfl rfl rfl rfl (Nat.le_of_ble_eq_true rfl) dL_law_702 ⟨by decide +kernel, by decide +kernel⟩ (fun r1 u h => ?_)
  obtain ⟨wS, rfl⟩ : ∃ z, z = u := ⟨_, rfl⟩
  try dsimp only at h
  refine SW.aload_n C dL_law_705 rfl 2 rfl ?_
  refine SW.callVi_pm (wn := fun u : Ob => WL cI cZ qX qS qI qJ qP qV qT qK qG qL qM qY oX wS oI oJ oP oV oT oK oG oL oM u) C (ctX10_forget l D cI cZ qY oY _ h) gL_law_X10_forget rfl rfl rfl pdX10_forget ⟨by decide +kernel, by decide +kernel⟩ (pm_Y _ _ _ _ _ _ _ _ _ _ _ _) (fun u => mp_Y _ _ _ _ _ _ _ _ _ _ _ _) 0 rfl rfl rfl rfl rfl (Nat.le_of_ble_eq_true rfl) dL_law_706 ⟨by decide +kernel, by decide +kernel⟩ (fun r2 u h => ?_)
  obtain ⟨wY, rfl⟩ : ∃ z, z = u := ⟨_, rfl⟩
  try dsimp only at h
  exact SW.icmp_eq (tgt := 1095) C dL_law_709 (by decide) (fun hc => kk _ _ _ _ _ _ _ _ _ _ _ _ h.2) (fun hc => absurd h.1 hc)
theorem lc_fit {p : Program} {l : Launch} {e : Env} {s : State} {m : MethodId} {below : List Frame} {meth : Method} {c : Code} {D : va_G} {cI cZ : ClassId} {b L : Nat} {xs : Nat → Int32} (C : Cx p s m #[Value.ref b] meth c code 4 wsL_law RL D [(cI, .int), (cZ, .boolean)] (fun q : Nat => s.heap.size ≤ q) ret) (hX : va_X b L xs s s.heap) (hbl : b < s.heap.size) (qX qS qI qJ qP qV qT qK qG qL qM qY : Nat → Nat) (oX oS oI oJ oP oV oT oK oG oL oM oY : Ob) (v3 : Int32) (N : Ob → Ob → Ob → Ob → Ob → Ob → Ob → Ob → Ob → Ob → Ob → Ob → Prop) (kk : ∀ oX oS oI oJ oP oV oT oK oG oL oM oY : Ob, N oX oS oI oJ oP oV oT oK oG oL oM oY → SW p l e room_1 s m #[Value.ref b] below meth c (fun q : Nat => s.heap.size ≤ q) D 4 56 11255 (lw_Z below #[Value.ref b] s) (WL cI cZ qX qS qI qJ qP qV qT qK qG qL qM qY oX oS oI oJ oP oV oT oK oG oL oM oY) 1095 [(0, .ref b), (1, .ref (qX 0)), (2, .ref (qY 0)), (3, .int v3)] []) (i1 : vp_in (v3 + (1 : Int32)) L) (h : wpX9_fit oX oS oG (jld xs (v3 + (1 : Int32))) (fun (r1 : Int32) (wG : Ob) => wpX10_fit oY (jld xs (v3 + (1 : Int32))) (fun (r2 : Int32) => r1 = r2 ∧ N oX oS oI oJ oP oV oT oK wG oL oM oY))) : SW p l e room_1 s m #[Value.ref b] below meth c (fun q : Nat => s.heap.size ≤ q) D 4 56 11255 (lw_Z below #[Value.ref b] s) (WL cI cZ qX qS qI qJ qP qV qT qK qG qL qM qY oX oS oI oJ oP oV oT oK oG oL oM oY) 714 [(0, .ref b), (1, .ref (qX 0)), (2, .ref (qY 0)), (3, .int v3)] [] := by
  have hbA : ¬ (fun q : Nat => s.heap.size ≤ q) b := Nat.not_le.mpr hbl
  refine SW.aload_n C dL_law_714 rfl 1 rfl ?_
  refine SW.aload_n C dL_law_715 rfl 0 rfl ?_
  refine SW.iload_n C dL_law_716 rfl 3 rfl ?_
  refine SW.iconst (v := (1 : Int32)) C dL_law_717 (by decide) ?_
  refine SW.iadd C dL_law_718 ?_
  refine SW.sld C hX hbl hbA i1 dL_law_719 ?_
  refine SW.callVi_pm (wn := fun u : Ob => WL cI cZ qX qS qI qJ qP qV qT qK qG qL qM qY oX oS oI oJ oP oV oT oK u oL oM oY) C (ctX9_fit l D cI cZ qX qS qI qJ qP qV qT qK qG qL qM oX oS oG (jld xs (v3 + (1 : Int32))) _ h) gL_law_X9_fit rfl rfl rfl pdX9_fit ⟨by decide +kernel, by decide +kernel⟩ (pm_XSG _ _ _ _ _ _ _ _ _ _ _ _) (fun u => mp_XSG _ _ _ _ _ _ _ _ _ _ _ _) 0 rfl rfl rfl rfl rfl (Nat.le_of_ble_eq_true rfl) dL_law_720 ⟨by decide +kernel, by decide +kernel⟩ (fun r1 u h => ?_)
  obtain ⟨wG, rfl⟩ : ∃ z, z = u := ⟨_, rfl⟩
  try dsimp only at h
  refine SW.aload_n C dL_law_723 rfl 2 rfl ?_
  refine SW.aload_n C dL_law_724 rfl 0 rfl ?_
  refine SW.iload_n C dL_law_725 rfl 3 rfl ?_
  refine SW.iconst (v := (1 : Int32)) C dL_law_726 (by decide) ?_
  refine SW.iadd C dL_law_727 ?_
  refine SW.sld C hX hbl hbA i1 dL_law_728 ?_
  refine SW.callVi_pm (wn := fun _ : Unit => WL cI cZ qX qS qI qJ qP qV qT qK qG qL qM qY oX oS oI oJ oP oV oT oK wG oL oM oY) C (ctX10_fit l D cI cZ qY oY (jld xs (v3 + (1 : Int32))) _ h) gL_law_X10_fit rfl rfl rfl pdX10_fit ⟨by decide +kernel, by decide +kernel⟩ (pm_Y _ _ _ _ _ _ _ _ _ _ _ _) (fun u => mp_Y _ _ _ _ _ _ _ _ _ _ _ _) 0 rfl rfl rfl rfl rfl (Nat.le_of_ble_eq_true rfl) dL_law_729 ⟨by decide +kernel, by decide +kernel⟩ (fun r2 u h => ?_)
  try dsimp only at h
  exact SW.icmp_eq (tgt := 1095) C dL_law_732 (by decide) (fun hc => kk _ _ _ _ _ _ _ _ _ _ _ _ h.2) (fun hc => absurd h.1 hc)
theorem lc_ask {p : Program} {l : Launch} {e : Env} {s : State} {m : MethodId} {below : List Frame} {meth : Method} {c : Code} {D : va_G} {cI cZ : ClassId} {b L : Nat} {xs : Nat → Int32} (C : Cx p s m #[Value.ref b] meth c code 4 wsL_law RL D [(cI, .int), (cZ, .boolean)] (fun q : Nat => s.heap.size ≤ q) ret) (hX : va_X b L xs s s.heap) (hbl : b < s.heap.size) (qX qS qI qJ qP qV qT qK qG qL qM qY : Nat → Nat) (oX oS oI oJ oP oV oT oK oG oL oM oY : Ob) (v3 : Int32) (N : Ob → Ob → Ob → Ob → Ob → Ob → Ob → Ob → Ob → Ob → Ob → Ob → Prop) (kk : ∀ oX oS oI oJ oP oV oT oK oG oL oM oY : Ob, N oX oS oI oJ oP oV oT oK oG oL oM oY → SW p l e room_1 s m #[Value.ref b] below meth c (fun q : Nat => s.heap.size ≤ q) D 4 56 11255 (lw_Z below #[Value.ref b] s) (WL cI cZ qX qS qI qJ qP qV qT qK qG qL qM qY oX oS oI oJ oP oV oT oK oG oL oM oY) 1095 [(0, .ref b), (1, .ref (qX 0)), (2, .ref (qY 0)), (3, .int v3)] []) (i1 : vp_in (v3 + (1 : Int32)) L) (h : wpX9_ask oX oS oG (jld xs (v3 + (1 : Int32))) (fun (r1 : Int32) (wG : Ob) => wpX10_ask oY (jld xs (v3 + (1 : Int32))) (fun (r2 : Int32) (wY : Ob) => r1 = r2 ∧ N oX oS oI oJ oP oV oT oK wG oL oM wY))) : SW p l e room_1 s m #[Value.ref b] below meth c (fun q : Nat => s.heap.size ≤ q) D 4 56 11255 (lw_Z below #[Value.ref b] s) (WL cI cZ qX qS qI qJ qP qV qT qK qG qL qM qY oX oS oI oJ oP oV oT oK oG oL oM oY) 737 [(0, .ref b), (1, .ref (qX 0)), (2, .ref (qY 0)), (3, .int v3)] [] := by
  have hbA : ¬ (fun q : Nat => s.heap.size ≤ q) b := Nat.not_le.mpr hbl
  refine SW.aload_n C dL_law_737 rfl 1 rfl ?_
  refine SW.aload_n C dL_law_738 rfl 0 rfl ?_
  refine SW.iload_n C dL_law_739 rfl 3 rfl ?_
  refine SW.iconst (v := (1 : Int32)) C dL_law_740 (by decide) ?_
  refine SW.iadd C dL_law_741 ?_
  refine SW.sld C hX hbl hbA i1 dL_law_742 ?_
  refine SW.callVi_pm (wn := fun u : Ob => WL cI cZ qX qS qI qJ qP qV qT qK qG qL qM qY oX oS oI oJ oP oV oT oK u oL oM oY) C (ctX9_ask l D cI cZ qX qS qI qJ qP qV qT qK qG qL qM oX oS oG (jld xs (v3 + (1 : Int32))) _ h) gL_law_X9_ask rfl rfl rfl pdX9_ask ⟨by decide +kernel, by decide +kernel⟩ (pm_XSG _ _ _ _ _ _ _ _ _ _ _ _) (fun u => mp_XSG _ _ _ _ _ _ _ _ _ _ _ _) 0 rfl rfl rfl rfl rfl (Nat.le_of_ble_eq_true rfl) dL_law_743 ⟨by decide +kernel, by decide +kernel⟩ (fun r1 u h => ?_)
  obtain ⟨wG, rfl⟩ : ∃ z, z = u := ⟨_, rfl⟩
  try dsimp only at h
  refine SW.aload_n C dL_law_746 rfl 2 rfl ?_
  refine SW.aload_n C dL_law_747 rfl 0 rfl ?_
  refine SW.iload_n C dL_law_748 rfl 3 rfl ?_
  refine SW.iconst (v := (1 : Int32)) C dL_law_749 (by decide) ?_
  refine SW.iadd C dL_law_750 ?_
  refine SW.sld C hX hbl hbA i1 dL_law_751 ?_
  refine SW.callVi_pm (wn := fun u : Ob => WL cI cZ qX qS qI qJ qP qV qT qK qG qL qM qY oX oS oI oJ oP oV oT oK wG oL oM u) C (ctX10_ask l D cI cZ qY oY (jld xs (v3 + (1 : Int32))) _ h) gL_law_X10_ask rfl rfl rfl pdX10_ask ⟨by decide +kernel, by decide +kernel⟩ (pm_Y _ _ _ _ _ _ _ _ _ _ _ _) (fun u => mp_Y _ _ _ _ _ _ _ _ _ _ _ _) 0 rfl rfl rfl rfl rfl (Nat.le_of_ble_eq_true rfl) dL_law_752 ⟨by decide +kernel, by decide +kernel⟩ (fun r2 u h => ?_)
  obtain ⟨wY, rfl⟩ : ∃ z, z = u := ⟨_, rfl⟩
  try dsimp only at h
  exact SW.icmp_eq (tgt := 1095) C dL_law_755 (by decide) (fun hc => kk _ _ _ _ _ _ _ _ _ _ _ _ h.2) (fun hc => absurd h.1 hc)
theorem lc_borrow {p : Program} {l : Launch} {e : Env} {s : State} {m : MethodId} {below : List Frame} {meth : Method} {c : Code} {D : va_G} {cI cZ : ClassId} {b L : Nat} {xs : Nat → Int32} (C : Cx p s m #[Value.ref b] meth c code 4 wsL_law RL D [(cI, .int), (cZ, .boolean)] (fun q : Nat => s.heap.size ≤ q) ret) (hX : va_X b L xs s s.heap) (hbl : b < s.heap.size) (qX qS qI qJ qP qV qT qK qG qL qM qY : Nat → Nat) (oX oS oI oJ oP oV oT oK oG oL oM oY : Ob) (v3 : Int32) (N : Ob → Ob → Ob → Ob → Ob → Ob → Ob → Ob → Ob → Ob → Ob → Ob → Prop) (kk : ∀ oX oS oI oJ oP oV oT oK oG oL oM oY : Ob, N oX oS oI oJ oP oV oT oK oG oL oM oY → SW p l e room_1 s m #[Value.ref b] below meth c (fun q : Nat => s.heap.size ≤ q) D 4 56 11255 (lw_Z below #[Value.ref b] s) (WL cI cZ qX qS qI qJ qP qV qT qK qG qL qM qY oX oS oI oJ oP oV oT oK oG oL oM oY) 1095 [(0, .ref b), (1, .ref (qX 0)), (2, .ref (qY 0)), (3, .int v3)] []) (i1 : vp_in (v3 + (1 : Int32)) L) (i2 : vp_in (v3 + (2 : Int32)) L) (i3 : vp_in (v3 + (3 : Int32)) L) (h : wpX9_borrow oX oS (jld xs (v3 + (1 : Int32))) (jld xs (v3 + (2 : Int32))) (jld xs (v3 + (3 : Int32))) (fun (r1 : Int32) (wS : Ob) => wpX10_borrow oY (jld xs (v3 + (1 : Int32))) (jld xs (v3 + (2 : Int32))) (jld xs (v3 + (3 : Int32))) (fun (r2 : Int32) (wY : Ob) => r1 = r2 ∧ N oX wS oI oJ oP oV oT oK oG oL oM wY))) : SW p l e room_1 s m #[Value.ref b] below meth c (fun q : Nat => s.heap.size ≤ q) D 4 56 11255 (lw_Z below #[Value.ref b] s) (WL cI cZ qX qS qI qJ qP qV qT qK qG qL qM qY oX oS oI oJ oP oV oT oK oG oL oM oY) 760 [(0, .ref b), (1, .ref (qX 0)), (2, .ref (qY 0)), (3, .int v3)] [] := by
  have hbA : ¬ (fun q : Nat => s.heap.size ≤ q) b := Nat.not_le.mpr hbl
  refine SW.aload_n C dL_law_760 rfl 1 rfl ?_
  refine SW.aload_n C dL_law_761 rfl 0 rfl ?_
  refine SW.iload_n C dL_law_762 rfl 3 rfl ?_
  refine SW.iconst (v := (1 : Int32)) C dL_law_763 (by decide) ?_
  refine SW.iadd C dL_law_764 ?_
  refine SW.sld C hX hbl hbA i1 dL_law_765 ?_
  refine SW.aload_n C dL_law_766 rfl 0 rfl ?_
  refine SW.iload_n C dL_law_767 rfl 3 rfl ?_
  refine SW.iconst (v := (2 : Int32)) C dL_law_768 (by decide) ?_
  refine SW.iadd C dL_law_769 ?_
  refine SW.sld C hX hbl hbA i2 dL_law_770 ?_
  refine SW.aload_n C dL_law_771 rfl 0 rfl ?_
  refine SW.iload_n C dL_law_772 rfl 3 rfl ?_
  refine SW.iconst (v := (3 : Int32)) C dL_law_773 (by decide) ?_
  refine SW.iadd C dL_law_774 ?_
  refine SW.sld C hX hbl hbA i3 dL_law_775 ?_
  refine SW.callVi_pm (wn := fun u : Ob => WL cI cZ qX qS qI qJ qP qV qT qK qG qL qM qY oX u oI oJ oP oV oT oK oG oL oM oY) C (ctX9_borrow l D cI cZ qX qS qI qJ qP qV qT qK qG qL qM oX oS (jld xs (v3 + (1 : Int32))) (jld xs (v3 + (2 : Int32))) (jld xs (v3 + (3 : Int32))) _ h) gL_law_X9_borrow rfl rfl rfl pdX9_borrow ⟨by decide +kernel, by decide +kernel⟩ (pm_XS _ _ _ _ _ _ _ _ _ _ _ _) (fun u => mp_XS _ _ _ _ _ _ _ _ _ _ _ _) 0 rfl rfl rfl rfl rfl (Nat.le_of_ble_eq_true rfl) dL_law_776 ⟨by decide +kernel, by decide +kernel⟩ (fun r1 u h => ?_)
  obtain ⟨wS, rfl⟩ : ∃ z, z = u := ⟨_, rfl⟩
  try dsimp only at h
  refine SW.aload_n C dL_law_779 rfl 2 rfl ?_
  refine SW.aload_n C dL_law_780 rfl 0 rfl ?_
  refine SW.iload_n C dL_law_781 rfl 3 rfl ?_
  refine SW.iconst (v := (1 : Int32)) C dL_law_782 (by decide) ?_
  refine SW.iadd C dL_law_783 ?_
  refine SW.sld C hX hbl hbA i1 dL_law_784 ?_
  refine SW.aload_n C dL_law_785 rfl 0 rfl ?_
  refine SW.iload_n C dL_law_786 rfl 3 rfl ?_
  refine SW.iconst (v := (2 : Int32)) C dL_law_787 (by decide) ?_
  refine SW.iadd C dL_law_788 ?_
  refine SW.sld C hX hbl hbA i2 dL_law_789 ?_
  refine SW.aload_n C dL_law_790 rfl 0 rfl ?_
  refine SW.iload_n C dL_law_791 rfl 3 rfl ?_
  refine SW.iconst (v := (3 : Int32)) C dL_law_792 (by decide) ?_
  refine SW.iadd C dL_law_793 ?_
  refine SW.sld C hX hbl hbA i3 dL_law_794 ?_
  refine SW.callVi_pm (wn := fun u : Ob => WL cI cZ qX qS qI qJ qP qV qT qK qG qL qM qY oX wS oI oJ oP oV oT oK oG oL oM u) C (ctX10_borrow l D cI cZ qY oY (jld xs (v3 + (1 : Int32))) (jld xs (v3 + (2 : Int32))) (jld xs (v3 + (3 : Int32))) _ h) gL_law_X10_borrow rfl rfl rfl pdX10_borrow ⟨by decide +kernel, by decide +kernel⟩ (pm_Y _ _ _ _ _ _ _ _ _ _ _ _) (fun u => mp_Y _ _ _ _ _ _ _ _ _ _ _ _) 0 rfl rfl rfl rfl rfl (Nat.le_of_ble_eq_true rfl) dL_law_795 ⟨by decide +kernel, by decide +kernel⟩ (fun r2 u h => ?_)
  obtain ⟨wY, rfl⟩ : ∃ z, z = u := ⟨_, rfl⟩
  try dsimp only at h
  exact SW.icmp_eq (tgt := 1095) C dL_law_798 (by decide) (fun hc => kk _ _ _ _ _ _ _ _ _ _ _ _ h.2) (fun hc => absurd h.1 hc)
theorem lc_teas {p : Program} {l : Launch} {e : Env} {s : State} {m : MethodId} {below : List Frame} {meth : Method} {c : Code} {D : va_G} {cI cZ : ClassId} {b L : Nat} {xs : Nat → Int32} (C : Cx p s m #[Value.ref b] meth c code 4 wsL_law RL D [(cI, .int), (cZ, .boolean)] (fun q : Nat => s.heap.size ≤ q) ret) (hX : va_X b L xs s s.heap) (hbl : b < s.heap.size) (qX qS qI qJ qP qV qT qK qG qL qM qY : Nat → Nat) (oX oS oI oJ oP oV oT oK oG oL oM oY : Ob) (v3 : Int32) (N : Ob → Ob → Ob → Ob → Ob → Ob → Ob → Ob → Ob → Ob → Ob → Ob → Prop) (kk : ∀ oX oS oI oJ oP oV oT oK oG oL oM oY : Ob, N oX oS oI oJ oP oV oT oK oG oL oM oY → SW p l e room_1 s m #[Value.ref b] below meth c (fun q : Nat => s.heap.size ≤ q) D 4 56 11255 (lw_Z below #[Value.ref b] s) (WL cI cZ qX qS qI qJ qP qV qT qK qG qL qM qY oX oS oI oJ oP oV oT oK oG oL oM oY) 1095 [(0, .ref b), (1, .ref (qX 0)), (2, .ref (qY 0)), (3, .int v3)] []) (h : wpX9_teas oX oS oL (fun (r1 : Int32) (wL : Ob) => wpX10_teas oY (fun (r2 : Int32) (wY : Ob) => r1 = r2 ∧ N oX oS oI oJ oP oV oT oK oG wL oM wY))) : SW p l e room_1 s m #[Value.ref b] below meth c (fun q : Nat => s.heap.size ≤ q) D 4 56 11255 (lw_Z below #[Value.ref b] s) (WL cI cZ qX qS qI qJ qP qV qT qK qG qL qM qY oX oS oI oJ oP oV oT oK oG oL oM oY) 803 [(0, .ref b), (1, .ref (qX 0)), (2, .ref (qY 0)), (3, .int v3)] [] := by
  have hbA : ¬ (fun q : Nat => s.heap.size ≤ q) b := Nat.not_le.mpr hbl
  refine SW.aload_n C dL_law_803 rfl 1 rfl ?_
  refine SW.callVi_pm (wn := fun u : Ob => WL cI cZ qX qS qI qJ qP qV qT qK qG qL qM qY oX oS oI oJ oP oV oT oK oG u oM oY) C (ctX9_teas l D cI cZ qX qS qI qJ qP qV qT qK qG qL qM oX oS oL _ h) gL_law_X9_teas rfl rfl rfl pdX9_teas ⟨by decide +kernel, by decide +kernel⟩ (pm_XSL _ _ _ _ _ _ _ _ _ _ _ _) (fun u => mp_XSL _ _ _ _ _ _ _ _ _ _ _ _) 0 rfl rfl rfl rfl rfl (Nat.le_of_ble_eq_true rfl) dL_law_804 ⟨by decide +kernel, by decide +kernel⟩ (fun r1 u h => ?_)
  obtain ⟨wL, rfl⟩ : ∃ z, z = u := ⟨_, rfl⟩
  try dsimp only at h
  refine SW.aload_n C dL_law_807 rfl 2 rfl ?_
  refine SW.callVi_pm (wn := fun u : Ob => WL cI cZ qX qS qI qJ qP qV qT qK qG qL qM qY oX oS oI oJ oP oV oT oK oG wL oM u) C (ctX10_teas l D cI cZ qY oY _ h) gL_law_X10_teas rfl rfl rfl pdX10_teas ⟨by decide +kernel, by decide +kernel⟩ (pm_Y _ _ _ _ _ _ _ _ _ _ _ _) (fun u => mp_Y _ _ _ _ _ _ _ _ _ _ _ _) 0 rfl rfl rfl rfl rfl (Nat.le_of_ble_eq_true rfl) dL_law_808 ⟨by decide +kernel, by decide +kernel⟩ (fun r2 u h => ?_)
  obtain ⟨wY, rfl⟩ : ∃ z, z = u := ⟨_, rfl⟩
  try dsimp only at h
  exact SW.icmp_eq (tgt := 1095) C dL_law_811 (by decide) (fun hc => kk _ _ _ _ _ _ _ _ _ _ _ _ h.2) (fun hc => absurd h.1 hc)
theorem lc_feet {p : Program} {l : Launch} {e : Env} {s : State} {m : MethodId} {below : List Frame} {meth : Method} {c : Code} {D : va_G} {cI cZ : ClassId} {b L : Nat} {xs : Nat → Int32} (C : Cx p s m #[Value.ref b] meth c code 4 wsL_law RL D [(cI, .int), (cZ, .boolean)] (fun q : Nat => s.heap.size ≤ q) ret) (hX : va_X b L xs s s.heap) (hbl : b < s.heap.size) (qX qS qI qJ qP qV qT qK qG qL qM qY : Nat → Nat) (oX oS oI oJ oP oV oT oK oG oL oM oY : Ob) (v3 : Int32) (N : Ob → Ob → Ob → Ob → Ob → Ob → Ob → Ob → Ob → Ob → Ob → Ob → Prop) (kk : ∀ oX oS oI oJ oP oV oT oK oG oL oM oY : Ob, N oX oS oI oJ oP oV oT oK oG oL oM oY → SW p l e room_1 s m #[Value.ref b] below meth c (fun q : Nat => s.heap.size ≤ q) D 4 56 11255 (lw_Z below #[Value.ref b] s) (WL cI cZ qX qS qI qJ qP qV qT qK qG qL qM qY oX oS oI oJ oP oV oT oK oG oL oM oY) 1095 [(0, .ref b), (1, .ref (qX 0)), (2, .ref (qY 0)), (3, .int v3)] []) (h : wpX9_feet oX oS (fun (r1 : Int32) => wpX10_feet oY (fun (r2 : Int32) => r1 = r2 ∧ N oX oS oI oJ oP oV oT oK oG oL oM oY))) : SW p l e room_1 s m #[Value.ref b] below meth c (fun q : Nat => s.heap.size ≤ q) D 4 56 11255 (lw_Z below #[Value.ref b] s) (WL cI cZ qX qS qI qJ qP qV qT qK qG qL qM qY oX oS oI oJ oP oV oT oK oG oL oM oY) 816 [(0, .ref b), (1, .ref (qX 0)), (2, .ref (qY 0)), (3, .int v3)] [] := by
  have hbA : ¬ (fun q : Nat => s.heap.size ≤ q) b := Nat.not_le.mpr hbl
  refine SW.aload_n C dL_law_816 rfl 1 rfl ?_
  refine SW.callVi_pm (wn := fun _ : Unit => WL cI cZ qX qS qI qJ qP qV qT qK qG qL qM qY oX oS oI oJ oP oV oT oK oG oL oM oY) C (ctX9_feet l D cI cZ qX qS qI qJ qP qV qT qK qG qL qM oX oS _ h) gL_law_X9_feet rfl rfl rfl pdX9_feet ⟨by decide +kernel, by decide +kernel⟩ (pm_XS _ _ _ _ _ _ _ _ _ _ _ _) (fun u => mp_XS _ _ _ _ _ _ _ _ _ _ _ _) 0 rfl rfl rfl rfl rfl (Nat.le_of_ble_eq_true rfl) dL_law_817 ⟨by decide +kernel, by decide +kernel⟩ (fun r1 u h => ?_)
  try dsimp only at h
  refine SW.aload_n C dL_law_820 rfl 2 rfl ?_
  refine SW.callVi_pm (wn := fun _ : Unit => WL cI cZ qX qS qI qJ qP qV qT qK qG qL qM qY oX oS oI oJ oP oV oT oK oG oL oM oY) C (ctX10_feet l D cI cZ qY oY _ h) gL_law_X10_feet rfl rfl rfl pdX10_feet ⟨by decide +kernel, by decide +kernel⟩ (pm_Y _ _ _ _ _ _ _ _ _ _ _ _) (fun u => mp_Y _ _ _ _ _ _ _ _ _ _ _ _) 0 rfl rfl rfl rfl rfl (Nat.le_of_ble_eq_true rfl) dL_law_821 ⟨by decide +kernel, by decide +kernel⟩ (fun r2 u h => ?_)
  try dsimp only at h
  exact SW.icmp_eq (tgt := 1095) C dL_law_824 (by decide) (fun hc => kk _ _ _ _ _ _ _ _ _ _ _ _ h.2) (fun hc => absurd h.1 hc)
