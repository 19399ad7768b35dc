theorem lc_hooks {p : Program} {l : Launch} {e : Env} {s : State} {m : MethodId} {below : List Frame} {meth : Method} {c : Code} {D : va_G} {cI cZ : ClassId} {b L : Nat} {xs : Nat → Int32} (C : Cx p s m #[Value.ref b] meth c code 4 wsL_law RL D [(cI, .int), (cZ, .boolean)] (fun q : Nat => s.heap.size ≤ q) ret) (hX : va_X b L xs s s.heap) (hbl : b < s.heap.size) (qX qS qI qJ qP qV qT qK qG qL qM qY : Nat → Nat) (oX oS oI oJ oP oV oT oK oG oL oM oY : Ob) (v3 : Int32) (N : Ob → Ob → Ob → Ob → Ob → Ob → Ob → Ob → Ob → Ob → Ob → Ob → Prop) (kk : ∀ oX oS oI oJ oP oV oT oK oG oL oM oY : Ob, N oX oS oI oJ oP oV oT oK oG oL oM oY → SW p l e room_1 s m #[Value.ref b] below meth c (fun q : Nat => s.heap.size ≤ q) D 4 56 11255 (lw_Z below #[Value.ref b] s) (WL cI cZ qX qS qI qJ qP qV qT qK qG qL qM qY oX oS oI oJ oP oV oT oK oG oL oM oY) 1095 [(0, .ref b), (1, .ref (qX 0)), (2, .ref (qY 0)), (3, .int v3)] []) (i1 : vp_in (v3 + (1 : Int32)) L) (i2 : vp_in (v3 + (2 : Int32)) L) (i3 : vp_in (v3 + (3 : Int32)) L) (h : wpX9_hooks oX (jld xs (v3 + (1 : Int32))) (jld xs (v3 + (2 : Int32))) (jld xs (v3 + (3 : Int32))) (fun (r1 : Int32) => wpX10_hooks oY (jld xs (v3 + (1 : Int32))) (jld xs (v3 + (2 : Int32))) (jld xs (v3 + (3 : Int32))) (fun (r2 : Int32) => r1 = r2 ∧ N oX oS oI oJ oP oV oT oK oG oL oM oY))) : SW p l e room_1 s m #[Value.ref b] below meth c (fun q : Nat => s.heap.size ≤ q) D 4 56 11255 (lw_Z below #[Value.ref b] s) (WL cI cZ qX qS qI qJ qP qV qT qK qG qL qM qY oX oS oI oJ oP oV oT oK oG oL oM oY) 829 [(0, .ref b), (1, .ref (qX 0)), (2, .ref (qY 0)), (3, .int v3)] [] := by
  have hbA : ¬ (fun q : Nat => s.heap.size ≤ q) b := Nat.not_le.mpr hbl
  refine SW.aload_n C dL_law_829 rfl 1 rfl ?_
  refine SW.aload_n C dL_law_830 rfl 0 rfl ?_
  refine SW.iload_n C dL_law_831 rfl 3 rfl ?_
  refine SW.iconst (v := (1 : Int32)) C dL_law_832 (by decide) ?_
  refine SW.iadd C dL_law_833 ?_
  refine SW.sld C hX hbl hbA i1 dL_law_834 ?_
  refine SW.aload_n C dL_law_835 rfl 0 rfl ?_
  refine SW.iload_n C dL_law_836 rfl 3 rfl ?_
  refine SW.iconst (v := (2 : Int32)) C dL_law_837 (by decide) ?_
  refine SW.iadd C dL_law_838 ?_
  refine SW.sld C hX hbl hbA i2 dL_law_839 ?_
  refine SW.aload_n C dL_law_840 rfl 0 rfl ?_
  refine SW.iload_n C dL_law_841 rfl 3 rfl ?_
  refine SW.iconst (v := (3 : Int32)) C dL_law_842 (by decide) ?_
  refine SW.iadd C dL_law_843 ?_
  refine SW.sld C hX hbl hbA i3 dL_law_844 ?_
  refine SW.callVi_pm (wn := fun _ : Unit => WL cI cZ qX qS qI qJ qP qV qT qK qG qL qM qY oX oS oI oJ oP oV oT oK oG oL oM oY) C (ctX9_hooks l D cI cZ qX qS qI qJ qP qV qT qK qG qL qM oX (jld xs (v3 + (1 : Int32))) (jld xs (v3 + (2 : Int32))) (jld xs (v3 + (3 : Int32))) _ h) gL_law_X9_hooks rfl rfl rfl pdX9_hooks ⟨by decide +kernel, by decide +kernel⟩ (pm_X _ _ _ _ _ _ _ _ _ _ _ _) (fun u => mp_X _ _ _ _ _ _ _ _ _ _ _ _) 0 rfl rfl rfl rfl rfl (Nat.le_of_ble_eq_true rfl) dL_law_845 ⟨by decide +kernel, by decide +kernel⟩ (fun r1 u h => ?_)
  try dsimp only at h
  refine SW.aload_n C dL_law_848 rfl 2 rfl ?_
  refine SW.aload_n C dL_law_849 rfl 0 rfl ?_
  refine SW.iload_n C dL_law_850 rfl 3 rfl ?_
  refine SW.iconst (v := (1 : Int32)) C dL_law_851 (by decide) ?_
  refine SW.iadd C dL_law_852 ?_
  refine SW.sld C hX hbl hbA i1 dL_law_853 ?_
  refine SW.aload_n C dL_law_854 rfl 0 rfl ?_
  refine SW.iload_n C dL_law_855 rfl 3 rfl ?_
  refine SW.iconst (v := (2 : Int32)) C dL_law_856 (by decide) ?_
  refine SW.iadd C dL_law_857 ?_
  refine SW.sld C hX hbl hbA i2 dL_law_858 ?_
  refine SW.aload_n C dL_law_859 rfl 0 rfl ?_
  refine SW.iload_n C dL_law_860 rfl 3 rfl ?_
  refine SW.iconst (v := (3 : Int32)) C dL_law_861 (by decide) ?_
  refine SW.iadd C dL_law_862 ?_
  refine SW.sld C hX hbl hbA i3 dL_law_863 ?_
  refine SW.callVi_pm (wn := fun _ : Unit => WL cI cZ qX qS qI qJ qP qV qT qK qG qL qM qY oX oS oI oJ oP oV oT oK oG oL oM oY) C (ctX10_hooks l D cI cZ qY oY (jld xs (v3 + (1 : Int32))) (jld xs (v3 + (2 : Int32))) (jld xs (v3 + (3 : Int32))) _ h) gL_law_X10_hooks rfl rfl rfl pdX10_hooks ⟨by decide +kernel, by decide +kernel⟩ (pm_Y _ _ _ _ _ _ _ _ _ _ _ _) (fun u => mp_Y _ _ _ _ _ _ _ _ _ _ _ _) 0 rfl rfl rfl rfl rfl (Nat.le_of_ble_eq_true rfl) dL_law_864 ⟨by decide +kernel, by decide +kernel⟩ (fun r2 u h => ?_)
  try dsimp only at h
  exact SW.icmp_eq (tgt := 1095) C dL_law_867 (by decide) (fun hc => kk _ _ _ _ _ _ _ _ _ _ _ _ h.2) (fun hc => absurd h.1 hc)
theorem lc_turns {p : Program} {l : Launch} {e : Env} {s : State} {m : MethodId} {below : List Frame} {meth : Method} {c : Code} {D : va_G} {cI cZ : ClassId} {b L : Nat} {xs : Nat → Int32} (C : Cx p s m #[Value.ref b] meth c code 4 wsL_law RL D [(cI, .int), (cZ, .boolean)] (fun q : Nat => s.heap.size ≤ q) ret) (hX : va_X b L xs s s.heap) (hbl : b < s.heap.size) (qX qS qI qJ qP qV qT qK qG qL qM qY : Nat → Nat) (oX oS oI oJ oP oV oT oK oG oL oM oY : Ob) (v3 : Int32) (N : Ob → Ob → Ob → Ob → Ob → Ob → Ob → Ob → Ob → Ob → Ob → Ob → Prop) (kk : ∀ oX oS oI oJ oP oV oT oK oG oL oM oY : Ob, N oX oS oI oJ oP oV oT oK oG oL oM oY → SW p l e room_1 s m #[Value.ref b] below meth c (fun q : Nat => s.heap.size ≤ q) D 4 56 11255 (lw_Z below #[Value.ref b] s) (WL cI cZ qX qS qI qJ qP qV qT qK qG qL qM qY oX oS oI oJ oP oV oT oK oG oL oM oY) 1095 [(0, .ref b), (1, .ref (qX 0)), (2, .ref (qY 0)), (3, .int v3)] []) (i1 : vp_in (v3 + (1 : Int32)) L) (h : wpX9_turns oX oS oM (jld xs (v3 + (1 : Int32))) (fun (r1 : Int32) (wS : Ob) (wM : Ob) => wpX10_turns oY (jld xs (v3 + (1 : Int32))) (fun (r2 : Int32) (wY : Ob) => r1 = r2 ∧ N oX wS oI oJ oP oV oT oK oG oL wM wY))) : SW p l e room_1 s m #[Value.ref b] below meth c (fun q : Nat => s.heap.size ≤ q) D 4 56 11255 (lw_Z below #[Value.ref b] s) (WL cI cZ qX qS qI qJ qP qV qT qK qG qL qM qY oX oS oI oJ oP oV oT oK oG oL oM oY) 872 [(0, .ref b), (1, .ref (qX 0)), (2, .ref (qY 0)), (3, .int v3)] [] := by
  have hbA : ¬ (fun q : Nat => s.heap.size ≤ q) b := Nat.not_le.mpr hbl
  refine SW.aload_n C dL_law_872 rfl 1 rfl ?_
  refine SW.aload_n C dL_law_873 rfl 0 rfl ?_
  refine SW.iload_n C dL_law_874 rfl 3 rfl ?_
  refine SW.iconst (v := (1 : Int32)) C dL_law_875 (by decide) ?_
  refine SW.iadd C dL_law_876 ?_
  refine SW.sld C hX hbl hbA i1 dL_law_877 ?_
  refine SW.callVi_pm (wn := fun u : Ob × Ob => WL cI cZ qX qS qI qJ qP qV qT qK qG qL qM qY oX u.1 oI oJ oP oV oT oK oG oL u.2 oY) C (ctX9_turns l D cI cZ qX qS qI qJ qP qV qT qK qG qL qM oX oS oM (jld xs (v3 + (1 : Int32))) _ h) gL_law_X9_turns rfl rfl rfl pdX9_turns ⟨by decide +kernel, by decide +kernel⟩ (pm_XSM _ _ _ _ _ _ _ _ _ _ _ _) (fun u => mp_XSM _ _ _ _ _ _ _ _ _ _ _ _) 0 rfl rfl rfl rfl rfl (Nat.le_of_ble_eq_true rfl) dL_law_878 ⟨by decide +kernel, by decide +kernel⟩ (fun r1 u h => ?_)
  obtain ⟨wS, wM⟩ := u
  try dsimp only at h
  dsimp only
  refine SW.aload_n C dL_law_881 rfl 2 rfl ?_
  refine SW.aload_n C dL_law_882 rfl 0 rfl ?_
  refine SW.iload_n C dL_law_883 rfl 3 rfl ?_
  refine SW.iconst (v := (1 : Int32)) C dL_law_884 (by decide) ?_
  refine SW.iadd C dL_law_885 ?_
  refine SW.sld C hX hbl hbA i1 dL_law_886 ?_
  refine SW.callVi_pm (wn := fun u : Ob => WL cI cZ qX qS qI qJ qP qV qT qK qG qL qM qY oX wS oI oJ oP oV oT oK oG oL wM u) C (ctX10_turns l D cI cZ qY oY (jld xs (v3 + (1 : Int32))) _ h) gL_law_X10_turns rfl rfl rfl pdX10_turns ⟨by decide +kernel, by decide +kernel⟩ (pm_Y _ _ _ _ _ _ _ _ _ _ _ _) (fun u => mp_Y _ _ _ _ _ _ _ _ _ _ _ _) 0 rfl rfl rfl rfl rfl (Nat.le_of_ble_eq_true rfl) dL_law_887 ⟨by decide +kernel, by decide +kernel⟩ (fun r2 u h => ?_)
  obtain ⟨wY, rfl⟩ : ∃ z, z = u := ⟨_, rfl⟩
  try dsimp only at h
  exact SW.icmp_eq (tgt := 1095) C dL_law_890 (by decide) (fun hc => kk _ _ _ _ _ _ _ _ _ _ _ _ h.2) (fun hc => absurd h.1 hc)
theorem lc_slips {p : Program} {l : Launch} {e : Env} {s : State} {m : MethodId} {below : List Frame} {meth : Method} {c : Code} {D : va_G} {cI cZ : ClassId} {b L : Nat} {xs : Nat → Int32} (C : Cx p s m #[Value.ref b] meth c code 4 wsL_law RL D [(cI, .int), (cZ, .boolean)] (fun q : Nat => s.heap.size ≤ q) ret) (hX : va_X b L xs s s.heap) (hbl : b < s.heap.size) (qX qS qI qJ qP qV qT qK qG qL qM qY : Nat → Nat) (oX oS oI oJ oP oV oT oK oG oL oM oY : Ob) (v3 : Int32) (N : Ob → Ob → Ob → Ob → Ob → Ob → Ob → Ob → Ob → Ob → Ob → Ob → Prop) (kk : ∀ oX oS oI oJ oP oV oT oK oG oL oM oY : Ob, N oX oS oI oJ oP oV oT oK oG oL oM oY → SW p l e room_1 s m #[Value.ref b] below meth c (fun q : Nat => s.heap.size ≤ q) D 4 56 11255 (lw_Z below #[Value.ref b] s) (WL cI cZ qX qS qI qJ qP qV qT qK qG qL qM qY oX oS oI oJ oP oV oT oK oG oL oM oY) 1095 [(0, .ref b), (1, .ref (qX 0)), (2, .ref (qY 0)), (3, .int v3)] []) (i1 : vp_in (v3 + (1 : Int32)) L) (i2 : vp_in (v3 + (2 : Int32)) L) (i3 : vp_in (v3 + (3 : Int32)) L) (i4 : vp_in (v3 + (4 : Int32)) L) (h : wpX9_slips oX oS (jld xs (v3 + (1 : Int32))) (jld xs (v3 + (2 : Int32))) (jld xs (v3 + (3 : Int32))) (jld xs (v3 + (4 : Int32))) (fun (r1 : Int64) => wpX10_slips oY (jld xs (v3 + (1 : Int32))) (jld xs (v3 + (2 : Int32))) (jld xs (v3 + (3 : Int32))) (jld xs (v3 + (4 : Int32))) (fun (r2 : Int64) => r1 = r2 ∧ N oX oS oI oJ oP oV oT oK oG oL oM oY))) : SW p l e room_1 s m #[Value.ref b] below meth c (fun q : Nat => s.heap.size ≤ q) D 4 56 11255 (lw_Z below #[Value.ref b] s) (WL cI cZ qX qS qI qJ qP qV qT qK qG qL qM qY oX oS oI oJ oP oV oT oK oG oL oM oY) 895 [(0, .ref b), (1, .ref (qX 0)), (2, .ref (qY 0)), (3, .int v3)] [] := by
  have hbA : ¬ (fun q : Nat => s.heap.size ≤ q) b := Nat.not_le.mpr hbl
  refine SW.aload_n C dL_law_895 rfl 1 rfl ?_
  refine SW.aload_n C dL_law_896 rfl 0 rfl ?_
  refine SW.iload_n C dL_law_897 rfl 3 rfl ?_
  refine SW.iconst (v := (1 : Int32)) C dL_law_898 (by decide) ?_
  refine SW.iadd C dL_law_899 ?_
  refine SW.sld C hX hbl hbA i1 dL_law_900 ?_
  refine SW.aload_n C dL_law_901 rfl 0 rfl ?_
  refine SW.iload_n C dL_law_902 rfl 3 rfl ?_
  refine SW.iconst (v := (2 : Int32)) C dL_law_903 (by decide) ?_
  refine SW.iadd C dL_law_904 ?_
  refine SW.sld C hX hbl hbA i2 dL_law_905 ?_
  refine SW.aload_n C dL_law_906 rfl 0 rfl ?_
  refine SW.iload_n C dL_law_907 rfl 3 rfl ?_
  refine SW.iconst (v := (3 : Int32)) C dL_law_908 (by decide) ?_
  refine SW.iadd C dL_law_909 ?_
  refine SW.sld C hX hbl hbA i3 dL_law_910 ?_
  refine SW.aload_n C dL_law_911 rfl 0 rfl ?_
  refine SW.iload_n C dL_law_912 rfl 3 rfl ?_
  refine SW.iconst (v := (4 : Int32)) C dL_law_913 (by decide) ?_
  refine SW.iadd C dL_law_914 ?_
  refine SW.sld C hX hbl hbA i4 dL_law_915 ?_
  refine SW.callVl_pm (wn := fun _ : Unit => WL cI cZ qX qS qI qJ qP qV qT qK qG qL qM qY oX oS oI oJ oP oV oT oK oG oL oM oY) C (ctX9_slips l D cI cZ qX qS qI qJ qP qV qT qK qG qL qM oX oS (jld xs (v3 + (1 : Int32))) (jld xs (v3 + (2 : Int32))) (jld xs (v3 + (3 : Int32))) (jld xs (v3 + (4 : Int32))) _ h) gL_law_X9_slips rfl rfl rfl pdX9_slips ⟨by decide +kernel, by decide +kernel⟩ (pm_XS _ _ _ _ _ _ _ _ _ _ _ _) (fun u => mp_XS _ _ _ _ _ _ _ _ _ _ _ _) 0 rfl rfl rfl rfl rfl (Nat.le_of_ble_eq_true rfl) dL_law_916 ⟨by decide +kernel, by decide +kernel⟩ (fun r1 u h => ?_)
  try dsimp only at h
  refine SW.aload_n C dL_law_919 rfl 2 rfl ?_
  refine SW.aload_n C dL_law_920 rfl 0 rfl ?_
  refine SW.iload_n C dL_law_921 rfl 3 rfl ?_
  refine SW.iconst (v := (1 : Int32)) C dL_law_922 (by decide) ?_
  refine SW.iadd C dL_law_923 ?_
  refine SW.sld C hX hbl hbA i1 dL_law_924 ?_
  refine SW.aload_n C dL_law_925 rfl 0 rfl ?_
  refine SW.iload_n C dL_law_926 rfl 3 rfl ?_
  refine SW.iconst (v := (2 : Int32)) C dL_law_927 (by decide) ?_
  refine SW.iadd C dL_law_928 ?_
  refine SW.sld C hX hbl hbA i2 dL_law_929 ?_
  refine SW.aload_n C dL_law_930 rfl 0 rfl ?_
  refine SW.iload_n C dL_law_931 rfl 3 rfl ?_
  refine SW.iconst (v := (3 : Int32)) C dL_law_932 (by decide) ?_
  refine SW.iadd C dL_law_933 ?_
  refine SW.sld C hX hbl hbA i3 dL_law_934 ?_
  refine SW.aload_n C dL_law_935 rfl 0 rfl ?_
  refine SW.iload_n C dL_law_936 rfl 3 rfl ?_
  refine SW.iconst (v := (4 : Int32)) C dL_law_937 (by decide) ?_
  refine SW.iadd C dL_law_938 ?_
  refine SW.sld C hX hbl hbA i4 dL_law_939 ?_
  refine SW.callVl_pm (wn := fun _ : Unit => WL cI cZ qX qS qI qJ qP qV qT qK qG qL qM qY oX oS oI oJ oP oV oT oK oG oL oM oY) C (ctX10_slips l D cI cZ qY oY (jld xs (v3 + (1 : Int32))) (jld xs (v3 + (2 : Int32))) (jld xs (v3 + (3 : Int32))) (jld xs (v3 + (4 : Int32))) _ h) gL_law_X10_slips rfl rfl rfl pdX10_slips ⟨by decide +kernel, by decide +kernel⟩ (pm_Y _ _ _ _ _ _ _ _ _ _ _ _) (fun u => mp_Y _ _ _ _ _ _ _ _ _ _ _ _) 0 rfl rfl rfl rfl rfl (Nat.le_of_ble_eq_true rfl) dL_law_940 ⟨by decide +kernel, by decide +kernel⟩ (fun r2 u h => ?_)
  try dsimp only at h
  refine SW.lcmp C dL_law_943 ?_
  exact SW.if_eq (tgt := 1095) C dL_law_944 (by decide) (fun hc => kk _ _ _ _ _ _ _ _ _ _ _ _ h.2) (fun hc => absurd (by rw [h.1]; exact lg_cmp_self _) hc)
theorem lc_calm {p : Program} {l : Launch} {e : Env} {s : State} {m : MethodId} {below : List Frame} {meth : Method} {c : Code} {D : va_G} {cI cZ : ClassId} {b L : Nat} {xs : Nat → Int32} (C : Cx p s m #[Value.ref b] meth c code 4 wsL_law RL D [(cI, .int), (cZ, .boolean)] (fun q : Nat => s.heap.size ≤ q) ret) (hX : va_X b L xs s s.heap) (hbl : b < s.heap.size) (qX qS qI qJ qP qV qT qK qG qL qM qY : Nat → Nat) (oX oS oI oJ oP oV oT oK oG oL oM oY : Ob) (v3 : Int32) (N : Ob → Ob → Ob → Ob → Ob → Ob → Ob → Ob → Ob → Ob → Ob → Ob → Prop) (kk : ∀ oX oS oI oJ oP oV oT oK oG oL oM oY : Ob, N oX oS oI oJ oP oV oT oK oG oL oM oY → SW p l e room_1 s m #[Value.ref b] below meth c (fun q : Nat => s.heap.size ≤ q) D 4 56 11255 (lw_Z below #[Value.ref b] s) (WL cI cZ qX qS qI qJ qP qV qT qK qG qL qM qY oX oS oI oJ oP oV oT oK oG oL oM oY) 1095 [(0, .ref b), (1, .ref (qX 0)), (2, .ref (qY 0)), (3, .int v3)] []) (i1 : vp_in (v3 + (1 : Int32)) L) (i2 : vp_in (v3 + (2 : Int32)) L) (h : wpX9_calm oX oS (jld xs (v3 + (1 : Int32))) (jld xs (v3 + (2 : Int32))) (fun (r1 : Int64) (wS : Ob) => wpX10_calm oY (jld xs (v3 + (1 : Int32))) (jld xs (v3 + (2 : Int32))) (fun (r2 : Int64) => r1 = r2 ∧ N oX wS oI oJ oP oV oT oK oG oL oM oY))) : SW p l e room_1 s m #[Value.ref b] below meth c (fun q : Nat => s.heap.size ≤ q) D 4 56 11255 (lw_Z below #[Value.ref b] s) (WL cI cZ qX qS qI qJ qP qV qT qK qG qL qM qY oX oS oI oJ oP oV oT oK oG oL oM oY) 949 [(0, .ref b), (1, .ref (qX 0)), (2, .ref (qY 0)), (3, .int v3)] [] := by
  have hbA : ¬ (fun q : Nat => s.heap.size ≤ q) b := Nat.not_le.mpr hbl
  refine SW.aload_n C dL_law_949 rfl 1 rfl ?_
  refine SW.aload_n C dL_law_950 rfl 0 rfl ?_
  refine SW.iload_n C dL_law_951 rfl 3 rfl ?_
  refine SW.iconst (v := (1 : Int32)) C dL_law_952 (by decide) ?_
  refine SW.iadd C dL_law_953 ?_
  refine SW.sld C hX hbl hbA i1 dL_law_954 ?_
  refine SW.aload_n C dL_law_955 rfl 0 rfl ?_
  refine SW.iload_n C dL_law_956 rfl 3 rfl ?_
  refine SW.iconst (v := (2 : Int32)) C dL_law_957 (by decide) ?_
  refine SW.iadd C dL_law_958 ?_
  refine SW.sld C hX hbl hbA i2 dL_law_959 ?_
  refine SW.callVl_pm (wn := fun u : Ob => WL cI cZ qX qS qI qJ qP qV qT qK qG qL qM qY oX u oI oJ oP oV oT oK oG oL oM oY) C (ctX9_calm l D cI cZ qX qS qI qJ qP qV qT qK qG qL qM oX oS (jld xs (v3 + (1 : Int32))) (jld xs (v3 + (2 : Int32))) _ h) gL_law_X9_calm rfl rfl rfl pdX9_calm ⟨by decide +kernel, by decide +kernel⟩ (pm_XS _ _ _ _ _ _ _ _ _ _ _ _) (fun u => mp_XS _ _ _ _ _ _ _ _ _ _ _ _) 0 rfl rfl rfl rfl rfl (Nat.le_of_ble_eq_true rfl) dL_law_960 ⟨by decide +kernel, by decide +kernel⟩ (fun r1 u h => ?_)
  obtain ⟨wS, rfl⟩ : ∃ z, z = u := ⟨_, rfl⟩
  try dsimp only at h
  refine SW.aload_n C dL_law_963 rfl 2 rfl ?_
  refine SW.aload_n C dL_law_964 rfl 0 rfl ?_
  refine SW.iload_n C dL_law_965 rfl 3 rfl ?_
  refine SW.iconst (v := (1 : Int32)) C dL_law_966 (by decide) ?_
  refine SW.iadd C dL_law_967 ?_
  refine SW.sld C hX hbl hbA i1 dL_law_968 ?_
  refine SW.aload_n C dL_law_969 rfl 0 rfl ?_
  refine SW.iload_n C dL_law_970 rfl 3 rfl ?_
  refine SW.iconst (v := (2 : Int32)) C dL_law_971 (by decide) ?_
  refine SW.iadd C dL_law_972 ?_
  refine SW.sld C hX hbl hbA i2 dL_law_973 ?_
  refine SW.callVl_pm (wn := fun _ : Unit => WL cI cZ qX qS qI qJ qP qV qT qK qG qL qM qY oX wS oI oJ oP oV oT oK oG oL oM oY) C (ctX10_calm l D cI cZ qY oY (jld xs (v3 + (1 : Int32))) (jld xs (v3 + (2 : Int32))) _ h) gL_law_X10_calm rfl rfl rfl pdX10_calm ⟨by decide +kernel, by decide +kernel⟩ (pm_Y _ _ _ _ _ _ _ _ _ _ _ _) (fun u => mp_Y _ _ _ _ _ _ _ _ _ _ _ _) 0 rfl rfl rfl rfl rfl (Nat.le_of_ble_eq_true rfl) dL_law_974 ⟨by decide +kernel, by decide +kernel⟩ (fun r2 u h => ?_)
  try dsimp only at h
  refine SW.lcmp C dL_law_977 ?_
  exact SW.if_eq (tgt := 1095) C dL_law_978 (by decide) (fun hc => kk _ _ _ _ _ _ _ _ _ _ _ _ h.2) (fun hc => absurd (by rw [h.1]; exact lg_cmp_self _) hc)
theorem lc_year {p : Program} {l : Launch} {e : Env} {s : State} {m : MethodId} {below : List Frame} {meth : Method} {c : Code} {D : va_G} {cI cZ : ClassId} {b L : Nat} {xs : Nat → Int32} (C : Cx p s m #[Value.ref b] meth c code 4 wsL_law RL D [(cI, .int), (cZ, .boolean)] (fun q : Nat => s.heap.size ≤ q) ret) (hX : va_X b L xs s s.heap) (hbl : b < s.heap.size) (qX qS qI qJ qP qV qT qK qG qL qM qY : Nat → Nat) (oX oS oI oJ oP oV oT oK oG oL oM oY : Ob) (v3 : Int32) (N : Ob → Ob → Ob → Ob → Ob → Ob → Ob → Ob → Ob → Ob → Ob → Ob → Prop) (kk : ∀ oX oS oI oJ oP oV oT oK oG oL oM oY : Ob, N oX oS oI oJ oP oV oT oK oG oL oM oY → SW p l e room_1 s m #[Value.ref b] below meth c (fun q : Nat => s.heap.size ≤ q) D 4 56 11255 (lw_Z below #[Value.ref b] s) (WL cI cZ qX qS qI qJ qP qV qT qK qG qL qM qY oX oS oI oJ oP oV oT oK oG oL oM oY) 1095 [(0, .ref b), (1, .ref (qX 0)), (2, .ref (qY 0)), (3, .int v3)] []) (i1 : vp_in (v3 + (1 : Int32)) L) (i2 : vp_in (v3 + (2 : Int32)) L) (i3 : vp_in (v3 + (3 : Int32)) L) (h : wpX9_year oX oS oV oT (jld xs (v3 + (1 : Int32))) (jld xs (v3 + (2 : Int32))) (jld xs (v3 + (3 : Int32))) (fun (r1 : Int32) (wV : Ob) (wT : Ob) => wpX10_year oY (jld xs (v3 + (1 : Int32))) (jld xs (v3 + (2 : Int32))) (jld xs (v3 + (3 : Int32))) (fun (r2 : Int32) (wY : Ob) => r1 = r2 ∧ N oX oS oI oJ oP wV wT oK oG oL oM wY))) : SW p l e room_1 s m #[Value.ref b] below meth c (fun q : Nat => s.heap.size ≤ q) D 4 56 11255 (lw_Z below #[Value.ref b] s) (WL cI cZ qX qS qI qJ qP qV qT qK qG qL qM qY oX oS oI oJ oP oV oT oK oG oL oM oY) 983 [(0, .ref b), (1, .ref (qX 0)), (2, .ref (qY 0)), (3, .int v3)] [] := by
  have hbA : ¬ (fun q : Nat => s.heap.size ≤ q) b := Nat.not_le.mpr hbl
  refine SW.aload_n C dL_law_983 rfl 1 rfl ?_
  refine SW.aload_n C dL_law_984 rfl 0 rfl ?_
  refine SW.iload_n C dL_law_985 rfl 3 rfl ?_
  refine SW.iconst (v := (1 : Int32)) C dL_law_986 (by decide) ?_
  refine SW.iadd C dL_law_987 ?_
  refine SW.sld C hX hbl hbA i1 dL_law_988 ?_
  refine SW.aload_n C dL_law_989 rfl 0 rfl ?_
  refine SW.iload_n C dL_law_990 rfl 3 rfl ?_
  refine SW.iconst (v := (2 : Int32)) C dL_law_991 (by decide) ?_
  refine SW.iadd C dL_law_992 ?_
  refine SW.sld C hX hbl hbA i2 dL_law_993 ?_
  refine SW.aload_n C dL_law_994 rfl 0 rfl ?_
  refine SW.iload_n C dL_law_995 rfl 3 rfl ?_
  refine SW.iconst (v := (3 : Int32)) C dL_law_996 (by decide) ?_
  refine SW.iadd C dL_law_997 ?_
  refine SW.sld C hX hbl hbA i3 dL_law_998 ?_
  refine SW.callVi_pm (wn := fun u : Ob × Ob => WL cI cZ qX qS qI qJ qP qV qT qK qG qL qM qY oX oS oI oJ oP u.1 u.2 oK oG oL oM oY) C (ctX9_year l D cI cZ qX qS qI qJ qP qV qT qK qG qL qM oX oS oV oT (jld xs (v3 + (1 : Int32))) (jld xs (v3 + (2 : Int32))) (jld xs (v3 + (3 : Int32))) _ h) gL_law_X9_year rfl rfl rfl pdX9_year ⟨by decide +kernel, by decide +kernel⟩ (pm_XSVT _ _ _ _ _ _ _ _ _ _ _ _) (fun u => mp_XSVT _ _ _ _ _ _ _ _ _ _ _ _) 0 rfl rfl rfl rfl rfl (Nat.le_of_ble_eq_true rfl) dL_law_999 ⟨by decide +kernel, by decide +kernel⟩ (fun r1 u h => ?_)
  obtain ⟨wV, wT⟩ := u
  try dsimp only at h
  dsimp only
  refine SW.aload_n C dL_law_1002 rfl 2 rfl ?_
  refine SW.aload_n C dL_law_1003 rfl 0 rfl ?_
  refine SW.iload_n C dL_law_1004 rfl 3 rfl ?_
  refine SW.iconst (v := (1 : Int32)) C dL_law_1005 (by decide) ?_
  refine SW.iadd C dL_law_1006 ?_
  refine SW.sld C hX hbl hbA i1 dL_law_1007 ?_
  refine SW.aload_n C dL_law_1008 rfl 0 rfl ?_
  refine SW.iload_n C dL_law_1009 rfl 3 rfl ?_
  refine SW.iconst (v := (2 : Int32)) C dL_law_1010 (by decide) ?_
  refine SW.iadd C dL_law_1011 ?_
  refine SW.sld C hX hbl hbA i2 dL_law_1012 ?_
  refine SW.aload_n C dL_law_1013 rfl 0 rfl ?_
  refine SW.iload_n C dL_law_1014 rfl 3 rfl ?_
  refine SW.iconst (v := (3 : Int32)) C dL_law_1015 (by decide) ?_
  refine SW.iadd C dL_law_1016 ?_
  refine SW.sld C hX hbl hbA i3 dL_law_1017 ?_
  refine SW.callVi_pm (wn := fun u : Ob => WL cI cZ qX qS qI qJ qP qV qT qK qG qL qM qY oX oS oI oJ oP wV wT oK oG oL oM u) C (ctX10_year l D cI cZ qY oY (jld xs (v3 + (1 : Int32))) (jld xs (v3 + (2 : Int32))) (jld xs (v3 + (3 : Int32))) _ h) gL_law_X10_year rfl rfl rfl pdX10_year ⟨by decide +kernel, by decide +kernel⟩ (pm_Y _ _ _ _ _ _ _ _ _ _ _ _) (fun u => mp_Y _ _ _ _ _ _ _ _ _ _ _ _) 0 rfl rfl rfl rfl rfl (Nat.le_of_ble_eq_true rfl) dL_law_1018 ⟨by decide +kernel, by decide +kernel⟩ (fun r2 u h => ?_)
  obtain ⟨wY, rfl⟩ : ∃ z, z = u := ⟨_, rfl⟩
  try dsimp only at h
  exact SW.icmp_eq (tgt := 1095) C dL_law_1021 (by decide) (fun hc => kk _ _ _ _ _ _ _ _ _ _ _ _ h.2) (fun hc => absurd h.1 hc)
theorem lc_image {p : Program} {l : Launch} {e : Env} {s : State} {m : MethodId} {below : List Frame} {meth : Method} {c : Code} {D : va_G} {cI cZ : ClassId} {b L : Nat} {xs : Nat → Int32} (C : Cx p s m #[Value.ref b] meth c code 4 wsL_law RL D [(cI, .int), (cZ, .boolean)] (fun q : Nat => s.heap.size ≤ q) ret) (hX : va_X b L xs s s.heap) (hbl : b < s.heap.size) (qX qS qI qJ qP qV qT qK qG qL qM qY : Nat → Nat) (oX oS oI oJ oP oV oT oK oG oL oM oY : Ob) (v3 : Int32) (N : Ob → Ob → Ob → Ob → Ob → Ob → Ob → Ob → Ob → Ob → Ob → Ob → Prop) (kk : ∀ oX oS oI oJ oP oV oT oK oG oL oM oY : Ob, N oX oS oI oJ oP oV oT oK oG oL oM oY → SW p l e room_1 s m #[Value.ref b] below meth c (fun q : Nat => s.heap.size ≤ q) D 4 56 11255 (lw_Z below #[Value.ref b] s) (WL cI cZ qX qS qI qJ qP qV qT qK qG qL qM qY oX oS oI oJ oP oV oT oK oG oL oM oY) 1095 [(0, .ref b), (1, .ref (qX 0)), (2, .ref (qY 0)), (3, .int v3)] []) (i1 : vp_in (v3 + (1 : Int32)) L) (h : wpX9_image oX oS oI oJ (jld xs (v3 + (1 : Int32))) (fun (r1 : Int32) (wX : Ob) (wI : Ob) (wJ : Ob) => wpX10_image oY (jld xs (v3 + (1 : Int32))) (fun (r2 : Int32) (wY : Ob) => r1 = r2 ∧ N wX oS wI wJ oP oV oT oK oG oL oM wY))) : SW p l e room_1 s m #[Value.ref b] below meth c (fun q : Nat => s.heap.size ≤ q) D 4 56 11255 (lw_Z below #[Value.ref b] s) (WL cI cZ qX qS qI qJ qP qV qT qK qG qL qM qY oX oS oI oJ oP oV oT oK oG oL oM oY) 1026 [(0, .ref b), (1, .ref (qX 0)), (2, .ref (qY 0)), (3, .int v3)] [] := by
  have hbA : ¬ (fun q : Nat => s.heap.size ≤ q) b := Nat.not_le.mpr hbl
  refine SW.aload_n C dL_law_1026 rfl 1 rfl ?_
  refine SW.aload_n C dL_law_1027 rfl 0 rfl ?_
  refine SW.iload_n C dL_law_1028 rfl 3 rfl ?_
  refine SW.iconst (v := (1 : Int32)) C dL_law_1029 (by decide) ?_
  refine SW.iadd C dL_law_1030 ?_
  refine SW.sld C hX hbl hbA i1 dL_law_1031 ?_
  refine SW.callVi_pm (wn := fun u : Ob × Ob × Ob => WL cI cZ qX qS qI qJ qP qV qT qK qG qL qM qY u.1 oS u.2.1 u.2.2 oP oV oT oK oG oL oM oY) C (ctX9_image l D cI cZ qX qS qI qJ qP qV qT qK qG qL qM oX oS oI oJ (jld xs (v3 + (1 : Int32))) _ h) gL_law_X9_image rfl rfl rfl pdX9_image ⟨by decide +kernel, by decide +kernel⟩ (pm_XSIJ _ _ _ _ _ _ _ _ _ _ _ _) (fun u => mp_XSIJ _ _ _ _ _ _ _ _ _ _ _ _) 0 rfl rfl rfl rfl rfl (Nat.le_of_ble_eq_true rfl) dL_law_1032 ⟨by decide +kernel, by decide +kernel⟩ (fun r1 u h => ?_)
  obtain ⟨wX, wI, wJ⟩ := u
  try dsimp only at h
  dsimp only
  refine SW.aload_n C dL_law_1035 rfl 2 rfl ?_
  refine SW.aload_n C dL_law_1036 rfl 0 rfl ?_
  refine SW.iload_n C dL_law_1037 rfl 3 rfl ?_
  refine SW.iconst (v := (1 : Int32)) C dL_law_1038 (by decide) ?_
  refine SW.iadd C dL_law_1039 ?_
  refine SW.sld C hX hbl hbA i1 dL_law_1040 ?_
  refine SW.callVi_pm (wn := fun u : Ob => WL cI cZ qX qS qI qJ qP qV qT qK qG qL qM qY wX oS wI wJ oP oV oT oK oG oL oM u) C (ctX10_image l D cI cZ qY oY (jld xs (v3 + (1 : Int32))) _ h) gL_law_X10_image rfl rfl rfl pdX10_image ⟨by decide +kernel, by decide +kernel⟩ (pm_Y _ _ _ _ _ _ _ _ _ _ _ _) (fun u => mp_Y _ _ _ _ _ _ _ _ _ _ _ _) 0 rfl rfl rfl rfl rfl (Nat.le_of_ble_eq_true rfl) dL_law_1041 ⟨by decide +kernel, by decide +kernel⟩ (fun r2 u h => ?_)
  obtain ⟨wY, rfl⟩ : ∃ z, z = u := ⟨_, rfl⟩
  try dsimp only at h
  exact SW.icmp_eq (tgt := 1095) C dL_law_1044 (by decide) (fun hc => kk _ _ _ _ _ _ _ _ _ _ _ _ h.2) (fun hc => absurd h.1 hc)
theorem lc_restore {p : Program} {l : Launch} {e : Env} {s : State} {m : MethodId} {below : List Frame} {meth : Method} {c : Code} {D : va_G} {cI cZ : ClassId} {b L : Nat} {xs : Nat → Int32} (C : Cx p s m #[Value.ref b] meth c code 4 wsL_law RL D [(cI, .int), (cZ, .boolean)] (fun q : Nat => s.heap.size ≤ q) ret) (hX : va_X b L xs s s.heap) (hbl : b < s.heap.size) (qX qS qI qJ qP qV qT qK qG qL qM qY : Nat → Nat) (oX oS oI oJ oP oV oT oK oG oL oM oY : Ob) (v3 : Int32) (N : Ob → Ob → Ob → Ob → Ob → Ob → Ob → Ob → Ob → Ob → Ob → Ob → Prop) (kk : ∀ oX oS oI oJ oP oV oT oK oG oL oM oY : Ob, N oX oS oI oJ oP oV oT oK oG oL oM oY → SW p l e room_1 s m #[Value.ref b] below meth c (fun q : Nat => s.heap.size ≤ q) D 4 56 11255 (lw_Z below #[Value.ref b] s) (WL cI cZ qX qS qI qJ qP qV qT qK qG qL qM qY oX oS oI oJ oP oV oT oK oG oL oM oY) 1095 [(0, .ref b), (1, .ref (qX 0)), (2, .ref (qY 0)), (3, .int v3)] []) (i1 : vp_in (v3 + (1 : Int32)) L) (h : wpX9_restore oX oS oI oJ (jld xs (v3 + (1 : Int32))) (fun (r1 : Int32) (wS : Ob) => wpX10_restore oY (jld xs (v3 + (1 : Int32))) (fun (r2 : Int32) (wY : Ob) => r1 = r2 ∧ N oX wS oI oJ oP oV oT oK oG oL oM wY))) : SW p l e room_1 s m #[Value.ref b] below meth c (fun q : Nat => s.heap.size ≤ q) D 4 56 11255 (lw_Z below #[Value.ref b] s) (WL cI cZ qX qS qI qJ qP qV qT qK qG qL qM qY oX oS oI oJ oP oV oT oK oG oL oM oY) 1049 [(0, .ref b), (1, .ref (qX 0)), (2, .ref (qY 0)), (3, .int v3)] [] := by
  have hbA : ¬ (fun q : Nat => s.heap.size ≤ q) b := Nat.not_le.mpr hbl
  refine SW.aload_n C dL_law_1049 rfl 1 rfl ?_
  refine SW.aload_n C dL_law_1050 rfl 0 rfl ?_
  refine SW.iload_n C dL_law_1051 rfl 3 rfl ?_
  refine SW.iconst (v := (1 : Int32)) C dL_law_1052 (by decide) ?_
  refine SW.iadd C dL_law_1053 ?_
  refine SW.sld C hX hbl hbA i1 dL_law_1054 ?_
  refine SW.callVi_pm (wn := fun u : Ob => WL cI cZ qX qS qI qJ qP qV qT qK qG qL qM qY oX u oI oJ oP oV oT oK oG oL oM oY) C (ctX9_restore l D cI cZ qX qS qI qJ qP qV qT qK qG qL qM oX oS oI oJ (jld xs (v3 + (1 : Int32))) _ h) gL_law_X9_restore rfl rfl rfl pdX9_restore ⟨by decide +kernel, by decide +kernel⟩ (pm_XSIJ _ _ _ _ _ _ _ _ _ _ _ _) (fun u => mp_XSIJ _ _ _ _ _ _ _ _ _ _ _ _) 0 rfl rfl rfl rfl rfl (Nat.le_of_ble_eq_true rfl) dL_law_1055 ⟨by decide +kernel, by decide +kernel⟩ (fun r1 u h => ?_)
  obtain ⟨wS, rfl⟩ : ∃ z, z = u := ⟨_, rfl⟩
  try dsimp only at h
  refine SW.aload_n C dL_law_1058 rfl 2 rfl ?_
  refine SW.aload_n C dL_law_1059 rfl 0 rfl ?_
  refine SW.iload_n C dL_law_1060 rfl 3 rfl ?_
  refine SW.iconst (v := (1 : Int32)) C dL_law_1061 (by decide) ?_
  refine SW.iadd C dL_law_1062 ?_
  refine SW.sld C hX hbl hbA i1 dL_law_1063 ?_
  refine SW.callVi_pm (wn := fun u : Ob => WL cI cZ qX qS qI qJ qP qV qT qK qG qL qM qY oX wS oI oJ oP oV oT oK oG oL oM u) C (ctX10_restore l D cI cZ qY oY (jld xs (v3 + (1 : Int32))) _ h) gL_law_X10_restore rfl rfl rfl pdX10_restore ⟨by decide +kernel, by decide +kernel⟩ (pm_Y _ _ _ _ _ _ _ _ _ _ _ _) (fun u => mp_Y _ _ _ _ _ _ _ _ _ _ _ _) 0 rfl rfl rfl rfl rfl (Nat.le_of_ble_eq_true rfl) dL_law_1064 ⟨by decide +kernel, by decide +kernel⟩ (fun r2 u h => ?_)
  obtain ⟨wY, rfl⟩ : ∃ z, z = u := ⟨_, rfl⟩
  try dsimp only at h
  exact SW.icmp_eq (tgt := 1095) C dL_law_1067 (by decide) (fun hc => kk _ _ _ _ _ _ _ _ _ _ _ _ h.2) (fun hc => absurd h.1 hc)
theorem lc_told {p : Program} {l : Launch} {e : Env} {s : State} {m : MethodId} {below : List Frame} {meth : Method} {c : Code} {D : va_G} {cI cZ : ClassId} {b L : Nat} {xs : Nat → Int32} (C : Cx p s m #[Value.ref b] meth c code 4 wsL_law RL D [(cI, .int), (cZ, .boolean)] (fun q : Nat => s.heap.size ≤ q) ret) (hX : va_X b L xs s s.heap) (hbl : b < s.heap.size) (qX qS qI qJ qP qV qT qK qG qL qM qY : Nat → Nat) (oX oS oI oJ oP oV oT oK oG oL oM oY : Ob) (v3 : Int32) (N : Ob → Ob → Ob → Ob → Ob → Ob → Ob → Ob → Ob → Ob → Ob → Ob → Prop) (kk : ∀ oX oS oI oJ oP oV oT oK oG oL oM oY : Ob, N oX oS oI oJ oP oV oT oK oG oL oM oY → SW p l e room_1 s m #[Value.ref b] below meth c (fun q : Nat => s.heap.size ≤ q) D 4 56 11255 (lw_Z below #[Value.ref b] s) (WL cI cZ qX qS qI qJ qP qV qT qK qG qL qM qY oX oS oI oJ oP oV oT oK oG oL oM oY) 1095 [(0, .ref b), (1, .ref (qX 0)), (2, .ref (qY 0)), (3, .int v3)] []) (i1 : vp_in (v3 + (1 : Int32)) L) (h : wpX9_told oX oS oP (jld xs (v3 + (1 : Int32))) (fun (r1 : Int32) => wpX10_told oY (jld xs (v3 + (1 : Int32))) (fun (r2 : Int32) => r1 = r2 ∧ N oX oS oI oJ oP oV oT oK oG oL oM oY))) : SW p l e room_1 s m #[Value.ref b] below meth c (fun q : Nat => s.heap.size ≤ q) D 4 56 11255 (lw_Z below #[Value.ref b] s) (WL cI cZ qX qS qI qJ qP qV qT qK qG qL qM qY oX oS oI oJ oP oV oT oK oG oL oM oY) 1072 [(0, .ref b), (1, .ref (qX 0)), (2, .ref (qY 0)), (3, .int v3)] [] := by
  have hbA : ¬ (fun q : Nat => s.heap.size ≤ q) b := Nat.not_le.mpr hbl
  refine SW.aload_n C dL_law_1072 rfl 1 rfl ?_
  refine SW.aload_n C dL_law_1073 rfl 0 rfl ?_
  refine SW.iload_n C dL_law_1074 rfl 3 rfl ?_
  refine SW.iconst (v := (1 : Int32)) C dL_law_1075 (by decide) ?_
  refine SW.iadd C dL_law_1076 ?_
  refine SW.sld C hX hbl hbA i1 dL_law_1077 ?_
  refine SW.callVi_pm (wn := fun _ : Unit => WL cI cZ qX qS qI qJ qP qV qT qK qG qL qM qY oX oS oI oJ oP oV oT oK oG oL oM oY) C (ctX9_told l D cI cZ qX qS qI qJ qP qV qT qK qG qL qM oX oS oP (jld xs (v3 + (1 : Int32))) _ h) gL_law_X9_told rfl rfl rfl pdX9_told ⟨by decide +kernel, by decide +kernel⟩ (pm_XSP _ _ _ _ _ _ _ _ _ _ _ _) (fun u => mp_XSP _ _ _ _ _ _ _ _ _ _ _ _) 0 rfl rfl rfl rfl rfl (Nat.le_of_ble_eq_true rfl) dL_law_1078 ⟨by decide +kernel, by decide +kernel⟩ (fun r1 u h => ?_)
  try dsimp only at h
  refine SW.aload_n C dL_law_1081 rfl 2 rfl ?_
  refine SW.aload_n C dL_law_1082 rfl 0 rfl ?_
  refine SW.iload_n C dL_law_1083 rfl 3 rfl ?_
  refine SW.iconst (v := (1 : Int32)) C dL_law_1084 (by decide) ?_
  refine SW.iadd C dL_law_1085 ?_
  refine SW.sld C hX hbl hbA i1 dL_law_1086 ?_
  refine SW.callVi_pm (wn := fun _ : Unit => WL cI cZ qX qS qI qJ qP qV qT qK qG qL qM qY oX oS oI oJ oP oV oT oK oG oL oM oY) C (ctX10_told l D cI cZ qY oY (jld xs (v3 + (1 : Int32))) _ h) gL_law_X10_told rfl rfl rfl pdX10_told ⟨by decide +kernel, by decide +kernel⟩ (pm_Y _ _ _ _ _ _ _ _ _ _ _ _) (fun u => mp_Y _ _ _ _ _ _ _ _ _ _ _ _) 0 rfl rfl rfl rfl rfl (Nat.le_of_ble_eq_true rfl) dL_law_1087 ⟨by decide +kernel, by decide +kernel⟩ (fun r2 u h => ?_)
  try dsimp only at h
  exact SW.icmp_eq (tgt := 1095) C dL_law_1090 (by decide) (fun hc => kk _ _ _ _ _ _ _ _ _ _ _ _ h.2) (fun hc => absurd h.1 hc)
