theorem lc_hears {p : Program} {l : Launch} {e : Env} {s : State} {m : MethodId} {below : List Frame} {meth : Method} {c : Code} {D : va_G} {cI cZ : ClassId} {b L : Nat} {xs : Nat → Int32} (C : Cx p s m #[Value.ref b] meth c code 4 wsL_law RL D [(cI, .int), (cZ, .boolean)] (fun q : Nat => s.heap.size ≤ q) ret) (hX : va_X b L xs s s.heap) (hbl : b < s.heap.size) (qX qS qI qJ qP qV qT qK qG qL qM qY : Nat → Nat) (oX oS oI oJ oP oV oT oK oG oL oM oY : Ob) (v3 : Int32) (N : Ob → Ob → Ob → Ob → Ob → Ob → Ob → Ob → Ob → Ob → Ob → Ob → Prop) (kk : ∀ oX oS oI oJ oP oV oT oK oG oL oM oY : Ob, N oX oS oI oJ oP oV oT oK oG oL oM oY → SW p l e room_1 s m #[Value.ref b] below meth c (fun q : Nat => s.heap.size ≤ q) D 4 56 11255 (lw_Z below #[Value.ref b] s) (WL cI cZ qX qS qI qJ qP qV qT qK qG qL qM qY oX oS oI oJ oP oV oT oK oG oL oM oY) 1095 [(0, .ref b), (1, .ref (qX 0)), (2, .ref (qY 0)), (3, .int v3)] []) (i1 : vp_in (v3 + (1 : Int32)) L) (h : wpX9_hears oX oS (jld xs (v3 + (1 : Int32))) (fun (r1 : Int32) => wpX10_hears oY (jld xs (v3 + (1 : Int32))) (fun (r2 : Int32) => r1 = r2 ∧ N oX oS oI oJ oP oV oT oK oG oL oM oY))) : SW p l e room_1 s m #[Value.ref b] below meth c (fun q : Nat => s.heap.size ≤ q) D 4 56 11255 (lw_Z below #[Value.ref b] s) (WL cI cZ qX qS qI qJ qP qV qT qK qG qL qM qY oX oS oI oJ oP oV oT oK oG oL oM oY) 360 [(0, .ref b), (1, .ref (qX 0)), (2, .ref (qY 0)), (3, .int v3)] [] := by
  have hbA : ¬ (fun q : Nat => s.heap.size ≤ q) b := Nat.not_le.mpr hbl
  refine SW.aload_n C dL_law_360 rfl 1 rfl ?_
  refine SW.aload_n C dL_law_361 rfl 0 rfl ?_
  refine SW.iload_n C dL_law_362 rfl 3 rfl ?_
  refine SW.iconst (v := (1 : Int32)) C dL_law_363 (by decide) ?_
  refine SW.iadd C dL_law_364 ?_
  refine SW.sld C hX hbl hbA i1 dL_law_365 ?_
  refine SW.callVi_pm (wn := fun _ : Unit => WL cI cZ qX qS qI qJ qP qV qT qK qG qL qM qY oX oS oI oJ oP oV oT oK oG oL oM oY) C (ctX9_hears l D cI cZ qX qS qI qJ qP qV qT qK qG qL qM oX oS (jld xs (v3 + (1 : Int32))) _ h) gL_law_X9_hears rfl rfl rfl pdX9_hears ⟨by decide +kernel, by decide +kernel⟩ (pm_XS _ _ _ _ _ _ _ _ _ _ _ _) (fun u => mp_XS _ _ _ _ _ _ _ _ _ _ _ _) 0 rfl rfl rfl rfl rfl (Nat.le_of_ble_eq_true rfl) dL_law_366 ⟨by decide +kernel, by decide +kernel⟩ (fun r1 u h => ?_)
  try dsimp only at h
  refine SW.aload_n C dL_law_369 rfl 2 rfl ?_
  refine SW.aload_n C dL_law_370 rfl 0 rfl ?_
  refine SW.iload_n C dL_law_371 rfl 3 rfl ?_
  refine SW.iconst (v := (1 : Int32)) C dL_law_372 (by decide) ?_
  refine SW.iadd C dL_law_373 ?_
  refine SW.sld C hX hbl hbA i1 dL_law_374 ?_
  refine SW.callVi_pm (wn := fun _ : Unit => WL cI cZ qX qS qI qJ qP qV qT qK qG qL qM qY oX oS oI oJ oP oV oT oK oG oL oM oY) C (ctX10_hears l D cI cZ qY oY (jld xs (v3 + (1 : Int32))) _ h) gL_law_X10_hears rfl rfl rfl pdX10_hears ⟨by decide +kernel, by decide +kernel⟩ (pm_Y _ _ _ _ _ _ _ _ _ _ _ _) (fun u => mp_Y _ _ _ _ _ _ _ _ _ _ _ _) 0 rfl rfl rfl rfl rfl (Nat.le_of_ble_eq_true rfl) dL_law_375 ⟨by decide +kernel, by decide +kernel⟩ (fun r2 u h => ?_)
  try dsimp only at h
  exact SW.icmp_eq (tgt := 1095) C dL_law_378 (by decide) (fun hc => kk _ _ _ _ _ _ _ _ _ _ _ _ h.2) (fun hc => absurd h.1 hc)
theorem lc_behind {p : Program} {l : Launch} {e : Env} {s : State} {m : MethodId} {below : List Frame} {meth : Method} {c : Code} {D : va_G} {cI cZ : ClassId} {b L : Nat} {xs : Nat → Int32} (C : Cx p s m #[Value.ref b] meth c code 4 wsL_law RL D [(cI, .int), (cZ, .boolean)] (fun q : Nat => s.heap.size ≤ q) ret) (hX : va_X b L xs s s.heap) (hbl : b < s.heap.size) (qX qS qI qJ qP qV qT qK qG qL qM qY : Nat → Nat) (oX oS oI oJ oP oV oT oK oG oL oM oY : Ob) (v3 : Int32) (N : Ob → Ob → Ob → Ob → Ob → Ob → Ob → Ob → Ob → Ob → Ob → Ob → Prop) (kk : ∀ oX oS oI oJ oP oV oT oK oG oL oM oY : Ob, N oX oS oI oJ oP oV oT oK oG oL oM oY → SW p l e room_1 s m #[Value.ref b] below meth c (fun q : Nat => s.heap.size ≤ q) D 4 56 11255 (lw_Z below #[Value.ref b] s) (WL cI cZ qX qS qI qJ qP qV qT qK qG qL qM qY oX oS oI oJ oP oV oT oK oG oL oM oY) 1095 [(0, .ref b), (1, .ref (qX 0)), (2, .ref (qY 0)), (3, .int v3)] []) (i1 : vp_in (v3 + (1 : Int32)) L) (h : wpX9_behind oX oS oP oV oT (jld xs (v3 + (1 : Int32))) (fun (r1 : Int32) (wV : Ob) (wT : Ob) => wpX10_behind oY (jld xs (v3 + (1 : Int32))) (fun (r2 : Int32) (wY : Ob) => r1 = r2 ∧ N oX oS oI oJ oP wV wT oK oG oL oM wY))) : SW p l e room_1 s m #[Value.ref b] below meth c (fun q : Nat => s.heap.size ≤ q) D 4 56 11255 (lw_Z below #[Value.ref b] s) (WL cI cZ qX qS qI qJ qP qV qT qK qG qL qM qY oX oS oI oJ oP oV oT oK oG oL oM oY) 383 [(0, .ref b), (1, .ref (qX 0)), (2, .ref (qY 0)), (3, .int v3)] [] := by
  have hbA : ¬ (fun q : Nat => s.heap.size ≤ q) b := Nat.not_le.mpr hbl
  refine SW.aload_n C dL_law_383 rfl 1 rfl ?_
  refine SW.aload_n C dL_law_384 rfl 0 rfl ?_
  refine SW.iload_n C dL_law_385 rfl 3 rfl ?_
  refine SW.iconst (v := (1 : Int32)) C dL_law_386 (by decide) ?_
  refine SW.iadd C dL_law_387 ?_
  refine SW.sld C hX hbl hbA i1 dL_law_388 ?_
  refine SW.callVi_pm (wn := fun u : Ob × Ob => WL cI cZ qX qS qI qJ qP qV qT qK qG qL qM qY oX oS oI oJ oP u.1 u.2 oK oG oL oM oY) C (ctX9_behind l D cI cZ qX qS qI qJ qP qV qT qK qG qL qM oX oS oP oV oT (jld xs (v3 + (1 : Int32))) _ h) gL_law_X9_behind rfl rfl rfl pdX9_behind ⟨by decide +kernel, by decide +kernel⟩ (pm_XSPVT _ _ _ _ _ _ _ _ _ _ _ _) (fun u => mp_XSPVT _ _ _ _ _ _ _ _ _ _ _ _) 0 rfl rfl rfl rfl rfl (Nat.le_of_ble_eq_true rfl) dL_law_389 ⟨by decide +kernel, by decide +kernel⟩ (fun r1 u h => ?_)
  obtain ⟨wV, wT⟩ := u
  try dsimp only at h
  dsimp only
  refine SW.aload_n C dL_law_392 rfl 2 rfl ?_
  refine SW.aload_n C dL_law_393 rfl 0 rfl ?_
  refine SW.iload_n C dL_law_394 rfl 3 rfl ?_
  refine SW.iconst (v := (1 : Int32)) C dL_law_395 (by decide) ?_
  refine SW.iadd C dL_law_396 ?_
  refine SW.sld C hX hbl hbA i1 dL_law_397 ?_
  refine SW.callVi_pm (wn := fun u : Ob => WL cI cZ qX qS qI qJ qP qV qT qK qG qL qM qY oX oS oI oJ oP wV wT oK oG oL oM u) C (ctX10_behind l D cI cZ qY oY (jld xs (v3 + (1 : Int32))) _ h) gL_law_X10_behind rfl rfl rfl pdX10_behind ⟨by decide +kernel, by decide +kernel⟩ (pm_Y _ _ _ _ _ _ _ _ _ _ _ _) (fun u => mp_Y _ _ _ _ _ _ _ _ _ _ _ _) 0 rfl rfl rfl rfl rfl (Nat.le_of_ble_eq_true rfl) dL_law_398 ⟨by decide +kernel, by decide +kernel⟩ (fun r2 u h => ?_)
  obtain ⟨wY, rfl⟩ : ∃ z, z = u := ⟨_, rfl⟩
  try dsimp only at h
  exact SW.icmp_eq (tgt := 1095) C dL_law_401 (by decide) (fun hc => kk _ _ _ _ _ _ _ _ _ _ _ _ h.2) (fun hc => absurd h.1 hc)
theorem lc_clashed {p : Program} {l : Launch} {e : Env} {s : State} {m : MethodId} {below : List Frame} {meth : Method} {c : Code} {D : va_G} {cI cZ : ClassId} {b L : Nat} {xs : Nat → Int32} (C : Cx p s m #[Value.ref b] meth c code 4 wsL_law RL D [(cI, .int), (cZ, .boolean)] (fun q : Nat => s.heap.size ≤ q) ret) (hX : va_X b L xs s s.heap) (hbl : b < s.heap.size) (qX qS qI qJ qP qV qT qK qG qL qM qY : Nat → Nat) (oX oS oI oJ oP oV oT oK oG oL oM oY : Ob) (v3 : Int32) (N : Ob → Ob → Ob → Ob → Ob → Ob → Ob → Ob → Ob → Ob → Ob → Ob → Prop) (kk : ∀ oX oS oI oJ oP oV oT oK oG oL oM oY : Ob, N oX oS oI oJ oP oV oT oK oG oL oM oY → SW p l e room_1 s m #[Value.ref b] below meth c (fun q : Nat => s.heap.size ≤ q) D 4 56 11255 (lw_Z below #[Value.ref b] s) (WL cI cZ qX qS qI qJ qP qV qT qK qG qL qM qY oX oS oI oJ oP oV oT oK oG oL oM oY) 1095 [(0, .ref b), (1, .ref (qX 0)), (2, .ref (qY 0)), (3, .int v3)] []) (i1 : vp_in (v3 + (1 : Int32)) L) (h : wpX9_clashed oX oS oP oV oT (jld xs (v3 + (1 : Int32))) (fun (r1 : Int32) (wV : Ob) (wT : Ob) => wpX10_clashed oY (jld xs (v3 + (1 : Int32))) (fun (r2 : Int32) (wY : Ob) => r1 = r2 ∧ N oX oS oI oJ oP wV wT oK oG oL oM wY))) : SW p l e room_1 s m #[Value.ref b] below meth c (fun q : Nat => s.heap.size ≤ q) D 4 56 11255 (lw_Z below #[Value.ref b] s) (WL cI cZ qX qS qI qJ qP qV qT qK qG qL qM qY oX oS oI oJ oP oV oT oK oG oL oM oY) 406 [(0, .ref b), (1, .ref (qX 0)), (2, .ref (qY 0)), (3, .int v3)] [] := by
  have hbA : ¬ (fun q : Nat => s.heap.size ≤ q) b := Nat.not_le.mpr hbl
  refine SW.aload_n C dL_law_406 rfl 1 rfl ?_
  refine SW.aload_n C dL_law_407 rfl 0 rfl ?_
  refine SW.iload_n C dL_law_408 rfl 3 rfl ?_
  refine SW.iconst (v := (1 : Int32)) C dL_law_409 (by decide) ?_
  refine SW.iadd C dL_law_410 ?_
  refine SW.sld C hX hbl hbA i1 dL_law_411 ?_
  refine SW.callVi_pm (wn := fun u : Ob × Ob => WL cI cZ qX qS qI qJ qP qV qT qK qG qL qM qY oX oS oI oJ oP u.1 u.2 oK oG oL oM oY) C (ctX9_clashed l D cI cZ qX qS qI qJ qP qV qT qK qG qL qM oX oS oP oV oT (jld xs (v3 + (1 : Int32))) _ h) gL_law_X9_clashed rfl rfl rfl pdX9_clashed ⟨by decide +kernel, by decide +kernel⟩ (pm_XSPVT _ _ _ _ _ _ _ _ _ _ _ _) (fun u => mp_XSPVT _ _ _ _ _ _ _ _ _ _ _ _) 0 rfl rfl rfl rfl rfl (Nat.le_of_ble_eq_true rfl) dL_law_412 ⟨by decide +kernel, by decide +kernel⟩ (fun r1 u h => ?_)
  obtain ⟨wV, wT⟩ := u
  try dsimp only at h
  dsimp only
  refine SW.aload_n C dL_law_415 rfl 2 rfl ?_
  refine SW.aload_n C dL_law_416 rfl 0 rfl ?_
  refine SW.iload_n C dL_law_417 rfl 3 rfl ?_
  refine SW.iconst (v := (1 : Int32)) C dL_law_418 (by decide) ?_
  refine SW.iadd C dL_law_419 ?_
  refine SW.sld C hX hbl hbA i1 dL_law_420 ?_
  refine SW.callVi_pm (wn := fun u : Ob => WL cI cZ qX qS qI qJ qP qV qT qK qG qL qM qY oX oS oI oJ oP wV wT oK oG oL oM u) C (ctX10_clashed l D cI cZ qY oY (jld xs (v3 + (1 : Int32))) _ h) gL_law_X10_clashed rfl rfl rfl pdX10_clashed ⟨by decide +kernel, by decide +kernel⟩ (pm_Y _ _ _ _ _ _ _ _ _ _ _ _) (fun u => mp_Y _ _ _ _ _ _ _ _ _ _ _ _) 0 rfl rfl rfl rfl rfl (Nat.le_of_ble_eq_true rfl) dL_law_421 ⟨by decide +kernel, by decide +kernel⟩ (fun r2 u h => ?_)
  obtain ⟨wY, rfl⟩ : ∃ z, z = u := ⟨_, rfl⟩
  try dsimp only at h
  exact SW.icmp_eq (tgt := 1095) C dL_law_424 (by decide) (fun hc => kk _ _ _ _ _ _ _ _ _ _ _ _ h.2) (fun hc => absurd h.1 hc)
theorem lc_interval {p : Program} {l : Launch} {e : Env} {s : State} {m : MethodId} {below : List Frame} {meth : Method} {c : Code} {D : va_G} {cI cZ : ClassId} {b L : Nat} {xs : Nat → Int32} (C : Cx p s m #[Value.ref b] meth c code 4 wsL_law RL D [(cI, .int), (cZ, .boolean)] (fun q : Nat => s.heap.size ≤ q) ret) (hX : va_X b L xs s s.heap) (hbl : b < s.heap.size) (qX qS qI qJ qP qV qT qK qG qL qM qY : Nat → Nat) (oX oS oI oJ oP oV oT oK oG oL oM oY : Ob) (v3 : Int32) (N : Ob → Ob → Ob → Ob → Ob → Ob → Ob → Ob → Ob → Ob → Ob → Ob → Prop) (kk : ∀ oX oS oI oJ oP oV oT oK oG oL oM oY : Ob, N oX oS oI oJ oP oV oT oK oG oL oM oY → SW p l e room_1 s m #[Value.ref b] below meth c (fun q : Nat => s.heap.size ≤ q) D 4 56 11255 (lw_Z below #[Value.ref b] s) (WL cI cZ qX qS qI qJ qP qV qT qK qG qL qM qY oX oS oI oJ oP oV oT oK oG oL oM oY) 1095 [(0, .ref b), (1, .ref (qX 0)), (2, .ref (qY 0)), (3, .int v3)] []) (i1 : vp_in (v3 + (1 : Int32)) L) (i2 : vp_in (v3 + (2 : Int32)) L) (i3 : vp_in (v3 + (3 : Int32)) L) (h : wpX9_interval oX oS (jld xs (v3 + (1 : Int32))) (jld xs (v3 + (2 : Int32))) (jld xs (v3 + (3 : Int32))) (fun (r1 : Int64) => wpX10_interval oY (jld xs (v3 + (1 : Int32))) (jld xs (v3 + (2 : Int32))) (jld xs (v3 + (3 : Int32))) (fun (r2 : Int64) => r1 = r2 ∧ N oX oS oI oJ oP oV oT oK oG oL oM oY))) : SW p l e room_1 s m #[Value.ref b] below meth c (fun q : Nat => s.heap.size ≤ q) D 4 56 11255 (lw_Z below #[Value.ref b] s) (WL cI cZ qX qS qI qJ qP qV qT qK qG qL qM qY oX oS oI oJ oP oV oT oK oG oL oM oY) 429 [(0, .ref b), (1, .ref (qX 0)), (2, .ref (qY 0)), (3, .int v3)] [] := by
  have hbA : ¬ (fun q : Nat => s.heap.size ≤ q) b := Nat.not_le.mpr hbl
  refine SW.aload_n C dL_law_429 rfl 1 rfl ?_
  refine SW.aload_n C dL_law_430 rfl 0 rfl ?_
  refine SW.iload_n C dL_law_431 rfl 3 rfl ?_
  refine SW.iconst (v := (1 : Int32)) C dL_law_432 (by decide) ?_
  refine SW.iadd C dL_law_433 ?_
  refine SW.sld C hX hbl hbA i1 dL_law_434 ?_
  refine SW.aload_n C dL_law_435 rfl 0 rfl ?_
  refine SW.iload_n C dL_law_436 rfl 3 rfl ?_
  refine SW.iconst (v := (2 : Int32)) C dL_law_437 (by decide) ?_
  refine SW.iadd C dL_law_438 ?_
  refine SW.sld C hX hbl hbA i2 dL_law_439 ?_
  refine SW.aload_n C dL_law_440 rfl 0 rfl ?_
  refine SW.iload_n C dL_law_441 rfl 3 rfl ?_
  refine SW.iconst (v := (3 : Int32)) C dL_law_442 (by decide) ?_
  refine SW.iadd C dL_law_443 ?_
  refine SW.sld C hX hbl hbA i3 dL_law_444 ?_
  refine SW.callVl_pm (wn := fun _ : Unit => WL cI cZ qX qS qI qJ qP qV qT qK qG qL qM qY oX oS oI oJ oP oV oT oK oG oL oM oY) C (ctX9_interval l D cI cZ qX qS qI qJ qP qV qT qK qG qL qM oX oS (jld xs (v3 + (1 : Int32))) (jld xs (v3 + (2 : Int32))) (jld xs (v3 + (3 : Int32))) _ h) gL_law_X9_interval rfl rfl rfl pdX9_interval ⟨by decide +kernel, by decide +kernel⟩ (pm_XS _ _ _ _ _ _ _ _ _ _ _ _) (fun u => mp_XS _ _ _ _ _ _ _ _ _ _ _ _) 0 rfl rfl rfl rfl rfl (Nat.le_of_ble_eq_true rfl) dL_law_445 ⟨by decide +kernel, by decide +kernel⟩ (fun r1 u h => ?_)
  try dsimp only at h
  refine SW.aload_n C dL_law_448 rfl 2 rfl ?_
  refine SW.aload_n C dL_law_449 rfl 0 rfl ?_
  refine SW.iload_n C dL_law_450 rfl 3 rfl ?_
  refine SW.iconst (v := (1 : Int32)) C dL_law_451 (by decide) ?_
  refine SW.iadd C dL_law_452 ?_
  refine SW.sld C hX hbl hbA i1 dL_law_453 ?_
  refine SW.aload_n C dL_law_454 rfl 0 rfl ?_
  refine SW.iload_n C dL_law_455 rfl 3 rfl ?_
  refine SW.iconst (v := (2 : Int32)) C dL_law_456 (by decide) ?_
  refine SW.iadd C dL_law_457 ?_
  refine SW.sld C hX hbl hbA i2 dL_law_458 ?_
  refine SW.aload_n C dL_law_459 rfl 0 rfl ?_
  refine SW.iload_n C dL_law_460 rfl 3 rfl ?_
  refine SW.iconst (v := (3 : Int32)) C dL_law_461 (by decide) ?_
  refine SW.iadd C dL_law_462 ?_
  refine SW.sld C hX hbl hbA i3 dL_law_463 ?_
  refine SW.callVl_pm (wn := fun _ : Unit => WL cI cZ qX qS qI qJ qP qV qT qK qG qL qM qY oX oS oI oJ oP oV oT oK oG oL oM oY) C (ctX10_interval l D cI cZ qY oY (jld xs (v3 + (1 : Int32))) (jld xs (v3 + (2 : Int32))) (jld xs (v3 + (3 : Int32))) _ h) gL_law_X10_interval rfl rfl rfl pdX10_interval ⟨by decide +kernel, by decide +kernel⟩ (pm_Y _ _ _ _ _ _ _ _ _ _ _ _) (fun u => mp_Y _ _ _ _ _ _ _ _ _ _ _ _) 0 rfl rfl rfl rfl rfl (Nat.le_of_ble_eq_true rfl) dL_law_464 ⟨by decide +kernel, by decide +kernel⟩ (fun r2 u h => ?_)
  try dsimp only at h
  refine SW.lcmp C dL_law_467 ?_
  exact SW.if_eq (tgt := 1095) C dL_law_468 (by decide) (fun hc => kk _ _ _ _ _ _ _ _ _ _ _ _ h.2) (fun hc => absurd (by rw [h.1]; exact lg_cmp_self _) hc)
theorem lc_heard {p : Program} {l : Launch} {e : Env} {s : State} {m : MethodId} {below : List Frame} {meth : Method} {c : Code} {D : va_G} {cI cZ : ClassId} {b L : Nat} {xs : Nat → Int32} (C : Cx p s m #[Value.ref b] meth c code 4 wsL_law RL D [(cI, .int), (cZ, .boolean)] (fun q : Nat => s.heap.size ≤ q) ret) (hX : va_X b L xs s s.heap) (hbl : b < s.heap.size) (qX qS qI qJ qP qV qT qK qG qL qM qY : Nat → Nat) (oX oS oI oJ oP oV oT oK oG oL oM oY : Ob) (v3 : Int32) (N : Ob → Ob → Ob → Ob → Ob → Ob → Ob → Ob → Ob → Ob → Ob → Ob → Prop) (kk : ∀ oX oS oI oJ oP oV oT oK oG oL oM oY : Ob, N oX oS oI oJ oP oV oT oK oG oL oM oY → SW p l e room_1 s m #[Value.ref b] below meth c (fun q : Nat => s.heap.size ≤ q) D 4 56 11255 (lw_Z below #[Value.ref b] s) (WL cI cZ qX qS qI qJ qP qV qT qK qG qL qM qY oX oS oI oJ oP oV oT oK oG oL oM oY) 1095 [(0, .ref b), (1, .ref (qX 0)), (2, .ref (qY 0)), (3, .int v3)] []) (i1 : vp_in (v3 + (1 : Int32)) L) (h : wpX9_heard oX oS (jld xs (v3 + (1 : Int32))) (fun (r1 : Int32) => wpX10_heard oY (jld xs (v3 + (1 : Int32))) (fun (r2 : Int32) => r1 = r2 ∧ N oX oS oI oJ oP oV oT oK oG oL oM oY))) : SW p l e room_1 s m #[Value.ref b] below meth c (fun q : Nat => s.heap.size ≤ q) D 4 56 11255 (lw_Z below #[Value.ref b] s) (WL cI cZ qX qS qI qJ qP qV qT qK qG qL qM qY oX oS oI oJ oP oV oT oK oG oL oM oY) 473 [(0, .ref b), (1, .ref (qX 0)), (2, .ref (qY 0)), (3, .int v3)] [] := by
  have hbA : ¬ (fun q : Nat => s.heap.size ≤ q) b := Nat.not_le.mpr hbl
  refine SW.aload_n C dL_law_473 rfl 1 rfl ?_
  refine SW.aload_n C dL_law_474 rfl 0 rfl ?_
  refine SW.iload_n C dL_law_475 rfl 3 rfl ?_
  refine SW.iconst (v := (1 : Int32)) C dL_law_476 (by decide) ?_
  refine SW.iadd C dL_law_477 ?_
  refine SW.sld C hX hbl hbA i1 dL_law_478 ?_
  refine SW.callVi_pm (wn := fun _ : Unit => WL cI cZ qX qS qI qJ qP qV qT qK qG qL qM qY oX oS oI oJ oP oV oT oK oG oL oM oY) C (ctX9_heard l D cI cZ qX qS qI qJ qP qV qT qK qG qL qM oX oS (jld xs (v3 + (1 : Int32))) _ h) gL_law_X9_heard rfl rfl rfl pdX9_heard ⟨by decide +kernel, by decide +kernel⟩ (pm_XS _ _ _ _ _ _ _ _ _ _ _ _) (fun u => mp_XS _ _ _ _ _ _ _ _ _ _ _ _) 0 rfl rfl rfl rfl rfl (Nat.le_of_ble_eq_true rfl) dL_law_479 ⟨by decide +kernel, by decide +kernel⟩ (fun r1 u h => ?_)
  try dsimp only at h
  refine SW.aload_n C dL_law_482 rfl 2 rfl ?_
  refine SW.aload_n C dL_law_483 rfl 0 rfl ?_
  refine SW.iload_n C dL_law_484 rfl 3 rfl ?_
  refine SW.iconst (v := (1 : Int32)) C dL_law_485 (by decide) ?_
  refine SW.iadd C dL_law_486 ?_
  refine SW.sld C hX hbl hbA i1 dL_law_487 ?_
  refine SW.callVi_pm (wn := fun _ : Unit => WL cI cZ qX qS qI qJ qP qV qT qK qG qL qM qY oX oS oI oJ oP oV oT oK oG oL oM oY) C (ctX10_heard l D cI cZ qY oY (jld xs (v3 + (1 : Int32))) _ h) gL_law_X10_heard rfl rfl rfl pdX10_heard ⟨by decide +kernel, by decide +kernel⟩ (pm_Y _ _ _ _ _ _ _ _ _ _ _ _) (fun u => mp_Y _ _ _ _ _ _ _ _ _ _ _ _) 0 rfl rfl rfl rfl rfl (Nat.le_of_ble_eq_true rfl) dL_law_488 ⟨by decide +kernel, by decide +kernel⟩ (fun r2 u h => ?_)
  try dsimp only at h
  exact SW.icmp_eq (tgt := 1095) C dL_law_491 (by decide) (fun hc => kk _ _ _ _ _ _ _ _ _ _ _ _ h.2) (fun hc => absurd h.1 hc)
theorem lc_stopped {p : Program} {l : Launch} {e : Env} {s : State} {m : MethodId} {below : List Frame} {meth : Method} {c : Code} {D : va_G} {cI cZ : ClassId} {b L : Nat} {xs : Nat → Int32} (C : Cx p s m #[Value.ref b] meth c code 4 wsL_law RL D [(cI, .int), (cZ, .boolean)] (fun q : Nat => s.heap.size ≤ q) ret) (hX : va_X b L xs s s.heap) (hbl : b < s.heap.size) (qX qS qI qJ qP qV qT qK qG qL qM qY : Nat → Nat) (oX oS oI oJ oP oV oT oK oG oL oM oY : Ob) (v3 : Int32) (N : Ob → Ob → Ob → Ob → Ob → Ob → Ob → Ob → Ob → Ob → Ob → Ob → Prop) (kk : ∀ oX oS oI oJ oP oV oT oK oG oL oM oY : Ob, N oX oS oI oJ oP oV oT oK oG oL oM oY → SW p l e room_1 s m #[Value.ref b] below meth c (fun q : Nat => s.heap.size ≤ q) D 4 56 11255 (lw_Z below #[Value.ref b] s) (WL cI cZ qX qS qI qJ qP qV qT qK qG qL qM qY oX oS oI oJ oP oV oT oK oG oL oM oY) 1095 [(0, .ref b), (1, .ref (qX 0)), (2, .ref (qY 0)), (3, .int v3)] []) (i1 : vp_in (v3 + (1 : Int32)) L) (i2 : vp_in (v3 + (2 : Int32)) L) (i3 : vp_in (v3 + (3 : Int32)) L) (h : wpX9_stopped oX oS (jld xs (v3 + (1 : Int32))) (jld xs (v3 + (2 : Int32))) (jld xs (v3 + (3 : Int32))) (fun (r1 : Int32) => wpX10_stopped oY (jld xs (v3 + (1 : Int32))) (jld xs (v3 + (2 : Int32))) (jld xs (v3 + (3 : Int32))) (fun (r2 : Int32) => r1 = r2 ∧ N oX oS oI oJ oP oV oT oK oG oL oM oY))) : SW p l e room_1 s m #[Value.ref b] below meth c (fun q : Nat => s.heap.size ≤ q) D 4 56 11255 (lw_Z below #[Value.ref b] s) (WL cI cZ qX qS qI qJ qP qV qT qK qG qL qM qY oX oS oI oJ oP oV oT oK oG oL oM oY) 496 [(0, .ref b), (1, .ref (qX 0)), (2, .ref (qY 0)), (3, .int v3)] [] := by
  have hbA : ¬ (fun q : Nat => s.heap.size ≤ q) b := Nat.not_le.mpr hbl
  refine SW.aload_n C dL_law_496 rfl 1 rfl ?_
  refine SW.aload_n C dL_law_497 rfl 0 rfl ?_
  refine SW.iload_n C dL_law_498 rfl 3 rfl ?_
  refine SW.iconst (v := (1 : Int32)) C dL_law_499 (by decide) ?_
  refine SW.iadd C dL_law_500 ?_
  refine SW.sld C hX hbl hbA i1 dL_law_501 ?_
  refine SW.aload_n C dL_law_502 rfl 0 rfl ?_
  refine SW.iload_n C dL_law_503 rfl 3 rfl ?_
  refine SW.iconst (v := (2 : Int32)) C dL_law_504 (by decide) ?_
  refine SW.iadd C dL_law_505 ?_
  refine SW.sld C hX hbl hbA i2 dL_law_506 ?_
  refine SW.aload_n C dL_law_507 rfl 0 rfl ?_
  refine SW.iload_n C dL_law_508 rfl 3 rfl ?_
  refine SW.iconst (v := (3 : Int32)) C dL_law_509 (by decide) ?_
  refine SW.iadd C dL_law_510 ?_
  refine SW.sld C hX hbl hbA i3 dL_law_511 ?_
  refine SW.callVi_pm (wn := fun _ : Unit => WL cI cZ qX qS qI qJ qP qV qT qK qG qL qM qY oX oS oI oJ oP oV oT oK oG oL oM oY) C (ctX9_stopped l D cI cZ qX qS qI qJ qP qV qT qK qG qL qM oX oS (jld xs (v3 + (1 : Int32))) (jld xs (v3 + (2 : Int32))) (jld xs (v3 + (3 : Int32))) _ h) gL_law_X9_stopped rfl rfl rfl pdX9_stopped ⟨by decide +kernel, by decide +kernel⟩ (pm_XS _ _ _ _ _ _ _ _ _ _ _ _) (fun u => mp_XS _ _ _ _ _ _ _ _ _ _ _ _) 0 rfl rfl rfl rfl rfl (Nat.le_of_ble_eq_true rfl) dL_law_512 ⟨by decide +kernel, by decide +kernel⟩ (fun r1 u h => ?_)
  try dsimp only at h
  refine SW.aload_n C dL_law_515 rfl 2 rfl ?_
  refine SW.aload_n C dL_law_516 rfl 0 rfl ?_
  refine SW.iload_n C dL_law_517 rfl 3 rfl ?_
  refine SW.iconst (v := (1 : Int32)) C dL_law_518 (by decide) ?_
  refine SW.iadd C dL_law_519 ?_
  refine SW.sld C hX hbl hbA i1 dL_law_520 ?_
  refine SW.aload_n C dL_law_521 rfl 0 rfl ?_
  refine SW.iload_n C dL_law_522 rfl 3 rfl ?_
  refine SW.iconst (v := (2 : Int32)) C dL_law_523 (by decide) ?_
  refine SW.iadd C dL_law_524 ?_
  refine SW.sld C hX hbl hbA i2 dL_law_525 ?_
  refine SW.aload_n C dL_law_526 rfl 0 rfl ?_
  refine SW.iload_n C dL_law_527 rfl 3 rfl ?_
  refine SW.iconst (v := (3 : Int32)) C dL_law_528 (by decide) ?_
  refine SW.iadd C dL_law_529 ?_
  refine SW.sld C hX hbl hbA i3 dL_law_530 ?_
  refine SW.callVi_pm (wn := fun _ : Unit => WL cI cZ qX qS qI qJ qP qV qT qK qG qL qM qY oX oS oI oJ oP oV oT oK oG oL oM oY) C (ctX10_stopped l D cI cZ qY oY (jld xs (v3 + (1 : Int32))) (jld xs (v3 + (2 : Int32))) (jld xs (v3 + (3 : Int32))) _ h) gL_law_X10_stopped rfl rfl rfl pdX10_stopped ⟨by decide +kernel, by decide +kernel⟩ (pm_Y _ _ _ _ _ _ _ _ _ _ _ _) (fun u => mp_Y _ _ _ _ _ _ _ _ _ _ _ _) 0 rfl rfl rfl rfl rfl (Nat.le_of_ble_eq_true rfl) dL_law_531 ⟨by decide +kernel, by decide +kernel⟩ (fun r2 u h => ?_)
  try dsimp only at h
  exact SW.icmp_eq (tgt := 1095) C dL_law_534 (by decide) (fun hc => kk _ _ _ _ _ _ _ _ _ _ _ _ h.2) (fun hc => absurd h.1 hc)
theorem lc_friends {p : Program} {l : Launch} {e : Env} {s : State} {m : MethodId} {below : List Frame} {meth : Method} {c : Code} {D : va_G} {cI cZ : ClassId} {b L : Nat} {xs : Nat → Int32} (C : Cx p s m #[Value.ref b] meth c code 4 wsL_law RL D [(cI, .int), (cZ, .boolean)] (fun q : Nat => s.heap.size ≤ q) ret) (hX : va_X b L xs s s.heap) (hbl : b < s.heap.size) (qX qS qI qJ qP qV qT qK qG qL qM qY : Nat → Nat) (oX oS oI oJ oP oV oT oK oG oL oM oY : Ob) (v3 : Int32) (N : Ob → Ob → Ob → Ob → Ob → Ob → Ob → Ob → Ob → Ob → Ob → Ob → Prop) (kk : ∀ oX oS oI oJ oP oV oT oK oG oL oM oY : Ob, N oX oS oI oJ oP oV oT oK oG oL oM oY → SW p l e room_1 s m #[Value.ref b] below meth c (fun q : Nat => s.heap.size ≤ q) D 4 56 11255 (lw_Z below #[Value.ref b] s) (WL cI cZ qX qS qI qJ qP qV qT qK qG qL qM qY oX oS oI oJ oP oV oT oK oG oL oM oY) 1095 [(0, .ref b), (1, .ref (qX 0)), (2, .ref (qY 0)), (3, .int v3)] []) (i1 : vp_in (v3 + (1 : Int32)) L) (i2 : vp_in (v3 + (2 : Int32)) L) (i3 : vp_in (v3 + (3 : Int32)) L) (i4 : vp_in (v3 + (4 : Int32)) L) (i5 : vp_in (v3 + (5 : Int32)) L) (h : wpX9_friends oX oS (jld xs (v3 + (1 : Int32))) (jld xs (v3 + (2 : Int32))) (jld xs (v3 + (3 : Int32))) (jld xs (v3 + (4 : Int32))) (jld xs (v3 + (5 : Int32))) (fun (r1 : Int32) => wpX10_friends oY (jld xs (v3 + (1 : Int32))) (jld xs (v3 + (2 : Int32))) (jld xs (v3 + (3 : Int32))) (jld xs (v3 + (4 : Int32))) (jld xs (v3 + (5 : Int32))) (fun (r2 : Int32) => r1 = r2 ∧ N oX oS oI oJ oP oV oT oK oG oL oM oY))) : SW p l e room_1 s m #[Value.ref b] below meth c (fun q : Nat => s.heap.size ≤ q) D 4 56 11255 (lw_Z below #[Value.ref b] s) (WL cI cZ qX qS qI qJ qP qV qT qK qG qL qM qY oX oS oI oJ oP oV oT oK oG oL oM oY) 539 [(0, .ref b), (1, .ref (qX 0)), (2, .ref (qY 0)), (3, .int v3)] [] := by
  have hbA : ¬ (fun q : Nat => s.heap.size ≤ q) b := Nat.not_le.mpr hbl
  refine SW.aload_n C dL_law_539 rfl 1 rfl ?_
  refine SW.aload_n C dL_law_540 rfl 0 rfl ?_
  refine SW.iload_n C dL_law_541 rfl 3 rfl ?_
  refine SW.iconst (v := (1 : Int32)) C dL_law_542 (by decide) ?_
  refine SW.iadd C dL_law_543 ?_
  refine SW.sld C hX hbl hbA i1 dL_law_544 ?_
  refine SW.aload_n C dL_law_545 rfl 0 rfl ?_
  refine SW.iload_n C dL_law_546 rfl 3 rfl ?_
  refine SW.iconst (v := (2 : Int32)) C dL_law_547 (by decide) ?_
  refine SW.iadd C dL_law_548 ?_
  refine SW.sld C hX hbl hbA i2 dL_law_549 ?_
  refine SW.aload_n C dL_law_550 rfl 0 rfl ?_
  refine SW.iload_n C dL_law_551 rfl 3 rfl ?_
  refine SW.iconst (v := (3 : Int32)) C dL_law_552 (by decide) ?_
  refine SW.iadd C dL_law_553 ?_
  refine SW.sld C hX hbl hbA i3 dL_law_554 ?_
  refine SW.aload_n C dL_law_555 rfl 0 rfl ?_
  refine SW.iload_n C dL_law_556 rfl 3 rfl ?_
  refine SW.iconst (v := (4 : Int32)) C dL_law_557 (by decide) ?_
  refine SW.iadd C dL_law_558 ?_
  refine SW.sld C hX hbl hbA i4 dL_law_559 ?_
  refine SW.aload_n C dL_law_560 rfl 0 rfl ?_
  refine SW.iload_n C dL_law_561 rfl 3 rfl ?_
  refine SW.iconst (v := (5 : Int32)) C dL_law_562 (by decide) ?_
  refine SW.iadd C dL_law_563 ?_
  refine SW.sld C hX hbl hbA i5 dL_law_564 ?_
  refine SW.callVi_pm (wn := fun _ : Unit => WL cI cZ qX qS qI qJ qP qV qT qK qG qL qM qY oX oS oI oJ oP oV oT oK oG oL oM oY) C (ctX9_friends l D cI cZ qX qS qI qJ qP qV qT qK qG qL qM oX oS (jld xs (v3 + (1 : Int32))) (jld xs (v3 + (2 : Int32))) (jld xs (v3 + (3 : Int32))) (jld xs (v3 + (4 : Int32))) (jld xs (v3 + (5 : Int32))) _ h) gL_law_X9_friends rfl rfl rfl pdX9_friends ⟨by decide +kernel, by decide +kernel⟩ (pm_XS _ _ _ _ _ _ _ _ _ _ _ _) (fun u => mp_XS _ _ _ _ _ _ _ _ _ _ _ _) 0 rfl rfl rfl rfl rfl (Nat.le_of_ble_eq_true rfl) dL_law_565 ⟨by decide +kernel, by decide +kernel⟩ (fun r1 u h => ?_)
  try dsimp only at h
  refine SW.aload_n C dL_law_568 rfl 2 rfl ?_
  refine SW.aload_n C dL_law_569 rfl 0 rfl ?_
  refine SW.iload_n C dL_law_570 rfl 3 rfl ?_
  refine SW.iconst (v := (1 : Int32)) C dL_law_571 (by decide) ?_
  refine SW.iadd C dL_law_572 ?_
  refine SW.sld C hX hbl hbA i1 dL_law_573 ?_
  refine SW.aload_n C dL_law_574 rfl 0 rfl ?_
  refine SW.iload_n C dL_law_575 rfl 3 rfl ?_
  refine SW.iconst (v := (2 : Int32)) C dL_law_576 (by decide) ?_
  refine SW.iadd C dL_law_577 ?_
  refine SW.sld C hX hbl hbA i2 dL_law_578 ?_
  refine SW.aload_n C dL_law_579 rfl 0 rfl ?_
  refine SW.iload_n C dL_law_580 rfl 3 rfl ?_
  refine SW.iconst (v := (3 : Int32)) C dL_law_581 (by decide) ?_
  refine SW.iadd C dL_law_582 ?_
  refine SW.sld C hX hbl hbA i3 dL_law_583 ?_
  refine SW.aload_n C dL_law_584 rfl 0 rfl ?_
  refine SW.iload_n C dL_law_585 rfl 3 rfl ?_
  refine SW.iconst (v := (4 : Int32)) C dL_law_586 (by decide) ?_
  refine SW.iadd C dL_law_587 ?_
  refine SW.sld C hX hbl hbA i4 dL_law_588 ?_
  refine SW.aload_n C dL_law_589 rfl 0 rfl ?_
  refine SW.iload_n C dL_law_590 rfl 3 rfl ?_
  refine SW.iconst (v := (5 : Int32)) C dL_law_591 (by decide) ?_
  refine SW.iadd C dL_law_592 ?_
  refine SW.sld C hX hbl hbA i5 dL_law_593 ?_
  refine SW.callVi_pm (wn := fun _ : Unit => WL cI cZ qX qS qI qJ qP qV qT qK qG qL qM qY oX oS oI oJ oP oV oT oK oG oL oM oY) C (ctX10_friends l D cI cZ qY oY (jld xs (v3 + (1 : Int32))) (jld xs (v3 + (2 : Int32))) (jld xs (v3 + (3 : Int32))) (jld xs (v3 + (4 : Int32))) (jld xs (v3 + (5 : Int32))) _ h) gL_law_X10_friends rfl rfl rfl pdX10_friends ⟨by decide +kernel, by decide +kernel⟩ (pm_Y _ _ _ _ _ _ _ _ _ _ _ _) (fun u => mp_Y _ _ _ _ _ _ _ _ _ _ _ _) 0 rfl rfl rfl rfl rfl (Nat.le_of_ble_eq_true rfl) dL_law_594 ⟨by decide +kernel, by decide +kernel⟩ (fun r2 u h => ?_)
  try dsimp only at h
  exact SW.icmp_eq (tgt := 1095) C dL_law_597 (by decide) (fun hc => kk _ _ _ _ _ _ _ _ _ _ _ _ h.2) (fun hc => absurd h.1 hc)
theorem lc_changes {p : Program} {l : Launch} {e : Env} {s : State} {m : MethodId} {below : List Frame} {meth : Method} {c : Code} {D : va_G} {cI cZ : ClassId} {b L : Nat} {xs : Nat → Int32} (C : Cx p s m #[Value.ref b] meth c code 4 wsL_law RL D [(cI, .int), (cZ, .boolean)] (fun q : Nat => s.heap.size ≤ q) ret) (hX : va_X b L xs s s.heap) (hbl : b < s.heap.size) (qX qS qI qJ qP qV qT qK qG qL qM qY : Nat → Nat) (oX oS oI oJ oP oV oT oK oG oL oM oY : Ob) (v3 : Int32) (N : Ob → Ob → Ob → Ob → Ob → Ob → Ob → Ob → Ob → Ob → Ob → Ob → Prop) (kk : ∀ oX oS oI oJ oP oV oT oK oG oL oM oY : Ob, N oX oS oI oJ oP oV oT oK oG oL oM oY → SW p l e room_1 s m #[Value.ref b] below meth c (fun q : Nat => s.heap.size ≤ q) D 4 56 11255 (lw_Z below #[Value.ref b] s) (WL cI cZ qX qS qI qJ qP qV qT qK qG qL qM qY oX oS oI oJ oP oV oT oK oG oL oM oY) 1095 [(0, .ref b), (1, .ref (qX 0)), (2, .ref (qY 0)), (3, .int v3)] []) (i1 : vp_in (v3 + (1 : Int32)) L) (i2 : vp_in (v3 + (2 : Int32)) L) (h : wpX9_changes oX oS oP oK (jld xs (v3 + (1 : Int32))) (jld xs (v3 + (2 : Int32))) (fun (r1 : Int32) (wK : Ob) => wpX10_changes oY (jld xs (v3 + (1 : Int32))) (jld xs (v3 + (2 : Int32))) (fun (r2 : Int32) (wY : Ob) => r1 = r2 ∧ N oX oS oI oJ oP oV oT wK oG oL oM wY))) : SW p l e room_1 s m #[Value.ref b] below meth c (fun q : Nat => s.heap.size ≤ q) D 4 56 11255 (lw_Z below #[Value.ref b] s) (WL cI cZ qX qS qI qJ qP qV qT qK qG qL qM qY oX oS oI oJ oP oV oT oK oG oL oM oY) 602 [(0, .ref b), (1, .ref (qX 0)), (2, .ref (qY 0)), (3, .int v3)] [] := by
  have hbA : ¬ (fun q : Nat => s.heap.size ≤ q) b := Nat.not_le.mpr hbl
  refine SW.aload_n C dL_law_602 rfl 1 rfl ?_
  refine SW.aload_n C dL_law_603 rfl 0 rfl ?_
  refine SW.iload_n C dL_law_604 rfl 3 rfl ?_
  refine SW.iconst (v := (1 : Int32)) C dL_law_605 (by decide) ?_
  refine SW.iadd C dL_law_606 ?_
  refine SW.sld C hX hbl hbA i1 dL_law_607 ?_
  refine SW.aload_n C dL_law_608 rfl 0 rfl ?_
  refine SW.iload_n C dL_law_609 rfl 3 rfl ?_
  refine SW.iconst (v := (2 : Int32)) C dL_law_610 (by decide) ?_
  refine SW.iadd C dL_law_611 ?_
  refine SW.sld C hX hbl hbA i2 dL_law_612 ?_
  refine SW.callVi_pm (wn := fun u : Ob => WL cI cZ qX qS qI qJ qP qV qT qK qG qL qM qY oX oS oI oJ oP oV oT u oG oL oM oY) C (ctX9_changes l D cI cZ qX qS qI qJ qP qV qT qK qG qL qM oX oS oP oK (jld xs (v3 + (1 : Int32))) (jld xs (v3 + (2 : Int32))) _ h) gL_law_X9_changes rfl rfl rfl pdX9_changes ⟨by decide +kernel, by decide +kernel⟩ (pm_XSPK _ _ _ _ _ _ _ _ _ _ _ _) (fun u => mp_XSPK _ _ _ _ _ _ _ _ _ _ _ _) 0 rfl rfl rfl rfl rfl (Nat.le_of_ble_eq_true rfl) dL_law_613 ⟨by decide +kernel, by decide +kernel⟩ (fun r1 u h => ?_)
  obtain ⟨wK, rfl⟩ : ∃ z, z = u := ⟨_, rfl⟩
  try dsimp only at h
  refine SW.aload_n C dL_law_616 rfl 2 rfl ?_
  refine SW.aload_n C dL_law_617 rfl 0 rfl ?_
  refine SW.iload_n C dL_law_618 rfl 3 rfl ?_
  refine SW.iconst (v := (1 : Int32)) C dL_law_619 (by decide) ?_
  refine SW.iadd C dL_law_620 ?_
  refine SW.sld C hX hbl hbA i1 dL_law_621 ?_
  refine SW.aload_n C dL_law_622 rfl 0 rfl ?_
  refine SW.iload_n C dL_law_623 rfl 3 rfl ?_
  refine SW.iconst (v := (2 : Int32)) C dL_law_624 (by decide) ?_
  refine SW.iadd C dL_law_625 ?_
  refine SW.sld C hX hbl hbA i2 dL_law_626 ?_
  refine SW.callVi_pm (wn := fun u : Ob => WL cI cZ qX qS qI qJ qP qV qT qK qG qL qM qY oX oS oI oJ oP oV oT wK oG oL oM u) C (ctX10_changes l D cI cZ qY oY (jld xs (v3 + (1 : Int32))) (jld xs (v3 + (2 : Int32))) _ h) gL_law_X10_changes rfl rfl rfl pdX10_changes ⟨by decide +kernel, by decide +kernel⟩ (pm_Y _ _ _ _ _ _ _ _ _ _ _ _) (fun u => mp_Y _ _ _ _ _ _ _ _ _ _ _ _) 0 rfl rfl rfl rfl rfl (Nat.le_of_ble_eq_true rfl) dL_law_627 ⟨by decide +kernel, by decide +kernel⟩ (fun r2 u h => ?_)
  obtain ⟨wY, rfl⟩ : ∃ z, z = u := ⟨_, rfl⟩
  try dsimp only at h
  exact SW.icmp_eq (tgt := 1095) C dL_law_630 (by decide) (fun hc => kk _ _ _ _ _ _ _ _ _ _ _ _ h.2) (fun hc => absurd h.1 hc)
