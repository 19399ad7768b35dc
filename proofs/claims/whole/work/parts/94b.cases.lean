theorem lc_windows {p : Program} {l : Launch} {e : Env} {s : State} {m : MethodId} {below : List Frame} {meth : Method} {c : Code} {D : va_G} {cI cZ : ClassId} {b L : Nat} {xs : Nat → Int32} (C : Cx p s m #[Value.ref b] meth c code 4 wsL_law RL D [(cI, .int), (cZ, .boolean)] (fun q : Nat => s.heap.size ≤ q) ret) (hX : va_X b L xs s s.heap) (hbl : b < s.heap.size) (qX qS qI qJ qP qV qT qK qG qL qM qY : Nat → Nat) (oX oS oI oJ oP oV oT oK oG oL oM oY : Ob) (v3 : Int32) (N : Ob → Ob → Ob → Ob → Ob → Ob → Ob → Ob → Ob → Ob → Ob → Ob → Prop) (kk : ∀ oX oS oI oJ oP oV oT oK oG oL oM oY : Ob, N oX oS oI oJ oP oV oT oK oG oL oM oY → SW p l e room_1 s m #[Value.ref b] below meth c (fun q : Nat => s.heap.size ≤ q) D 4 56 11255 (lw_Z below #[Value.ref b] s) (WL cI cZ qX qS qI qJ qP qV qT qK qG qL qM qY oX oS oI oJ oP oV oT oK oG oL oM oY) 1095 [(0, .ref b), (1, .ref (qX 0)), (2, .ref (qY 0)), (3, .int v3)] []) (i1 : vp_in (v3 + (1 : Int32)) L) (h : wpX9_windows oX oS (jld xs (v3 + (1 : Int32))) (fun (r1 : Int32) (wS : Ob) => wpX10_windows oY (jld xs (v3 + (1 : Int32))) (fun (r2 : Int32) (wY : Ob) => r1 = r2 ∧ N oX wS oI oJ oP oV oT oK oG oL oM wY))) : SW p l e room_1 s m #[Value.ref b] below meth c (fun q : Nat => s.heap.size ≤ q) D 4 56 11255 (lw_Z below #[Value.ref b] s) (WL cI cZ qX qS qI qJ qP qV qT qK qG qL qM qY oX oS oI oJ oP oV oT oK oG oL oM oY) 176 [(0, .ref b), (1, .ref (qX 0)), (2, .ref (qY 0)), (3, .int v3)] [] := by
  have hbA : ¬ (fun q : Nat => s.heap.size ≤ q) b := Nat.not_le.mpr hbl
  refine SW.aload_n C dL_law_176 rfl 1 rfl ?_
  refine SW.aload_n C dL_law_177 rfl 0 rfl ?_
  refine SW.iload_n C dL_law_178 rfl 3 rfl ?_
  refine SW.iconst (v := (1 : Int32)) C dL_law_179 (by decide) ?_
  refine SW.iadd C dL_law_180 ?_
  refine SW.sld C hX hbl hbA i1 dL_law_181 ?_
  refine SW.callVi_pm (wn := fun u : Ob => WL cI cZ qX qS qI qJ qP qV qT qK qG qL qM qY oX u oI oJ oP oV oT oK oG oL oM oY) C (ctX9_windows l D cI cZ qX qS qI qJ qP qV qT qK qG qL qM oX oS (jld xs (v3 + (1 : Int32))) _ h) gL_law_X9_windows rfl rfl rfl pdX9_windows ⟨by decide +kernel, by decide +kernel⟩ (pm_XS _ _ _ _ _ _ _ _ _ _ _ _) (fun u => mp_XS _ _ _ _ _ _ _ _ _ _ _ _) 0 rfl rfl rfl rfl rfl (Nat.le_of_ble_eq_true rfl) dL_law_182 ⟨by decide +kernel, by decide +kernel⟩ (fun r1 u h => ?_)
  obtain ⟨wS, rfl⟩ : ∃ z, z = u := ⟨_, rfl⟩
  try dsimp only at h
  refine SW.aload_n C dL_law_185 rfl 2 rfl ?_
  refine SW.aload_n C dL_law_186 rfl 0 rfl ?_
  refine SW.iload_n C dL_law_187 rfl 3 rfl ?_
  refine SW.iconst (v := (1 : Int32)) C dL_law_188 (by decide) ?_
  refine SW.iadd C dL_law_189 ?_
  refine SW.sld C hX hbl hbA i1 dL_law_190 ?_
  refine SW.callVi_pm (wn := fun u : Ob => WL cI cZ qX qS qI qJ qP qV qT qK qG qL qM qY oX wS oI oJ oP oV oT oK oG oL oM u) C (ctX10_windows l D cI cZ qY oY (jld xs (v3 + (1 : Int32))) _ h) gL_law_X10_windows rfl rfl rfl pdX10_windows ⟨by decide +kernel, by decide +kernel⟩ (pm_Y _ _ _ _ _ _ _ _ _ _ _ _) (fun u => mp_Y _ _ _ _ _ _ _ _ _ _ _ _) 0 rfl rfl rfl rfl rfl (Nat.le_of_ble_eq_true rfl) dL_law_191 ⟨by decide +kernel, by decide +kernel⟩ (fun r2 u h => ?_)
  obtain ⟨wY, rfl⟩ : ∃ z, z = u := ⟨_, rfl⟩
  try dsimp only at h
  exact SW.icmp_eq (tgt := 1095) C dL_law_194 (by decide) (fun hc => kk _ _ _ _ _ _ _ _ _ _ _ _ h.2) (fun hc => absurd h.1 hc)
theorem lc_gap {p : Program} {l : Launch} {e : Env} {s : State} {m : MethodId} {below : List Frame} {meth : Method} {c : Code} {D : va_G} {cI cZ : ClassId} {b L : Nat} {xs : Nat → Int32} (C : Cx p s m #[Value.ref b] meth c code 4 wsL_law RL D [(cI, .int), (cZ, .boolean)] (fun q : Nat => s.heap.size ≤ q) ret) (hX : va_X b L xs s s.heap) (hbl : b < s.heap.size) (qX qS qI qJ qP qV qT qK qG qL qM qY : Nat → Nat) (oX oS oI oJ oP oV oT oK oG oL oM oY : Ob) (v3 : Int32) (N : Ob → Ob → Ob → Ob → Ob → Ob → Ob → Ob → Ob → Ob → Ob → Ob → Prop) (kk : ∀ oX oS oI oJ oP oV oT oK oG oL oM oY : Ob, N oX oS oI oJ oP oV oT oK oG oL oM oY → SW p l e room_1 s m #[Value.ref b] below meth c (fun q : Nat => s.heap.size ≤ q) D 4 56 11255 (lw_Z below #[Value.ref b] s) (WL cI cZ qX qS qI qJ qP qV qT qK qG qL qM qY oX oS oI oJ oP oV oT oK oG oL oM oY) 1095 [(0, .ref b), (1, .ref (qX 0)), (2, .ref (qY 0)), (3, .int v3)] []) (i1 : vp_in (v3 + (1 : Int32)) L) (i2 : vp_in (v3 + (2 : Int32)) L) (h : wpX9_gap oX oS (jld xs (v3 + (1 : Int32))) (jld xs (v3 + (2 : Int32))) (fun (r1 : Int32) (wS : Ob) => wpX10_gap oY (jld xs (v3 + (1 : Int32))) (jld xs (v3 + (2 : Int32))) (fun (r2 : Int32) (wY : Ob) => r1 = r2 ∧ N oX wS oI oJ oP oV oT oK oG oL oM wY))) : SW p l e room_1 s m #[Value.ref b] below meth c (fun q : Nat => s.heap.size ≤ q) D 4 56 11255 (lw_Z below #[Value.ref b] s) (WL cI cZ qX qS qI qJ qP qV qT qK qG qL qM qY oX oS oI oJ oP oV oT oK oG oL oM oY) 199 [(0, .ref b), (1, .ref (qX 0)), (2, .ref (qY 0)), (3, .int v3)] [] := by
  have hbA : ¬ (fun q : Nat => s.heap.size ≤ q) b := Nat.not_le.mpr hbl
  refine SW.aload_n C dL_law_199 rfl 1 rfl ?_
  refine SW.aload_n C dL_law_200 rfl 0 rfl ?_
  refine SW.iload_n C dL_law_201 rfl 3 rfl ?_
  refine SW.iconst (v := (1 : Int32)) C dL_law_202 (by decide) ?_
  refine SW.iadd C dL_law_203 ?_
  refine SW.sld C hX hbl hbA i1 dL_law_204 ?_
  refine SW.aload_n C dL_law_205 rfl 0 rfl ?_
  refine SW.iload_n C dL_law_206 rfl 3 rfl ?_
  refine SW.iconst (v := (2 : Int32)) C dL_law_207 (by decide) ?_
  refine SW.iadd C dL_law_208 ?_
  refine SW.sld C hX hbl hbA i2 dL_law_209 ?_
  refine SW.callVi_pm (wn := fun u : Ob => WL cI cZ qX qS qI qJ qP qV qT qK qG qL qM qY oX u oI oJ oP oV oT oK oG oL oM oY) C (ctX9_gap l D cI cZ qX qS qI qJ qP qV qT qK qG qL qM oX oS (jld xs (v3 + (1 : Int32))) (jld xs (v3 + (2 : Int32))) _ h) gL_law_X9_gap rfl rfl rfl pdX9_gap ⟨by decide +kernel, by decide +kernel⟩ (pm_XS _ _ _ _ _ _ _ _ _ _ _ _) (fun u => mp_XS _ _ _ _ _ _ _ _ _ _ _ _) 0 rfl rfl rfl rfl rfl (Nat.le_of_ble_eq_true rfl) dL_law_210 ⟨by decide +kernel, by decide +kernel⟩ (fun r1 u h => ?_)
  obtain ⟨wS, rfl⟩ : ∃ z, z = u := ⟨_, rfl⟩
  try dsimp only at h
  refine SW.aload_n C dL_law_213 rfl 2 rfl ?_
  refine SW.aload_n C dL_law_214 rfl 0 rfl ?_
  refine SW.iload_n C dL_law_215 rfl 3 rfl ?_
  refine SW.iconst (v := (1 : Int32)) C dL_law_216 (by decide) ?_
  refine SW.iadd C dL_law_217 ?_
  refine SW.sld C hX hbl hbA i1 dL_law_218 ?_
  refine SW.aload_n C dL_law_219 rfl 0 rfl ?_
  refine SW.iload_n C dL_law_220 rfl 3 rfl ?_
  refine SW.iconst (v := (2 : Int32)) C dL_law_221 (by decide) ?_
  refine SW.iadd C dL_law_222 ?_
  refine SW.sld C hX hbl hbA i2 dL_law_223 ?_
  refine SW.callVi_pm (wn := fun u : Ob => WL cI cZ qX qS qI qJ qP qV qT qK qG qL qM qY oX wS oI oJ oP oV oT oK oG oL oM u) C (ctX10_gap l D cI cZ qY oY (jld xs (v3 + (1 : Int32))) (jld xs (v3 + (2 : Int32))) _ h) gL_law_X10_gap rfl rfl rfl pdX10_gap ⟨by decide +kernel, by decide +kernel⟩ (pm_Y _ _ _ _ _ _ _ _ _ _ _ _) (fun u => mp_Y _ _ _ _ _ _ _ _ _ _ _ _) 0 rfl rfl rfl rfl rfl (Nat.le_of_ble_eq_true rfl) dL_law_224 ⟨by decide +kernel, by decide +kernel⟩ (fun r2 u h => ?_)
  obtain ⟨wY, rfl⟩ : ∃ z, z = u := ⟨_, rfl⟩
  try dsimp only at h
  exact SW.icmp_eq (tgt := 1095) C dL_law_227 (by decide) (fun hc => kk _ _ _ _ _ _ _ _ _ _ _ _ h.2) (fun hc => absurd h.1 hc)
theorem lc_set {p : Program} {l : Launch} {e : Env} {s : State} {m : MethodId} {below : List Frame} {meth : Method} {c : Code} {D : va_G} {cI cZ : ClassId} {b L : Nat} {xs : Nat → Int32} (C : Cx p s m #[Value.ref b] meth c code 4 wsL_law RL D [(cI, .int), (cZ, .boolean)] (fun q : Nat => s.heap.size ≤ q) ret) (hX : va_X b L xs s s.heap) (hbl : b < s.heap.size) (qX qS qI qJ qP qV qT qK qG qL qM qY : Nat → Nat) (oX oS oI oJ oP oV oT oK oG oL oM oY : Ob) (v3 : Int32) (N : Ob → Ob → Ob → Ob → Ob → Ob → Ob → Ob → Ob → Ob → Ob → Ob → Prop) (kk : ∀ oX oS oI oJ oP oV oT oK oG oL oM oY : Ob, N oX oS oI oJ oP oV oT oK oG oL oM oY → SW p l e room_1 s m #[Value.ref b] below meth c (fun q : Nat => s.heap.size ≤ q) D 4 56 11255 (lw_Z below #[Value.ref b] s) (WL cI cZ qX qS qI qJ qP qV qT qK qG qL qM qY oX oS oI oJ oP oV oT oK oG oL oM oY) 1095 [(0, .ref b), (1, .ref (qX 0)), (2, .ref (qY 0)), (3, .int v3)] []) (i1 : vp_in (v3 + (1 : Int32)) L) (i2 : vp_in (v3 + (2 : Int32)) L) (h : wpX9_set oX oS (jld xs (v3 + (1 : Int32))) (jld xs (v3 + (2 : Int32))) (fun (r1 : Int32) (wS : Ob) => wpX10_set oY (jld xs (v3 + (1 : Int32))) (jld xs (v3 + (2 : Int32))) (fun (r2 : Int32) (wY : Ob) => r1 = r2 ∧ N oX wS oI oJ oP oV oT oK oG oL oM wY))) : SW p l e room_1 s m #[Value.ref b] below meth c (fun q : Nat => s.heap.size ≤ q) D 4 56 11255 (lw_Z below #[Value.ref b] s) (WL cI cZ qX qS qI qJ qP qV qT qK qG qL qM qY oX oS oI oJ oP oV oT oK oG oL oM oY) 232 [(0, .ref b), (1, .ref (qX 0)), (2, .ref (qY 0)), (3, .int v3)] [] := by
  have hbA : ¬ (fun q : Nat => s.heap.size ≤ q) b := Nat.not_le.mpr hbl
  refine SW.aload_n C dL_law_232 rfl 1 rfl ?_
  refine SW.aload_n C dL_law_233 rfl 0 rfl ?_
  refine SW.iload_n C dL_law_234 rfl 3 rfl ?_
  refine SW.iconst (v := (1 : Int32)) C dL_law_235 (by decide) ?_
  refine SW.iadd C dL_law_236 ?_
  refine SW.sld C hX hbl hbA i1 dL_law_237 ?_
  refine SW.aload_n C dL_law_238 rfl 0 rfl ?_
  refine SW.iload_n C dL_law_239 rfl 3 rfl ?_
  refine SW.iconst (v := (2 : Int32)) C dL_law_240 (by decide) ?_
  refine SW.iadd C dL_law_241 ?_
  refine SW.sld C hX hbl hbA i2 dL_law_242 ?_
  refine SW.callVi_pm (wn := fun u : Ob => WL cI cZ qX qS qI qJ qP qV qT qK qG qL qM qY oX u oI oJ oP oV oT oK oG oL oM oY) C (ctX9_set l D cI cZ qX qS qI qJ qP qV qT qK qG qL qM oX oS (jld xs (v3 + (1 : Int32))) (jld xs (v3 + (2 : Int32))) _ h) gL_law_X9_set rfl rfl rfl pdX9_set ⟨by decide +kernel, by decide +kernel⟩ (pm_XS _ _ _ _ _ _ _ _ _ _ _ _) (fun u => mp_XS _ _ _ _ _ _ _ _ _ _ _ _) 0 rfl rfl rfl rfl rfl (Nat.le_of_ble_eq_true rfl) dL_law_243 ⟨by decide +kernel, by decide +kernel⟩ (fun r1 u h => ?_)
  obtain ⟨wS, rfl⟩ : ∃ z, z = u := ⟨_, rfl⟩
  try dsimp only at h
  refine SW.aload_n C dL_law_246 rfl 2 rfl ?_
  refine SW.aload_n C dL_law_247 rfl 0 rfl ?_
  refine SW.iload_n C dL_law_248 rfl 3 rfl ?_
  refine SW.iconst (v := (1 : Int32)) C dL_law_249 (by decide) ?_
  refine SW.iadd C dL_law_250 ?_
  refine SW.sld C hX hbl hbA i1 dL_law_251 ?_
  refine SW.aload_n C dL_law_252 rfl 0 rfl ?_
  refine SW.iload_n C dL_law_253 rfl 3 rfl ?_
  refine SW.iconst (v := (2 : Int32)) C dL_law_254 (by decide) ?_
  refine SW.iadd C dL_law_255 ?_
  refine SW.sld C hX hbl hbA i2 dL_law_256 ?_
  refine SW.callVi_pm (wn := fun u : Ob => WL cI cZ qX qS qI qJ qP qV qT qK qG qL qM qY oX wS oI oJ oP oV oT oK oG oL oM u) C (ctX10_set l D cI cZ qY oY (jld xs (v3 + (1 : Int32))) (jld xs (v3 + (2 : Int32))) _ h) gL_law_X10_set rfl rfl rfl pdX10_set ⟨by decide +kernel, by decide +kernel⟩ (pm_Y _ _ _ _ _ _ _ _ _ _ _ _) (fun u => mp_Y _ _ _ _ _ _ _ _ _ _ _ _) 0 rfl rfl rfl rfl rfl (Nat.le_of_ble_eq_true rfl) dL_law_257 ⟨by decide +kernel, by decide +kernel⟩ (fun r2 u h => ?_)
  obtain ⟨wY, rfl⟩ : ∃ z, z = u := ⟨_, rfl⟩
  try dsimp only at h
  exact SW.icmp_eq (tgt := 1095) C dL_law_260 (by decide) (fun hc => kk _ _ _ _ _ _ _ _ _ _ _ _ h.2) (fun hc => absurd h.1 hc)
theorem lc_say {p : Program} {l : Launch} {e : Env} {s : State} {m : MethodId} {below : List Frame} {meth : Method} {c : Code} {D : va_G} {cI cZ : ClassId} {b L : Nat} {xs : Nat → Int32} (C : Cx p s m #[Value.ref b] meth c code 4 wsL_law RL D [(cI, .int), (cZ, .boolean)] (fun q : Nat => s.heap.size ≤ q) ret) (hX : va_X b L xs s s.heap) (hbl : b < s.heap.size) (qX qS qI qJ qP qV qT qK qG qL qM qY : Nat → Nat) (oX oS oI oJ oP oV oT oK oG oL oM oY : Ob) (v3 : Int32) (N : Ob → Ob → Ob → Ob → Ob → Ob → Ob → Ob → Ob → Ob → Ob → Ob → Prop) (kk : ∀ oX oS oI oJ oP oV oT oK oG oL oM oY : Ob, N oX oS oI oJ oP oV oT oK oG oL oM oY → SW p l e room_1 s m #[Value.ref b] below meth c (fun q : Nat => s.heap.size ≤ q) D 4 56 11255 (lw_Z below #[Value.ref b] s) (WL cI cZ qX qS qI qJ qP qV qT qK qG qL qM qY oX oS oI oJ oP oV oT oK oG oL oM oY) 1095 [(0, .ref b), (1, .ref (qX 0)), (2, .ref (qY 0)), (3, .int v3)] []) (i1 : vp_in (v3 + (1 : Int32)) L) (h : wpX9_say oX oP (jld xs (v3 + (1 : Int32))) (fun (r1 : Int32) (wP : Ob) => wpX10_say oY (jld xs (v3 + (1 : Int32))) (fun (r2 : Int32) (wY : Ob) => r1 = r2 ∧ N oX oS oI oJ wP oV oT oK oG oL oM wY))) : SW p l e room_1 s m #[Value.ref b] below meth c (fun q : Nat => s.heap.size ≤ q) D 4 56 11255 (lw_Z below #[Value.ref b] s) (WL cI cZ qX qS qI qJ qP qV qT qK qG qL qM qY oX oS oI oJ oP oV oT oK oG oL oM oY) 265 [(0, .ref b), (1, .ref (qX 0)), (2, .ref (qY 0)), (3, .int v3)] [] := by
  have hbA : ¬ (fun q : Nat => s.heap.size ≤ q) b := Nat.not_le.mpr hbl
  refine SW.aload_n C dL_law_265 rfl 1 rfl ?_
  refine SW.aload_n C dL_law_266 rfl 0 rfl ?_
  refine SW.iload_n C dL_law_267 rfl 3 rfl ?_
  refine SW.iconst (v := (1 : Int32)) C dL_law_268 (by decide) ?_
  refine SW.iadd C dL_law_269 ?_
  refine SW.sld C hX hbl hbA i1 dL_law_270 ?_
  refine SW.callVi_pm (wn := fun u : Ob => WL cI cZ qX qS qI qJ qP qV qT qK qG qL qM qY oX oS oI oJ u oV oT oK oG oL oM oY) C (ctX9_say l D cI cZ qX qS qI qJ qP qV qT qK qG qL qM oX oP (jld xs (v3 + (1 : Int32))) _ h) gL_law_X9_say rfl rfl rfl pdX9_say ⟨by decide +kernel, by decide +kernel⟩ (pm_XP _ _ _ _ _ _ _ _ _ _ _ _) (fun u => mp_XP _ _ _ _ _ _ _ _ _ _ _ _) 0 rfl rfl rfl rfl rfl (Nat.le_of_ble_eq_true rfl) dL_law_271 ⟨by decide +kernel, by decide +kernel⟩ (fun r1 u h => ?_)
  obtain ⟨wP, rfl⟩ : ∃ z, z = u := ⟨_, rfl⟩
  try dsimp only at h
  refine SW.aload_n C dL_law_274 rfl 2 rfl ?_
  refine SW.aload_n C dL_law_275 rfl 0 rfl ?_
  refine SW.iload_n C dL_law_276 rfl 3 rfl ?_
  refine SW.iconst (v := (1 : Int32)) C dL_law_277 (by decide) ?_
  refine SW.iadd C dL_law_278 ?_
  refine SW.sld C hX hbl hbA i1 dL_law_279 ?_
  refine SW.callVi_pm (wn := fun u : Ob => WL cI cZ qX qS qI qJ qP qV qT qK qG qL qM qY oX oS oI oJ wP oV oT oK oG oL oM u) C (ctX10_say l D cI cZ qY oY (jld xs (v3 + (1 : Int32))) _ h) gL_law_X10_say rfl rfl rfl pdX10_say ⟨by decide +kernel, by decide +kernel⟩ (pm_Y _ _ _ _ _ _ _ _ _ _ _ _) (fun u => mp_Y _ _ _ _ _ _ _ _ _ _ _ _) 0 rfl rfl rfl rfl rfl (Nat.le_of_ble_eq_true rfl) dL_law_280 ⟨by decide +kernel, by decide +kernel⟩ (fun r2 u h => ?_)
  obtain ⟨wY, rfl⟩ : ∃ z, z = u := ⟨_, rfl⟩
  try dsimp only at h
  exact SW.icmp_eq (tgt := 1095) C dL_law_283 (by decide) (fun hc => kk _ _ _ _ _ _ _ _ _ _ _ _ h.2) (fun hc => absurd h.1 hc)
theorem lc_wipe {p : Program} {l : Launch} {e : Env} {s : State} {m : MethodId} {below : List Frame} {meth : Method} {c : Code} {D : va_G} {cI cZ : ClassId} {b L : Nat} {xs : Nat → Int32} (C : Cx p s m #[Value.ref b] meth c code 4 wsL_law RL D [(cI, .int), (cZ, .boolean)] (fun q : Nat => s.heap.size ≤ q) ret) (hX : va_X b L xs s s.heap) (hbl : b < s.heap.size) (qX qS qI qJ qP qV qT qK qG qL qM qY : Nat → Nat) (oX oS oI oJ oP oV oT oK oG oL oM oY : Ob) (v3 : Int32) (N : Ob → Ob → Ob → Ob → Ob → Ob → Ob → Ob → Ob → Ob → Ob → Ob → Prop) (kk : ∀ oX oS oI oJ oP oV oT oK oG oL oM oY : Ob, N oX oS oI oJ oP oV oT oK oG oL oM oY → SW p l e room_1 s m #[Value.ref b] below meth c (fun q : Nat => s.heap.size ≤ q) D 4 56 11255 (lw_Z below #[Value.ref b] s) (WL cI cZ qX qS qI qJ qP qV qT qK qG qL qM qY oX oS oI oJ oP oV oT oK oG oL oM oY) 1095 [(0, .ref b), (1, .ref (qX 0)), (2, .ref (qY 0)), (3, .int v3)] []) (h : wpX9_wipe oX oP (fun (r1 : Int32) (wP : Ob) => wpX10_wipe oY (fun (r2 : Int32) (wY : Ob) => r1 = r2 ∧ N oX oS oI oJ wP oV oT oK oG oL oM wY))) : SW p l e room_1 s m #[Value.ref b] below meth c (fun q : Nat => s.heap.size ≤ q) D 4 56 11255 (lw_Z below #[Value.ref b] s) (WL cI cZ qX qS qI qJ qP qV qT qK qG qL qM qY oX oS oI oJ oP oV oT oK oG oL oM oY) 288 [(0, .ref b), (1, .ref (qX 0)), (2, .ref (qY 0)), (3, .int v3)] [] := by
  have hbA : ¬ (fun q : Nat => s.heap.size ≤ q) b := Nat.not_le.mpr hbl
  refine SW.aload_n C dL_law_288 rfl 1 rfl ?_
  refine SW.callVi_pm (wn := fun u : Ob => WL cI cZ qX qS qI qJ qP qV qT qK qG qL qM qY oX oS oI oJ u oV oT oK oG oL oM oY) C (ctX9_wipe l D cI cZ qX qS qI qJ qP qV qT qK qG qL qM oX oP _ h) gL_law_X9_wipe rfl rfl rfl pdX9_wipe ⟨by decide +kernel, by decide +kernel⟩ (pm_XP _ _ _ _ _ _ _ _ _ _ _ _) (fun u => mp_XP _ _ _ _ _ _ _ _ _ _ _ _) 0 rfl rfl rfl rfl rfl (Nat.le_of_ble_eq_true rfl) dL_law_289 ⟨by decide +kernel, by decide +kernel⟩ (fun r1 u h => ?_)
  obtain ⟨wP, rfl⟩ : ∃ z, z = u := ⟨_, rfl⟩
  try dsimp only at h
  refine SW.aload_n C dL_law_292 rfl 2 rfl ?_
  refine SW.callVi_pm (wn := fun u : Ob => WL cI cZ qX qS qI qJ qP qV qT qK qG qL qM qY oX oS oI oJ wP oV oT oK oG oL oM u) C (ctX10_wipe l D cI cZ qY oY _ h) gL_law_X10_wipe rfl rfl rfl pdX10_wipe ⟨by decide +kernel, by decide +kernel⟩ (pm_Y _ _ _ _ _ _ _ _ _ _ _ _) (fun u => mp_Y _ _ _ _ _ _ _ _ _ _ _ _) 0 rfl rfl rfl rfl rfl (Nat.le_of_ble_eq_true rfl) dL_law_293 ⟨by decide +kernel, by decide +kernel⟩ (fun r2 u h => ?_)
  obtain ⟨wY, rfl⟩ : ∃ z, z = u := ⟨_, rfl⟩
  try dsimp only at h
  exact SW.icmp_eq (tgt := 1095) C dL_law_296 (by decide) (fun hc => kk _ _ _ _ _ _ _ _ _ _ _ _ h.2) (fun hc => absurd h.1 hc)
theorem lc_fault {p : Program} {l : Launch} {e : Env} {s : State} {m : MethodId} {below : List Frame} {meth : Method} {c : Code} {D : va_G} {cI cZ : ClassId} {b L : Nat} {xs : Nat → Int32} (C : Cx p s m #[Value.ref b] meth c code 4 wsL_law RL D [(cI, .int), (cZ, .boolean)] (fun q : Nat => s.heap.size ≤ q) ret) (hX : va_X b L xs s s.heap) (hbl : b < s.heap.size) (qX qS qI qJ qP qV qT qK qG qL qM qY : Nat → Nat) (oX oS oI oJ oP oV oT oK oG oL oM oY : Ob) (v3 : Int32) (N : Ob → Ob → Ob → Ob → Ob → Ob → Ob → Ob → Ob → Ob → Ob → Ob → Prop) (kk : ∀ oX oS oI oJ oP oV oT oK oG oL oM oY : Ob, N oX oS oI oJ oP oV oT oK oG oL oM oY → SW p l e room_1 s m #[Value.ref b] below meth c (fun q : Nat => s.heap.size ≤ q) D 4 56 11255 (lw_Z below #[Value.ref b] s) (WL cI cZ qX qS qI qJ qP qV qT qK qG qL qM qY oX oS oI oJ oP oV oT oK oG oL oM oY) 1095 [(0, .ref b), (1, .ref (qX 0)), (2, .ref (qY 0)), (3, .int v3)] []) (i1 : vp_in (v3 + (1 : Int32)) L) (h : wpX9_fault oX oS oP (jld xs (v3 + (1 : Int32))) (fun (r1 : Int32) => wpX10_fault oY (jld xs (v3 + (1 : Int32))) (fun (r2 : Int32) => r1 = r2 ∧ N oX oS oI oJ oP oV oT oK oG oL oM oY))) : SW p l e room_1 s m #[Value.ref b] below meth c (fun q : Nat => s.heap.size ≤ q) D 4 56 11255 (lw_Z below #[Value.ref b] s) (WL cI cZ qX qS qI qJ qP qV qT qK qG qL qM qY oX oS oI oJ oP oV oT oK oG oL oM oY) 301 [(0, .ref b), (1, .ref (qX 0)), (2, .ref (qY 0)), (3, .int v3)] [] := by
  have hbA : ¬ (fun q : Nat => s.heap.size ≤ q) b := Nat.not_le.mpr hbl
  refine SW.aload_n C dL_law_301 rfl 1 rfl ?_
  refine SW.aload_n C dL_law_302 rfl 0 rfl ?_
  refine SW.iload_n C dL_law_303 rfl 3 rfl ?_
  refine SW.iconst (v := (1 : Int32)) C dL_law_304 (by decide) ?_
  refine SW.iadd C dL_law_305 ?_
  refine SW.sld C hX hbl hbA i1 dL_law_306 ?_
  refine SW.callVi_pm (wn := fun _ : Unit => WL cI cZ qX qS qI qJ qP qV qT qK qG qL qM qY oX oS oI oJ oP oV oT oK oG oL oM oY) C (ctX9_fault l D cI cZ qX qS qI qJ qP qV qT qK qG qL qM oX oS oP (jld xs (v3 + (1 : Int32))) _ h) gL_law_X9_fault rfl rfl rfl pdX9_fault ⟨by decide +kernel, by decide +kernel⟩ (pm_XSP _ _ _ _ _ _ _ _ _ _ _ _) (fun u => mp_XSP _ _ _ _ _ _ _ _ _ _ _ _) 0 rfl rfl rfl rfl rfl (Nat.le_of_ble_eq_true rfl) dL_law_307 ⟨by decide +kernel, by decide +kernel⟩ (fun r1 u h => ?_)
  try dsimp only at h
  refine SW.aload_n C dL_law_310 rfl 2 rfl ?_
  refine SW.aload_n C dL_law_311 rfl 0 rfl ?_
  refine SW.iload_n C dL_law_312 rfl 3 rfl ?_
  refine SW.iconst (v := (1 : Int32)) C dL_law_313 (by decide) ?_
  refine SW.iadd C dL_law_314 ?_
  refine SW.sld C hX hbl hbA i1 dL_law_315 ?_
  refine SW.callVi_pm (wn := fun _ : Unit => WL cI cZ qX qS qI qJ qP qV qT qK qG qL qM qY oX oS oI oJ oP oV oT oK oG oL oM oY) C (ctX10_fault l D cI cZ qY oY (jld xs (v3 + (1 : Int32))) _ h) gL_law_X10_fault rfl rfl rfl pdX10_fault ⟨by decide +kernel, by decide +kernel⟩ (pm_Y _ _ _ _ _ _ _ _ _ _ _ _) (fun u => mp_Y _ _ _ _ _ _ _ _ _ _ _ _) 0 rfl rfl rfl rfl rfl (Nat.le_of_ble_eq_true rfl) dL_law_316 ⟨by decide +kernel, by decide +kernel⟩ (fun r2 u h => ?_)
  try dsimp only at h
  exact SW.icmp_eq (tgt := 1095) C dL_law_319 (by decide) (fun hc => kk _ _ _ _ _ _ _ _ _ _ _ _ h.2) (fun hc => absurd h.1 hc)
theorem lc_judge {p : Program} {l : Launch} {e : Env} {s : State} {m : MethodId} {below : List Frame} {meth : Method} {c : Code} {D : va_G} {cI cZ : ClassId} {b L : Nat} {xs : Nat → Int32} (C : Cx p s m #[Value.ref b] meth c code 4 wsL_law RL D [(cI, .int), (cZ, .boolean)] (fun q : Nat => s.heap.size ≤ q) ret) (hX : va_X b L xs s s.heap) (hbl : b < s.heap.size) (qX qS qI qJ qP qV qT qK qG qL qM qY : Nat → Nat) (oX oS oI oJ oP oV oT oK oG oL oM oY : Ob) (v3 : Int32) (N : Ob → Ob → Ob → Ob → Ob → Ob → Ob → Ob → Ob → Ob → Ob → Ob → Prop) (kk : ∀ oX oS oI oJ oP oV oT oK oG oL oM oY : Ob, N oX oS oI oJ oP oV oT oK oG oL oM oY → SW p l e room_1 s m #[Value.ref b] below meth c (fun q : Nat => s.heap.size ≤ q) D 4 56 11255 (lw_Z below #[Value.ref b] s) (WL cI cZ qX qS qI qJ qP qV qT qK qG qL qM qY oX oS oI oJ oP oV oT oK oG oL oM oY) 1095 [(0, .ref b), (1, .ref (qX 0)), (2, .ref (qY 0)), (3, .int v3)] []) (i1 : vp_in (v3 + (1 : Int32)) L) (h : wpX9_judge oX oS oP oV oT (jld xs (v3 + (1 : Int32))) (fun (r1 : Int32) (wV : Ob) (wT : Ob) => wpX10_judge oY (jld xs (v3 + (1 : Int32))) (fun (r2 : Int32) (wY : Ob) => r1 = r2 ∧ N oX oS oI oJ oP wV wT oK oG oL oM wY))) : SW p l e room_1 s m #[Value.ref b] below meth c (fun q : Nat => s.heap.size ≤ q) D 4 56 11255 (lw_Z below #[Value.ref b] s) (WL cI cZ qX qS qI qJ qP qV qT qK qG qL qM qY oX oS oI oJ oP oV oT oK oG oL oM oY) 324 [(0, .ref b), (1, .ref (qX 0)), (2, .ref (qY 0)), (3, .int v3)] [] := by
  have hbA : ¬ (fun q : Nat => s.heap.size ≤ q) b := Nat.not_le.mpr hbl
  refine SW.aload_n C dL_law_324 rfl 1 rfl ?_
  refine SW.aload_n C dL_law_325 rfl 0 rfl ?_
  refine SW.iload_n C dL_law_326 rfl 3 rfl ?_
  refine SW.iconst (v := (1 : Int32)) C dL_law_327 (by decide) ?_
  refine SW.iadd C dL_law_328 ?_
  refine SW.sld C hX hbl hbA i1 dL_law_329 ?_
  refine SW.callVi_pm (wn := fun u : Ob × Ob => WL cI cZ qX qS qI qJ qP qV qT qK qG qL qM qY oX oS oI oJ oP u.1 u.2 oK oG oL oM oY) C (ctX9_judge l D cI cZ qX qS qI qJ qP qV qT qK qG qL qM oX oS oP oV oT (jld xs (v3 + (1 : Int32))) _ h) gL_law_X9_judge rfl rfl rfl pdX9_judge ⟨by decide +kernel, by decide +kernel⟩ (pm_XSPVT _ _ _ _ _ _ _ _ _ _ _ _) (fun u => mp_XSPVT _ _ _ _ _ _ _ _ _ _ _ _) 0 rfl rfl rfl rfl rfl (Nat.le_of_ble_eq_true rfl) dL_law_330 ⟨by decide +kernel, by decide +kernel⟩ (fun r1 u h => ?_)
  obtain ⟨wV, wT⟩ := u
  try dsimp only at h
  dsimp only
  refine SW.aload_n C dL_law_333 rfl 2 rfl ?_
  refine SW.aload_n C dL_law_334 rfl 0 rfl ?_
  refine SW.iload_n C dL_law_335 rfl 3 rfl ?_
  refine SW.iconst (v := (1 : Int32)) C dL_law_336 (by decide) ?_
  refine SW.iadd C dL_law_337 ?_
  refine SW.sld C hX hbl hbA i1 dL_law_338 ?_
  refine SW.callVi_pm (wn := fun u : Ob => WL cI cZ qX qS qI qJ qP qV qT qK qG qL qM qY oX oS oI oJ oP wV wT oK oG oL oM u) C (ctX10_judge l D cI cZ qY oY (jld xs (v3 + (1 : Int32))) _ h) gL_law_X10_judge rfl rfl rfl pdX10_judge ⟨by decide +kernel, by decide +kernel⟩ (pm_Y _ _ _ _ _ _ _ _ _ _ _ _) (fun u => mp_Y _ _ _ _ _ _ _ _ _ _ _ _) 0 rfl rfl rfl rfl rfl (Nat.le_of_ble_eq_true rfl) dL_law_339 ⟨by decide +kernel, by decide +kernel⟩ (fun r2 u h => ?_)
  obtain ⟨wY, rfl⟩ : ∃ z, z = u := ⟨_, rfl⟩
  try dsimp only at h
  exact SW.icmp_eq (tgt := 1095) C dL_law_342 (by decide) (fun hc => kk _ _ _ _ _ _ _ _ _ _ _ _ h.2) (fun hc => absurd h.1 hc)
theorem lc_done {p : Program} {l : Launch} {e : Env} {s : State} {m : MethodId} {below : List Frame} {meth : Method} {c : Code} {D : va_G} {cI cZ : ClassId} {b L : Nat} {xs : Nat → Int32} (C : Cx p s m #[Value.ref b] meth c code 4 wsL_law RL D [(cI, .int), (cZ, .boolean)] (fun q : Nat => s.heap.size ≤ q) ret) (hX : va_X b L xs s s.heap) (hbl : b < s.heap.size) (qX qS qI qJ qP qV qT qK qG qL qM qY : Nat → Nat) (oX oS oI oJ oP oV oT oK oG oL oM oY : Ob) (v3 : Int32) (N : Ob → Ob → Ob → Ob → Ob → Ob → Ob → Ob → Ob → Ob → Ob → Ob → Prop) (kk : ∀ oX oS oI oJ oP oV oT oK oG oL oM oY : Ob, N oX oS oI oJ oP oV oT oK oG oL oM oY → SW p l e room_1 s m #[Value.ref b] below meth c (fun q : Nat => s.heap.size ≤ q) D 4 56 11255 (lw_Z below #[Value.ref b] s) (WL cI cZ qX qS qI qJ qP qV qT qK qG qL qM qY oX oS oI oJ oP oV oT oK oG oL oM oY) 1095 [(0, .ref b), (1, .ref (qX 0)), (2, .ref (qY 0)), (3, .int v3)] []) (h : wpX9_done oX oS oP oV oT (fun (r1 : Int32) (wS : Ob) (wP : Ob) (wV : Ob) (wT : Ob) => wpX10_done oY (fun (r2 : Int32) (wY : Ob) => r1 = r2 ∧ N oX wS oI oJ wP wV wT oK oG oL oM wY))) : SW p l e room_1 s m #[Value.ref b] below meth c (fun q : Nat => s.heap.size ≤ q) D 4 56 11255 (lw_Z below #[Value.ref b] s) (WL cI cZ qX qS qI qJ qP qV qT qK qG qL qM qY oX oS oI oJ oP oV oT oK oG oL oM oY) 347 [(0, .ref b), (1, .ref (qX 0)), (2, .ref (qY 0)), (3, .int v3)] [] := by
  have hbA : ¬ (fun q : Nat => s.heap.size ≤ q) b := Nat.not_le.mpr hbl
  refine SW.aload_n C dL_law_347 rfl 1 rfl ?_
  refine SW.callVi_pm (wn := fun u : Ob × Ob × Ob × Ob => WL cI cZ qX qS qI qJ qP qV qT qK qG qL qM qY oX u.1 oI oJ u.2.1 u.2.2.1 u.2.2.2 oK oG oL oM oY) C (ctX9_done l D cI cZ qX qS qI qJ qP qV qT qK qG qL qM oX oS oP oV oT _ h) gL_law_X9_done rfl rfl rfl pdX9_done ⟨by decide +kernel, by decide +kernel⟩ (pm_XSPVT _ _ _ _ _ _ _ _ _ _ _ _) (fun u => mp_XSPVT _ _ _ _ _ _ _ _ _ _ _ _) 0 rfl rfl rfl rfl rfl (Nat.le_of_ble_eq_true rfl) dL_law_348 ⟨by decide +kernel, by decide +kernel⟩ (fun r1 u h => ?_)
  obtain ⟨wS, wP, wV, wT⟩ := u
  try dsimp only at h
  dsimp only
  refine SW.aload_n C dL_law_351 rfl 2 rfl ?_
  refine SW.callVi_pm (wn := fun u : Ob => WL cI cZ qX qS qI qJ qP qV qT qK qG qL qM qY oX wS oI oJ wP wV wT oK oG oL oM u) C (ctX10_done l D cI cZ qY oY _ h) gL_law_X10_done rfl rfl rfl pdX10_done ⟨by decide +kernel, by decide +kernel⟩ (pm_Y _ _ _ _ _ _ _ _ _ _ _ _) (fun u => mp_Y _ _ _ _ _ _ _ _ _ _ _ _) 0 rfl rfl rfl rfl rfl (Nat.le_of_ble_eq_true rfl) dL_law_352 ⟨by decide +kernel, by decide +kernel⟩ (fun r2 u h => ?_)
  obtain ⟨wY, rfl⟩ : ∃ z, z = u := ⟨_, rfl⟩
  try dsimp only at h
  exact SW.icmp_eq (tgt := 1095) C dL_law_355 (by decide) (fun hc => kk _ _ _ _ _ _ _ _ _ _ _ _ h.2) (fun hc => absurd h.1 hc)
