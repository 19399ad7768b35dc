theorem fm_of_map {α β : Type} {f : α → Option β} : ∀ {is : List α} {w : List β}, is.map f = w.map some → is.filterMap f = w
  | [], [], _ => rfl
  | [], _ :: _, h => by simp at h
  | _ :: _, [], h => by simp at h
  | a :: is, b :: w, h => by
    simp only [List.map_cons, List.cons.injEq] at h
    rw [List.filterMap_cons, h.1]
    simp [fm_of_map h.2]
theorem rg_map {α : Type} (w : List α) : (List.range w.length).map (fun i => w[i]?) = w.map some := by
  apply List.ext_getElem?
  intro i
  simp only [List.getElem?_map, List.getElem?_range']
  by_cases h : i < w.length
  · simp [h]
  · simp [h]
theorem rg_nd_aux : ∀ (n k : Nat), va_nd (List.range' k n) = true
  | 0, _ => rfl
  | n + 1, k => by
    simp only [List.range'_succ, va_nd, rg_nd_aux n, Bool.and_true]
    simp
theorem rg_nd (n : Nat) : va_nd (List.range n) = true := by rw [List.range_eq_range']; exact rg_nd_aux n 0
section
variable {p : Program} {l : Launch} {e : Env} {R : Room} {s : State} {m : MethodId} {args : Array Value} {below : List Frame} {meth : Method} {c : Code}
variable {A : Nat → Prop} {D : va_G} {nL cells slots : Nat} {Q : State → Prop} {ws : va_W} {pc : Nat} {lv : List (Nat × Value)} {rest st : List Value} {cc : ByteArray} {Ts : List Cond} {own : String} {tys : List (ClassId × FieldType)} {rt : Option FieldType}
variable {y : MethodName} {wsc wst : List Cond} {rm : Room} {S : Type} {wf wn : S → va_W} {bytes : ByteArray} {maxL n index ci b : Nat} {ret : Option FieldType} {Cn : String} {As : List Value} {wc wr : va_W} {fs : List Value} {q : vw_C}
theorem SW.callVi_sub {post : Int32 → S → Prop} (C : Cx p s m args meth c cc nL Ts own D tys A rt) (hM : CTi l y wsc rm D tys (.ref b :: As) wc wf post) (hg : GoodIn Ts (wsV own index Cn y wsc)) (hw : wsc = Cond.code y bytes maxL ret :: wst) (hrc : rm.cells = 0) (hrs : rm.slots = 0) (hyd : y.cls = Cn ∧ y.cls ≠ "java/lang/invoke/MethodHandle" ∧ y.cls ≠ "java/lang/invoke/VarHandle" ∧ (parseMethodDescriptor y.desc).map (fun d => d.parameters.length) = some n) (hR : rm.frames + 1 ≤ R.frames ∧ 8 + (maxL + 11) + rm.locals ≤ R.locals) (isC isR isO : List Nat) (hC : isC.map (fun i => ws[i]?) = wc.map some) (hRr : isR.map (fun i => ws[i]?) = wr.map some) (hndC : va_nd isC = true) (hnd : va_nd isR = true) (hdis : ∀ i ∈ isR, i ∉ isC) (hOn : va_nd isO = true) (hO : ∀ u, isO.map (fun i => (wr ++ wf u)[i]?) = (wn u).map some) (q0 : Nat) (hq : wc[q0]? = some (b, .inr (ci, fs))) (hci : vwCl[ci]? = some q) (hqn : q.1 = Cn) (hn : As.length = n) (hst : st = As.reverse ++ .ref b :: rest) (hW : (rest.map fun v => v.category).sum ≤ 8) (hd : decode cc pc = .ok (.invokevirtual index, 3)) (hf : cells ≤ R.cells ∧ slots ≤ R.slots) (kk : ∀ (r : Int32) (u : S), post r u → SW p l e R s m args below meth c A D nL cells slots Q (wn u) (pc + 3) lv (.int r :: rest)) : SW p l e R s m args below meth c A D nL cells slots Q ws pc lv st := by
  intro H locs ls hP hD hS hl
  subst hst
  have hK := C.2.1
  have hPc : va_P D vwCl wc H := hP.sub isC (fm_of_map hC)
  have hDc : va_D (fun _ => True) wc := (hD.sub isC hndC hC).weaken (fun _ _ _ _ => trivial)
  have hFc := va_free (wc := wc) hD hS C.2.2.1 isC hC
  refine va_calli (va_runV (As := As) (rest := rest) C.1 (hM H.size) (cwV n C.1.2.2.2.2 hg hw hrc hrs hyd hR) ⟨ctP_blind, hqn ▸ va_recv hK hPc hci hq, fun U hU hW' => ⟨rfl, by rw [hU], by rw [hU]; exact hPc, va_K.moved hW'.alike hK, hDc, va_Nw.warmM hW' C.2.2.2.2.2⟩⟩ rfl hn hl.1 rfl (lv_room hW) hd hf) hS (fun q _ h => hFc q h) hFc (fun r u t H1 locs ht hvm hw hB hz1 hk1 hS => ?_)
  obtain ⟨hP1, hD1⟩ := hB
  rw [ht] at hP1
  obtain ⟨hP, hD⟩ := va_join hP hD isC isR hC hRr hnd hdis hk1 hFc hP1 hD1
  exact kk r u hw H1 locs ls (hP.sub isO (fm_of_map (hO u))) (hD.sub isO hOn (hO u)) hS hl
theorem SW.callVv_sub {post : S → Prop} (C : Cx p s m args meth c cc nL Ts own D tys A rt) (hM : CTv l y wsc rm D tys (.ref b :: As) wc wf post) (hg : GoodIn Ts (wsV own index Cn y wsc)) (hw : wsc = Cond.code y bytes maxL ret :: wst) (hrc : rm.cells = 0) (hrs : rm.slots = 0) (hyd : y.cls = Cn ∧ y.cls ≠ "java/lang/invoke/MethodHandle" ∧ y.cls ≠ "java/lang/invoke/VarHandle" ∧ (parseMethodDescriptor y.desc).map (fun d => d.parameters.length) = some n) (hR : rm.frames + 1 ≤ R.frames ∧ 8 + (maxL + 11) + rm.locals ≤ R.locals) (isC isR isO : List Nat) (hC : isC.map (fun i => ws[i]?) = wc.map some) (hRr : isR.map (fun i => ws[i]?) = wr.map some) (hndC : va_nd isC = true) (hnd : va_nd isR = true) (hdis : ∀ i ∈ isR, i ∉ isC) (hOn : va_nd isO = true) (hO : ∀ u, isO.map (fun i => (wr ++ wf u)[i]?) = (wn u).map some) (q0 : Nat) (hq : wc[q0]? = some (b, .inr (ci, fs))) (hci : vwCl[ci]? = some q) (hqn : q.1 = Cn) (hn : As.length = n) (hst : st = As.reverse ++ .ref b :: rest) (hW : (rest.map fun v => v.category).sum ≤ 8) (hd : decode cc pc = .ok (.invokevirtual index, 3)) (hf : cells ≤ R.cells ∧ slots ≤ R.slots) (kk : ∀ (u : S), post u → SW p l e R s m args below meth c A D nL cells slots Q (wn u) (pc + 3) lv (rest)) : SW p l e R s m args below meth c A D nL cells slots Q ws pc lv st := by
  intro H locs ls hP hD hS hl
  subst hst
  have hK := C.2.1
  have hPc : va_P D vwCl wc H := hP.sub isC (fm_of_map hC)
  have hDc : va_D (fun _ => True) wc := (hD.sub isC hndC hC).weaken (fun _ _ _ _ => trivial)
  have hFc := va_free (wc := wc) hD hS C.2.2.1 isC hC
  refine va_callv (va_runV (As := As) (rest := rest) C.1 (hM H.size) (cwV n C.1.2.2.2.2 hg hw hrc hrs hyd hR) ⟨ctP_blind, hqn ▸ va_recv hK hPc hci hq, fun U hU hW' => ⟨rfl, by rw [hU], by rw [hU]; exact hPc, va_K.moved hW'.alike hK, hDc, va_Nw.warmM hW' C.2.2.2.2.2⟩⟩ rfl hn hl.1 rfl (lv_room hW) hd hf) hS (fun q _ h => hFc q h) hFc (fun u t H1 locs ht hvm hw hB hz1 hk1 hS => ?_)
  obtain ⟨hP1, hD1⟩ := hB
  rw [ht] at hP1
  obtain ⟨hP, hD⟩ := va_join hP hD isC isR hC hRr hnd hdis hk1 hFc hP1 hD1
  exact kk u hw H1 locs ls (hP.sub isO (fm_of_map (hO u))) (hD.sub isO hOn (hO u)) hS hl
theorem SW.callVl_sub {post : Int64 → S → Prop} (C : Cx p s m args meth c cc nL Ts own D tys A rt) (hM : CTl l y wsc rm D tys (.ref b :: As) wc wf post) (hg : GoodIn Ts (wsV own index Cn y wsc)) (hw : wsc = Cond.code y bytes maxL ret :: wst) (hrc : rm.cells = 0) (hrs : rm.slots = 0) (hyd : y.cls = Cn ∧ y.cls ≠ "java/lang/invoke/MethodHandle" ∧ y.cls ≠ "java/lang/invoke/VarHandle" ∧ (parseMethodDescriptor y.desc).map (fun d => d.parameters.length) = some n) (hR : rm.frames + 1 ≤ R.frames ∧ 8 + (maxL + 11) + rm.locals ≤ R.locals) (isC isR isO : List Nat) (hC : isC.map (fun i => ws[i]?) = wc.map some) (hRr : isR.map (fun i => ws[i]?) = wr.map some) (hndC : va_nd isC = true) (hnd : va_nd isR = true) (hdis : ∀ i ∈ isR, i ∉ isC) (hOn : va_nd isO = true) (hO : ∀ u, isO.map (fun i => (wr ++ wf u)[i]?) = (wn u).map some) (q0 : Nat) (hq : wc[q0]? = some (b, .inr (ci, fs))) (hci : vwCl[ci]? = some q) (hqn : q.1 = Cn) (hn : As.length = n) (hst : st = As.reverse ++ .ref b :: rest) (hW : (rest.map fun v => v.category).sum ≤ 8) (hd : decode cc pc = .ok (.invokevirtual index, 3)) (hf : cells ≤ R.cells ∧ slots ≤ R.slots) (kk : ∀ (r : Int64) (u : S), post r u → SW p l e R s m args below meth c A D nL cells slots Q (wn u) (pc + 3) lv (.long r :: rest)) : SW p l e R s m args below meth c A D nL cells slots Q ws pc lv st := by
  intro H locs ls hP hD hS hl
  subst hst
  have hK := C.2.1
  have hPc : va_P D vwCl wc H := hP.sub isC (fm_of_map hC)
  have hDc : va_D (fun _ => True) wc := (hD.sub isC hndC hC).weaken (fun _ _ _ _ => trivial)
  have hFc := va_free (wc := wc) hD hS C.2.2.1 isC hC
  refine va_calll (va_runV (As := As) (rest := rest) C.1 (hM H.size) (cwV n C.1.2.2.2.2 hg hw hrc hrs hyd hR) ⟨ctP_blind, hqn ▸ va_recv hK hPc hci hq, fun U hU hW' => ⟨rfl, by rw [hU], by rw [hU]; exact hPc, va_K.moved hW'.alike hK, hDc, va_Nw.warmM hW' C.2.2.2.2.2⟩⟩ rfl hn hl.1 rfl (lv_room hW) hd hf) hS (fun q _ h => hFc q h) hFc (fun r u t H1 locs ht hvm hw hB hz1 hk1 hS => ?_)
  obtain ⟨hP1, hD1⟩ := hB
  rw [ht] at hP1
  obtain ⟨hP, hD⟩ := va_join hP hD isC isR hC hRr hnd hdis hk1 hFc hP1 hD1
  exact kk r u hw H1 locs ls (hP.sub isO (fm_of_map (hO u))) (hD.sub isO hOn (hO u)) hS hl
theorem SW.callVi_same {post : Int32 → S → Prop} (C : Cx p s m args meth c cc nL Ts own D tys A rt) (hM : CTi l y wsc rm D tys (.ref b :: As) ws wf post) (hg : GoodIn Ts (wsV own index Cn y wsc)) (hw : wsc = Cond.code y bytes maxL ret :: wst) (hrc : rm.cells = 0) (hrs : rm.slots = 0) (hyd : y.cls = Cn ∧ y.cls ≠ "java/lang/invoke/MethodHandle" ∧ y.cls ≠ "java/lang/invoke/VarHandle" ∧ (parseMethodDescriptor y.desc).map (fun d => d.parameters.length) = some n) (hR : rm.frames + 1 ≤ R.frames ∧ 8 + (maxL + 11) + rm.locals ≤ R.locals) (q0 : Nat) (hq : ws[q0]? = some (b, .inr (ci, fs))) (hci : vwCl[ci]? = some q) (hqn : q.1 = Cn) (hn : As.length = n) (hst : st = As.reverse ++ .ref b :: rest) (hW : (rest.map fun v => v.category).sum ≤ 8) (hd : decode cc pc = .ok (.invokevirtual index, 3)) (hf : cells ≤ R.cells ∧ slots ≤ R.slots) (kk : ∀ (r : Int32) (u : S), post r u → SW p l e R s m args below meth c A D nL cells slots Q (wf u) (pc + 3) lv (.int r :: rest)) : SW p l e R s m args below meth c A D nL cells slots Q ws pc lv st := by
  intro H locs ls hP hD hS hl
  subst hst
  have hK := C.2.1
  have hPc : va_P D vwCl ws H := hP
  have hDc : va_D (fun _ => True) ws := hD.weaken (fun _ _ _ _ => trivial)
  have hFc := va_free (wc := ws) hD hS C.2.2.1 (List.range ws.length) (rg_map ws)
  refine va_calli (va_runV (As := As) (rest := rest) C.1 (hM H.size) (cwV n C.1.2.2.2.2 hg hw hrc hrs hyd hR) ⟨ctP_blind, hqn ▸ va_recv hK hPc hci hq, fun U hU hW' => ⟨rfl, by rw [hU], by rw [hU]; exact hPc, va_K.moved hW'.alike hK, hDc, va_Nw.warmM hW' C.2.2.2.2.2⟩⟩ rfl hn hl.1 rfl (lv_room hW) hd hf) hS (fun q _ h => hFc q h) hFc (fun r u t H1 locs ht hvm hw hB hz1 hk1 hS => ?_)
  obtain ⟨hP1, hD1⟩ := hB
  rw [ht] at hP1
  obtain ⟨hP, hD⟩ := va_join (wr := []) hP hD (List.range ws.length) [] (rg_map ws) rfl rfl (fun i h => by cases h) hk1 hFc hP1 hD1
  exact kk r u hw H1 locs ls hP hD hS hl
theorem SW.callVv_same {post : S → Prop} (C : Cx p s m args meth c cc nL Ts own D tys A rt) (hM : CTv l y wsc rm D tys (.ref b :: As) ws wf post) (hg : GoodIn Ts (wsV own index Cn y wsc)) (hw : wsc = Cond.code y bytes maxL ret :: wst) (hrc : rm.cells = 0) (hrs : rm.slots = 0) (hyd : y.cls = Cn ∧ y.cls ≠ "java/lang/invoke/MethodHandle" ∧ y.cls ≠ "java/lang/invoke/VarHandle" ∧ (parseMethodDescriptor y.desc).map (fun d => d.parameters.length) = some n) (hR : rm.frames + 1 ≤ R.frames ∧ 8 + (maxL + 11) + rm.locals ≤ R.locals) (q0 : Nat) (hq : ws[q0]? = some (b, .inr (ci, fs))) (hci : vwCl[ci]? = some q) (hqn : q.1 = Cn) (hn : As.length = n) (hst : st = As.reverse ++ .ref b :: rest) (hW : (rest.map fun v => v.category).sum ≤ 8) (hd : decode cc pc = .ok (.invokevirtual index, 3)) (hf : cells ≤ R.cells ∧ slots ≤ R.slots) (kk : ∀ (u : S), post u → SW p l e R s m args below meth c A D nL cells slots Q (wf u) (pc + 3) lv (rest)) : SW p l e R s m args below meth c A D nL cells slots Q ws pc lv st := by
  intro H locs ls hP hD hS hl
  subst hst
  have hK := C.2.1
  have hPc : va_P D vwCl ws H := hP
  have hDc : va_D (fun _ => True) ws := hD.weaken (fun _ _ _ _ => trivial)
  have hFc := va_free (wc := ws) hD hS C.2.2.1 (List.range ws.length) (rg_map ws)
  refine va_callv (va_runV (As := As) (rest := rest) C.1 (hM H.size) (cwV n C.1.2.2.2.2 hg hw hrc hrs hyd hR) ⟨ctP_blind, hqn ▸ va_recv hK hPc hci hq, fun U hU hW' => ⟨rfl, by rw [hU], by rw [hU]; exact hPc, va_K.moved hW'.alike hK, hDc, va_Nw.warmM hW' C.2.2.2.2.2⟩⟩ rfl hn hl.1 rfl (lv_room hW) hd hf) hS (fun q _ h => hFc q h) hFc (fun u t H1 locs ht hvm hw hB hz1 hk1 hS => ?_)
  obtain ⟨hP1, hD1⟩ := hB
  rw [ht] at hP1
  obtain ⟨hP, hD⟩ := va_join (wr := []) hP hD (List.range ws.length) [] (rg_map ws) rfl rfl (fun i h => by cases h) hk1 hFc hP1 hD1
  exact kk u hw H1 locs ls hP hD hS hl
theorem SW.callVl_same {post : Int64 → S → Prop} (C : Cx p s m args meth c cc nL Ts own D tys A rt) (hM : CTl l y wsc rm D tys (.ref b :: As) ws wf post) (hg : GoodIn Ts (wsV own index Cn y wsc)) (hw : wsc = Cond.code y bytes maxL ret :: wst) (hrc : rm.cells = 0) (hrs : rm.slots = 0) (hyd : y.cls = Cn ∧ y.cls ≠ "java/lang/invoke/MethodHandle" ∧ y.cls ≠ "java/lang/invoke/VarHandle" ∧ (parseMethodDescriptor y.desc).map (fun d => d.parameters.length) = some n) (hR : rm.frames + 1 ≤ R.frames ∧ 8 + (maxL + 11) + rm.locals ≤ R.locals) (q0 : Nat) (hq : ws[q0]? = some (b, .inr (ci, fs))) (hci : vwCl[ci]? = some q) (hqn : q.1 = Cn) (hn : As.length = n) (hst : st = As.reverse ++ .ref b :: rest) (hW : (rest.map fun v => v.category).sum ≤ 8) (hd : decode cc pc = .ok (.invokevirtual index, 3)) (hf : cells ≤ R.cells ∧ slots ≤ R.slots) (kk : ∀ (r : Int64) (u : S), post r u → SW p l e R s m args below meth c A D nL cells slots Q (wf u) (pc + 3) lv (.long r :: rest)) : SW p l e R s m args below meth c A D nL cells slots Q ws pc lv st := by
  intro H locs ls hP hD hS hl
  subst hst
  have hK := C.2.1
  have hPc : va_P D vwCl ws H := hP
  have hDc : va_D (fun _ => True) ws := hD.weaken (fun _ _ _ _ => trivial)
  have hFc := va_free (wc := ws) hD hS C.2.2.1 (List.range ws.length) (rg_map ws)
  refine va_calll (va_runV (As := As) (rest := rest) C.1 (hM H.size) (cwV n C.1.2.2.2.2 hg hw hrc hrs hyd hR) ⟨ctP_blind, hqn ▸ va_recv hK hPc hci hq, fun U hU hW' => ⟨rfl, by rw [hU], by rw [hU]; exact hPc, va_K.moved hW'.alike hK, hDc, va_Nw.warmM hW' C.2.2.2.2.2⟩⟩ rfl hn hl.1 rfl (lv_room hW) hd hf) hS (fun q _ h => hFc q h) hFc (fun r u t H1 locs ht hvm hw hB hz1 hk1 hS => ?_)
  obtain ⟨hP1, hD1⟩ := hB
  rw [ht] at hP1
  obtain ⟨hP, hD⟩ := va_join (wr := []) hP hD (List.range ws.length) [] (rg_map ws) rfl rfl (fun i h => by cases h) hk1 hFc hP1 hD1
  exact kk r u hw H1 locs ls hP hD hS hl
theorem SW.callSi_sub {post : Int32 → S → Prop} (C : Cx p s m args meth c cc nL Ts own D tys A rt) (hM : CTi l y wsc rm D tys As wc wf post) (hg : GoodIn Ts (va_wsS own index y wsc)) (hw : wsc = Cond.code y bytes maxL ret :: wst) (hrc : rm.cells = 0) (hrs : rm.slots = 0) (hyd : y.cls ≠ "java/lang/invoke/MethodHandle" ∧ y.cls ≠ "java/lang/invoke/VarHandle" ∧ (parseMethodDescriptor y.desc).map (fun d => d.parameters.length) = some n) (hR : rm.frames + 1 ≤ R.frames ∧ 8 + (maxL + 11) + rm.locals ≤ R.locals) (isC isR isO : List Nat) (hC : isC.map (fun i => ws[i]?) = wc.map some) (hRr : isR.map (fun i => ws[i]?) = wr.map some) (hndC : va_nd isC = true) (hnd : va_nd isR = true) (hdis : ∀ i ∈ isR, i ∉ isC) (hOn : va_nd isO = true) (hO : ∀ u, isO.map (fun i => (wr ++ wf u)[i]?) = (wn u).map some) (hn : As.length = n) (hst : st = As.reverse ++ rest) (hW : (rest.map fun v => v.category).sum ≤ 8) (hd : decode cc pc = .ok (.invokestatic index, 3)) (hf : cells ≤ R.cells ∧ slots ≤ R.slots) (kk : ∀ (r : Int32) (u : S), post r u → SW p l e R s m args below meth c A D nL cells slots Q (wn u) (pc + 3) lv (.int r :: rest)) : SW p l e R s m args below meth c A D nL cells slots Q ws pc lv st := by
  intro H locs ls hP hD hS hl
  subst hst
  have hK := C.2.1
  have hPc : va_P D vwCl wc H := hP.sub isC (fm_of_map hC)
  have hDc : va_D (fun _ => True) wc := (hD.sub isC hndC hC).weaken (fun _ _ _ _ => trivial)
  have hFc := va_free (wc := wc) hD hS C.2.2.1 isC hC
  refine va_calli (va_runS (As := As) (rest := rest) C.1 (hM H.size) (va_cwS n C.1.2.2.2.2 hg hw hrc hrs hyd hR) ⟨ctP_blind, fun U hU hW' => ⟨rfl, by rw [hU], by rw [hU]; exact hPc, va_K.moved hW'.alike hK, hDc, va_Nw.warmM hW' C.2.2.2.2.2⟩⟩ rfl hn hl.1 rfl (lv_room hW) hd hf) hS (fun q _ h => hFc q h) hFc (fun r u t H1 locs ht hvm hw hB hz1 hk1 hS => ?_)
  obtain ⟨hP1, hD1⟩ := hB
  rw [ht] at hP1
  obtain ⟨hP, hD⟩ := va_join hP hD isC isR hC hRr hnd hdis hk1 hFc hP1 hD1
  exact kk r u hw H1 locs ls (hP.sub isO (fm_of_map (hO u))) (hD.sub isO hOn (hO u)) hS hl
theorem SW.callSl_sub {post : Int64 → S → Prop} (C : Cx p s m args meth c cc nL Ts own D tys A rt) (hM : CTl l y wsc rm D tys As wc wf post) (hg : GoodIn Ts (va_wsS own index y wsc)) (hw : wsc = Cond.code y bytes maxL ret :: wst) (hrc : rm.cells = 0) (hrs : rm.slots = 0) (hyd : y.cls ≠ "java/lang/invoke/MethodHandle" ∧ y.cls ≠ "java/lang/invoke/VarHandle" ∧ (parseMethodDescriptor y.desc).map (fun d => d.parameters.length) = some n) (hR : rm.frames + 1 ≤ R.frames ∧ 8 + (maxL + 11) + rm.locals ≤ R.locals) (isC isR isO : List Nat) (hC : isC.map (fun i => ws[i]?) = wc.map some) (hRr : isR.map (fun i => ws[i]?) = wr.map some) (hndC : va_nd isC = true) (hnd : va_nd isR = true) (hdis : ∀ i ∈ isR, i ∉ isC) (hOn : va_nd isO = true) (hO : ∀ u, isO.map (fun i => (wr ++ wf u)[i]?) = (wn u).map some) (hn : As.length = n) (hst : st = As.reverse ++ rest) (hW : (rest.map fun v => v.category).sum ≤ 8) (hd : decode cc pc = .ok (.invokestatic index, 3)) (hf : cells ≤ R.cells ∧ slots ≤ R.slots) (kk : ∀ (r : Int64) (u : S), post r u → SW p l e R s m args below meth c A D nL cells slots Q (wn u) (pc + 3) lv (.long r :: rest)) : SW p l e R s m args below meth c A D nL cells slots Q ws pc lv st := by
  intro H locs ls hP hD hS hl
  subst hst
  have hK := C.2.1
  have hPc : va_P D vwCl wc H := hP.sub isC (fm_of_map hC)
  have hDc : va_D (fun _ => True) wc := (hD.sub isC hndC hC).weaken (fun _ _ _ _ => trivial)
  have hFc := va_free (wc := wc) hD hS C.2.2.1 isC hC
  refine va_calll (va_runS (As := As) (rest := rest) C.1 (hM H.size) (va_cwS n C.1.2.2.2.2 hg hw hrc hrs hyd hR) ⟨ctP_blind, fun U hU hW' => ⟨rfl, by rw [hU], by rw [hU]; exact hPc, va_K.moved hW'.alike hK, hDc, va_Nw.warmM hW' C.2.2.2.2.2⟩⟩ rfl hn hl.1 rfl (lv_room hW) hd hf) hS (fun q _ h => hFc q h) hFc (fun r u t H1 locs ht hvm hw hB hz1 hk1 hS => ?_)
  obtain ⟨hP1, hD1⟩ := hB
  rw [ht] at hP1
  obtain ⟨hP, hD⟩ := va_join hP hD isC isR hC hRr hnd hdis hk1 hFc hP1 hD1
  exact kk r u hw H1 locs ls (hP.sub isO (fm_of_map (hO u))) (hD.sub isO hOn (hO u)) hS hl
theorem SW.callSi_pure {post : Int32 → S → Prop} (C : Cx p s m args meth c cc nL Ts own D tys A rt) (hM : CTi l y wsc rm D tys As [] (fun _ : S => []) post) (hg : GoodIn Ts (va_wsS own index y wsc)) (hw : wsc = Cond.code y bytes maxL ret :: wst) (hrc : rm.cells = 0) (hrs : rm.slots = 0) (hyd : y.cls ≠ "java/lang/invoke/MethodHandle" ∧ y.cls ≠ "java/lang/invoke/VarHandle" ∧ (parseMethodDescriptor y.desc).map (fun d => d.parameters.length) = some n) (hR : rm.frames + 1 ≤ R.frames ∧ 8 + (maxL + 11) + rm.locals ≤ R.locals) (hn : As.length = n) (hst : st = As.reverse ++ rest) (hW : (rest.map fun v => v.category).sum ≤ 8) (hd : decode cc pc = .ok (.invokestatic index, 3)) (hf : cells ≤ R.cells ∧ slots ≤ R.slots) (kk : ∀ (r : Int32) (u : S), post r u → SW p l e R s m args below meth c A D nL cells slots Q ws (pc + 3) lv (.int r :: rest)) : SW p l e R s m args below meth c A D nL cells slots Q ws pc lv st := by
  intro H locs ls hP hD hS hl
  subst hst
  have hK := C.2.1
  have hPc : va_P D vwCl [] H := fun k q h => by simp at h
  have hDc : va_D (fun _ => True) [] := ⟨fun i j p q h => by simp at h, fun k q h => by simp at h⟩
  have hFc := va_free (wc := []) hD hS C.2.2.1 [] rfl
  refine va_calli (va_runS (As := As) (rest := rest) C.1 (hM H.size) (va_cwS n C.1.2.2.2.2 hg hw hrc hrs hyd hR) ⟨ctP_blind, fun U hU hW' => ⟨rfl, by rw [hU], by rw [hU]; exact hPc, va_K.moved hW'.alike hK, hDc, va_Nw.warmM hW' C.2.2.2.2.2⟩⟩ rfl hn hl.1 rfl (lv_room hW) hd hf) hS (fun q _ h => hFc q h) hFc (fun r u t H1 locs ht hvm hw hB hz1 hk1 hS => ?_)
  obtain ⟨hP1, hD1⟩ := hB
  rw [ht] at hP1
  obtain ⟨hP, hD⟩ := va_join (wr := ws) hP hD [] (List.range ws.length) rfl (rg_map ws) (rg_nd _) (fun i _ h => by cases h) hk1 hFc hP1 hD1
  rw [List.append_nil] at hP hD
  exact kk r u hw H1 locs ls hP hD hS hl
theorem SW.callSl_pure {post : Int64 → S → Prop} (C : Cx p s m args meth c cc nL Ts own D tys A rt) (hM : CTl l y wsc rm D tys As [] (fun _ : S => []) post) (hg : GoodIn Ts (va_wsS own index y wsc)) (hw : wsc = Cond.code y bytes maxL ret :: wst) (hrc : rm.cells = 0) (hrs : rm.slots = 0) (hyd : y.cls ≠ "java/lang/invoke/MethodHandle" ∧ y.cls ≠ "java/lang/invoke/VarHandle" ∧ (parseMethodDescriptor y.desc).map (fun d => d.parameters.length) = some n) (hR : rm.frames + 1 ≤ R.frames ∧ 8 + (maxL + 11) + rm.locals ≤ R.locals) (hn : As.length = n) (hst : st = As.reverse ++ rest) (hW : (rest.map fun v => v.category).sum ≤ 8) (hd : decode cc pc = .ok (.invokestatic index, 3)) (hf : cells ≤ R.cells ∧ slots ≤ R.slots) (kk : ∀ (r : Int64) (u : S), post r u → SW p l e R s m args below meth c A D nL cells slots Q ws (pc + 3) lv (.long r :: rest)) : SW p l e R s m args below meth c A D nL cells slots Q ws pc lv st := by
  intro H locs ls hP hD hS hl
  subst hst
  have hK := C.2.1
  have hPc : va_P D vwCl [] H := fun k q h => by simp at h
  have hDc : va_D (fun _ => True) [] := ⟨fun i j p q h => by simp at h, fun k q h => by simp at h⟩
  have hFc := va_free (wc := []) hD hS C.2.2.1 [] rfl
  refine va_calll (va_runS (As := As) (rest := rest) C.1 (hM H.size) (va_cwS n C.1.2.2.2.2 hg hw hrc hrs hyd hR) ⟨ctP_blind, fun U hU hW' => ⟨rfl, by rw [hU], by rw [hU]; exact hPc, va_K.moved hW'.alike hK, hDc, va_Nw.warmM hW' C.2.2.2.2.2⟩⟩ rfl hn hl.1 rfl (lv_room hW) hd hf) hS (fun q _ h => hFc q h) hFc (fun r u t H1 locs ht hvm hw hB hz1 hk1 hS => ?_)
  obtain ⟨hP1, hD1⟩ := hB
  rw [ht] at hP1
  obtain ⟨hP, hD⟩ := va_join (wr := ws) hP hD [] (List.range ws.length) rfl (rg_map ws) (rg_nd _) (fun i _ h => by cases h) hk1 hFc hP1 hD1
  rw [List.append_nil] at hP hD
  exact kk r u hw H1 locs ls hP hD hS hl
theorem SW.callNl_pure {post : Int64 → S → Prop} (C : Cx p s m args meth c cc nL Ts own D tys A rt) (hM : CTl l y wsc rm D tys As [] (fun _ : S => []) post) (hg : GoodIn Ts wsc) (hni : nestW = .methodLinkNest own index y RX9) (hi1 : Cond.initialized y.cls ∈ Ts) (hi2 : Cond.static y ∈ Ts) (hw : wsc = Cond.code y bytes maxL ret :: wst) (hrc : rm.cells = 0) (hrs : rm.slots = 0) (hyd : y.cls ≠ "java/lang/invoke/MethodHandle" ∧ y.cls ≠ "java/lang/invoke/VarHandle" ∧ (parseMethodDescriptor y.desc).map (fun d => d.parameters.length) = some n) (hR : rm.frames + 1 ≤ R.frames ∧ 8 + (maxL + 11) + rm.locals ≤ R.locals) (hn : As.length = n) (hst : st = As.reverse ++ rest) (hW : (rest.map fun v => v.category).sum ≤ 8) (hd : decode cc pc = .ok (.invokestatic index, 3)) (hf : cells ≤ R.cells ∧ slots ≤ R.slots) (kk : ∀ (r : Int64) (u : S), post r u → SW p l e R s m args below meth c A D nL cells slots Q ws (pc + 3) lv (.long r :: rest)) : SW p l e R s m args below meth c A D nL cells slots Q ws pc lv st := by
  intro H locs ls hP hD hS hl
  subst hst
  have hK := C.2.1
  have hPc : va_P D vwCl [] H := fun k q h => by simp at h
  have hDc : va_D (fun _ => True) [] := ⟨fun i j p q h => by simp at h, fun k q h => by simp at h⟩
  have hFc := va_free (wc := []) hD hS C.2.2.1 [] rfl
  refine va_calll (va_runSN (As := As) (rest := rest) C.1 (hM H.size) ⟨va_cnB n C.1.2.2.2.2 hg hw hrc hrs (hni ▸ C.2.2.2.2.2) (C.1.2.2.2.2 _ hi1) hyd hR, C.1.2.2.2.2 _ hi2, trivial⟩ ⟨ctP_blind, fun U hU hW' => ⟨rfl, by rw [hU], by rw [hU]; exact hPc, va_K.moved hW'.alike hK, hDc, va_Nw.warmM hW' C.2.2.2.2.2⟩⟩ rfl hn hl.1 rfl (lv_room hW) hd hf) hS (fun q _ h => hFc q h) hFc (fun r u t H1 locs ht hvm hw hB hz1 hk1 hS => ?_)
  obtain ⟨hP1, hD1⟩ := hB
  rw [ht] at hP1
  obtain ⟨hP, hD⟩ := va_join (wr := ws) hP hD [] (List.range ws.length) rfl (rg_map ws) (rg_nd _) (fun i _ h => by cases h) hk1 hFc hP1 hD1
  rw [List.append_nil] at hP hD
  exact kk r u hw H1 locs ls hP hD hS hl
end
