/-! worlds by their modules, in any order -/
theorem va_P.pm {D : va_G} {cl : List vw_C} {ws ws' : va_W} {H : Heap} (h : va_P D cl ws H) (hp : ws.Perm ws') : va_P D cl ws' H := fun k q hk => by
  obtain ⟨i, hi⟩ := List.getElem?_of_mem (hp.mem_iff.mpr (List.mem_of_getElem? hk))
  exact h i q hi
theorem va_D.nd {A : Nat → Prop} {ws : va_W} : va_D A ws ↔ (ws.map Prod.fst).Nodup ∧ ∀ q ∈ ws, A q.1 := by
  constructor
  · intro h
    refine ⟨List.pairwise_iff_getElem.mpr (fun i j hi hj hij he => ?_), fun q hq => ?_⟩
    · rw [List.length_map] at hi hj
      rw [List.getElem_map, List.getElem_map] at he
      have := h.1 i j ws[i] ws[j] (List.getElem?_eq_getElem hi) (List.getElem?_eq_getElem hj) he
      omega
    · obtain ⟨i, hi⟩ := List.getElem?_of_mem hq
      exact h.2 i q hi
  · rintro ⟨h1, h2⟩
    have h3 := List.pairwise_iff_getElem.mp h1
    refine ⟨fun i j p q hi hj he => ?_, fun k q hk => h2 q (List.mem_of_getElem? hk)⟩
    obtain ⟨li, ei⟩ := List.getElem?_eq_some_iff.mp hi
    obtain ⟨lj, ej⟩ := List.getElem?_eq_some_iff.mp hj
    have mi : i < (ws.map Prod.fst).length := by rw [List.length_map]; exact li
    have mj : j < (ws.map Prod.fst).length := by rw [List.length_map]; exact lj
    rcases Nat.lt_trichotomy i j with c | c | c
    · have := h3 i j mi mj c
      rw [List.getElem_map, List.getElem_map, ei, ej] at this
      exact absurd he this
    · exact c
    · have := h3 j i mj mi c
      rw [List.getElem_map, List.getElem_map, ei, ej] at this
      exact absurd he.symm this
theorem va_D.pm {A : Nat → Prop} {ws ws' : va_W} (h : va_D A ws) (hp : ws.Perm ws') : va_D A ws' := by
  rw [va_D.nd] at h ⊢
  exact ⟨(hp.map Prod.fst).nodup_iff.mp h.1, fun q hq => h.2 q (hp.mem_iff.mpr hq)⟩
theorem app_C {α : Type} (wc wr : List α) : (List.range wc.length).map (fun i => (wc ++ wr)[i]?) = wc.map some := by
  rw [← rg_map wc]
  refine List.map_congr_left (fun i hi => ?_)
  rw [List.getElem?_append_left (List.mem_range.mp hi)]
theorem app_R {α : Type} (wc wr : List α) : (List.range' wc.length wr.length).map (fun i => (wc ++ wr)[i]?) = wr.map some := by
  rw [← rg_map wr, List.range'_eq_map_range, List.map_map]
  refine List.map_congr_left (fun i hi => ?_)
  show (wc ++ wr)[wc.length + i]? = wr[i]?
  rw [List.getElem?_append_right (by omega), Nat.add_sub_cancel_left]
theorem app_dis (a n : Nat) : ∀ i ∈ List.range' a n, i ∉ List.range a := fun i hi hc => by
  have h1 := (List.mem_range'_1.mp hi).1
  have h2 := List.mem_range.mp hc
  omega
section
variable {p : Program} {l : Launch} {e : Env} {R : Room} {s : State} {m : MethodId} {args : Array Value} {below : List Frame} {meth : Method} {c : Code}
variable {A : Nat → Prop} {D : va_G} {nL cells slots : Nat} {Q : State → Prop} {ws ws' : va_W} {pc : Nat} {lv : List (Nat × Value)} {rest st : List Value} {cc : ByteArray} {Ts : List Cond} {own : String} {tys : List (ClassId × FieldType)} {rt : Option FieldType} {b L : Nat} {xs : Nat → Int32}
variable {y : MethodName} {wsc wst : List Cond} {rm : Room} {S : Type} {wf wn : S → va_W} {bytes : ByteArray} {maxL n index ci : Nat} {ret0 : Option FieldType} {Cn : String} {As : List Value} {wc wr : va_W} {fs : List Value} {q : vw_C}
theorem SW.pm (hp : ws.Perm ws') (k : SW p l e R s m args below meth c A D nL cells slots Q ws' pc lv st) : SW p l e R s m args below meth c A D nL cells slots Q ws pc lv st := fun H locs ls hP hD hS hl => k H locs ls (hP.pm hp) (hD.pm hp) hS hl
theorem SW.callVi_pm {post : Int32 → S → Prop} (C : Cx p s m args meth c cc nL Ts own D tys A rt) (hM : CTi l y wsc rm D tys (.ref b :: As) wc wf post) (hg : GoodIn Ts (wsV own index Cn y wsc)) (hw : wsc = Cond.code y bytes maxL ret0 :: wst) (hrc : rm.cells = 0) (hrs : rm.slots = 0) (hyd : y.cls = Cn ∧ y.cls ≠ "java/lang/invoke/MethodHandle" ∧ y.cls ≠ "java/lang/invoke/VarHandle" ∧ (parseMethodDescriptor y.desc).map (fun d => d.parameters.length) = some n) (hR : rm.frames + 1 ≤ R.frames ∧ 8 + (maxL + 11) + rm.locals ≤ R.locals) (hpm : ws.Perm (wc ++ wr)) (hO : ∀ u, (wr ++ wf u).Perm (wn u)) (q0 : Nat) (hq : wc[q0]? = some (b, .inr (ci, fs))) (hci : vwCl[ci]? = some q) (hqn : q.1 = Cn) (hn : As.length = n) (hst : st = As.reverse ++ .ref b :: rest) (hW : (rest.map fun v => v.category).sum ≤ 8) (hd : decode cc pc = .ok (.invokevirtual index, 3)) (hf : cells ≤ R.cells ∧ slots ≤ R.slots) (kk : ∀ (r : Int32) (u : S), post r u → SW p l e R s m args below meth c A D nL cells slots Q (wn u) (pc + 3) lv (.int r :: rest)) : SW p l e R s m args below meth c A D nL cells slots Q ws pc lv st := by
  refine SW.pm hpm ?_
  intro H locs ls hP hD hS hl
  subst hst
  have hK := C.2.1
  have hC := app_C wc wr
  have hRr := app_R wc wr
  have hPc : va_P D vwCl wc H := hP.sub _ (fm_of_map hC)
  have hDc : va_D (fun _ => True) wc := (hD.sub _ (rg_nd _) hC).weaken (fun _ _ _ _ => trivial)
  have hFc := va_free (wc := wc) hD hS C.2.2.1 _ hC
  refine va_calli (va_runV (As := As) (rest := rest) C.1 (hM H.size) (cwV n C.1.2.2.2.2 hg hw hrc hrs hyd hR) ⟨ctP_blind, hqn ▸ va_recv hK hPc hci hq, fun U hU hW' => ⟨rfl, by rw [hU], by rw [hU]; exact hPc, va_K.moved hW'.alike hK, hDc, va_Nw.warmM hW' C.2.2.2.2.2⟩⟩ rfl hn hl.1 rfl (lv_room hW) hd hf) hS (fun q _ h => hFc q h) hFc (fun r u t H1 locs ht hvm hw hB hz1 hk1 hS => ?_)
  obtain ⟨hP1, hD1⟩ := hB
  rw [ht] at hP1
  obtain ⟨hP, hD⟩ := va_join hP hD _ _ hC hRr (rg_nd_aux _ _) (app_dis _ _) hk1 hFc hP1 hD1
  exact kk r u hw H1 locs ls (hP.pm (hO u)) (hD.pm (hO u)) hS hl
theorem SW.callVl_pm {post : Int64 → S → Prop} (C : Cx p s m args meth c cc nL Ts own D tys A rt) (hM : CTl l y wsc rm D tys (.ref b :: As) wc wf post) (hg : GoodIn Ts (wsV own index Cn y wsc)) (hw : wsc = Cond.code y bytes maxL ret0 :: wst) (hrc : rm.cells = 0) (hrs : rm.slots = 0) (hyd : y.cls = Cn ∧ y.cls ≠ "java/lang/invoke/MethodHandle" ∧ y.cls ≠ "java/lang/invoke/VarHandle" ∧ (parseMethodDescriptor y.desc).map (fun d => d.parameters.length) = some n) (hR : rm.frames + 1 ≤ R.frames ∧ 8 + (maxL + 11) + rm.locals ≤ R.locals) (hpm : ws.Perm (wc ++ wr)) (hO : ∀ u, (wr ++ wf u).Perm (wn u)) (q0 : Nat) (hq : wc[q0]? = some (b, .inr (ci, fs))) (hci : vwCl[ci]? = some q) (hqn : q.1 = Cn) (hn : As.length = n) (hst : st = As.reverse ++ .ref b :: rest) (hW : (rest.map fun v => v.category).sum ≤ 8) (hd : decode cc pc = .ok (.invokevirtual index, 3)) (hf : cells ≤ R.cells ∧ slots ≤ R.slots) (kk : ∀ (r : Int64) (u : S), post r u → SW p l e R s m args below meth c A D nL cells slots Q (wn u) (pc + 3) lv (.long r :: rest)) : SW p l e R s m args below meth c A D nL cells slots Q ws pc lv st := by
  refine SW.pm hpm ?_
  intro H locs ls hP hD hS hl
  subst hst
  have hK := C.2.1
  have hC := app_C wc wr
  have hRr := app_R wc wr
  have hPc : va_P D vwCl wc H := hP.sub _ (fm_of_map hC)
  have hDc : va_D (fun _ => True) wc := (hD.sub _ (rg_nd _) hC).weaken (fun _ _ _ _ => trivial)
  have hFc := va_free (wc := wc) hD hS C.2.2.1 _ hC
  refine va_calll (va_runV (As := As) (rest := rest) C.1 (hM H.size) (cwV n C.1.2.2.2.2 hg hw hrc hrs hyd hR) ⟨ctP_blind, hqn ▸ va_recv hK hPc hci hq, fun U hU hW' => ⟨rfl, by rw [hU], by rw [hU]; exact hPc, va_K.moved hW'.alike hK, hDc, va_Nw.warmM hW' C.2.2.2.2.2⟩⟩ rfl hn hl.1 rfl (lv_room hW) hd hf) hS (fun q _ h => hFc q h) hFc (fun r u t H1 locs ht hvm hw hB hz1 hk1 hS => ?_)
  obtain ⟨hP1, hD1⟩ := hB
  rw [ht] at hP1
  obtain ⟨hP, hD⟩ := va_join hP hD _ _ hC hRr (rg_nd_aux _ _) (app_dis _ _) hk1 hFc hP1 hD1
  exact kk r u hw H1 locs ls (hP.pm (hO u)) (hD.pm (hO u)) hS hl
theorem SW.sld (C : Cx p s m args meth c cc nL Ts own D tys A rt) (hX : va_X b L xs s s.heap) (hbl : b < s.heap.size) (hbA : ¬ A b) {i : Int32} (hin : vp_in i L) (hd : decode cc pc = .ok (.iaload, 1)) (kk : SW p l e R s m args below meth c A D nL cells slots Q ws (pc + 1) lv (.int (jld xs i) :: st)) : SW p l e R s m args below meth c A D nL cells slots Q ws pc lv (.int i :: .ref b :: st) := fun H locs ls hP hD hS hl => va_sld C.1.1 C.1.2.1 hX hbl hbA hS hin hd (kk H locs ls hP hD hS hl)
theorem SW.slen (C : Cx p s m args meth c cc nL Ts own D tys A rt) (hX : va_X b L xs s s.heap) (hbl : b < s.heap.size) (hbA : ¬ A b) (hd : decode cc pc = .ok (.arraylength, 1)) (kk : SW p l e R s m args below meth c A D nL cells slots Q ws (pc + 1) lv (.int (Int32.ofNat L) :: st)) : SW p l e R s m args below meth c A D nL cells slots Q ws pc lv (.ref b :: st) := fun H locs ls hP hD hS hl => va_slen C.1.1 C.1.2.1 hX hbl hbA hS hd (kk H locs ls hP hD hS hl)
theorem SW.lwret (C : Cx p s m #[Value.ref b] meth c code nL Ts own D tys (fun q : Nat => s.heap.size ≤ q) ret) (hd : decode code pc = .ok (.ireturn, 1)) : SW p l e room_1 s m #[Value.ref b] below meth c (fun q : Nat => s.heap.size ≤ q) D nL 56 11255 (lw_Z below #[Value.ref b] s) ws pc lv [.int 1] := fun H locs ls hP hD hS hl => va_forget (fun q hq => hS.2.2 q hq) (lw_ret C.1.1 C.1.2.1 C.2.2.2.2.1 C.2.2.2.1 hd)
end
theorem lg_cmp_self (x : Int64) : lg_cmp x x = 0 := by unfold lg_cmp; simp
theorem pm_any (mo : List va_W) (n : Nat) (hn : mo.length = n) (is : List Nat) (h : is.Perm (List.range n)) : mo.flatten.Perm ((is.map (fun i => mo.getD i [])).flatten) := by
  subst hn
  have e : (List.range mo.length).map (fun i => mo.getD i []) = mo := by
    apply List.ext_getElem?
    intro i
    rw [List.getElem?_map]
    by_cases hi : i < mo.length
    · rw [List.getElem?_range hi, List.getElem?_eq_getElem hi]
      simp [List.getD, hi]
    · rw [List.getElem?_eq_none (by rw [List.length_range]; omega), List.getElem?_eq_none (by omega)]
      rfl
  have h1 := (h.map (fun i => mo.getD i [])).flatten
  rw [e] at h1
  exact h1.symm
theorem pm_XS (a b c d e f g h i j k l : va_W) : [a, b, c, d, e, f, g, h, i, j, k, l].flatten.Perm ((a ++ b) ++ [c, d, e, f, g, h, i, j, k, l].flatten) := by
  have h1 : [a, b, c, d, e, f, g, h, i, j, k, l].flatten.Perm [a, b, c, d, e, f, g, h, i, j, k, l].flatten := pm_any [a, b, c, d, e, f, g, h, i, j, k, l] 12 rfl [0, 1, 2, 3, 4, 5, 6, 7, 8, 9, 10, 11] (by decide)
  have h2 : [a, b, c, d, e, f, g, h, i, j, k, l].flatten = (a ++ b) ++ [c, d, e, f, g, h, i, j, k, l].flatten := by simp only [List.flatten_cons, List.flatten_nil, List.append_assoc]
  exact h1.trans (List.Perm.of_eq h2)
theorem mp_XS (a b c d e f g h i j k l : va_W) : ([c, d, e, f, g, h, i, j, k, l].flatten ++ (a ++ b)).Perm [a, b, c, d, e, f, g, h, i, j, k, l].flatten := List.perm_append_comm.trans (pm_XS a b c d e f g h i j k l).symm
theorem pm_Y (a b c d e f g h i j k l : va_W) : [a, b, c, d, e, f, g, h, i, j, k, l].flatten.Perm ((l) ++ [a, b, c, d, e, f, g, h, i, j, k].flatten) := by
  have h1 : [a, b, c, d, e, f, g, h, i, j, k, l].flatten.Perm [l, a, b, c, d, e, f, g, h, i, j, k].flatten := pm_any [a, b, c, d, e, f, g, h, i, j, k, l] 12 rfl [11, 0, 1, 2, 3, 4, 5, 6, 7, 8, 9, 10] (by decide)
  have h2 : [l, a, b, c, d, e, f, g, h, i, j, k].flatten = (l) ++ [a, b, c, d, e, f, g, h, i, j, k].flatten := by simp only [List.flatten_cons, List.flatten_nil, List.append_assoc]
  exact h1.trans (List.Perm.of_eq h2)
theorem mp_Y (a b c d e f g h i j k l : va_W) : ([a, b, c, d, e, f, g, h, i, j, k].flatten ++ (l)).Perm [a, b, c, d, e, f, g, h, i, j, k, l].flatten := List.perm_append_comm.trans (pm_Y a b c d e f g h i j k l).symm
theorem pm_XP (a b c d e f g h i j k l : va_W) : [a, b, c, d, e, f, g, h, i, j, k, l].flatten.Perm ((a ++ e) ++ [b, c, d, f, g, h, i, j, k, l].flatten) := by
  have h1 : [a, b, c, d, e, f, g, h, i, j, k, l].flatten.Perm [a, e, b, c, d, f, g, h, i, j, k, l].flatten := pm_any [a, b, c, d, e, f, g, h, i, j, k, l] 12 rfl [0, 4, 1, 2, 3, 5, 6, 7, 8, 9, 10, 11] (by decide)
  have h2 : [a, e, b, c, d, f, g, h, i, j, k, l].flatten = (a ++ e) ++ [b, c, d, f, g, h, i, j, k, l].flatten := by simp only [List.flatten_cons, List.flatten_nil, List.append_assoc]
  exact h1.trans (List.Perm.of_eq h2)
theorem mp_XP (a b c d e f g h i j k l : va_W) : ([b, c, d, f, g, h, i, j, k, l].flatten ++ (a ++ e)).Perm [a, b, c, d, e, f, g, h, i, j, k, l].flatten := List.perm_append_comm.trans (pm_XP a b c d e f g h i j k l).symm
theorem pm_XSP (a b c d e f g h i j k l : va_W) : [a, b, c, d, e, f, g, h, i, j, k, l].flatten.Perm ((a ++ b ++ e) ++ [c, d, f, g, h, i, j, k, l].flatten) := by
  have h1 : [a, b, c, d, e, f, g, h, i, j, k, l].flatten.Perm [a, b, e, c, d, f, g, h, i, j, k, l].flatten := pm_any [a, b, c, d, e, f, g, h, i, j, k, l] 12 rfl [0, 1, 4, 2, 3, 5, 6, 7, 8, 9, 10, 11] (by decide)
  have h2 : [a, b, e, c, d, f, g, h, i, j, k, l].flatten = (a ++ b ++ e) ++ [c, d, f, g, h, i, j, k, l].flatten := by simp only [List.flatten_cons, List.flatten_nil, List.append_assoc]
  exact h1.trans (List.Perm.of_eq h2)
theorem mp_XSP (a b c d e f g h i j k l : va_W) : ([c, d, f, g, h, i, j, k, l].flatten ++ (a ++ b ++ e)).Perm [a, b, c, d, e, f, g, h, i, j, k, l].flatten := List.perm_append_comm.trans (pm_XSP a b c d e f g h i j k l).symm
theorem pm_XSPVT (a b c d e f g h i j k l : va_W) : [a, b, c, d, e, f, g, h, i, j, k, l].flatten.Perm ((a ++ b ++ e ++ f ++ g) ++ [c, d, h, i, j, k, l].flatten) := by
  have h1 : [a, b, c, d, e, f, g, h, i, j, k, l].flatten.Perm [a, b, e, f, g, c, d, h, i, j, k, l].flatten := pm_any [a, b, c, d, e, f, g, h, i, j, k, l] 12 rfl [0, 1, 4, 5, 6, 2, 3, 7, 8, 9, 10, 11] (by decide)
  have h2 : [a, b, e, f, g, c, d, h, i, j, k, l].flatten = (a ++ b ++ e ++ f ++ g) ++ [c, d, h, i, j, k, l].flatten := by simp only [List.flatten_cons, List.flatten_nil, List.append_assoc]
  exact h1.trans (List.Perm.of_eq h2)
theorem mp_XSPVT (a b c d e f g h i j k l : va_W) : ([c, d, h, i, j, k, l].flatten ++ (a ++ b ++ e ++ f ++ g)).Perm [a, b, c, d, e, f, g, h, i, j, k, l].flatten := List.perm_append_comm.trans (pm_XSPVT a b c d e f g h i j k l).symm
theorem pm_XSPK (a b c d e f g h i j k l : va_W) : [a, b, c, d, e, f, g, h, i, j, k, l].flatten.Perm ((a ++ b ++ e ++ h) ++ [c, d, f, g, i, j, k, l].flatten) := by
  have h1 : [a, b, c, d, e, f, g, h, i, j, k, l].flatten.Perm [a, b, e, h, c, d, f, g, i, j, k, l].flatten := pm_any [a, b, c, d, e, f, g, h, i, j, k, l] 12 rfl [0, 1, 4, 7, 2, 3, 5, 6, 8, 9, 10, 11] (by decide)
  have h2 : [a, b, e, h, c, d, f, g, i, j, k, l].flatten = (a ++ b ++ e ++ h) ++ [c, d, f, g, i, j, k, l].flatten := by simp only [List.flatten_cons, List.flatten_nil, List.append_assoc]
  exact h1.trans (List.Perm.of_eq h2)
theorem mp_XSPK (a b c d e f g h i j k l : va_W) : ([c, d, f, g, i, j, k, l].flatten ++ (a ++ b ++ e ++ h)).Perm [a, b, c, d, e, f, g, h, i, j, k, l].flatten := List.perm_append_comm.trans (pm_XSPK a b c d e f g h i j k l).symm
theorem pm_XSG (a b c d e f g h i j k l : va_W) : [a, b, c, d, e, f, g, h, i, j, k, l].flatten.Perm ((a ++ b ++ i) ++ [c, d, e, f, g, h, j, k, l].flatten) := by
  have h1 : [a, b, c, d, e, f, g, h, i, j, k, l].flatten.Perm [a, b, i, c, d, e, f, g, h, j, k, l].flatten := pm_any [a, b, c, d, e, f, g, h, i, j, k, l] 12 rfl [0, 1, 8, 2, 3, 4, 5, 6, 7, 9, 10, 11] (by decide)
  have h2 : [a, b, i, c, d, e, f, g, h, j, k, l].flatten = (a ++ b ++ i) ++ [c, d, e, f, g, h, j, k, l].flatten := by simp only [List.flatten_cons, List.flatten_nil, List.append_assoc]
  exact h1.trans (List.Perm.of_eq h2)
theorem mp_XSG (a b c d e f g h i j k l : va_W) : ([c, d, e, f, g, h, j, k, l].flatten ++ (a ++ b ++ i)).Perm [a, b, c, d, e, f, g, h, i, j, k, l].flatten := List.perm_append_comm.trans (pm_XSG a b c d e f g h i j k l).symm
theorem pm_XSL (a b c d e f g h i j k l : va_W) : [a, b, c, d, e, f, g, h, i, j, k, l].flatten.Perm ((a ++ b ++ j) ++ [c, d, e, f, g, h, i, k, l].flatten) := by
  have h1 : [a, b, c, d, e, f, g, h, i, j, k, l].flatten.Perm [a, b, j, c, d, e, f, g, h, i, k, l].flatten := pm_any [a, b, c, d, e, f, g, h, i, j, k, l] 12 rfl [0, 1, 9, 2, 3, 4, 5, 6, 7, 8, 10, 11] (by decide)
  have h2 : [a, b, j, c, d, e, f, g, h, i, k, l].flatten = (a ++ b ++ j) ++ [c, d, e, f, g, h, i, k, l].flatten := by simp only [List.flatten_cons, List.flatten_nil, List.append_assoc]
  exact h1.trans (List.Perm.of_eq h2)
theorem mp_XSL (a b c d e f g h i j k l : va_W) : ([c, d, e, f, g, h, i, k, l].flatten ++ (a ++ b ++ j)).Perm [a, b, c, d, e, f, g, h, i, j, k, l].flatten := List.perm_append_comm.trans (pm_XSL a b c d e f g h i j k l).symm
theorem pm_X (a b c d e f g h i j k l : va_W) : [a, b, c, d, e, f, g, h, i, j, k, l].flatten.Perm ((a) ++ [b, c, d, e, f, g, h, i, j, k, l].flatten) := by
  have h1 : [a, b, c, d, e, f, g, h, i, j, k, l].flatten.Perm [a, b, c, d, e, f, g, h, i, j, k, l].flatten := pm_any [a, b, c, d, e, f, g, h, i, j, k, l] 12 rfl [0, 1, 2, 3, 4, 5, 6, 7, 8, 9, 10, 11] (by decide)
  have h2 : [a, b, c, d, e, f, g, h, i, j, k, l].flatten = (a) ++ [b, c, d, e, f, g, h, i, j, k, l].flatten := by simp only [List.flatten_cons, List.flatten_nil, List.append_assoc]
  exact h1.trans (List.Perm.of_eq h2)
theorem mp_X (a b c d e f g h i j k l : va_W) : ([b, c, d, e, f, g, h, i, j, k, l].flatten ++ (a)).Perm [a, b, c, d, e, f, g, h, i, j, k, l].flatten := List.perm_append_comm.trans (pm_X a b c d e f g h i j k l).symm
theorem pm_XSM (a b c d e f g h i j k l : va_W) : [a, b, c, d, e, f, g, h, i, j, k, l].flatten.Perm ((a ++ b ++ k) ++ [c, d, e, f, g, h, i, j, l].flatten) := by
  have h1 : [a, b, c, d, e, f, g, h, i, j, k, l].flatten.Perm [a, b, k, c, d, e, f, g, h, i, j, l].flatten := pm_any [a, b, c, d, e, f, g, h, i, j, k, l] 12 rfl [0, 1, 10, 2, 3, 4, 5, 6, 7, 8, 9, 11] (by decide)
  have h2 : [a, b, k, c, d, e, f, g, h, i, j, l].flatten = (a ++ b ++ k) ++ [c, d, e, f, g, h, i, j, l].flatten := by simp only [List.flatten_cons, List.flatten_nil, List.append_assoc]
  exact h1.trans (List.Perm.of_eq h2)
theorem mp_XSM (a b c d e f g h i j k l : va_W) : ([c, d, e, f, g, h, i, j, l].flatten ++ (a ++ b ++ k)).Perm [a, b, c, d, e, f, g, h, i, j, k, l].flatten := List.perm_append_comm.trans (pm_XSM a b c d e f g h i j k l).symm
theorem pm_XSVT (a b c d e f g h i j k l : va_W) : [a, b, c, d, e, f, g, h, i, j, k, l].flatten.Perm ((a ++ b ++ f ++ g) ++ [c, d, e, h, i, j, k, l].flatten) := by
  have h1 : [a, b, c, d, e, f, g, h, i, j, k, l].flatten.Perm [a, b, f, g, c, d, e, h, i, j, k, l].flatten := pm_any [a, b, c, d, e, f, g, h, i, j, k, l] 12 rfl [0, 1, 5, 6, 2, 3, 4, 7, 8, 9, 10, 11] (by decide)
  have h2 : [a, b, f, g, c, d, e, h, i, j, k, l].flatten = (a ++ b ++ f ++ g) ++ [c, d, e, h, i, j, k, l].flatten := by simp only [List.flatten_cons, List.flatten_nil, List.append_assoc]
  exact h1.trans (List.Perm.of_eq h2)
theorem mp_XSVT (a b c d e f g h i j k l : va_W) : ([c, d, e, h, i, j, k, l].flatten ++ (a ++ b ++ f ++ g)).Perm [a, b, c, d, e, f, g, h, i, j, k, l].flatten := List.perm_append_comm.trans (pm_XSVT a b c d e f g h i j k l).symm
theorem pm_XSIJ (a b c d e f g h i j k l : va_W) : [a, b, c, d, e, f, g, h, i, j, k, l].flatten.Perm ((a ++ b ++ c ++ d) ++ [e, f, g, h, i, j, k, l].flatten) := by
  have h1 : [a, b, c, d, e, f, g, h, i, j, k, l].flatten.Perm [a, b, c, d, e, f, g, h, i, j, k, l].flatten := pm_any [a, b, c, d, e, f, g, h, i, j, k, l] 12 rfl [0, 1, 2, 3, 4, 5, 6, 7, 8, 9, 10, 11] (by decide)
  have h2 : [a, b, c, d, e, f, g, h, i, j, k, l].flatten = (a ++ b ++ c ++ d) ++ [e, f, g, h, i, j, k, l].flatten := by simp only [List.flatten_cons, List.flatten_nil, List.append_assoc]
  exact h1.trans (List.Perm.of_eq h2)
theorem mp_XSIJ (a b c d e f g h i j k l : va_W) : ([e, f, g, h, i, j, k, l].flatten ++ (a ++ b ++ c ++ d)).Perm [a, b, c, d, e, f, g, h, i, j, k, l].flatten := List.perm_append_comm.trans (pm_XSIJ a b c d e f g h i j k l).symm
def WL (cI cZ : ClassId) (qX qS qI qJ qP qV qT qK qG qL qM qY : Nat → Nat) (oX oS oI oJ oP oV oT oK oG oL oM oY : Ob) : va_W := [w9 cI cZ qX qS qI qJ qP qV qK qG qL qM oX, w8 cI cZ qS oS, w8 cI cZ qI oI, w8 cI cZ qJ oJ, w5 cI cZ qP oP, w1 cI cZ qV qT oV, w8 cI cZ qT oT, w7 cI cZ qK oK, w3 cI cZ qG oG, w4 cI cZ qL oL, w2 cI cZ qM oM, w10 cI cZ qY oY].flatten
