/-! the start: both constructors, the first state -/
theorem in8 {post : (Nat → Ob) → Prop} (hp : ∀ s', StS s' (freshA 6 4 1) → post (obs [s'])) : wpX8_init post := by
  unfold wpX8_init
  exact sp8_beginAnew (n := 6) (li := 4) (re := 1) rfl rfl hp
theorem in9 : wpX9_init (fun u => StS (u 1) (freshA 6 4 1) ∧ u 0 0 3 = 0 ∧ u 0 0 4 = 0 ∧ u 4 0 0 = 0) := by
  unfold wpX9_init wpX1_init wpX5_init wpX7_init wpX3_init wpX4_init wpX2_init
  exact in8 (fun s1 h1 => in8 (fun s2 _ => in8 (fun s3 _ => in8 (fun s4 _ => ⟨h1, rfl, rfl, rfl⟩))))
theorem in10 : wpX10_init (fun u => YS (u 0) (freshA 6 4 1) ∧ u 0 0 10 = 0 ∧ u 0 11 0 = 0 ∧ u 0 11 1 = 0) := by
  unfold wpX10_init
  exact sp10_clear (n := 6) (li := 4) (re := 1) rfl rfl rfl (fun y' h1 h2 => ⟨h1, h2.2.2.2.trans rfl, (congrFun h2.2.2.1 0).trans rfl, (congrFun h2.2.2.1 1).trans rfl⟩)
theorem in_rr {x s i j p y : Ob} (hs : StS s (freshA 6 4 1)) (h3 : x 0 3 = 0) (h4 : x 0 4 = 0) (hp : p 0 0 = 0) (hy : YS y (freshA 6 4 1)) (h10 : y 0 10 = 0) (h110 : y 11 0 = 0) (h111 : y 11 1 = 0) : RR x s i j p y := by
  obtain ⟨f1, f2, f3⟩ := fresh_own (n := 6) (li := 4) (re := 1) (by decide) (by decide) (by decide)
  exact ⟨⟨_, hs, hy, f1, f2, f3⟩, ⟨(0, fun _ => 0), ⟨hp, fun k hk => absurd hk (Nat.not_lt_zero _)⟩, ⟨h10, fun k hk => absurd hk (Nat.not_lt_zero _)⟩, Nat.zero_le _, fun k hk => absurd hk (Nat.not_lt_zero _)⟩, Or.inl ⟨h3, h110⟩, Or.inl ⟨h4, h111⟩⟩
theorem flat12 (a b c d e f g h i j k l : va_W) : a ++ b ++ c ++ d ++ e ++ f ++ g ++ h ++ i ++ j ++ k ++ l = [a, b, c, d, e, f, g, h, i, j, k, l].flatten := by simp only [List.flatten_cons, List.flatten_nil, List.append_nil, List.append_assoc]
section
variable {p : Program} {l : Launch} {e : Env} {R : Room} {s : State} {m : MethodId} {args : Array Value} {below : List Frame} {meth : Method} {c : Code}
variable {A : Nat → Prop} {D : va_G} {nL cells slots : Nat} {Q : State → Prop} {ws : va_W} {pc : Nat} {lv : List (Nat × Value)} {rest st : List Value} {cc : ByteArray} {Ts : List Cond} {own : String} {tys : List (ClassId × FieldType)} {rt : Option FieldType}
variable {y : MethodName} {wsc wst : List Cond} {rm : Room} {S : Type} {wf wn : S → va_W} {bytes : ByteArray} {maxL n index b mc ms : Nat} {As : List Value} {wc wr : va_W}
theorem SW.callI_pm {post : S → Prop} (C : Cx p s m args meth c cc nL Ts own D tys A rt) (hM : CTn l y wsc rm D tys (.ref b :: As) wc wf post mc ms) (hg : GoodIn Ts wsc) (hw : wsc = Cond.code y bytes maxL none :: wst) (hrc : rm.cells = mc) (hrs : rm.slots = ms) (hini : Cond.initialized y.cls ∈ Ts) (hml : Cond.methodLink own index y ∈ Ts) (him : Cond.instanceMethod y ∈ Ts) (hyn : y.name = "<init>") (hyd : y.cls ≠ "java/lang/invoke/MethodHandle" ∧ y.cls ≠ "java/lang/invoke/VarHandle" ∧ (parseMethodDescriptor y.desc).map (fun d => d.parameters.length) = some n) (hR : rm.frames + 1 ≤ R.frames ∧ 8 + (maxL + 11) + rm.locals ≤ R.locals) (hpm : ws.Perm (wc ++ wr)) (hO : ∀ u, (wr ++ wf u).Perm (wn u)) (hn : As.length = n) (hst : st = As.reverse ++ .ref b :: rest) (hW : (rest.map fun v => v.category).sum ≤ 8) (hd : decode cc pc = .ok (.invokespecial index, 3)) (hf : cells + mc ≤ R.cells ∧ slots + ms ≤ R.slots) (kk : ∀ (u : S), post u → SW p l e R s m args below meth c A D nL (cells + mc) (slots + ms) Q (wn u) (pc + 3) lv (rest)) : SW p l e R s m args below meth c A D nL cells slots Q ws pc lv st := by
  refine SW.pm hpm ?_
  intro H locs ls hP hD hS hl
  subst hst
  have hK := C.2.1
  have hC := app_C wc wr
  have hRr := app_R wc wr
  have hPc : va_P D vwCl wc H := hP.sub _ (fm_of_map hC)
  have hDc : va_D (fun _ => True) wc := (hD.sub _ (rg_nd _) hC).weaken (fun _ _ _ _ => trivial)
  have hFc := va_free (wc := wc) hD hS C.2.2.1 _ hC
  refine va_callv (va_runI (As := As) (rest := rest) C.1 (hM H.size) (cwI n C.1.2.2.2.2 hg hw hrc hrs (C.1.2.2.2.2 _ hini) (C.1.2.2.2.2 _ hml) (C.1.2.2.2.2 _ him) hyn hyd hR) ⟨ctP_blind, fun U hU hW' => ⟨rfl, by rw [hU], by rw [hU]; exact hPc, va_K.moved hW'.alike hK, hDc, va_Nw.warmM hW' C.2.2.2.2.2⟩⟩ rfl hn hl.1 rfl (lv_room hW) hd hf) hS (fun q _ h => hFc q h) hFc (fun u t H1 locs ht hvm hw hB hz1 hk1 hS => ?_)
  obtain ⟨hP1, hD1⟩ := hB
  rw [ht] at hP1
  obtain ⟨hP, hD⟩ := va_join hP hD _ _ hC hRr (rg_nd_aux _ _) (app_dis _ _) hk1 hFc hP1 hD1
  exact kk u hw H1 locs ls (hP.pm (hO u)) (hD.pm (hO u)) hS hl
end
set_option maxHeartbeats 4000000 in
set_option maxRecDepth 100000 in
theorem start_walk {p : Program} {l : Launch} {e : Env} {s : State} {m : MethodId} {below : List Frame} {meth : Method} {c : Code} {D : va_G} {cI cZ : ClassId} {b L : Nat} {xs : Nat → Int32} (C : Cx p s m #[Value.ref b] meth c code 4 wsL_law RL D [(cI, .int), (cZ, .boolean)] (fun q : Nat => s.heap.size ≤ q) ret) (hX : va_X b L xs s s.heap) (hbl : b < s.heap.size) (hL : L ≤ 384) : SW p l e room_1 s m #[Value.ref b] below meth c (fun q : Nat => s.heap.size ≤ q) D 4 0 0 (lw_Z below #[Value.ref b] s) [] 0 [(0, .ref b)] [] := by
  refine SW.new (ci := 7) (fs := [.null, .null, .null, .int 0, .int 0, .null, .null, .null, .null, .null, .null]) (T := TX9) (N := 11) (wn := fun n0 => [(n0, .inr (7, [.null, .null, .null, .int 0, .int 0, .null, .null, .null, .null, .null, .null]))]) C inlX9 tyX9 tyX9_ok (by decide +kernel) (by decide +kernel) (by decide +kernel) rfl fsX9 (by decide +kernel) (by decide +kernel) dL_law_0 (fun _ => rfl) (fun n0 => ?_)
  refine SW.dup C dL_law_3 rfl ?_
  refine SW.callI_pm (wr := []) (wn := fun u : UC => (w9 cI cZ (u.1 0) (u.1 1) (u.1 2) (u.1 3) (u.1 4) (u.1 5) (u.1 7) (u.1 8) (u.1 9) (u.1 10) (u.2 0) ++ w8 cI cZ (u.1 1) (u.2 1) ++ w8 cI cZ (u.1 2) (u.2 2) ++ w8 cI cZ (u.1 3) (u.2 3) ++ w5 cI cZ (u.1 4) (u.2 4) ++ w1 cI cZ (u.1 5) (u.1 6) (u.2 5) ++ w8 cI cZ (u.1 6) (u.2 6) ++ w7 cI cZ (u.1 7) (u.2 7) ++ w3 cI cZ (u.1 8) (u.2 8) ++ w4 cI cZ (u.1 9) (u.2 9) ++ w2 cI cZ (u.1 10) (u.2 10))) C (ctX9_init l D cI cZ n0 _ in9) gL_law_X9_init rfl rfl rfl (by decide +kernel) (by decide +kernel) (by decide +kernel) rfl pdX9_init ⟨by decide +kernel, by decide +kernel⟩ (List.Perm.of_eq (List.append_nil _).symm) (fun _ => List.Perm.refl _) rfl rfl (Nat.le_of_ble_eq_true rfl) dL_law_4 ⟨by decide +kernel, by decide +kernel⟩ (fun u hu => ?_)
  obtain ⟨hq, hs, h3, h4, hp⟩ := hu
  subst hq
  refine SW.astore_n (lv' := [(1, .ref (u.1 0 0)), (0, .ref b)]) C dL_law_7 rfl (by decide) rfl ?_
  refine SW.new (ci := 8) (fs := [.int 0, .null, .int 0, .int 0, .int 0, .int 0, .int 0, .null, .int 0, .null, .int 0, .null, .int 0, .int 0, .int 0, .int 0, .int 0, .int 0, .null, .null, .null, .null, .null, .null, .null]) (T := TX10) (N := 25) (wn := fun n1 => (w9 cI cZ (u.1 0) (u.1 1) (u.1 2) (u.1 3) (u.1 4) (u.1 5) (u.1 7) (u.1 8) (u.1 9) (u.1 10) (u.2 0) ++ w8 cI cZ (u.1 1) (u.2 1) ++ w8 cI cZ (u.1 2) (u.2 2) ++ w8 cI cZ (u.1 3) (u.2 3) ++ w5 cI cZ (u.1 4) (u.2 4) ++ w1 cI cZ (u.1 5) (u.1 6) (u.2 5) ++ w8 cI cZ (u.1 6) (u.2 6) ++ w7 cI cZ (u.1 7) (u.2 7) ++ w3 cI cZ (u.1 8) (u.2 8) ++ w4 cI cZ (u.1 9) (u.2 9) ++ w2 cI cZ (u.1 10) (u.2 10)) ++ [(n1, .inr (8, [.int 0, .null, .int 0, .int 0, .int 0, .int 0, .int 0, .null, .int 0, .null, .int 0, .null, .int 0, .int 0, .int 0, .int 0, .int 0, .int 0, .null, .null, .null, .null, .null, .null, .null]))]) C inlX10 tyX10 tyX10_ok (by decide +kernel) (by decide +kernel) (by decide +kernel) rfl fsX10 (by decide +kernel) (by decide +kernel) dL_law_8 (fun _ => rfl) (fun n1 => ?_)
  refine SW.dup C dL_law_11 rfl ?_
  refine SW.callI_pm (wr := (w9 cI cZ (u.1 0) (u.1 1) (u.1 2) (u.1 3) (u.1 4) (u.1 5) (u.1 7) (u.1 8) (u.1 9) (u.1 10) (u.2 0) ++ w8 cI cZ (u.1 1) (u.2 1) ++ w8 cI cZ (u.1 2) (u.2 2) ++ w8 cI cZ (u.1 3) (u.2 3) ++ w5 cI cZ (u.1 4) (u.2 4) ++ w1 cI cZ (u.1 5) (u.1 6) (u.2 5) ++ w8 cI cZ (u.1 6) (u.2 6) ++ w7 cI cZ (u.1 7) (u.2 7) ++ w3 cI cZ (u.1 8) (u.2 8) ++ w4 cI cZ (u.1 9) (u.2 9) ++ w2 cI cZ (u.1 10) (u.2 10))) (wn := fun v : UC => WL cI cZ (u.1 0) (u.1 1) (u.1 2) (u.1 3) (u.1 4) (u.1 5) (u.1 6) (u.1 7) (u.1 8) (u.1 9) (u.1 10) (v.1 0) (u.2 0) (u.2 1) (u.2 2) (u.2 3) (u.2 4) (u.2 5) (u.2 6) (u.2 7) (u.2 8) (u.2 9) (u.2 10) (v.2 0)) C (ctX10_init l D cI cZ n1 _ in10) gL_law_X10_init rfl rfl rfl (by decide +kernel) (by decide +kernel) (by decide +kernel) rfl pdX10_init ⟨by decide +kernel, by decide +kernel⟩ List.perm_append_comm (fun v => List.Perm.of_eq (flat12 _ _ _ _ _ _ _ _ _ _ _ _)) rfl rfl (Nat.le_of_ble_eq_true rfl) dL_law_12 ⟨by decide +kernel, by decide +kernel⟩ (fun v hv => ?_)
  obtain ⟨hq, hy, h10, h110, h111⟩ := hv
  subst hq
  refine SW.astore_n (lv' := [(2, .ref (v.1 0 0)), (1, .ref (u.1 0 0)), (0, .ref b)]) C dL_law_15 rfl (by decide) rfl ?_
  refine SW.iconst (v := nI 0) C dL_law_16 (by decide) ?_
  refine SW.istore_n (lv' := [(3, .int (nI 0)), (2, .ref (v.1 0 0)), (1, .ref (u.1 0 0)), (0, .ref b)]) C dL_law_17 rfl (by decide) rfl ?_
  refine SW.sub [3, 2, 1, 0] rfl ?_
  exact law_loop C hX hbl hL (u.1 0) (u.1 1) (u.1 2) (u.1 3) (u.1 4) (u.1 5) (u.1 6) (u.1 7) (u.1 8) (u.1 9) (u.1 10) (v.1 0) L 0 _ _ _ _ _ _ _ _ _ _ _ _ (by omega) (by omega) (in_rr hs h3 h4 hp hy h10 h110 h111)
theorem whole_start {p : Program} {e : Env} {s : State} {m : MethodId} {below : List Frame} {meth : Method} {c : Code} (l : Launch) {b L : Nat} {xs : Nat → Int32} (hL : L ≤ 384) (C0 : lw_At p s m meth c b L xs) : W p l e room_1 s m #[Value.ref b] below meth c s.heap [] 0 0 (lw_Z below #[Value.ref b] s) (entryFrame m ([Value.ref b] : List Value).toArray 4) := by
  obtain ⟨hx, hb, hr, hml, hown, hts, hX, hbl, hlocks, hgv⟩ := id C0
  obtain ⟨c0, iS0, hKn0⟩ := u_known (C := RX1) (T := TX1) (N := 6) (n := 6) hts inX1 (hts (.instantiable RX1 6) (by decide +kernel))
  obtain ⟨c1, iS1, hKn1⟩ := u_known (C := RX2) (T := TX2) (N := 1) (n := 1) hts inX2 (hts (.instantiable RX2 1) (by decide +kernel))
  obtain ⟨c2, iS2, hKn2⟩ := u_known (C := RX3) (T := TX3) (N := 5) (n := 5) hts inX3 (hts (.instantiable RX3 5) (by decide +kernel))
  obtain ⟨c3, iS3, hKn3⟩ := u_known (C := RX4) (T := TX4) (N := 2) (n := 2) hts inX4 (hts (.instantiable RX4 2) (by decide +kernel))
  obtain ⟨c4, iS4, hKn4⟩ := u_known (C := RX5) (T := TX5) (N := 2) (n := 2) hts inX5 (hts (.instantiable RX5 2) (by decide +kernel))
  obtain ⟨c5, iS5, hKn5⟩ := u_known (C := RX7) (T := TX7) (N := 7) (n := 7) hts inX7 (hts (.instantiable RX7 7) (by decide +kernel))
  obtain ⟨c6, iS6, hKn6⟩ := u_known (C := RX8) (T := TX8) (N := 13) (n := 13) hts inX8 (hts (.instantiable RX8 13) (by decide +kernel))
  obtain ⟨c7, iS7, hKn7⟩ := u_known (C := RX9) (T := TX9) (N := 11) (n := 11) hts inX9 (hts (.instantiable RX9 11) (by decide +kernel))
  obtain ⟨c8, iS8, hKn8⟩ := u_known (C := RX10) (T := TX10) (N := 25) (n := 25) hts inX10 (hts (.instantiable RX10 25) (by decide +kernel))
  obtain ⟨D, hKc⟩ : ∃ D : va_G, ∀ (k : Nat) (q : vw_C), vwCl[k]? = some q → u_Kn s q.1 q.2.1 q.2.2 (D.1 k) (D.2 k) := by
    refine ⟨(fun k => if k = 0 then c0 else if k = 1 then c1 else if k = 2 then c2 else if k = 3 then c3 else if k = 4 then c4 else if k = 5 then c5 else if k = 6 then c6 else if k = 7 then c7 else c8, fun k => if k = 0 then iS0 else if k = 1 then iS1 else if k = 2 then iS2 else if k = 3 then iS3 else if k = 4 then iS4 else if k = 5 then iS5 else if k = 6 then iS6 else if k = 7 then iS7 else iS8), ?_⟩
    intro k q hq
    match k, hq with
    | 0, hq => cases hq; exact hKn0
    | 1, hq => cases hq; exact hKn1
    | 2, hq => cases hq; exact hKn2
    | 3, hq => cases hq; exact hKn3
    | 4, hq => cases hq; exact hKn4
    | 5, hq => cases hq; exact hKn5
    | 6, hq => cases hq; exact hKn6
    | 7, hq => cases hq; exact hKn7
    | 8, hq => cases hq; exact hKn8
    | k + 9, hq => simp [vwCl] at hq
  obtain ⟨cI, kI, compI, fI, gI, dI⟩ := Cond.arrayClass_spec (hts (.arrayClass .int) (by decide +kernel))
  obtain ⟨cZ, kZ, compZ, fZ, gZ, dZ⟩ := Cond.arrayClass_spec (hts (.arrayClass .boolean) (by decide +kernel))
  have hK : va_K D vwCl [(cI, .int), (cZ, .boolean)] s := by
    refine ⟨hKc, fun k q hk => ?_⟩
    match k, hk with
    | 0, hk => cases hk; exact ⟨fun n z => ⟨fun k h => (by cases h), kI, gI, compI, dI⟩, fI⟩
    | 1, hk => cases hk; exact ⟨fun n z => ⟨fun k h => (by cases h), kZ, gZ, compZ, dZ⟩, fZ⟩
    | k + 2, hk => simp at hk
  have hNw : va_Nw nestW s := va_tabs (by decide) rfl (hts nestW (by decide +kernel))
  have C : Cx p s m #[Value.ref b] meth c code 4 wsL_law RL D [(cI, .int), (cZ, .boolean)] (fun q : Nat => s.heap.size ≤ q) ret := ⟨⟨hx, hb, hml, hown, fun w hw => hts w (wsL_law_in w hw)⟩, hK, fun _ h => h, hlocks, hr, hNw⟩
  have hl := lv_entry ([.ref b]) (n := 4) (Nat.le_of_ble_eq_true rfl)
  rw [lg_entry_eq]
  exact start_walk C hX hbl hL s.heap [] _ (fun k q h => by simp at h) ⟨fun i j p q h => by simp at h, fun k q h => by simp at h⟩ va_S.rf hl
