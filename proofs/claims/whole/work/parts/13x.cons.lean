/-! rows for constructors: what is new -/
def z0 : Ob := fun _ _ => 0
def qf (L : List Nat) : Nat → Nat := fun k => L.getD k 0
def obs (L : List Ob) : Nat → Ob := fun k => L.getD k z0
def qfs (L : List (Nat → Nat)) : Nat → Nat → Nat := fun k => L.getD k (fun _ => 0)
abbrev UC : Type := (Nat → Nat → Nat) × (Nat → Ob)
section
variable {p : Program} {l : Launch} {e : Env} {R : Room} {s : State} {m : MethodId} {args : Array Value} {below : List Frame} {meth : Method} {c : Code}
variable {A : Nat → Prop} {D : va_G} {nL cells slots : Nat} {Q : State → Prop} {ws ws' : va_W} {pc : Nat} {lv lv' : List (Nat × Value)} {rest st : List Value} {cc : ByteArray} {Ts : List Cond} {own : String} {tys : List (ClassId × FieldType)} {rt : Option FieldType}
theorem SW.conv (h : ws = ws') (k : SW p l e R s m args below meth c A D nL cells slots Q ws' pc lv st) : SW p l e R s m args below meth c A D nL cells slots Q ws pc lv st := h ▸ k
theorem SW.astore_n (C : Cx p s m args meth c cc nL Ts own D tys A rt) {k : Fin 4} {i : Nat} {x : Nat} (hd : decode cc pc = .ok (.astore_n k, 1)) (hi : (k : Nat) = i) (hn : i < nL) (hf : (i, Value.ref x) :: lv.filter (fun q => !(q.1 == i) && !(q.1 + 1 == i && q.2.category == 2)) = lv') (kk : SW p l e R s m args below meth c A D nL cells slots Q ws (pc + 1) lv' st) : SW p l e R s m args below meth c A D nL cells slots Q ws pc lv (.ref x :: st) := fun H locs ls hP hD hS hl => lv_astore_n C.1.1 C.1.2.1 hd hi hl hn hf (fun ls hl => kk H locs ls hP hD hS hl)
theorem SW.objInit (C : Cx p s m args meth c cc nL Ts own D tys A rt) {idx a : Nat} (h1 : Cond.methodLink own idx Lib.objectInit ∈ Ts) (h2 : Cond.instanceMethod Lib.objectInit ∈ Ts) (h3 : Cond.code Lib.objectInit ⟨#[0xb1]⟩ 1 none ∈ Ts) (hd : decode cc pc = .ok (.invokespecial idx, 3)) (hf : 1 ≤ R.frames) (hlo : (st.map fun v => v.category).sum + 12 ≤ R.locals) (kk : SW p l e R s m args below meth c A D nL cells slots Q ws (pc + 3) lv st) : SW p l e R s m args below meth c A D nL cells slots Q ws pc lv (.ref a :: st) := fun H locs ls hP hD hS hl => W.objInit C.1.1 C.1.2.1 C.1.2.2.2.1 (C.1.2.2.2.2 _ h1) (C.1.2.2.2.2 _ h2) (C.1.2.2.2.2 _ h3) rfl (hl.1.trans C.1.2.2.1.symm) rfl hd hf (by show 2 * 0 + _ + 12 ≤ _; omega) (kk H locs ls hP hD hS hl)
theorem SW.putF (C : Cx p s m args meth c cc nL Ts own D tys A rt) (hin2 : meth.name = "<init>") {Cn : String} {T : u_T} {N ci index a : Nat} (hin : ∀ w ∈ u_ws Cn T N, w ∈ Ts) (ty0 : Nat → FieldType) (hty : ∀ k, k < N → parseFieldDescriptor (T k).2.2.1 = some (ty0 k)) (hnm : ∀ a, a < N → ∀ b, b < N → a ≠ b → (T a).2.1 ≠ (T b).2.1) (q0 : Nat) {fs : List Value} (he : ws[q0]? = some (a, .inr (ci, fs))) (hc : vwCl[ci]? = some (Cn, T, N)) (k : Nat) (hk : k < N) (hlink : Cond.fieldLink own index (T k).1 (T k).2.1 (T k).2.2.1 ∈ Ts) (hfin : (T k).2.2.2 = true) (hdecl : (T k).1 = own) {v : Value} (hn : narrow (ty0 k) v = v) (hfit : fits (ty0 k) v = true) (hl : k < fs.length) (hset : ws.set q0 (a, .inr (ci, fs.set k v)) = ws') (hd : decode cc pc = .ok (.putfield index, 3)) (kk : SW p l e R s m args below meth c A D nL cells slots Q ws' (pc + 3) lv st) : SW p l e R s m args below meth c A D nL cells slots Q ws pc lv (v :: .ref a :: st) := by
  intro H locs ls hP hD hS hll
  subst hset
  exact va_putF C.1.1 C.1.2.1 C.1.2.2.2.2 hin ty0 hty hnm C.1.2.2.2.1 C.2.1 hP hD hS q0 he hc k hk (C.1.2.2.2.2 _ hlink) (fun _ h9 => h9) hfin hin2 hdecl (hty k hk) hn hfit hl hd (fun H locs hP hD hS => kk H locs ls hP hD hS hll)
theorem SW.newaI (C : Cx p s m args meth c cc nL Ts own D tys A rt) (t0 : Nat) {cI : ClassId} (ht : tys[t0]? = some (cI, .int)) (harr : Cond.arrayClass .int ∈ Ts) {n : Int32} {N : Nat} (hn : ¬ n < 0) (hN : n.toNatClampNeg = N) (hbytes : N * componentBytes .int ≤ 536870912) (hcells : cells + 1 ≤ R.cells) (hslots : slots + N ≤ R.slots) (hd : decode cc pc = .ok (.newarray .int, 2)) {wn : Nat → va_W} (hw : ∀ q, ws ++ [(q, .inl (cI, N, .inl (fun _ => 0)))] = wn q) (kk : ∀ q : Nat, SW p l e R s m args below meth c A D nL (cells + 1) (slots + N) Q (wn q) (pc + 2) lv (.ref q :: st)) : SW p l e R s m args below meth c A D nL cells slots Q ws pc lv (.int n :: st) := by
  intro H locs ls hP hD hS hl
  refine va_newa (atype := .int) (ty := .int) (a0 := (N, .inl (fun _ => 0))) C.1.1 C.1.2.1 (C.1.2.2.2.2 _ harr) rfl C.2.1 hP hD hS C.2.2.1 (fun _ => rfl) hn hN hbytes hcells hslots hd (fun q cA H1 hK1 hP1 hD1 hS1 => ?_)
  have e1 := va_nm_int (hK1.2 tys.length (cA, .int) (by simp)).2
  have e2 := va_nm_int (C.2.1.2 t0 _ ht).2
  have e3 : cA = cI := Option.some.inj (e1.symm.trans e2)
  subst e3
  rw [hw q] at hP1 hD1
  exact kk q H1 locs ls hP1 hD1 hS1 hl
theorem SW.newaZ (C : Cx p s m args meth c cc nL Ts own D tys A rt) (t0 : Nat) {cI : ClassId} (ht : tys[t0]? = some (cI, .boolean)) (harr : Cond.arrayClass .boolean ∈ Ts) {n : Int32} {N : Nat} (hn : ¬ n < 0) (hN : n.toNatClampNeg = N) (hbytes : N * componentBytes .boolean ≤ 536870912) (hcells : cells + 1 ≤ R.cells) (hslots : slots + N ≤ R.slots) (hd : decode cc pc = .ok (.newarray .boolean, 2)) {wn : Nat → va_W} (hw : ∀ q, ws ++ [(q, .inl (cI, N, .inl (fun _ => 0)))] = wn q) (kk : ∀ q : Nat, SW p l e R s m args below meth c A D nL (cells + 1) (slots + N) Q (wn q) (pc + 2) lv (.ref q :: st)) : SW p l e R s m args below meth c A D nL cells slots Q ws pc lv (.int n :: st) := by
  intro H locs ls hP hD hS hl
  refine va_newa (atype := .boolean) (ty := .boolean) (a0 := (N, .inl (fun _ => 0))) C.1.1 C.1.2.1 (C.1.2.2.2.2 _ harr) rfl C.2.1 hP hD hS C.2.2.1 (fun _ => rfl) hn hN hbytes hcells hslots hd (fun q cA H1 hK1 hP1 hD1 hS1 => ?_)
  have e1 := va_nm_boolean (hK1.2 tys.length (cA, .boolean) (by simp)).2
  have e2 := va_nm_boolean (C.2.1.2 t0 _ ht).2
  have e3 : cA = cI := Option.some.inj (e1.symm.trans e2)
  subst e3
  rw [hw q] at hP1 hD1
  exact kk q H1 locs ls hP1 hD1 hS1 hl
theorem SW.new (C : Cx p s m args meth c cc nL Ts own D tys A rt) {Cn : String} {T : u_T} {N ci index : Nat} (hin : ∀ w ∈ u_ws Cn T N, w ∈ Ts) (ty : Nat → FieldType) (hty : ∀ k, k < N → parseFieldDescriptor (T k).2.2.1 = some (ty k)) (hcl : Cond.classLink own index Cn ∈ Ts) (hinst : Cond.instantiable Cn N ∈ Ts) (hini : Cond.initialized Cn ∈ Ts) (hc : vwCl[ci]? = some (Cn, T, N)) {fs : List Value} (hfs : ∀ j, j < N → defaultValue (ty j) = vp_V fs j) (hcells : cells + 1 ≤ R.cells) (hslots : slots + N ≤ R.slots) (hd : decode cc pc = .ok (.new index, 3)) {wn : Nat → va_W} (hw : ∀ q, ws ++ [(q, .inr (ci, fs))] = wn q) (kk : ∀ q : Nat, SW p l e R s m args below meth c A D nL (cells + 1) (slots + N) Q (wn q) (pc + 3) lv (.ref q :: st)) : SW p l e R s m args below meth c A D nL cells slots Q ws pc lv st := by
  intro H locs ls hP hD hS hl
  refine va_new C.1.1 C.1.2.1 C.1.2.2.2.2 hin ty hty C.1.2.2.2.1 (C.1.2.2.2.2 _ hcl) (C.1.2.2.2.2 _ hinst) (C.1.2.2.2.2 _ hini) C.2.1 hP hD hS C.2.2.1 hc hfs hcells hslots hd (fun q H1 hP1 hD1 hS1 => ?_)
  rw [hw q] at hP1 hD1
  exact kk q H1 locs ls hP1 hD1 hS1 hl
def CTn (l : Launch) (y : MethodName) (wsc : List Cond) (rm : Room) (D : va_G) (tys : List (ClassId × FieldType)) (av : List Value) (ws : va_W) {S : Type} (wf : S → va_W) (post : S → Prop) (mc ms : Nat) : Prop := ∀ sz : Nat, Met l y wsc rm (ctP D tys av sz ws) (va_Qv post (ctB D (va_A ws sz) wf) (va_A ws sz)) mc ms (va_A ws sz)
variable {y : MethodName} {wsc wst : List Cond} {rm : Room} {av : List Value} {S : Type} {wf wn : S → va_W} {bytes : ByteArray} {maxL n index b mc ms : Nat} {ret : Option FieldType} {lv0 : List (Nat × Value)} {As : List Value} {wc wr : va_W}
theorem CTn.of {post : S → Prop} (hy : plainName y.cls = true) (ho : y.cls = own) (hyn : y.name = "<init>") (hw : wsc = Cond.code y cc maxL none :: wst) (hl0 : (lg_sl av).length ≤ maxL) (hl1 : lv_args 0 av = lv0)
    (body : ∀ (p : Program) (e : Env) (s : State) (m : MethodId) (args : Array Value) (below : List Frame) (meth : Method) (c : Code) (A : Nat → Prop), Cx p s m args meth c cc maxL wsc own D tys A none → meth.name = "<init>" → SW p l e rm s m args below meth c A D maxL 0 0 (MQ below (va_Qv post (ctB D A wf) A) args s mc ms A) ws 0 lv0 []) : CTn l y wsc rm D tys av ws wf post mc ms := by
  intro sz
  refine Met.ofW (cc := cc) (maxL := maxL) (ret := none) hy hw ?_
  intro p e s m args below meth c s₁ B hml hv
  obtain ⟨rfl, hsz, hP, hK, hD0, hN⟩ := hv
  subst hsz
  subst hl1
  subst ho
  have hin : meth.name = "<init>" := (name_of_methodNamed B.named B.method).1.trans hyn
  rw [lg_entry_eq]
  exact body p e s m _ below meth c (va_A ws s.heap.size) ⟨⟨B.exec, B.bytes, hml, findClass_of_methodNamed B.named, atoms_spec (ws := wsc) B.pre⟩, hK, fun q h => Or.inr h, B.notSynchronized, B.returns, hN⟩ hin s.heap [] _ hP hD0.self va_S.rf (lv_entry av hl0)
theorem SW.nret {post : S → Prop} (C : Cx p s m args meth c cc nL Ts own D tys A none) (u : S) (hu : ws = wf u) (h : post u) (hd : decode cc pc = .ok (.return_, 1)) : SW p l e R s m args below meth c A D nL cells slots (MQ below (va_Qv post (ctB D A wf) A) args s cells slots A) ws pc lv [] := by
  intro H locs ls hP hD hS hl
  subst hu
  exact W.vret C.1.1 C.1.2.1 C.2.2.2.2.1 (fun t ht hW => ⟨⟨u, rfl, h, by rw [ht]; exact hP, hD⟩, hS.F ht⟩) hS.2.2 hd C.2.2.2.1
theorem SW.callI {post : S → Prop} (C : Cx p s m args meth c cc nL Ts own D tys A rt) (hM : CTn l y wsc rm D tys (.ref b :: As) wc wf post mc ms) (hg : GoodIn Ts wsc) (hw : wsc = Cond.code y bytes maxL none :: wst) (hrc : rm.cells = mc) (hrs : rm.slots = ms) (hini : Cond.initialized y.cls ∈ Ts) (hml : Cond.methodLink own index y ∈ Ts) (him : Cond.instanceMethod y ∈ Ts) (hyn : y.name = "<init>") (hyd : y.cls ≠ "java/lang/invoke/MethodHandle" ∧ y.cls ≠ "java/lang/invoke/VarHandle" ∧ (parseMethodDescriptor y.desc).map (fun d => d.parameters.length) = some n) (hR : rm.frames + 1 ≤ R.frames ∧ 8 + (maxL + 11) + rm.locals ≤ R.locals) (isC isR : List Nat) (hC : isC.map (fun i => ws[i]?) = wc.map some) (hRr : isR.map (fun i => ws[i]?) = wr.map some) (hndC : va_nd isC = true) (hnd : va_nd isR = true) (hdis : ∀ i ∈ isR, i ∉ isC) (hO : ∀ u, wr ++ wf u = wn u) (hn : As.length = n) (hst : st = As.reverse ++ .ref b :: rest) (hW : (rest.map fun v => v.category).sum ≤ 8) (hd : decode cc pc = .ok (.invokespecial index, 3)) (hf : cells + mc ≤ R.cells ∧ slots + ms ≤ R.slots) (kk : ∀ (u : S), post u → SW p l e R s m args below meth c A D nL (cells + mc) (slots + ms) Q (wn u) (pc + 3) lv (rest)) : SW p l e R s m args below meth c A D nL cells slots Q ws pc lv st := by
  intro H locs ls hP hD hS hl
  subst hst
  have hK := C.2.1
  have hPc : va_P D vwCl wc H := hP.sub isC (fm_of_map hC)
  have hDc : va_D (fun _ => True) wc := (hD.sub isC hndC hC).weaken (fun _ _ _ _ => trivial)
  have hFc := va_free (wc := wc) hD hS C.2.2.1 isC hC
  refine va_callv (va_runI (As := As) (rest := rest) C.1 (hM H.size) (cwI n C.1.2.2.2.2 hg hw hrc hrs (C.1.2.2.2.2 _ hini) (C.1.2.2.2.2 _ hml) (C.1.2.2.2.2 _ him) hyn hyd hR) ⟨ctP_blind, fun U hU hW' => ⟨rfl, by rw [hU], by rw [hU]; exact hPc, va_K.moved hW'.alike hK, hDc, va_Nw.warmM hW' C.2.2.2.2.2⟩⟩ rfl hn hl.1 rfl (lv_room hW) hd hf) hS (fun q _ h => hFc q h) hFc (fun u t H1 locs ht hvm hw hB hz1 hk1 hS => ?_)
  obtain ⟨hP1, hD1⟩ := hB
  rw [ht] at hP1
  obtain ⟨hP, hD⟩ := va_join hP hD isC isR hC hRr hnd hdis hk1 hFc hP1 hD1
  rw [hO u] at hP hD
  exact kk u hw H1 locs ls hP hD hS hl
end
