/-! ask -/
def tk (g : Nat → Nat) (st : (Nat → Nat) × Nat) (x : Nat) : (Nat → Nat) × Nat := (fun j => if j = g x then st.1 j + 1 else st.1 j, max st.2 (st.1 (g x) + 1))
def tl (g : Nat → Nat) (l : List Nat) : (Nat → Nat) × Nat := l.foldl (tk g) (fun _ => 0, 0)
theorem tl_app (g : Nat → Nat) (l : List Nat) (x : Nat) : tl g (l ++ [x]) = tk g (tl g l) x := by simp [tl, List.foldl_append]
theorem tk_bd (g : Nat → Nat) : ∀ (l : List Nat) (st : (Nat → Nat) × Nat) (m : Nat), (∀ j, st.1 j ≤ m) → st.2 ≤ m → (∀ j, (l.foldl (tk g) st).1 j ≤ m + l.length) ∧ (l.foldl (tk g) st).2 ≤ m + l.length ∧ st.2 ≤ (l.foldl (tk g) st).2
  | [], st, m, h1, h2 => ⟨h1, h2, Nat.le_refl _⟩
  | x :: r, st, m, h1, h2 => by
    have := tk_bd g r (tk g st x) (m + 1) (fun j => by
      unfold tk; dsimp only
      have := h1 j
      by_cases c : j = g x
      · rw [if_pos c]; omega
      · rw [if_neg c]; omega) (by unfold tk; dsimp only; have := h1 (g x); omega)
    rw [List.foldl_cons, List.length_cons]
    refine ⟨fun j => ?_, ?_, ?_⟩
    · have := this.1 j; omega
    · have := this.2.1; omega
    · refine Nat.le_trans ?_ this.2.2
      unfold tk; dsimp only; omega
theorem tl_bd (g : Nat → Nat) (l : List Nat) : (∀ j, (tl g l).1 j ≤ l.length) ∧ (tl g l).2 ≤ l.length := by
  have := tk_bd g l (fun _ => 0, 0) 0 (fun _ => Nat.le_refl _) (Nat.le_refl _)
  refine ⟨fun j => ?_, ?_⟩
  · have := this.1 j; unfold tl; omega
  · have := this.2.1; unfold tl; omega
theorem tl_pos (g : Nat → Nat) {l : List Nat} (h : l ≠ []) : 1 ≤ (tl g l).2 := by
  cases l with
  | nil => exact absurd rfl h
  | cons x r =>
    have := (tk_bd g r (tk g (fun _ => 0, 0) x) 1 (fun j => by
      unfold tk; dsimp only
      by_cases c : j = g x
      · rw [if_pos c]; omega
      · rw [if_neg c]; omega) (by unfold tk; dsimp only; omega)).2.2
    refine Nat.le_trans ?_ this
    unfold tk; dsimp only; omega
def lw (A : AS) (w S : Nat) : Nat := len A.2.1 (A.1 0) (A.1 1 + A.1 4) S w
theorem lw_bd {A : AS} (ho : Own A) {w : Nat} (hw : w < A.1 0) (S : Nat) : 1 ≤ lw A w S ∧ lw A w S ≤ 108 := by
  obtain ⟨⟨a1, a2⟩, b1, -, -, d1, -, h8, hg⟩ := id ho
  have := len_bd hg (S := S) (E := A.1 1 + A.1 4) a2 (by omega) (by omega) hw
  exact ⟨this.1, this.2.1⟩
theorem lp3_z {g0 : Ob} {K : Ob → Prop} (hK : ∀ g, g 0 = g0 0 → g 1 = g0 1 → (∀ j, j < 201 → g 2 j = nI 0) → K g) :
    ∀ d k g, k + d = 201 → g 0 = g0 0 → g 1 = g0 1 → (∀ j, j < k → g 2 j = nI 0) → wpX3_leftAtMost_L2 K (d + 1) (nI k) g := by
  intro d
  induction d with
  | zero =>
    intro k g hk h0 h1 h2
    unfold wpX3_leftAtMost_L2
    exact br_t (nI_lt (a := 200) (by omega) (by omega)) (hK g h0 h1 (by rw [show 201 = k by omega]; exact h2))
  | succ d ih =>
    intro k g hk h0 h1 h2
    unfold wpX3_leftAtMost_L2
    rw [nI_1 k, nC_n (by omega)]
    refine br_f (nI_nlt (a := 200) (by omega) (by omega)) ⟨vp_in_nI (by omega) (by omega), ih (k + 1) _ (by omega) ?_ ?_ ?_⟩
    · rw [pa_n _ _ _ (by decide)]; exact h0
    · rw [pa_n _ _ _ (by decide)]; exact h1
    · intro j hj
      rw [pa_s]
      by_cases e : j = k
      · subst e; simp [upd]; rfl
      · simp only [upd, if_neg e]; exact h2 j (by omega)
theorem lp3_27 {s g0 : Ob} {A : AS} {l : List Nat} {w : Nat} {K : Int32 → Ob → Prop} (hs : StS s A) (ho : Own A) (hw : w < A.1 0) (hg : GL g0 l) (hl : l.length ≤ 1024) (hx : ∀ x ∈ l, x < 1024) (hK : ∀ g, g 0 = g0 0 → g 1 = g0 1 → K (nI (tl (lw A w) l).2) g) :
    ∀ d k g, k + d = l.length → g 0 = g0 0 → g 1 = g0 1 → (∀ j, j < 201 → g 2 j = nI ((tl (lw A w) (l.take k)).1 j)) → wpX3_leftAtMost_L27 (nI w) s K (d + 1) (nI (tl (lw A w) (l.take k)).2) (nI k) g := by
  intro d
  induction d with
  | zero =>
    intro k g hk h0 h1 h2
    unfold wpX3_leftAtMost_L27
    rw [h0, hg.1, List.take_of_length_le (by omega)]
    exact br_t (nI_le (by omega) (by omega)) (hK g h0 h1)
  | succ d ih =>
    intro k g hk h0 h1 h2
    obtain ⟨x, hxk⟩ : ∃ x, l[k]? = some x := ⟨_, List.getElem?_eq_getElem (by omega)⟩
    have hx1 := hx x (List.mem_of_getElem? hxk)
    have hb := lw_bd ho hw x
    have ht := tl_bd (lw A w) (l.take k)
    have htk : (l.take k).length ≤ 1024 := by rw [List.length_take]; omega
    have ht1 := ht.1 (lw A w x)
    unfold wpX3_leftAtMost_L27
    rw [h0, hg.1]
    refine br_f (nI_ge (by omega) (by omega)) ⟨vp_in_nI (by omega) (by omega), ?_⟩
    rw [jld_n (by omega), h1, hg.2 k x hxk]
    refine sp8_lengthAt hs ho hw (by omega) ?_
    rw [show len A.2.1 (A.1 0) (A.1 1 + A.1 4) x w = lw A w x from rfl]
    unfold jn2
    dsimp only
    refine br_f (nI_nn (by omega)) (br_f (nI_nlt (a := 200) (by omega) (by omega)) ⟨vp_in_nI (by omega) (by omega), vp_in_nI (by omega) (by omega), vp_in_nI (by omega) (by omega), fun y ey => ?_⟩)
    rw [nC_n (by omega), jld_n (by omega), jld_n (by omega), h2 _ (by omega), nI_1 ((tl (lw A w) (l.take k)).1 (lw A w x))] at ey
    have eu : upd (g 2) (lw A w x) (nI ((tl (lw A w) (l.take k)).1 (lw A w x) + 1)) (lw A w x) = nI ((tl (lw A w) (l.take k)).1 (lw A w x) + 1) := by simp [upd]
    rw [eu, jmax_n (by omega) (by omega)] at ey
    rw [nC_n (by omega), jld_n (by omega), h2 _ (by omega), nI_1 ((tl (lw A w) (l.take k)).1 (lw A w x)), nI_1 k]
    have := ih (k + 1) (pa g 2 (lw A w x) (nI ((tl (lw A w) (l.take k)).1 (lw A w x) + 1))) (by omega) (by rw [pa_n _ _ _ (by decide)]; exact h0) (by rw [pa_n _ _ _ (by decide)]; exact h1)
    rw [take_succ_get hxk, tl_app] at this
    rw [ey]
    refine this (fun j hj => ?_)
    rw [pa_s]
    unfold tk
    dsimp only
    by_cases e : j = lw A w x
    · rw [if_pos e, e]; exact eu
    · rw [if_neg e]; simp only [upd, if_neg e]; exact h2 j hj
theorem sp3_left {s g : Ob} {A : AS} {l : List Nat} {w : Nat} {post : Int32 → Ob → Prop} (hs : StS s A) (ho : Own A) (hw : w < A.1 0) (hg : GL g l) (hl : l.length ≤ 1024) (hx : ∀ x ∈ l, x < 1024) (hp : ∀ g', g' 0 = g 0 → g' 1 = g 1 → post (nI (tl (lw A w) l).2) g') : wpX3_leftAtMost s g (nI w) post := by
  refine ⟨_, lp3_z (g0 := g) (fun g1 h0 h1 h2 => ⟨l.length + 1, ?_⟩) 201 0 g (by omega) rfl rfl (fun j hj => absurd hj (Nat.not_lt_zero _))⟩
  exact lp3_27 (K := fun a b => post a b) hs ho hw hg hl hx hp l.length 0 g1 (by omega) h0 h1 h2
def sn (A : AS) (w : Nat) : Prop := ∃ k, k < A.1 6 ∧ A.2.2.2.1 k = w
theorem sp8_isSeen {s : Ob} {A : AS} {w : Nat} {post : Int32 → Prop} (hs : StS s A) (ho : Own A) (hsg : Sig A) (hw : w < A.1 0) (hp : post (b2 (sn A w))) : wpX8_isSeen s (nI w) post := by
  obtain ⟨a1, a2⟩ := id ho.1
  have h8 : A.1 6 ≤ 8 := ho.2.2.2.2.2.2.1
  have e6 : s 0 6 = nI (A.1 6) := hs.1 6 (by omega)
  have key : ∀ d k, k + d = A.1 6 → (∀ i, i < k → A.2.2.2.1 i ≠ w) → wpX8_isSeen_L2 (nI w) s post (post 0) (d + 1) (nI k) := by
    intro d
    induction d with
    | zero =>
      intro k hk hn
      unfold wpX8_isSeen_L2
      rw [e6]
      refine br_t (nI_le (by omega) (by omega)) ?_
      rw [b2_f] at hp
      · exact hp
      · rintro ⟨i, hi, e⟩; exact hn i (by omega) e
    | succ d ih =>
      intro k hk hn
      have hk1 := hsg k (by omega)
      unfold wpX8_isSeen_L2
      rw [e6]
      refine br_f (nI_ge (by omega) (by omega)) (br_f (nI_ge (b := 8) (by omega) (by omega)) ⟨vp_in_nI (by omega) (by omega), ?_⟩)
      rw [jld_n (by omega), (hs.2.2.2.1 k (by omega)).1, nI_1 k]
      refine pk_eq (A.2.2.2.1 k) w (fun e => ?_) (fun e => ?_)
      · rw [b2_t] at hp
        · exact hp
        · exact ⟨k, by omega, e⟩
      · refine ih (k + 1) (by omega) (fun i hi => ?_)
        by_cases c : i = k
        · rw [c]; exact e
        · exact hn i (by omega)
  exact ⟨_, key (A.1 6) 0 (by omega) (fun i hi => absurd hi (Nat.not_lt_zero _))⟩
def wst (v w : Nat) : Option (Nat × Nat) → Option (Nat × Nat)
  | none => some (w, v)
  | some (bw, bm) => if bm ≤ v then some (bw, bm) else some (w, v)
noncomputable def wq (A : AS) (l : List Nat) : Nat → Option (Nat × Nat)
  | 0 => none
  | w + 1 => @ite _ (sn A w ∨ l = []) (Classical.propDecidable _) (wq A l w) (wst (tl (lw A w) l).2 w (wq A l w))
theorem wq_y {A : AS} {l : List Nat} {w : Nat} (h : sn A w ∨ l = []) : wq A l (w + 1) = wq A l w := by rw [wq]; exact @if_pos _ (Classical.propDecidable _) h _ _ _
theorem wq_n {A : AS} {l : List Nat} {w : Nat} (h : ¬ (sn A w ∨ l = [])) : wq A l (w + 1) = wst (tl (lw A w) l).2 w (wq A l w) := by rw [wq]; exact @if_neg _ (Classical.propDecidable _) h _ _ _
theorem wq_bd {A : AS} {l : List Nat} : ∀ {w bw bm : Nat}, wq A l w = some (bw, bm) → bw < w ∧ bm ≤ l.length
  | 0, bw, bm, h => by cases h
  | w + 1, bw, bm, h => by
    by_cases c : sn A w ∨ l = []
    · rw [wq_y c] at h
      have := wq_bd h; omega
    · rw [wq_n c] at h
      have hb := (tl_bd (lw A w) l).2
      cases hq : wq A l w with
      | none =>
        rw [hq] at h
        simp only [wst, Option.some.injEq, Prod.mk.injEq] at h
        omega
      | some p =>
        obtain ⟨b1, b2⟩ := p
        have := wq_bd hq
        rw [hq] at h
        unfold wst at h
        dsimp only at h
        by_cases c2 : b2 ≤ (tl (lw A w) l).2
        · rw [if_pos c2] at h
          simp only [Option.some.injEq, Prod.mk.injEq] at h; omega
        · rw [if_neg c2] at h
          simp only [Option.some.injEq, Prod.mk.injEq] at h; omega
def W2 (g : Ob) (b : Option (Nat × Nat)) : Prop := g 0 3 = o2i (b.map Prod.fst) ∧ g 0 4 = o2i (b.map Prod.snd)
theorem lp3_22 {s : Ob} {A : AS} {l : List Nat} {K : Ob → Prop} (hs : StS s A) (ho : Own A) (hsg : Sig A) (hl : l.length ≤ 1024) (hx : ∀ x ∈ l, x < 1024) (hne : l ≠ []) (hK : ∀ g, W2 g (wq A l (A.1 0)) → K g) :
    ∀ d w g, w + d = A.1 0 → GL g l → W2 g (wq A l w) → wpX3_chooseWindow_L22 s K (d + 1) (nI w) g := by
  obtain ⟨a1, a2⟩ := id ho.1
  have e0 : s 0 0 = nI (A.1 0) := hs.1 0 (by omega)
  intro d
  induction d with
  | zero =>
    intro w g hk hg h2
    unfold wpX3_chooseWindow_L22
    rw [e0]
    have e : w = A.1 0 := by omega
    rw [e] at h2 ⊢
    exact br_t (nI_le (by omega) (by omega)) (hK g h2)
  | succ d ih =>
    intro w g hk hg h2
    unfold wpX3_chooseWindow_L22
    rw [e0, nI_1 w]
    refine br_f (nI_ge (by omega) (by omega)) (sp8_isSeen hs ho hsg (by omega) ?_)
    unfold jn1
    dsimp only
    refine b2_br (fun q => ?_) (fun q => ?_)
    · have hc : ¬ (sn A w ∨ l = []) := fun z => z.elim q hne
      have hb := (tl_bd (lw A w) l).2
      refine sp3_left hs ho (by omega) hg hl hx (fun g1 z0 z1 => ?_)
      have hg1 : GL g1 l := by unfold GL; rw [z0, z1]; exact hg
      have upd1 : wq A l (w + 1) = some (w, (tl (lw A w) l).2) → wpX3_chooseWindow_L22 s K (d + 1) (nI (w + 1)) (pf (pf g1 3 (nI w)) 4 (nI (tl (lw A w) l).2)) := by
        intro e
        refine ih (w + 1) _ (by omega) ⟨?_, fun i x hi => ?_⟩ ?_
        · rw [pf_n _ _ (by decide), pf_n _ _ (by decide)]; exact hg1.1
        · rw [pf_r _ _ _ _ (by decide), pf_r _ _ _ _ (by decide)]; exact hg1.2 i x hi
        · rw [e]
          refine ⟨?_, ?_⟩
          · rw [pf_n _ _ (by decide), pf_s]; rfl
          · rw [pf_s]; rfl
      unfold jn0
      rw [wq_n hc] at upd1
      rw [z0, h2.1, h2.2]
      cases hq : wq A l w with
      | none =>
        refine br_t rfl (upd1 ?_)
        rw [hq]; rfl
      | some p =>
        obtain ⟨b1, b2⟩ := p
        have hbb := wq_bd hq
        refine br_f (nI_ne6 (by omega)) ?_
        refine pk_le b2 (tl (lw A w) l).2 (fun c => ?_) (fun c => ?_)
        · refine ih (w + 1) g1 (by omega) hg1 ?_
          rw [wq_n hc, hq]
          unfold wst
          dsimp only
          rw [if_pos c]
          unfold W2
          rw [z0, ← hq]; exact h2
        · refine upd1 ?_
          rw [hq]
          unfold wst
          dsimp only
          rw [if_neg (by omega)]
    · refine ih (w + 1) g (by omega) hg ?_
      rw [wq_y (Or.inl q)]; exact h2
theorem lp10_a36 {y : Ob} {A : AS} {w : Nat} {K : Int32 → Prop} (hy : YS y A) (ho : Own A) (hsg : Sig A) (hw : w < A.1 0) :
    ∀ d k (Pp : Prop), k + d = A.1 6 → K (b2 (Pp ∨ ∃ i, k ≤ i ∧ i < A.1 6 ∧ A.2.2.2.1 i = w)) → wpX10_ask_L36 (nI w) y K (d + 1) (b2 Pp) (nI k) := by
  obtain ⟨a1, a2⟩ := id ho.1
  have h8 : A.1 6 ≤ 8 := ho.2.2.2.2.2.2.1
  have y8 : y 0 8 = nI (A.1 6) := hy.1.2.2.2.2.2.2
  intro d
  induction d with
  | zero =>
    intro k Pp hk hK
    unfold wpX10_ask_L36
    rw [y8]
    refine br_t (nI_le (by omega) (by omega)) ?_
    rw [b2_c (q := Pp)] at hK
    · exact hK
    · exact ⟨fun q => q.elim id (fun ⟨i, h1, h2, _⟩ => absurd h2 (by omega)), Or.inl⟩
  | succ d ih =>
    intro k Pp hk hK
    have hsk := hsg k (by omega)
    unfold wpX10_ask_L36
    have m2 : (2 : Int32) * nI k = nI (2 * k) := pk_mul 2 k
    rw [y8, m2, nI_1 k]
    unfold jn1 jn0
    dsimp only
    refine br_f (nI_ge (by omega) (by omega)) (b2_br (fun q => ⟨vp_in_nI (by omega) (by omega), ?_⟩) (fun q => ?_))
    · rw [jld_n (by omega), (hy.2.2.1 k (by omega)).1]
      refine pk_eq (A.2.2.2.1 k) w (fun e => ?_) (fun e => ?_)
      · have := ih (k + 1) True (by omega)
        rw [b2_t (p := True) trivial] at this
        refine this ?_
        rw [b2_t (Or.inl trivial)]
        rw [b2_t (Or.inr ⟨k, Nat.le_refl _, by omega, e⟩)] at hK
        exact hK
      · have := ih (k + 1) False (by omega)
        rw [b2_f (p := False) id] at this
        refine this ?_
        rw [b2_c (q := Pp ∨ ∃ i, k ≤ i ∧ i < A.1 6 ∧ A.2.2.2.1 i = w)]
        · exact hK
        · refine ⟨fun z => z.elim False.elim (fun ⟨i, h1, h2, h3⟩ => Or.inr ⟨i, by omega, h2, h3⟩), fun z => z.elim (fun z => absurd z q) (fun ⟨i, h1, h2, h3⟩ => Or.inr ⟨i, ?_, h2, h3⟩)⟩
          by_cases c : i = k
          · rw [c] at h3; exact absurd h3 e
          · omega
    · have := ih (k + 1) True (by omega)
      rw [b2_t (p := True) trivial] at this
      refine this ?_
      rw [b2_t (Or.inl trivial)]
      rw [b2_t (Or.inl q)] at hK
      exact hK
theorem lp10_z {y0 : Ob} {K : Ob → Prop} (hK : ∀ y, YQ y0 y → (∀ j, j < 200 → y 7 j = nI 0) → K y) :
    ∀ d k y, k + d = 200 → YQ y0 y → (∀ j, j < k → y 7 j = nI 0) → wpX10_ask_L83 K (d + 1) (nI k) y := by
  intro d
  induction d with
  | zero =>
    intro k g hk h0 h2
    unfold wpX10_ask_L83
    exact br_t (nI_le (a := 200) (by omega) (by omega)) (hK g h0 (by rw [show 200 = k by omega]; exact h2))
  | succ d ih =>
    intro k g hk h0 h2
    unfold wpX10_ask_L83
    rw [nI_1 k, nC_n (by omega)]
    refine br_f (nI_ge (b := 200) (by omega) (by omega)) ⟨vp_in_nI (by omega) (by omega), ih (k + 1) _ (by omega) (h0.trans (YQ.pa _ _ _ (by omega))) ?_⟩
    intro j hj
    rw [pa_s]
    by_cases e : j = k
    · subst e; simp [upd]; rfl
    · simp only [upd, if_neg e]; exact h2 j (by omega)
theorem lp10_108 {y0 : Ob} {A : AS} {w : Nat} {K : Int32 → Ob → Prop} (hy0 : YS y0 A) (ho : Own A) (hsg : Sig A) (hw : w < A.1 0) (hK : ∀ y, YQ y0 y → K (nI (tl (lw A w) (fl A (2 ^ A.1 0))).2) y) :
    ∀ d k y, k + d = 2 ^ A.1 0 → YQ y0 y → (∀ j, j < 200 → y 7 j = nI ((tl (lw A w) (fl A k)).1 j)) → wpX10_ask_L108 (nI w) 0 K (d + 1) (nI (tl (lw A w) (fl A k)).2) (nI k) y := by
  obtain ⟨⟨a1, a2⟩, b1, -, -, d1, -, h8, hg⟩ := id ho
  have h2 := two_pow_le a2
  intro d
  induction d with
  | zero =>
    intro k y hk hq h7
    have hy := hq.ys hy0
    have e : k = 2 ^ A.1 0 := by omega
    subst e
    unfold wpX10_ask_L108
    rw [hy.1.1, jshl_1 (by omega)]
    exact br_t (nI_le (by omega) (by omega)) (hK y hq)
  | succ d ih =>
    intro k y hk hq h7
    have hy := hq.ys hy0
    have ih1 := ih (k + 1)
    have hb := lw_bd ho hw k
    have ht := tl_bd (lw A w) (fl A k)
    have hl := fl_len A k
    have ht1 := ht.1 (lw A w k)
    unfold wpX10_ask_L108
    rw [hy.1.1, jshl_1 (by omega)]
    refine br_f (nI_ge (by omega) (by omega)) (br_t rfl (sp10_fits hy ho hsg (by omega) ?_))
    unfold jn2
    dsimp only
    rw [nI_1 k]
    refine b2_br (fun q => ?_) (fun q => ?_)
    · rw [fl_n q] at ih1
      exact ih1 y (by omega) hq h7
    · rw [fl_y q, tl_app] at ih1
      rw [hy.1.2.2.2.2.1]
      refine sp10_lengthOf hy.1.1 hy.1.2.1 hy.2.1 hg a2 b1 d1 hw (by omega) ?_
      rw [show len A.2.1 (A.1 0) (A.1 1 + A.1 4) k w = lw A w k from rfl]
      refine ⟨vp_in_nI (by omega) (by omega), vp_in_nI (by omega) (by omega), vp_in_nI (by omega) (by omega), ?_⟩
      rw [nC_n (by omega), jld_n (by omega), jld_n (by omega), h7 _ (by omega), nI_1 ((tl (lw A w) (fl A k)).1 (lw A w k))]
      have eu : upd (y 7) (lw A w k) (nI ((tl (lw A w) (fl A k)).1 (lw A w k) + 1)) (lw A w k) = nI ((tl (lw A w) (fl A k)).1 (lw A w k) + 1) := by simp [upd]
      rw [eu]
      have nx := ih1 (pa y 7 (lw A w k) (nI ((tl (lw A w) (fl A k)).1 (lw A w k) + 1))) (by omega) (hq.trans (YQ.pa _ _ _ (by omega))) (fun j hj => by
        rw [pa_s]
        unfold tk
        dsimp only
        by_cases e : j = lw A w k
        · rw [if_pos e, e]; exact eu
        · rw [if_neg e]; simp only [upd, if_neg e]; exact h7 j hj)
      unfold jn1
      dsimp only
      unfold tk at nx
      dsimp only at nx
      refine pk_le ((tl (lw A w) (fl A k)).1 (lw A w k) + 1) (tl (lw A w) (fl A k)).2 (fun c => ?_) (fun c => ⟨vp_in_nI (by omega) (by omega), ?_⟩)
      · rw [Nat.max_eq_left c] at nx; exact nx
      · rw [Nat.max_eq_right (by omega)] at nx; exact nx
def b3 (b : Option (Nat × Nat)) : Int32 := match b with
  | none => 1000000
  | some p => nI p.2
theorem lp10_21 {y0 : Ob} {A : AS} {K : Int32 → Int32 → Ob → Prop} (hy0 : YS y0 A) (ho : Own A) (hsg : Sig A) (hK : ∀ y, YQ y0 y → K (o2i ((wq A (fl A (2 ^ A.1 0)) (A.1 0)).map Prod.fst)) (b3 (wq A (fl A (2 ^ A.1 0)) (A.1 0))) y) :
    ∀ d w y, w + d = A.1 0 → YQ y0 y → wpX10_ask_L21 K (d + 1) (o2i ((wq A (fl A (2 ^ A.1 0)) w).map Prod.fst)) (b3 (wq A (fl A (2 ^ A.1 0)) w)) (nI w) y := by
  obtain ⟨⟨a1, a2⟩, b1, -, -, d1, -, h8, hg⟩ := id ho
  have h2 := two_pow_le a2
  have hl := fl_len A (2 ^ A.1 0)
  intro d
  induction d with
  | zero =>
    intro w y hk hq
    have hy := hq.ys hy0
    have e : w = A.1 0 := by omega
    subst e
    unfold wpX10_ask_L21
    rw [hy.1.1]
    exact br_t (nI_le (by omega) (by omega)) (hK y hq)
  | succ d ih =>
    intro w y hk hq
    have hy := hq.ys hy0
    have ih1 := ih (w + 1)
    unfold wpX10_ask_L21
    rw [hy.1.1, nI_1 w]
    refine br_f (nI_ge (by omega) (by omega)) ⟨A.1 6 + 1, ?_⟩
    have h36 := lp10_a36 (y := y) (w := w) (K := fun v5 => ∃ fu83 : Nat, wpX10_ask_L83 (fun (oY_105 : Ob) => ∃ fu108 : Nat, wpX10_ask_L108 (nI w) v5 (fun (v6_190 : Int32) (oY_190 : Ob) => jn1 (fun (p0_206 : Int32) => jn1 (fun (p0_219 : Int32) => jn1 (fun (p0_231 : Int32) => wpX10_ask_L21 K (d + 1) p0_219 p0_231 (nI (w + 1)) oY_190) (fun J231 => ((p0_206 = 0) → J231 (b3 (wq A (fl A (2 ^ A.1 0)) w))) ∧ (¬ (p0_206 = 0) → J231 v6_190))) (fun J219 => ((p0_206 = 0) → J219 (o2i ((wq A (fl A (2 ^ A.1 0)) w).map Prod.fst))) ∧ (¬ (p0_206 = 0) → J219 (nI w)))) (fun J206 => jn0 (J206 (0 : Int32)) (fun J205 => ((v6_190 ≤ 0) → J205) ∧ (¬ (v6_190 ≤ 0) → ((b3 (wq A (fl A (2 ^ A.1 0)) w) ≤ v6_190) → J205) ∧ (¬ (b3 (wq A (fl A (2 ^ A.1 0)) w) ≤ v6_190) → J206 (1 : Int32)))))) fu108 (0 : Int32) (0 : Int32) oY_105) fu83 (0 : Int32) y) hy ho hsg (by omega) (A.1 6) 0 False (by omega)
    rw [b2_f (p := False) id] at h36
    refine h36 ?_
    rw [b2_c (q := sn A w)]
    · refine ⟨_, lp10_z (y0 := y0) (fun y1 q1 q7 => ?_) 200 0 y (by omega) hq (fun j hj => absurd hj (Nat.not_lt_zero _))⟩
      by_cases c : sn A w
      · rw [b2_t c]
        refine ⟨1, ?_⟩
        unfold wpX10_ask_L108
        have hy1 := q1.ys hy0
        rw [hy1.1.1, jshl_1 (by omega)]
        refine br_f (nI_ge (a := 0) (Nat.two_pow_pos _) (by omega)) (br_f (by decide) ?_)
        unfold jn1 jn0
        dsimp only
        refine br_t (nI_le (a := 0) (b := 0) (by omega) (by omega)) (br_t rfl (br_t rfl ?_))
        rw [wq_y (Or.inl c)] at ih1
        exact ih1 y1 (by omega) q1
      · rw [b2_f c]
        refine ⟨_, lp10_108 (y0 := y0) hy0 ho hsg (by omega) (fun y2 q2 => ?_) (2 ^ A.1 0) 0 y1 (by omega) q1 q7⟩
        have hb := (tl_bd (lw A w) (fl A (2 ^ A.1 0))).2
        unfold jn1 jn0
        dsimp only
        refine pk_le (tl (lw A w) (fl A (2 ^ A.1 0))).2 0 (fun e => br_t rfl (br_t rfl ?_)) (fun e => ?_)
        · rw [wq_y (Or.inr ?_)] at ih1
          · exact ih1 y2 (by omega) q2
          · by_cases z : fl A (2 ^ A.1 0) = []
            · exact z
            · have := tl_pos (lw A w) z; omega
        · have hc : ¬ (sn A w ∨ fl A (2 ^ A.1 0) = []) := by
            rintro (z | z)
            · exact c z
            · rw [z] at hb
              rw [z] at e
              exact absurd hb (Nat.not_le.mpr e)
          rw [wq_n hc] at ih1
          have take : wst (tl (lw A w) (fl A (2 ^ A.1 0))).2 w (wq A (fl A (2 ^ A.1 0)) w) = some (w, (tl (lw A w) (fl A (2 ^ A.1 0))).2) → ((((1 : Int32) = 0) → (((1 : Int32) = 0) → wpX10_ask_L21 K (d + 1) (o2i ((wq A (fl A (2 ^ A.1 0)) w).map Prod.fst)) (b3 (wq A (fl A (2 ^ A.1 0)) w)) (nI (w + 1)) y2) ∧ (¬ ((1 : Int32) = 0) → wpX10_ask_L21 K (d + 1) (o2i ((wq A (fl A (2 ^ A.1 0)) w).map Prod.fst)) (nI (tl (lw A w) (fl A (2 ^ A.1 0))).2) (nI (w + 1)) y2)) ∧ (¬ ((1 : Int32) = 0) → (((1 : Int32) = 0) → wpX10_ask_L21 K (d + 1) (nI w) (b3 (wq A (fl A (2 ^ A.1 0)) w)) (nI (w + 1)) y2) ∧ (¬ ((1 : Int32) = 0) → wpX10_ask_L21 K (d + 1) (nI w) (nI (tl (lw A w) (fl A (2 ^ A.1 0))).2) (nI (w + 1)) y2))) := by
            intro z
            rw [z] at ih1
            exact br_f (by decide) (br_f (by decide) (ih1 y2 (by omega) q2))
          cases hqq : wq A (fl A (2 ^ A.1 0)) w with
          | none =>
            rw [hqq] at take
            refine br_f (nI_ge (b := 1000000) (by omega) (by omega)) (take rfl)
          | some p =>
            obtain ⟨bw, bm⟩ := p
            have hbb := wq_bd hqq
            rw [hqq] at take ih1
            unfold wst at take ih1
            dsimp only at take ih1
            refine pk_le bm (tl (lw A w) (fl A (2 ^ A.1 0))).2 (fun c2 => br_t rfl (br_t rfl ?_)) (fun c2 => ?_)
            · rw [if_pos c2] at ih1
              exact ih1 y2 (by omega) q2
            · rw [if_neg (by omega)] at take
              exact take rfl
    · unfold sn
      exact ⟨fun z => z.elim False.elim (fun ⟨i, h1, h2, h3⟩ => ⟨i, h2, h3⟩), fun ⟨i, h2, h3⟩ => Or.inr ⟨i, Nat.zero_le _, h2, h3⟩⟩
theorem st_ask {oX oS oG oY : Ob} {A : AS} (h : Good oS oY A) (v1 : Int32) {K : Int32 → Int32 → Ob → Ob → Prop} (hK : ∀ r g' y', YQ oY y' → K r r g' y') : wpX9_ask oX oS oG v1 (fun r g' => wpX10_ask oY v1 (fun r2 y' => K r r2 g' y')) := by
  obtain ⟨hs, hy, ho, hsg, how⟩ := id h
  obtain ⟨a1, a2⟩ := id ho.1
  have h2 := two_pow_le a2
  have hl := fl_len A (2 ^ A.1 0)
  unfold wpX9_ask
  refine sp9_out (b2_br (fun hin => ?_) (fun hout => ?_))
  · refine sp3_gather hs ho hsg (fun g hg => ?_)
    have fin : ∀ g', W2 g' (wq A (fl A (2 ^ A.1 0)) (A.1 0)) → ((v1 = 0) → wpX10_ask oY v1 (fun r2 y' => K (g' 0 3) r2 g' y')) ∧ (¬ (v1 = 0) → wpX10_ask oY v1 (fun r2 y' => K (g' 0 4) r2 g' y')) := by
      intro g' hw
      have mod : ∀ post : Int32 → Ob → Prop, (∀ y', YQ oY y' → (((o2i ((wq A (fl A (2 ^ A.1 0)) (A.1 0)).map Prod.fst)) < 0) → post (o2i ((wq A (fl A (2 ^ A.1 0)) (A.1 0)).map Prod.fst)) y') ∧ (¬ ((o2i ((wq A (fl A (2 ^ A.1 0)) (A.1 0)).map Prod.fst)) < 0) → ((v1 = 0) → post (o2i ((wq A (fl A (2 ^ A.1 0)) (A.1 0)).map Prod.fst)) y') ∧ (¬ (v1 = 0) → post (b3 (wq A (fl A (2 ^ A.1 0)) (A.1 0))) y'))) → wpX10_ask oY v1 post := by
        intro post hq
        unfold wpX10_ask
        refine sp10_in (b2_br (fun q => absurd hin q) (fun _ => ⟨_, lp10_21 hy ho hsg ?_ (A.1 0) 0 oY (by omega) (YQ.refl _)⟩))
        exact hq
      rw [hw.1, hw.2]
      cases hq : wq A (fl A (2 ^ A.1 0)) (A.1 0) with
      | none =>
        rw [hq] at mod
        exact ⟨fun e => mod _ (fun y' z => br_t (by decide) (hK _ _ _ z)), fun e => mod _ (fun y' z => br_t (by decide) (hK _ _ _ z))⟩
      | some p =>
        obtain ⟨bw, bm⟩ := p
        have hbb := wq_bd hq
        rw [hq] at mod
        exact ⟨fun e => mod _ (fun y' z => br_f (nI_nn (by omega)) (br_t e (hK _ _ _ z))), fun e => mod _ (fun y' z => br_f (nI_nn (by omega)) (br_f e (hK _ _ _ z)))⟩
    unfold wpX3_chooseWindow
    rw [hg.1]
    refine pk_eq (fl A (2 ^ A.1 0)).length 0 (fun e => ?_) (fun e => ?_)
    · refine fin _ ?_
      have en := List.length_eq_zero_iff.mp e
      have : ∀ w, wq A (fl A (2 ^ A.1 0)) w = none := by
        intro w
        induction w with
        | zero => rfl
        | succ w ih => rw [wq_y (Or.inr en)]; exact ih
      rw [this]
      exact ⟨by rw [pf_n _ _ (by decide), pf_s]; rfl, by rw [pf_s]; rfl⟩
    · refine ⟨_, lp3_22 hs ho hsg (by omega) (fun x hx => ?_) (fun q => e (by rw [q]; rfl)) fin (A.1 0) 0 _ (by omega) ⟨?_, fun i x hi => ?_⟩ ⟨?_, ?_⟩⟩
      · have := (fl_mem hx).1; omega
      · rw [pf_n _ _ (by decide), pf_n _ _ (by decide)]; exact hg.1
      · rw [pf_r _ _ _ _ (by decide), pf_r _ _ _ _ (by decide)]; exact hg.2 i x hi
      · rw [pf_n _ _ (by decide), pf_s]; rfl
      · rw [pf_s]; rfl
  · unfold wpX10_ask
    exact sp10_in (b2_br (fun _ => hK _ _ _ (YQ.refl _)) (fun q => absurd hout q))
