/-! changes: the rest -/
theorem i_FAR : (1000000 : Int32) = nI FAR := rfl
theorem lp7_keep {l0 : Ob} {L f : Nat → Nat} {t N : Nat} {K : Ob → Prop} (hN : N ≤ 1024) (hL : ∀ T, T < N → l0 1 T = nI (L T)) (hLb : ∀ T, L T < 2 ^ 30) (ht : t < 2 ^ 30) (hK : ∀ l, l 1 = l0 1 → (∀ T, T < N → l 2 T = nI (if L T = t then f T else FAR)) → K l) :
    ∀ d k l, k + d = N → l 1 = l0 1 → (∀ T, T < N → l 2 T = nI (if k ≤ T then f T else if L T = t then f T else FAR)) → wpX7_keepTone_L2 (nI t) (nI N) K (d + 1) (nI k) l := by
  intro d
  induction d with
  | zero =>
    intro k l hk h1 hT
    unfold wpX7_keepTone_L2
    refine br_t (nI_le (by omega) (by omega)) (hK l h1 (fun T hTN => ?_))
    rw [hT T hTN, if_neg (by omega)]
  | succ d ih =>
    intro k l hk h1 hT
    have hb := hLb k
    unfold wpX7_keepTone_L2
    rw [jld_n (by omega), h1, hL k (by omega), nI_1 k, nC_n (by omega), i_FAR]
    unfold jn1
    dsimp only
    refine br_f (nI_ge (by omega) (by omega)) ⟨vp_in_nI (by omega) (by omega), pk_eq (L k) t (fun e => ?_) (fun e => ⟨vp_in_nI (by omega) (by omega), ?_⟩)⟩
    · refine ih (k + 1) l (by omega) h1 (fun T hTN => ?_)
      rw [hT T hTN]
      by_cases eT : T = k
      · rw [eT, if_pos (Nat.le_refl _), if_neg (by omega), if_pos e]
      · by_cases q : k ≤ T
        · rw [if_pos q, if_pos (by omega)]
        · rw [if_neg q, if_neg (show ¬ k + 1 ≤ T by omega)]
    · refine ih (k + 1) _ (by omega) ((pa_n _ _ _ (by decide)).trans h1) (fun T hTN => ?_)
      rw [pa_s]
      by_cases eT : T = k
      · simp only [upd, if_pos eT]
        rw [eT, if_neg (by omega), if_neg e]
      · simp only [upd, if_neg eT]
        rw [hT T hTN]
        by_cases q : k ≤ T
        · rw [if_pos q, if_pos (by omega)]
        · rw [if_neg q, if_neg (show ¬ k + 1 ≤ T by omega)]
theorem Lq_lt {A : AS} (ho : Own A) {a : Nat} (ha : a < A.1 0) (S : Nat) : Lq A a S < 2 ^ 30 := by
  unfold Lq
  by_cases c : popc S ≤ may (A.1 0)
  · rw [if_pos c]; have := lw_bd ho ha S; omega
  · rw [if_neg c]; decide
theorem lp7_p17 {s : Ob} {A : AS} {a : Nat} {P : PD} {K : Ob → Prop} (hs : StS s A) (ho : Own A) (ha : a < A.1 0) (hK : ∀ l, (∀ T, T < 2 ^ A.1 0 → l 1 T = nI (Lq A a T) ∧ l 2 T = nI (cs A a P 0 T)) → K l) :
    ∀ d k l, k + d = 2 ^ A.1 0 → (∀ T, T < k → l 1 T = nI (Lq A a T) ∧ l 2 T = nI (cs A a P 0 T)) → wpX7_playTune_L17 (nI a) (nI (2 ^ A.1 0)) s K (d + 1) (nI k) l := by
  obtain ⟨a1, a2⟩ := id ho.1
  have h2 := two_pow_le a2
  have hf5 := ho.2.2.2.2.2.1.1
  intro d
  induction d with
  | zero =>
    intro k l hk hT
    have e : k = 2 ^ A.1 0 := by omega
    subst e
    unfold wpX7_playTune_L17
    exact br_t (nI_le (by omega) (by omega)) (hK l hT)
  | succ d ih =>
    intro k l hk hT
    unfold wpX7_playTune_L17
    rw [hs.1 5 (by omega), nI_1 k]
    unfold jn2
    dsimp only
    have put : ∀ x : Int32, x = nI (Lq A a k) → (vp_in (nI k) 1024) ∧ (((nI k = nI (A.1 5)) → ∀ l1 : Ob, l1 = pa l 1 (nC (nI k)) x → (vp_in (nI k) 1024) ∧ wpX7_playTune_L17 (nI a) (nI (2 ^ A.1 0)) s K (d + 1) (nI (k + 1)) (pa l1 2 (nC (nI k)) (0 : Int32))) ∧ (¬ (nI k = nI (A.1 5)) → ∀ l1 : Ob, l1 = pa l 1 (nC (nI k)) x → (vp_in (nI k) 1024) ∧ wpX7_playTune_L17 (nI a) (nI (2 ^ A.1 0)) s K (d + 1) (nI (k + 1)) (pa l1 2 (nC (nI k)) (1000000 : Int32)))) := by
      intro x hx
      rw [nC_n (by omega)]
      have go : ∀ z : Int32, z = nI (cs A a P 0 k) → ∀ l1 : Ob, l1 = pa l 1 k x → (vp_in (nI k) 1024) ∧ wpX7_playTune_L17 (nI a) (nI (2 ^ A.1 0)) s K (d + 1) (nI (k + 1)) (pa l1 2 k z) := by
        intro z hz l1 e1
        refine ⟨vp_in_nI (by omega) (by omega), ih (k + 1) _ (by omega) (fun T hTk => ?_)⟩
        rw [pa_s, pa_n _ _ _ (by decide), e1, pa_s, pa_n _ _ _ (by decide)]
        by_cases eT : T = k
        · simp only [upd, if_pos eT]; rw [eT]; exact ⟨hx, hz⟩
        · simp only [upd, if_neg eT]; exact hT T (by omega)
      refine ⟨vp_in_nI (by omega) (by omega), pk_eq k (A.1 5) (fun e => go 0 ?_) (fun e => go _ ?_)⟩
      · simp only [cs]; rw [if_pos e]; rfl
      · simp only [cs]; rw [if_neg e]; rfl
    refine br_f (nI_ge (by omega) (by omega)) (sp8_allows (hs.1 0 (by omega)) a1 a2 (by omega) (b2_br (fun q => put 0 ?_) (fun q => sp8_lengthAt hs ho ha (by omega) (put _ ?_))))
    · unfold Lq; rw [if_neg q]; rfl
    · unfold Lq; rw [if_pos q]; rfl
theorem lp7_p82 {s p : Ob} {A : AS} {a : Nat} {P : PD} {K : Ob → Prop} (hs : StS s A) (ho : Own A) (ha : a < A.1 0) (hp : PS p P) (hok : POk P) (ht : TuneOk P) (hK : ∀ l, (∀ T, T < 2 ^ A.1 0 → l 2 T = nI (cs A a P (P.1 / 2) T)) → K l) :
    ∀ d i l, i + d = P.1 / 2 → (∀ T, T < 2 ^ A.1 0 → l 1 T = nI (Lq A a T) ∧ l 2 T = nI (cs A a P i T)) → wpX7_playTune_L82 (nI (2 ^ A.1 0)) s p K (d + 1) (nI i) l := by
  obtain ⟨a1, a2⟩ := id ho.1
  have h2 := two_pow_le a2
  have h60 := hok.1
  have tc : ∀ {post : Int32 → Prop}, post (nI (P.1 / 2)) → wpX5_toneCount p post := by
    intro post h
    unfold wpX5_toneCount
    have := pk_div (a := P.1) (d := 2) (by omega) (by omega) (by omega)
    rw [hp.1, show (2 : Int32) = nI 2 from rfl, this]
    exact h
  intro d
  induction d with
  | zero =>
    intro i l hk hT
    have e : i = P.1 / 2 := by omega
    subst e
    unfold wpX7_playTune_L82
    exact tc (br_t (nI_le (by omega) (by omega)) (hK l (fun T hTN => (hT T hTN).2)))
  | succ d ih =>
    intro i l hk hT
    have hb := tone_bd ht (show i < P.1 / 2 by omega)
    unfold wpX7_playTune_L82
    refine tc (br_f (nI_ge (by omega) (by omega)) ?_)
    unfold wpX7_spreadCosts
    rw [hs.1 0 (by omega), nI_1 i]
    refine ⟨A.1 0 + 1, lp7_s2 (l0 := l) (c := cs A a P i) a2 (cs_le A a P i) (fun l1 w1 w2 => ?_) (A.1 0) 0 l (by omega) rfl (fun T hTN => (hT T hTN).2)⟩
    refine sp5_tone hp hok ht (by omega) ?_
    unfold wpX7_keepTone
    refine ⟨2 ^ A.1 0 + 1, lp7_keep (l0 := l1) (L := Lq A a) (f := Dm (cs A a P i) (A.1 0)) h2 (fun T hTN => by rw [w1]; exact (hT T hTN).1) (Lq_lt ho ha) (by omega) (fun l2 x1 x2 => ih (i + 1) l2 (by omega) (fun T hTN => ⟨by rw [x1, w1]; exact (hT T hTN).1, x2 T hTN⟩)) (2 ^ A.1 0) 0 l1 (by omega) rfl (fun T hTN => ?_)⟩
    rw [if_pos (Nat.zero_le _)]; exact w2 T hTN
/-- the last choice: the least cost, the least set of it -/
def ch (f : Nat → Nat) : Nat → Option Nat × Nat
  | 0 => (none, FAR)
  | k + 1 => if (ch f k).2 ≤ f k then ch f k else (some k, f k)
theorem ch_bd {f : Nat → Nat} (hf : ∀ S, f S ≤ FAR) : ∀ k, (ch f k).2 ≤ FAR ∧ ∀ s, (ch f k).1 = some s → s < k
  | 0 => ⟨Nat.le_refl _, fun s h => by cases h⟩
  | k + 1 => by
    have h := ch_bd hf k
    simp only [ch]
    by_cases c : (ch f k).2 ≤ f k
    · rw [if_pos c]; exact ⟨h.1, fun s hs => by have := h.2 s hs; omega⟩
    · rw [if_neg c]; exact ⟨hf k, fun s hs => by cases hs; omega⟩
theorem lp7_14 {f : Nat → Nat} {N : Nat} {K : Ob → Prop} (hN : N ≤ 1024) (hf : ∀ S, f S ≤ FAR) (hK : ∀ l, l 0 3 = o2i (ch f N).1 → l 0 4 = nI (ch f N).2 → K l) :
    ∀ d k l, k + d = N → (∀ T, T < N → l 2 T = nI (f T)) → l 0 3 = o2i (ch f k).1 → l 0 4 = nI (ch f k).2 → wpX7_chooseLast_L14 (nI N) K (d + 1) (nI k) l := by
  intro d
  induction d with
  | zero =>
    intro k l hk hT h3 h4
    have e : k = N := by omega
    subst e
    unfold wpX7_chooseLast_L14
    exact br_t (nI_le (by omega) (by omega)) (hK l h3 h4)
  | succ d ih =>
    intro k l hk hT h3 h4
    have hb := (ch_bd hf k).1
    have hfk := hf k
    unfold FAR at hb hfk
    have ih1 := ih (k + 1)
    simp only [ch] at ih1
    unfold wpX7_chooseLast_L14
    rw [jld_n (by omega), hT k (by omega), h4, nI_1 k]
    unfold jn1
    dsimp only
    refine br_f (nI_ge (by omega) (by omega)) ⟨vp_in_nI (by omega) (by omega), pk_le (ch f k).2 (f k) (fun c => ?_) (fun c => ⟨vp_in_nI (by omega) (by omega), ?_⟩)⟩
    · rw [if_pos c] at ih1
      exact ih1 l (by omega) hT h3 h4
    · rw [if_neg (by omega)] at ih1
      refine ih1 _ (by omega) (fun T hTN => ?_) ?_ ?_
      · rw [pf_r _ _ _ _ (by decide), pf_r _ _ _ _ (by decide)]; exact hT T hTN
      · rw [pf_n _ _ (by decide), pf_s]; rfl
      · rw [pf_s]
theorem sp7_play {s p l : Ob} {A : AS} {a : Nat} {P : PD} {post : Ob → Prop} (hs : StS s A) (ho : Own A) (ha : a < A.1 0) (hp : PS p P) (hok : POk P) (ht : TuneOk P) (hpo : ∀ l, l 0 3 = o2i (ch (cs A a P (P.1 / 2)) (2 ^ A.1 0)).1 → l 0 4 = nI (ch (cs A a P (P.1 / 2)) (2 ^ A.1 0)).2 → post l) : wpX7_playTune s p l (nI a) post := by
  obtain ⟨a1, a2⟩ := id ho.1
  have h2 := two_pow_le a2
  unfold wpX7_playTune
  intro y12 e
  have e12 : y12 = nI (2 ^ A.1 0) := by
    rw [e, hs.1 0 (by omega), jshl_1 (by omega)]
    have := jmin_n (a := 2 ^ A.1 0) (b := 1024) (by omega) (by omega)
    rw [show (1024 : Int32) = nI 1024 from rfl, this]
    congr 1; omega
  rw [e12]
  refine ⟨2 ^ A.1 0 + 1, lp7_p17 (P := P) hs ho ha (fun l1 w => ⟨P.1 / 2 + 1, lp7_p82 hs ho ha hp hok ht (fun l2 x => ?_) (P.1 / 2) 0 l1 (by omega) w⟩) (2 ^ A.1 0) 0 l (by omega) (fun T hT => absurd hT (Nat.not_lt_zero _))⟩
  unfold wpX7_chooseLast
  refine ⟨2 ^ A.1 0 + 1, lp7_14 (K := fun o => post o) h2 (cs_le A a P (P.1 / 2)) hpo (2 ^ A.1 0) 0 _ (by omega) (fun T hTN => ?_) ?_ ?_⟩
  · rw [pf_r _ _ _ _ (by decide), pf_r _ _ _ _ (by decide)]; exact x T hTN
  · rw [pf_n _ _ (by decide), pf_s]; rfl
  · rw [pf_s]; rfl
