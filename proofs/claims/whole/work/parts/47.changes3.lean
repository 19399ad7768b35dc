/-! changes: the reference -/
theorem lp10_c42 {y0 : Ob} {A : AS} {a : Nat} {P : PD} {K : Ob → Prop} (hy0 : YS y0 A) (ho : Own A) (hK : ∀ y, YQ y0 y → (∀ T, T < 2 ^ A.1 0 → y 5 T = nI (cs A a P 0 T)) → K y) :
    ∀ d k y, k + d = 2 ^ A.1 0 → YQ y0 y → (∀ T, T < k → y 5 T = nI (cs A a P 0 T)) → wpX10_changes_L42 (nI (2 ^ A.1 0)) K (d + 1) (nI k) y := by
  obtain ⟨a1, a2⟩ := id ho.1
  have h2 := two_pow_le a2
  have hf5 := ho.2.2.2.2.2.1.1
  intro d
  induction d with
  | zero =>
    intro k y hk hq hT
    have e : k = 2 ^ A.1 0 := by omega
    subst e
    unfold wpX10_changes_L42
    exact br_t (nI_le (by omega) (by omega)) (hK y hq hT)
  | succ d ih =>
    intro k y hk hq hT
    have hy := hq.ys hy0
    unfold wpX10_changes_L42
    rw [hy.1.2.2.2.2.2.1, nI_1 k]
    unfold jn2
    dsimp only
    have put : ∀ x : Int32, x = nI (cs A a P 0 k) → (vp_in (nI k) 1024) ∧ wpX10_changes_L42 (nI (2 ^ A.1 0)) K (d + 1) (nI (k + 1)) (pa y 5 (nC (nI k)) x) := by
      intro x hx
      rw [nC_n (by omega)]
      refine ⟨vp_in_nI (by omega) (by omega), ih (k + 1) _ (by omega) (hq.trans (YQ.pa _ _ _ (by omega))) (fun T hTk => ?_)⟩
      rw [pa_s]
      by_cases eT : T = k
      · simp only [upd, if_pos eT]; rw [eT]; exact hx
      · simp only [upd, if_neg eT]; exact hT T (by omega)
    refine br_f (nI_ge (by omega) (by omega)) (pk_eq k (A.1 5) (fun e => put 0 ?_) (fun e => put _ ?_))
    · simp only [cs]; rw [if_pos e]; rfl
    · simp only [cs]; rw [if_neg e]; rfl
theorem lp10_c144 {y0 : Ob} {c : Nat → Nat} {n S : Nat} {g : Nat → Nat} {K : Ob → Prop} (hn : n ≤ 10) (hS : S < 2 ^ n) (hc : ∀ T, c T ≤ FAR) (hK : ∀ y, YQ y0 y → (∀ T, T < 2 ^ n → y 5 T = nI (c T)) → (∀ T, T < S → y 6 T = nI (g T)) → y 6 S = nI (mm c S (2 ^ n)) → K y) :
    ∀ d k y, k + d = 2 ^ n → YQ y0 y → (∀ T, T < 2 ^ n → y 5 T = nI (c T)) → (∀ T, T < S → y 6 T = nI (g T)) → y 6 S = nI (mm c S k) → wpX10_changes_L144 (nI (2 ^ n)) (nI S) K (d + 1) (nI k) y := by
  have h2 := two_pow_le hn
  intro d
  induction d with
  | zero =>
    intro k y hk hq h5 h6 hm
    have e : k = 2 ^ n := by omega
    subst e
    unfold wpX10_changes_L144
    exact br_t (nI_le (by omega) (by omega)) (hK y hq h5 h6 hm)
  | succ d ih =>
    intro k y hk hq h5 h6 hm
    have hck := hc k
    have hmk := mm_le c S k
    have hpc := popc_le (k ^^^ S)
    have hx : k ^^^ S < 2 ^ n := Nat.xor_lt_two_pow (by omega) hS
    have FARe : FAR = 1000000 := rfl
    have ih1 := ih (k + 1)
    simp only [mm] at ih1
    unfold wpX10_changes_L144
    rw [jld_n (by omega), jld_n (by omega), h5 k (by omega), hm, nI_1 k, nI_xor, i_FAR]
    unfold jn1 jn2
    dsimp only
    have put : ∀ p : Nat, p ≤ 2000000 → p = (if c k = FAR then FAR else c k + popc (k ^^^ S)) → (vp_in (nI S) 1024) ∧ (((nI (mm c S k) ≤ nI p) → (vp_in (nI S) 1024) ∧ ((vp_in (nI S) 1024) ∧ wpX10_changes_L144 (nI (2 ^ n)) (nI S) K (d + 1) (nI (k + 1)) (pa y 6 (nC (nI S)) (nI (mm c S k))))) ∧ (¬ (nI (mm c S k) ≤ nI p) → (vp_in (nI S) 1024) ∧ wpX10_changes_L144 (nI (2 ^ n)) (nI S) K (d + 1) (nI (k + 1)) (pa y 6 (nC (nI S)) (nI p)))) := by
      intro p hpb hp
      rw [← hp] at ih1
      rw [nC_n (by omega)]
      have go : ∀ z : Nat, z = min (mm c S k) p → wpX10_changes_L144 (nI (2 ^ n)) (nI S) K (d + 1) (nI (k + 1)) (pa y 6 S (nI z)) := by
        intro z hz
        refine ih1 _ (by omega) (hq.trans (YQ.pa _ _ _ (by omega))) (fun T hT => ?_) (fun T hT => ?_) ?_
        · rw [pa_n _ _ _ (by decide)]; exact h5 T hT
        · rw [pa_s]; simp only [upd, if_neg (show ¬ T = S by omega)]; exact h6 T hT
        · rw [pa_s, ← hz]; simp [upd]
      refine ⟨vp_in_nI (by omega) (by omega), pk_le (mm c S k) p (fun q => ⟨vp_in_nI (by omega) (by omega), vp_in_nI (by omega) (by omega), go _ ?_⟩) (fun q => ⟨vp_in_nI (by omega) (by omega), go _ ?_⟩)⟩
      · rw [Nat.min_eq_left q]
      · rw [Nat.min_eq_right (by omega)]
    refine br_f (nI_ge (by omega) (by omega)) ⟨vp_in_nI (by omega) (by omega), pk_eq (c k) FAR (fun e => put FAR (by omega) ?_) (fun e => ⟨vp_in_nI (by omega) (by omega), sp10_bits (by omega) ?_⟩)⟩
    · rw [if_pos e]
    · rw [nI_add]
      refine put (c k + popc (k ^^^ S)) (by omega) ?_
      rw [if_neg e]
theorem lp10_c101 {y0 : Ob} {A : AS} {a i : Nat} {P : PD} {K : Ob → Prop} (hy0 : YS y0 A) (ho : Own A) (ha : a < A.1 0) (ht1 : 1 ≤ tone P i) (ht2 : tone P i ≤ 20) (hK : ∀ y, YQ y0 y → (∀ T, T < 2 ^ A.1 0 → y 6 T = nI (cs A a P (i + 1) T)) → K y) :
    ∀ d k y, k + d = 2 ^ A.1 0 → YQ y0 y → (∀ T, T < 2 ^ A.1 0 → y 5 T = nI (cs A a P i T)) → (∀ T, T < k → y 6 T = nI (cs A a P (i + 1) T)) → wpX10_changes_L101 (nI a) (nI (2 ^ A.1 0)) (nI (tone P i)) K (d + 1) (nI k) y := by
  obtain ⟨⟨a1, a2⟩, b1, l1, -, d1, -, h8, hg⟩ := id ho
  have h2 := two_pow_le a2
  intro d
  induction d with
  | zero =>
    intro k y hk hq h5 h6
    have e : k = 2 ^ A.1 0 := by omega
    subst e
    unfold wpX10_changes_L101
    exact br_t (nI_le (by omega) (by omega)) (hK y hq h6)
  | succ d ih =>
    intro k y hk hq h5 h6
    have hy := hq.ys hy0
    have hlw := lw_bd ho ha k
    unfold wpX10_changes_L101
    rw [nI_1 k, nC_n (by omega), i_FAR, hy.1.2.2.2.2.1]
    unfold jn1
    dsimp only
    obtain ⟨y1, e1⟩ : ∃ y1, y1 = pa y 6 k (nI FAR) := ⟨_, rfl⟩
    rw [← e1]
    have q1 : YQ y0 y1 := by rw [e1]; exact hq.trans (YQ.pa _ _ _ (by omega))
    have hy1 := q1.ys hy0
    have r5 : ∀ T, T < 2 ^ A.1 0 → y1 5 T = nI (cs A a P i T) := fun T hT => by rw [e1, pa_n _ _ _ (by decide)]; exact h5 T hT
    have r6 : ∀ T, T < k → y1 6 T = nI (cs A a P (i + 1) T) := fun T hT => by
      rw [e1, pa_s]; simp only [upd, if_neg (show ¬ T = k by omega)]; exact h6 T hT
    have r6k : y1 6 k = nI FAR := by rw [e1, pa_s]; simp [upd]
    have skip : ¬ Lq A a k = tone P i → wpX10_changes_L101 (nI a) (nI (2 ^ A.1 0)) (nI (tone P i)) K (d + 1) (nI (k + 1)) y1 := fun q => ih (k + 1) y1 (by omega) q1 r5 (fun T hT => by
      by_cases eT : T = k
      · rw [eT, r6k]; simp only [cs]; rw [if_neg q]
      · exact r6 T (by omega))
    refine br_f (nI_ge (by omega) (by omega)) ⟨vp_in_nI (by omega) (by omega), sp10_canBe hy1.1.1 a1 a2 (by omega) (b2_br (fun q => skip ?_) (fun q => ?_))⟩
    · unfold Lq; rw [if_neg q]; omega
    · refine sp10_lengthOf hy1.1.1 hy1.1.2.1 hy1.2.1 hg a2 b1 d1 ha (by omega) ?_
      rw [show len A.2.1 (A.1 0) (A.1 1 + A.1 4) k a = lw A a k from rfl]
      have eL : Lq A a k = lw A a k := by unfold Lq; rw [if_pos q]
      refine pk_eq (lw A a k) (tone P i) (fun e => ⟨2 ^ A.1 0 + 1, ?_⟩) (fun e => skip (by rw [eL]; exact e))
      refine lp10_c144 (y0 := y0) (c := cs A a P i) (g := cs A a P (i + 1)) a2 (show k < 2 ^ A.1 0 by omega) (cs_le A a P i) (fun y2 w1 w2 w3 w4 => ih (k + 1) y2 (by omega) w1 w2 (fun T hT => ?_)) (2 ^ A.1 0) 0 y1 (by omega) q1 r5 r6 r6k
      by_cases eT : T = k
      · rw [eT, w4, mm_Dm a2 (by omega) (cs_le A a P i)]
        simp only [cs]; rw [if_pos (by rw [eL]; exact e)]
      · exact w3 T (by omega)
theorem lp10_c231 {y0 : Ob} {f : Nat → Nat} {N : Nat} {K : Ob → Prop} (hN : N ≤ 1024) (hK : ∀ y, YQ y0 y → (∀ T, T < N → y 5 T = nI (f T)) → K y) :
    ∀ d k y, k + d = N → YQ y0 y → (∀ T, T < N → y 6 T = nI (f T)) → (∀ T, T < k → y 5 T = nI (f T)) → wpX10_changes_L231 (nI N) K (d + 1) (nI k) y := by
  intro d
  induction d with
  | zero =>
    intro k y hk hq h6 h5
    have e : k = N := by omega
    subst e
    unfold wpX10_changes_L231
    exact br_t (nI_le (by omega) (by omega)) (hK y hq h5)
  | succ d ih =>
    intro k y hk hq h6 h5
    unfold wpX10_changes_L231
    rw [nI_1 k, nC_n (by omega), jld_n (by omega), h6 k (by omega)]
    refine br_f (nI_ge (by omega) (by omega)) ⟨vp_in_nI (by omega) (by omega), vp_in_nI (by omega) (by omega), ih (k + 1) _ (by omega) (hq.trans (YQ.pa _ _ _ (by omega))) (fun T hT => ?_) (fun T hT => ?_)⟩
    · rw [pa_n _ _ _ (by decide)]; exact h6 T hT
    · rw [pa_s]
      by_cases eT : T = k
      · simp only [upd, if_pos eT]; rw [eT]
      · simp only [upd, if_neg eT]; exact h5 T (by omega)
theorem lp10_c79 {y0 : Ob} {A : AS} {a : Nat} {P : PD} {K : Ob → Prop} (hy0 : YS y0 A) (ho : Own A) (ha : a < A.1 0) (hp0 : YP y0 P) (hok : POk P) (ht : TuneOk P) (hK : ∀ y, YQ y0 y → (∀ T, T < 2 ^ A.1 0 → y 5 T = nI (cs A a P (P.1 / 2) T)) → K y) :
    ∀ d i y, i + d = P.1 / 2 → YQ y0 y → (∀ T, T < 2 ^ A.1 0 → y 5 T = nI (cs A a P i T)) → wpX10_changes_L79 (nI a) (nI (2 ^ A.1 0)) K (d + 1) (nI i) y := by
  obtain ⟨a1, a2⟩ := id ho.1
  have h2 := two_pow_le a2
  have h60 := hok.1
  have dv := pk_div (a := P.1) (d := 2) (by omega) (by omega) (by omega)
  intro d
  induction d with
  | zero =>
    intro i y hk hq h5
    have hp := hq.yp hp0
    have e : i = P.1 / 2 := by omega
    subst e
    unfold wpX10_changes_L79
    rw [hp.1, show (2 : Int32) = nI 2 from rfl, dv]
    exact br_t (nI_le (by omega) (by omega)) (hK y hq h5)
  | succ d ih =>
    intro i y hk hq h5
    have hp := hq.yp hp0
    have hb := tone_bd ht (show i < P.1 / 2 by omega)
    unfold wpX10_changes_L79
    rw [hp.1, show (2 : Int32) = nI 2 from rfl, dv, nI_1 i]
    refine br_f (nI_ge (by omega) (by omega)) (sp10_note hp hok ht (by omega) ⟨2 ^ A.1 0 + 1, ?_⟩)
    refine lp10_c101 hy0 ho ha hb.2.2.1 hb.2.2.2 (fun y1 w1 w2 => ⟨2 ^ A.1 0 + 1, ?_⟩) (2 ^ A.1 0) 0 y (by omega) hq h5 (fun T hT => absurd hT (Nat.not_lt_zero _))
    exact lp10_c231 h2 (fun y2 x1 x2 => ih (i + 1) y2 (by omega) x1 x2) (2 ^ A.1 0) 0 y1 (by omega) w1 w2 (fun T hT => absurd hT (Nat.not_lt_zero _))
theorem lp10_c274 {y : Ob} {f : Nat → Nat} {N : Nat} {K : Int32 → Int32 → Prop} (hN : N ≤ 1024) (hf : ∀ S, f S ≤ FAR) (h5 : ∀ T, T < N → y 5 T = nI (f T)) (hK : K (o2i (ch f N).1) (nI (ch f N).2)) :
    ∀ d k, k + d = N → wpX10_changes_L274 (nI N) y K (d + 1) (o2i (ch f k).1) (nI (ch f k).2) (nI k) := by
  intro d
  induction d with
  | zero =>
    intro k hk
    have e : k = N := by omega
    subst e
    unfold wpX10_changes_L274
    exact br_t (nI_le (by omega) (by omega)) hK
  | succ d ih =>
    intro k hk
    have hb := (ch_bd hf k).1
    have hfk := hf k
    unfold FAR at hb hfk
    have ih1 := ih (k + 1) (by omega)
    simp only [ch] at ih1
    unfold wpX10_changes_L274
    rw [jld_n (by omega), h5 k (by omega), nI_1 k]
    unfold jn1
    dsimp only
    refine br_f (nI_ge (by omega) (by omega)) ⟨vp_in_nI (by omega) (by omega), pk_le (ch f k).2 (f k) (fun c => ⟨vp_in_nI (by omega) (by omega), br_t (nI_le c (by omega)) ?_⟩) (fun c => ⟨vp_in_nI (by omega) (by omega), br_f (nI_ge (by omega) (by omega)) ⟨vp_in_nI (by omega) (by omega), ?_⟩⟩)⟩
    · rw [if_pos c] at ih1; exact ih1
    · rw [if_neg (by omega)] at ih1; exact ih1
theorem st_changes {oX oS oP oK oY : Ob} {A : AS} {P : PD} (h : Good oS oY A) (hP : GoodP oP oY P) (v1 v2 : Int32) {K : Int32 → Int32 → Ob → Ob → Prop} (hK : ∀ r k' y', YQ oY y' → K r r k' y') : wpX9_changes oX oS oP oK v1 v2 (fun r k' => wpX10_changes oY v1 v2 (fun r2 y' => K r r2 k' y')) := by
  obtain ⟨hs, hy, ho, hsg, how⟩ := id h
  obtain ⟨hp, hyp, hok⟩ := hP
  obtain ⟨a1, a2⟩ := id ho.1
  have h2 := two_pow_le a2
  have h60 := hok.1
  unfold wpX9_changes
  rcases win_cases v1 a2 with q | ⟨a, ha, rfl⟩
  · refine sp8_has_n (hs.1 0 (by omega)) q (br_t rfl ?_)
    unfold wpX10_changes
    exact sp10_isWindow_n hy.1.1 (by omega) a2 q (br_t rfl (hK _ _ _ (YQ.refl _)))
  · refine sp8_has_y (hs.1 0 (by omega)) a2 ha (br_f (by decide) ?_)
    refine sp9_out (b2_br (fun i2 => ?_) (fun o2 => ?_))
    · obtain ⟨w, w1, w2, rfl⟩ := in_rng (a := 0) (b := 1) (x := v2) (by omega) (fun q => i2 (Or.inl q)) (fun q => i2 (Or.inr q)) (by omega)
      refine sp5_tuneFault hp hok ?_
      rcases tfl_or h60 P.1 0 (by omega) (fun j hj => absurd hj (Nat.not_lt_zero _)) with ⟨ht, e⟩ | ⟨j, hj, e⟩
      · rw [e]
        refine br_t rfl (sp7_play hs ho ha hp hok ht (fun l e3 e4 => ?_))
        have mod : ∀ post : Int32 → Ob → Prop, (∀ y', YQ oY y' → ((o2i (ch (cs A a P (P.1 / 2)) (2 ^ A.1 0)).1 < 0) → post (o2i (ch (cs A a P (P.1 / 2)) (2 ^ A.1 0)).1) y') ∧ (¬ (o2i (ch (cs A a P (P.1 / 2)) (2 ^ A.1 0)).1 < 0) → ((nI w = (1 : Int32)) → post (o2i (ch (cs A a P (P.1 / 2)) (2 ^ A.1 0)).1) y') ∧ (¬ (nI w = (1 : Int32)) → post (nI (ch (cs A a P (P.1 / 2)) (2 ^ A.1 0)).2) y'))) → wpX10_changes oY (nI a) (nI w) post := by
          intro post hpo
          unfold wpX10_changes
          refine sp10_isWindow_y hy.1.1 a2 ha (br_f (by decide) (sp10_in (b2_br (fun q => absurd i2 q) (fun _ => sp10_tuneFault hyp hok ?_))))
          rw [e, hy.1.1, jshl_1 (by omega)]
          refine br_t (by decide) ⟨2 ^ A.1 0 + 1, lp10_c42 (a := a) (P := P) hy ho (fun y1 w1 w2 => ⟨P.1 / 2 + 1, lp10_c79 hy ho ha hyp hok ht (fun y2 x1 x2 => ⟨2 ^ A.1 0 + 1, ?_⟩) (P.1 / 2) 0 y1 (by omega) w1 w2⟩) (2 ^ A.1 0) 0 oY (by omega) (YQ.refl _) (fun T hT => absurd hT (Nat.not_lt_zero _))⟩
          exact lp10_c274 h2 (cs_le A a P (P.1 / 2)) x2 (hpo y2 x1) (2 ^ A.1 0) 0 (by omega)
        rw [e3, e4]
        have hb := ch_bd (cs_le A a P (P.1 / 2)) (2 ^ A.1 0)
        cases hc : (ch (cs A a P (P.1 / 2)) (2 ^ A.1 0)).1 with
        | none =>
          rw [hc] at mod
          exact br_t rfl (mod _ (fun y' z => br_t (by decide) (hK _ _ _ z)))
        | some z =>
          have hz := hb.2 z hc
          rw [hc] at mod
          refine br_f (nI_ne6 (by omega)) (pk_eq w 0 (fun e0 => mod _ (fun y' x => br_f (nI_nn (by omega)) (br_f ?_ (hK _ _ _ x)))) (fun e0 => mod _ (fun y' x => br_f (nI_nn (by omega)) (br_t ?_ (hK _ _ _ x)))))
          · rw [e0]; decide
          · rw [show w = 1 by omega]; rfl
      · rw [e]
        refine br_f (nI_ne6 (by omega)) ?_
        unfold wpX10_changes
        refine sp10_isWindow_y hy.1.1 a2 ha (br_f (by decide) (sp10_in (b2_br (fun q => absurd i2 q) (fun _ => sp10_tuneFault hyp hok ?_))))
        rw [e]
        exact br_f (nI_nn (by omega)) (hK _ _ _ (YQ.refl _))
    · unfold wpX10_changes
      exact sp10_isWindow_y hy.1.1 a2 ha (br_f (by decide) (sp10_in (b2_br (fun _ => hK _ _ _ (YQ.refl _)) (fun q => absurd o2 q))))
