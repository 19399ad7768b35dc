/-! shifts -/
theorem ex_succ {Q : Nat → Prop} {k : Nat} : (∃ S, S < k + 1 ∧ Q S) ↔ (∃ S, S < k ∧ Q S) ∨ Q k := by
  constructor
  · rintro ⟨S, h, q⟩
    by_cases e : S = k
    · subst e; exact Or.inr q
    · exact Or.inl ⟨S, by omega, q⟩
  · rintro (⟨S, h, q⟩ | q)
    · exact ⟨S, by omega, q⟩
    · exact ⟨k, by omega, q⟩
def bq (L : Nat) : Nat := if L ≤ 20 then 2 ^ L else 0
theorem bq_bit {L u : Nat} (hu : u ≤ 20) : (bq L).testBit u = true ↔ L = u := by
  unfold bq
  by_cases c : L ≤ 20
  · rw [if_pos c, Nat.testBit_two_pow]; simp
  · rw [if_neg c, Nat.zero_testBit]
    exact ⟨fun h => (by cases h), fun h => (by omega)⟩
theorem bq_lt (L : Nat) : bq L < 2 ^ 21 := by
  unfold bq
  by_cases c : L ≤ 20
  · rw [if_pos c]; exact Nat.pow_lt_pow_right (by decide) (by omega)
  · rw [if_neg c]; decide
theorem or_bit {F L u : Nat} (hu : u ≤ 20) : (F ||| bq L).testBit u = true ↔ F.testBit u = true ∨ L = u := by
  rw [Nat.testBit_or, Bool.or_eq_true, bq_bit hu]
def KN (g : Ob) (A : AS) (a b k : Nat) : Prop := ∃ (F5 F6 : Nat) (R : Nat → Nat), g 0 5 = nI F5 ∧ g 0 6 = nI F6 ∧ (∀ t, t ≤ 20 → g 3 t = nI (R t)) ∧ F5 < 2 ^ 21 ∧ F6 < 2 ^ 21 ∧ (∀ t, R t < 2 ^ 21) ∧ (∀ t, t ≤ 20 → (F5.testBit t = true ↔ ∃ S, S < k ∧ popc S ≤ may (A.1 0) ∧ lw A a S = t)) ∧ (∀ t, t ≤ 20 → (F6.testBit t = true ↔ ∃ S, S < k ∧ popc S ≤ may (A.1 0) ∧ lw A b S = t)) ∧ (∀ t u, t ≤ 20 → u ≤ 20 → ((R t).testBit u = true ↔ ∃ S, S < k ∧ popc S ≤ may (A.1 0) ∧ lw A a S = t ∧ lw A b S = u))
theorem sp7_pair {g : Ob} {A : AS} {a b k : Nat} {post : Ob → Prop} (ho : Own A) (ha : a < A.1 0) (hb : b < A.1 0) (hm : popc k ≤ may (A.1 0)) (h : KN g A a b k) (hp : ∀ g', KN g' A a b (k + 1) → post g') : wpX7_notePair g (nI (lw A a k)) (nI (lw A b k)) post := by
  obtain ⟨F5, F6, R, e5, e6, e3, l5, l6, l3, t5, t6, t3⟩ := h
  have la := lw_bd ho ha k
  have lb := lw_bd ho hb k
  have go : ((nI (lw A a k) < 0) → post (pf g 6 ((g 0 6) ||| nI (bq (lw A b k))))) ∧ (¬ (nI (lw A a k) < 0) → (((20 : Int32) < nI (lw A a k)) → post (pf g 6 ((g 0 6) ||| nI (bq (lw A b k))))) ∧ (¬ ((20 : Int32) < nI (lw A a k)) → (vp_in (nI (lw A a k)) 21) ∧ ((vp_in (nI (lw A a k)) 21) ∧ (post (pa (pf (pf g 6 ((g 0 6) ||| nI (bq (lw A b k)))) 5 ((g 0 5) ||| (jshl (1 : Int32) (nI (lw A a k))))) 3 (nC (nI (lw A a k))) ((jld (g 3) (nI (lw A a k))) ||| nI (bq (lw A b k)))))))) := by
    refine br_f (nI_nn (by omega)) ?_
    rw [e6, nI_or]
    refine pk_lt 20 (lw A a k) (fun c => ?_) (fun c => ?_)
    · refine hp _ ⟨F5, F6 ||| bq (lw A b k), R, ?_, ?_, ?_, l5, Nat.or_lt_two_pow l6 (bq_lt _), l3, ?_, ?_, ?_⟩
      · rw [pf_n _ _ (by decide)]; exact e5
      · rw [pf_s]
      · intro t ht; rw [pf_r _ _ _ _ (by decide)]; exact e3 t ht
      · intro t ht
        rw [ex_succ, ← t5 t ht]
        exact ⟨Or.inl, fun z => z.elim id (fun z => absurd z.2 (by omega))⟩
      · intro t ht
        rw [ex_succ, or_bit ht, t6 t ht]
        exact or_congr Iff.rfl ⟨fun z => ⟨hm, z⟩, fun z => z.2⟩
      · intro t u ht hu
        rw [ex_succ, ← t3 t u ht hu]
        exact ⟨Or.inl, fun z => z.elim id (fun z => absurd z.2.1 (by omega))⟩
    · refine ⟨vp_in_nI (by omega) (by omega), vp_in_nI (by omega) (by omega), ?_⟩
      have eb : 2 ^ lw A a k = bq (lw A a k) := by unfold bq; rw [if_pos (by omega)]
      rw [e5, jshl_1 (by omega), nI_or, nC_n (by omega), jld_n (by omega), e3 _ (by omega), nI_or, eb]
      refine hp _ ⟨F5 ||| bq (lw A a k), F6 ||| bq (lw A b k), fun t => if t = lw A a k then R (lw A a k) ||| bq (lw A b k) else R t, ?_, ?_, ?_, Nat.or_lt_two_pow l5 (bq_lt _), Nat.or_lt_two_pow l6 (bq_lt _), ?_, ?_, ?_, ?_⟩
      · rw [pa_n _ _ _ (by decide), pf_s]
      · rw [pa_n _ _ _ (by decide), pf_n _ _ (by decide), pf_s]
      · intro t ht
        rw [pa_s, pf_r _ _ _ _ (by decide), pf_r _ _ _ _ (by decide)]
        by_cases e : t = lw A a k
        · simp only [upd, if_pos e]
        · simp only [upd, if_neg e]; exact e3 t ht
      · intro t
        dsimp only
        by_cases e : t = lw A a k
        · rw [if_pos e]; exact Nat.or_lt_two_pow (l3 _) (bq_lt _)
        · rw [if_neg e]; exact l3 t
      · intro t ht
        rw [ex_succ, or_bit ht, t5 t ht]
        exact or_congr Iff.rfl ⟨fun z => ⟨hm, z⟩, fun z => z.2⟩
      · intro t ht
        rw [ex_succ, or_bit ht, t6 t ht]
        exact or_congr Iff.rfl ⟨fun z => ⟨hm, z⟩, fun z => z.2⟩
      · intro t u ht hu
        dsimp only
        rw [ex_succ, ← t3 t u ht hu]
        by_cases e : t = lw A a k
        · rw [if_pos e, or_bit hu, e]
          exact or_congr Iff.rfl ⟨fun z => ⟨hm, rfl, z⟩, fun z => z.2.2⟩
        · rw [if_neg e]
          exact ⟨Or.inl, fun z => z.elim id (fun z => absurd z.2.1.symm e)⟩
  unfold wpX7_notePair jn1 jn0
  dsimp only
  refine br_f (nI_nn (by omega)) (pk_lt 20 (lw A b k) (fun c => ?_) (fun c => ?_))
  · rw [show bq (lw A b k) = 0 by unfold bq; rw [if_neg (by omega)]] at go
    exact go
  · rw [show bq (lw A b k) = 2 ^ lw A b k by unfold bq; rw [if_pos (by omega)], ← jshl_1 (by omega)] at go
    exact go
theorem lp7_13 {g0 : Ob} {K : Ob → Prop} (hK : ∀ g, g 0 = g0 0 → (∀ j, j ≤ 20 → g 3 j = nI 0) → K g) :
    ∀ d k g, k + d = 21 → g 0 = g0 0 → (∀ j, j < k → g 3 j = nI 0) → wpX7_notePartners_L13 K (d + 1) (nI k) g := by
  intro d
  induction d with
  | zero =>
    intro k g hk h0 h2
    unfold wpX7_notePartners_L13
    exact br_t (nI_lt (a := 20) (by omega) (by omega)) (hK g h0 (fun j hj => h2 j (by omega)))
  | succ d ih =>
    intro k g hk h0 h2
    unfold wpX7_notePartners_L13
    rw [nI_1 k, nC_n (by omega)]
    refine br_f (nI_nlt (a := 20) (by omega) (by omega)) ⟨vp_in_nI (by omega) (by omega), ih (k + 1) _ (by omega) ?_ ?_⟩
    · rw [pa_n _ _ _ (by decide)]; exact h0
    · intro j hj
      rw [pa_s]
      by_cases e : j = k
      · subst e; simp [upd]; rfl
      · simp only [upd, if_neg e]; exact h2 j (by omega)
theorem KN.skip {g : Ob} {A : AS} {a b k : Nat} (hm : ¬ popc k ≤ may (A.1 0)) (h : KN g A a b k) : KN g A a b (k + 1) := by
  obtain ⟨F5, F6, R, e5, e6, e3, l5, l6, l3, t5, t6, t3⟩ := h
  refine ⟨F5, F6, R, e5, e6, e3, l5, l6, l3, fun t ht => ?_, fun t ht => ?_, fun t u ht hu => ?_⟩
  · rw [ex_succ, ← t5 t ht]; exact ⟨Or.inl, fun z => z.elim id (fun z => absurd z.1 hm)⟩
  · rw [ex_succ, ← t6 t ht]; exact ⟨Or.inl, fun z => z.elim id (fun z => absurd z.1 hm)⟩
  · rw [ex_succ, ← t3 t u ht hu]; exact ⟨Or.inl, fun z => z.elim id (fun z => absurd z.1 hm)⟩
theorem lp7_45 {s : Ob} {A : AS} {a b : Nat} {K : Ob → Prop} (hs : StS s A) (ho : Own A) (ha : a < A.1 0) (hb : b < A.1 0) (hK : ∀ g, KN g A a b (2 ^ A.1 0) → K g) :
    ∀ d k g, k + d = 2 ^ A.1 0 → KN g A a b k → wpX7_notePartners_L45 (nI a) (nI b) (nI (2 ^ A.1 0)) s K (d + 1) (nI k) g := by
  obtain ⟨a1, a2⟩ := id ho.1
  have h2 := two_pow_le a2
  intro d
  induction d with
  | zero =>
    intro k g hk h
    have e : k = 2 ^ A.1 0 := by omega
    subst e
    unfold wpX7_notePartners_L45
    exact br_t (nI_le (by omega) (by omega)) (hK g h)
  | succ d ih =>
    intro k g hk h
    unfold wpX7_notePartners_L45
    rw [nI_1 k]
    unfold jn1
    dsimp only
    refine br_f (nI_ge (by omega) (by omega)) (sp8_allows (hs.1 0 (by omega)) a1 a2 (by omega) (b2_br (fun q => ?_) (fun q => ?_)))
    · exact ih (k + 1) g (by omega) (h.skip q)
    · refine sp8_lengthAt hs ho ha (by omega) (sp8_lengthAt hs ho hb (by omega) ?_)
      exact sp7_pair ho ha hb q h (fun g' h' => ih (k + 1) g' (by omega) h')
theorem sp7_partners {s g : Ob} {A : AS} {a b : Nat} {post : Ob → Prop} (hs : StS s A) (ho : Own A) (ha : a < A.1 0) (hb : b < A.1 0) (hp : ∀ g, KN g A a b (2 ^ A.1 0) → post g) : wpX7_notePartners s g (nI a) (nI b) post := by
  obtain ⟨a1, a2⟩ := id ho.1
  unfold wpX7_notePartners
  rw [hs.1 0 (by omega), jshl_1 (by omega)]
  refine ⟨_, lp7_13 (g0 := pf (pf g 5 0) 6 0) (fun g1 h0 h3 => ⟨2 ^ A.1 0 + 1, ?_⟩) 21 0 _ (by omega) rfl (fun j hj => absurd hj (Nat.not_lt_zero _))⟩
  refine lp7_45 (K := fun g => post g) hs ho ha hb hp (2 ^ A.1 0) 0 g1 (by omega) ⟨0, 0, fun _ => 0, ?_, ?_, h3, by decide, by decide, fun _ => show 0 < 2 ^ 21 by decide, ?_, ?_, ?_⟩
  · rw [h0, pf_n _ _ (by decide), pf_s]; rfl
  · rw [h0, pf_s]; rfl
  · intro t _; rw [Nat.zero_testBit]; exact ⟨fun h => (by cases h), fun ⟨S, h, _⟩ => absurd h (Nat.not_lt_zero _)⟩
  · intro t _; rw [Nat.zero_testBit]; exact ⟨fun h => (by cases h), fun ⟨S, h, _⟩ => absurd h (Nat.not_lt_zero _)⟩
  · intro t u _ _; dsimp only; rw [Nat.zero_testBit]; exact ⟨fun h => (by cases h), fun ⟨S, h, _⟩ => absurd h (Nat.not_lt_zero _)⟩
def oky (A : AS) (a b : Nat) (P : PD) (sh i : Nat) : Prop :=
  if i < P.1 / 2 then (if sh ≤ i then (∃ S, S < 2 ^ A.1 0 ∧ popc S ≤ may (A.1 0) ∧ lw A a S = tone P i ∧ lw A b S = tone P (i - sh)) else (∃ S, S < 2 ^ A.1 0 ∧ popc S ≤ may (A.1 0) ∧ lw A a S = tone P i)) else (∃ S, S < 2 ^ A.1 0 ∧ popc S ≤ may (A.1 0) ∧ lw A b S = tone P (i - sh))
theorem lp7_8 {p g : Ob} {A : AS} {P : PD} {a b sh : Nat} {post : Int32 → Prop} (hp : PS p P) (hok : POk P) (ht : TuneOk P) (hg : KN g A a b (2 ^ A.1 0)) (hsh : sh < P.1 / 2) (hpo : post (b2 (∀ i, i < P.1 / 2 + sh → oky A a b P sh i))) :
    ∀ d k, k + d = P.1 / 2 + sh → (∀ i, i < k → oky A a b P sh i) → wpX7_shiftFits_L8 (nI sh) (nI (P.1 / 2)) p g post (post 1) (post 0) (d + 1) (nI k) := by
  obtain ⟨F5, F6, R, e5, e6, e3, l5, l6, l3, t5, t6, t3⟩ := id hg
  have h60 := hok.1
  intro d
  induction d with
  | zero =>
    intro k hk hi
    unfold wpX7_shiftFits_L8
    rw [nI_add]
    refine br_t (nI_le (by omega) (by omega)) ?_
    rw [b2_t (fun i h => hi i (by omega))] at hpo
    exact hpo
  | succ d ih =>
    intro k hk hi
    have no : ¬ oky A a b P sh k → post 0 := fun q => by
      rw [b2_f (fun z => q (z k (by omega)))] at hpo
      exact hpo
    have yes : oky A a b P sh k → wpX7_shiftFits_L8 (nI sh) (nI (P.1 / 2)) p g post (post 1) (post 0) (d + 1) (nI (k + 1)) := fun q => ih (k + 1) (by omega) (fun i h => by
      by_cases e : i = k
      · rw [e]; exact q
      · exact hi i (by omega))
    unfold wpX7_shiftFits_L8
    rw [nI_add, nI_1 k, e5, e6]
    unfold jn1 jn0
    dsimp only
    refine br_f (nI_ge (by omega) (by omega)) (pk_le (P.1 / 2) k (fun c => ?_) (fun c => ?_))
    · refine br_f (nI_nlt (by omega) (by omega)) ?_
      rw [pk_sub (by omega)]
      have hb := tone_bd ht (show k - sh < P.1 / 2 by omega)
      refine sp5_tone hp hok ht (by omega) (br_ush (by omega) (by omega) (fun z => no ?_) (fun z => yes ?_))
      · unfold oky
        rw [if_neg (by omega), ← t6 _ (by omega), z]
        exact Bool.noConfusion
      · unfold oky
        rw [if_neg (by omega), ← t6 _ (by omega), z]
    · have hb := tone_bd ht (show k < P.1 / 2 by omega)
      refine sp5_tone hp hok ht (by omega) (br_f (nI_nlt (b := 1) (by omega) (by omega)) (br_f (nI_nlt (a := 20) (by omega) (by omega)) (br_ush (by omega) (by omega) (fun z => no ?_) (fun z => ⟨vp_in_nI (by omega) (by omega), ?_⟩))))
      · have zz : ¬ ∃ S, S < 2 ^ A.1 0 ∧ popc S ≤ may (A.1 0) ∧ lw A a S = tone P k := by
          rw [← t5 _ (by omega), z]; exact Bool.noConfusion
        unfold oky
        rw [if_pos (by omega)]
        by_cases c2 : sh ≤ k
        · rw [if_pos c2]; exact fun ⟨S, x1, x2, x3, _⟩ => zz ⟨S, x1, x2, x3⟩
        · rw [if_neg c2]; exact zz
      · rw [jld_n (by omega), e3 _ (by omega)]
        refine pk_lt k sh (fun c2 => yes ?_) (fun c2 => ?_)
        · unfold oky
          rw [if_pos (by omega), if_neg (by omega), ← t5 _ (by omega)]; exact z
        · rw [pk_sub (by omega)]
          have hb2 := tone_bd ht (show k - sh < P.1 / 2 by omega)
          have l3' := l3 (tone P k)
          refine sp5_tone hp hok ht (by omega) (br_ush (by omega) (by omega) (fun z2 => no ?_) (fun z2 => yes ?_))
          · unfold oky
            rw [if_pos (by omega), if_pos (by omega), ← t3 _ _ (by omega) (by omega), z2]
            exact Bool.noConfusion
          · unfold oky
            rw [if_pos (by omega), if_pos (by omega), ← t3 _ _ (by omega) (by omega)]; exact z2
noncomputable def shf (A : AS) (a b : Nat) (P : PD) : Nat → Nat
  | 0 => 0
  | k + 1 => @ite _ (∀ i, i < P.1 / 2 + k → oky A a b P k i) (Classical.propDecidable _) (shf A a b P k ||| 2 ^ k) (shf A a b P k)
theorem shf_y {A : AS} {a b : Nat} {P : PD} {k : Nat} (h : ∀ i, i < P.1 / 2 + k → oky A a b P k i) : shf A a b P (k + 1) = shf A a b P k ||| 2 ^ k := by rw [shf]; exact @if_pos _ (Classical.propDecidable _) h _ _ _
theorem shf_n {A : AS} {a b : Nat} {P : PD} {k : Nat} (h : ¬ ∀ i, i < P.1 / 2 + k → oky A a b P k i) : shf A a b P (k + 1) = shf A a b P k := by rw [shf]; exact @if_neg _ (Classical.propDecidable _) h _ _ _
theorem lp7_fs {p g : Ob} {A : AS} {P : PD} {a b : Nat} {K : Int32 → Prop} (hp : PS p P) (hok : POk P) (ht : TuneOk P) (hg : KN g A a b (2 ^ A.1 0)) (hK : K (nI (shf A a b P (P.1 / 2)))) :
    ∀ d k, k + d = P.1 / 2 → wpX7_fittingShifts_L13 p g K (d + 1) (nI (shf A a b P k)) (nI k) := by
  have h60 := hok.1
  have tc : ∀ {post : Int32 → Prop}, post (nI (P.1 / 2)) → wpX5_toneCount p post := by
    intro post h
    unfold wpX5_toneCount
    have := pk_div (a := P.1) (d := 2) (by omega) (by omega) (by omega)
    rw [hp.1, show (2 : Int32) = nI 2 from rfl, this]
    exact h
  intro d
  induction d with
  | zero =>
    intro k hk
    have e : k = P.1 / 2 := by omega
    subst e
    unfold wpX7_fittingShifts_L13
    exact tc (br_t (nI_le (by omega) (by omega)) hK)
  | succ d ih =>
    intro k hk
    have ih1 := ih (k + 1) (by omega)
    unfold wpX7_fittingShifts_L13
    refine tc (br_f (nI_ge (by omega) (by omega)) ?_)
    unfold wpX7_shiftFits
    refine tc ⟨P.1 / 2 + k + 1, lp7_8 hp hok ht hg (by omega) ?_ (P.1 / 2 + k) 0 (by omega) (fun i h => absurd h (Nat.not_lt_zero _))⟩
    unfold jn1
    dsimp only
    rw [nI_1 k]
    refine b2_br (fun q => ?_) (fun q => ?_)
    · rw [shf_n q] at ih1; exact ih1
    · rw [shf_y q] at ih1
      rw [jshl_1 (by omega), nI_or]; exact ih1
theorem best_br {m N : Nat} {Q : Nat → Prop} {X Y : Prop} (hN : N ≤ 1024) (f : ¬ (∃ S, S < N ∧ popc S ≤ m ∧ Q S) → X) (g : (∃ S, S < N ∧ popc S ≤ m ∧ Q S) → Y) : ((o2i (best m Q N) < 0) → X) ∧ (¬ (o2i (best m Q N) < 0) → Y) := by
  cases h : best m Q N with
  | none => exact br_t (show o2i none < (0 : Int32) by decide) (f (fun ⟨S, h1, h2, h3⟩ => best_none.mp h S h1 h2 h3))
  | some s =>
    have := best_some h
    exact br_f (show ¬ o2i (some s) < (0 : Int32) from nI_nn (by omega)) (g ⟨s, this⟩)
theorem lp10_s46 {y : Ob} {A : AS} {P : PD} {a b sh : Nat} {K : Int32 → Prop} (hy : YS y A) (ho : Own A) (hp : YP y P) (hok : POk P) (ht : TuneOk P) (ha : a < A.1 0) (hb : b < A.1 0) (hsh : sh < P.1 / 2) (hK : K (b2 (∀ i, i < P.1 / 2 + sh → oky A a b P sh i))) :
    ∀ d k, k + d = P.1 / 2 + sh → wpX10_shifts_L46 (nI a) (nI b) (nI (P.1 / 2)) (nI sh) y K (d + 1) (b2 (∀ i, i < k → oky A a b P sh i)) (nI k) := by
  have h60 := hok.1
  obtain ⟨a1, a2⟩ := id ho.1
  have h2 := two_pow_le a2
  intro d
  induction d with
  | zero =>
    intro k hk
    have e : k = P.1 / 2 + sh := by omega
    subst e
    unfold wpX10_shifts_L46
    rw [nI_add]
    exact br_t (nI_le (by omega) (by omega)) hK
  | succ d ih =>
    intro k hk
    have ih1 := ih (k + 1) (by omega)
    unfold wpX10_shifts_L46
    rw [nI_add, nI_1 k]
    refine br_f (nI_ge (by omega) (by omega)) (b2_br (fun q => ?_) (fun q => ?_))
    · rw [b2_f q]
      rw [b2_f (fun z => q (fun i hi => z i (by omega)))] at hK
      exact hK
    · have no : ¬ oky A a b P sh k → wpX10_shifts_L46 (nI a) (nI b) (nI (P.1 / 2)) (nI sh) y K (d + 1) 0 (nI (k + 1)) := fun z => by
        rw [b2_f (fun w => z (w k (by omega)))] at ih1; exact ih1
      have yes : oky A a b P sh k → wpX10_shifts_L46 (nI a) (nI b) (nI (P.1 / 2)) (nI sh) y K (d + 1) 1 (nI (k + 1)) := fun z => by
        rw [b2_t (fun i hi => by
          by_cases e : i = k
          · rw [e]; exact z
          · exact q i (by omega))] at ih1
        exact ih1
      unfold jn1 jn0
      dsimp only
      refine pk_le (P.1 / 2) k (fun c => ?_) (fun c => pk_lt k sh (fun c2 => ?_) (fun c2 => ?_))
      · refine br_t (nI_le (by omega) (by omega)) ?_
        rw [pk_sub (by omega)]
        have hbb := tone_bd ht (show k - sh < P.1 / 2 by omega)
        refine sp10_note hp hok ht (by omega) (sp10_fewest1 hy ho hb (by omega) (best_br h2 (fun z => no ?_) (fun z => yes ?_)))
        · unfold oky; rw [if_neg (by omega)]; exact z
        · unfold oky; rw [if_neg (by omega)]; exact z
      · refine br_f (nI_ge (by omega) (by omega)) ?_
        have hbb := tone_bd ht (show k < P.1 / 2 by omega)
        refine sp10_note hp hok ht (by omega) (sp10_fewest1 hy ho ha (by omega) (best_br h2 (fun z => no ?_) (fun z => yes ?_)))
        · unfold oky; rw [if_pos (by omega), if_neg (by omega)]; exact z
        · unfold oky; rw [if_pos (by omega), if_neg (by omega)]; exact z
      · have hbb := tone_bd ht (show k < P.1 / 2 by omega)
        have hbc := tone_bd ht (show k - sh < P.1 / 2 by omega)
        refine sp10_note hp hok ht (by omega) ?_
        rw [pk_sub (by omega)]
        refine sp10_note hp hok ht (by omega) (sp10_fewest2 hy ho ha hb (by omega) (by omega) (best_br h2 (fun z => no ?_) (fun z => yes ?_)))
        · unfold oky; rw [if_pos (by omega), if_pos (by omega)]; exact z
        · unfold oky; rw [if_pos (by omega), if_pos (by omega)]; exact z
theorem lp10_s34 {y : Ob} {A : AS} {P : PD} {a b : Nat} {K : Int32 → Prop} (hy : YS y A) (ho : Own A) (hp : YP y P) (hok : POk P) (ht : TuneOk P) (ha : a < A.1 0) (hb : b < A.1 0) (hK : K (nI (shf A a b P (P.1 / 2)))) :
    ∀ d k, k + d = P.1 / 2 → wpX10_shifts_L34 (nI a) (nI b) (nI (P.1 / 2)) y K (d + 1) (nI (shf A a b P k)) (nI k) := by
  have h60 := hok.1
  intro d
  induction d with
  | zero =>
    intro k hk
    have e : k = P.1 / 2 := by omega
    subst e
    unfold wpX10_shifts_L34
    exact br_t (nI_le (by omega) (by omega)) hK
  | succ d ih =>
    intro k hk
    have ih1 := ih (k + 1) (by omega)
    unfold wpX10_shifts_L34
    refine br_f (nI_ge (by omega) (by omega)) ⟨P.1 / 2 + k + 1, ?_⟩
    have s46 := fun K' hK' => lp10_s46 (K := K') hy ho hp hok ht ha hb (show k < P.1 / 2 by omega) hK' (P.1 / 2 + k) 0 (by omega)
    rw [b2_t (fun i h => absurd h (Nat.not_lt_zero _))] at s46
    refine s46 _ ?_
    unfold jn2
    dsimp only
    rw [nI_1 k]
    refine b2_br (fun q => ?_) (fun q => ?_)
    · rw [shf_n q] at ih1
      have : nI (shf A a b P k) ||| 0 = nI (shf A a b P k) := by
        rw [show (0 : Int32) = nI 0 from rfl, nI_or, Nat.or_zero]
      rw [this]; exact ih1
    · rw [shf_y q] at ih1
      rw [jshl_1 (by omega), nI_or]; exact ih1
theorem st_shifts {oX oS oP oK oY : Ob} {A : AS} {P : PD} (h : Good oS oY A) (hP : GoodP oP oY P) (v1 v2 : Int32) {K : Int32 → Int32 → Ob → Prop} (hK : ∀ r k', K r r k') : wpX9_shifts oX oS oP oK v1 v2 (fun r k' => wpX10_shifts oY v1 v2 (fun r2 => K r r2 k')) := by
  obtain ⟨hs, hy, ho, hsg, how⟩ := id h
  obtain ⟨hp, hyp, hok⟩ := hP
  obtain ⟨a1, a2⟩ := ho.1
  have h60 := hok.1
  unfold wpX9_shifts
  rcases two_cases v1 v2 a2 with q | ⟨a, b, ha, hb, hab, rfl, rfl⟩
  · refine two9_n (hs.1 0 (by omega)) a2 q (br_t rfl ?_)
    unfold wpX10_shifts
    exact two10_n hy.1.1 (by omega) a2 q (br_t rfl (hK _ _))
  · refine two9_y (hs.1 0 (by omega)) a2 ha hb hab (br_f (by decide) (sp5_tuneFault hp hok ?_))
    rcases tfl_or h60 P.1 0 (by omega) (fun j hj => absurd hj (Nat.not_lt_zero _)) with ⟨ht, e⟩ | ⟨j, hj, e⟩
    · rw [e]
      refine br_t rfl ?_
      unfold wpX7_fittingShifts
      refine sp7_partners hs ho ha hb (fun g hg => ⟨P.1 / 2 + 1, lp7_fs hp hok ht hg ?_ (P.1 / 2) 0 (by omega)⟩)
      unfold wpX10_shifts
      refine two10_y hy.1.1 a2 ha hb hab (br_f (by decide) (sp10_tuneFault hyp hok ?_))
      rw [e]
      refine br_t (by decide) ⟨P.1 / 2 + 1, ?_⟩
      have := pk_div (a := P.1) (d := 2) (by omega) (by omega) (by omega)
      rw [hyp.1, show (2 : Int32) = nI 2 from rfl, this]
      exact lp10_s34 (K := fun v => K _ v _) hy ho hyp hok ht ha hb (hK _ _) (P.1 / 2) 0 (by omega)
    · rw [e]
      refine br_f (nI_ne6 (by omega)) ?_
      unfold wpX10_shifts
      refine two10_y hy.1.1 a2 ha hb hab (br_f (by decide) (sp10_tuneFault hyp hok ?_))
      rw [e]
      exact br_f (nI_nn (by omega)) (hK _ _)
