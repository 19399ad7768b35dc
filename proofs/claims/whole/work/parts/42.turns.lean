/-! turns -/
def can (A : AS) (T : Nat) : Prop := popc T ≤ may (A.1 0) ∧ ¬ Cl (A.1 2) (len A.2.1 (A.1 0) (A.1 1 + A.1 4) T) (A.1 0)
def mv (A : AS) (W : Nat → Prop) (S w : Nat) : Prop := S.testBit w = false ∧ can A (S ||| 2 ^ w) ∧ ¬ W (S ||| 2 ^ w)
theorem or_eq {S w : Nat} (h : S.testBit w = true) : S ||| 2 ^ w = S := by
  apply Nat.eq_of_testBit_eq
  intro i
  rw [Nat.testBit_or, Nat.testBit_two_pow]
  by_cases e : w = i
  · subst e; rw [h]; rfl
  · simp [e]
theorem or_gt {S w : Nat} (h : S.testBit w = false) : S < S ||| 2 ^ w := by
  have h1 : S ≤ S ||| 2 ^ w := Nat.left_le_or
  have h2 : S ≠ S ||| 2 ^ w := by
    intro e
    have : (S ||| 2 ^ w).testBit w = true := by rw [Nat.testBit_or, Nat.testBit_two_pow]; simp
    rw [← e, h] at this
    exact Bool.noConfusion this
  omega
theorem or_ltn {S w n : Nat} (h : S < 2 ^ n) (hw : w < n) : S ||| 2 ^ w < 2 ^ n := Nat.or_lt_two_pow h (Nat.pow_lt_pow_right (by decide) hw)
theorem or_sup {k x now : Nat} (h : k &&& now = now) : (k ||| x) &&& now = now := by
  apply Nat.eq_of_testBit_eq
  intro i
  have h' : (k &&& now).testBit i = now.testBit i := by rw [h]
  rw [Nat.testBit_and] at h'
  rw [Nat.testBit_and, Nat.testBit_or]
  revert h'
  generalize k.testBit i = p1
  generalize now.testBit i = p2
  generalize x.testBit i = p3
  cases p1 <;> cases p2 <;> cases p3 <;> decide
theorem exW (A : AS) : ∃ W : Nat → Prop, ∀ S, S < 2 ^ A.1 0 → (W S ↔ ∃ w, w < A.1 0 ∧ mv A W S w) := by
  have key : ∀ k, k ≤ 2 ^ A.1 0 → ∃ W : Nat → Prop, ∀ S, 2 ^ A.1 0 - k ≤ S → S < 2 ^ A.1 0 → (W S ↔ ∃ w, w < A.1 0 ∧ mv A W S w) := by
    intro k
    induction k with
    | zero => intro _; exact ⟨fun _ => False, fun S h1 h2 => absurd h1 (by omega)⟩
    | succ k ih =>
      intro hk
      obtain ⟨W, hW⟩ := ih (by omega)
      refine ⟨fun S => (S = 2 ^ A.1 0 - (k + 1) ∧ ∃ w, w < A.1 0 ∧ mv A W S w) ∨ (S ≠ 2 ^ A.1 0 - (k + 1) ∧ W S), fun S h1 h2 => ?_⟩
      have same : ∀ w, mv A W S w ↔ mv A (fun S => (S = 2 ^ A.1 0 - (k + 1) ∧ ∃ w, w < A.1 0 ∧ mv A W S w) ∨ (S ≠ 2 ^ A.1 0 - (k + 1) ∧ W S)) S w := by
        intro w
        unfold mv
        refine and_congr_right (fun hb => and_congr_right (fun _ => not_congr ?_))
        have := or_gt hb
        exact ⟨fun z => Or.inr ⟨by omega, z⟩, fun z => z.elim (fun z => absurd z.1 (by omega)) (fun z => z.2)⟩
      have ex : (∃ w, w < A.1 0 ∧ mv A W S w) ↔ ∃ w, w < A.1 0 ∧ mv A (fun S => (S = 2 ^ A.1 0 - (k + 1) ∧ ∃ w, w < A.1 0 ∧ mv A W S w) ∨ (S ≠ 2 ^ A.1 0 - (k + 1) ∧ W S)) S w :=
        ⟨fun ⟨w, a, b⟩ => ⟨w, a, (same w).mp b⟩, fun ⟨w, a, b⟩ => ⟨w, a, (same w).mpr b⟩⟩
      rw [← ex]
      dsimp only
      by_cases e : S = 2 ^ A.1 0 - (k + 1)
      · exact ⟨fun z => z.elim (fun z => z.2) (fun z => absurd e z.1), fun z => Or.inl ⟨e, z⟩⟩
      · rw [← hW S (by omega) h2]
        exact ⟨fun z => z.elim (fun z => absurd z.1 e) (fun z => z.2), fun z => Or.inr ⟨e, z⟩⟩
  obtain ⟨W, h⟩ := key (2 ^ A.1 0) (Nat.le_refl _)
  exact ⟨W, fun S hS => h S (by omega) hS⟩
theorem sp2_best {s m : Ob} {A : AS} {W : Nat → Prop} {S : Nat} {post : Int32 → Prop} (hs0 : s 0 0 = nI (A.1 0)) (hn : A.1 0 ≤ 10) (hS : S < 2 ^ A.1 0) (hm : ∀ w, w < A.1 0 → S.testBit w = false → (m 1 (S ||| 2 ^ w) = 0 ↔ can A (S ||| 2 ^ w) ∧ ¬ W (S ||| 2 ^ w))) (hno : (∀ w, w < A.1 0 → ¬ mv A W S w) → post (-6)) (hyes : ∀ w, w < A.1 0 → mv A W S w → (∀ j, j < w → ¬ mv A W S j) → post (nI w)) : wpX2_bestMove s m (nI S) post := by
  have h2 := two_pow_le hn
  have key : ∀ d k, k + d = A.1 0 → (∀ j, j < k → ¬ mv A W S j) → wpX2_bestMove_L2 (nI S) s m post (post (-6)) (d + 1) (nI k) := by
    intro d
    induction d with
    | zero =>
      intro k hk hj
      unfold wpX2_bestMove_L2
      rw [hs0]
      exact br_t (nI_le (by omega) (by omega)) (hno (fun w hw => hj w (by omega)))
    | succ d ih =>
      intro k hk hj
      have hT := or_ltn hS (show k < A.1 0 by omega)
      have next : ¬ mv A W S k → wpX2_bestMove_L2 (nI S) s m post (post (-6)) (d + 1) (nI (k + 1)) := fun q => ih (k + 1) (by omega) (fun j h => by
        by_cases e : j = k
        · rw [e]; exact q
        · exact hj j (by omega))
      unfold wpX2_bestMove_L2
      rw [hs0, nI_1 k, jshl_1 (by omega), nI_or]
      unfold jn0
      dsimp only
      refine br_f (nI_ge (by omega) (by omega)) (pk_eq (S ||| 2 ^ k) S (fun e => next (fun z => ?_)) (fun e => ?_))
      · have := or_gt z.1; omega
      · have hb : S.testBit k = false := by
          cases c : S.testBit k with
          | false => rfl
          | true => exact absurd (or_eq c) e
        refine br_f (nI_nn (by omega)) (br_f (nI_ge (b := 1024) (by omega) (by omega)) ⟨vp_in_nI (by omega) (by omega), ?_⟩)
        rw [jld_n (by omega)]
        refine br_c (fun z => ?_) (fun z => next (fun q => z ((hm k (by omega) hb).mpr q.2)))
        exact hyes k (by omega) ⟨hb, (hm k (by omega) hb).mp z⟩ hj
  exact ⟨_, key (A.1 0) 0 (by omega) (fun j h => absurd h (Nat.not_lt_zero _))⟩
theorem lp2_23 {s0 : Ob} {A : AS} {W : Nat → Prop} {K : Ob → Ob → Prop} (hs0 : StS s0 A) (ho : Own A) (hW : ∀ S, S < 2 ^ A.1 0 → (W S ↔ ∃ w, w < A.1 0 ∧ mv A W S w)) (hK : ∀ s m, Eq6 s0 s → (∀ T, A.1 5 < T → T < 2 ^ A.1 0 → T &&& A.1 5 = A.1 5 → (m 1 T = 0 ↔ can A T ∧ ¬ W T)) → K s m) :
    ∀ d k s m, k = A.1 5 + d → k < 2 ^ A.1 0 → Eq6 s0 s → (∀ T, k < T → T < 2 ^ A.1 0 → T &&& A.1 5 = A.1 5 → (m 1 T = 0 ↔ can A T ∧ ¬ W T)) → wpX2_winningWindow_L23 (nI (A.1 5)) K (d + 1) (nI k) s m := by
  obtain ⟨a1, a2⟩ := id ho.1
  have h2 := two_pow_le a2
  intro d
  induction d with
  | zero =>
    intro k s m hk hkN hq h
    unfold wpX2_winningWindow_L23
    have e : k = A.1 5 := by omega
    rw [e] at h ⊢
    exact br_t (nI_le (by omega) (by omega)) (hK s m hq h)
  | succ d ih =>
    intro k s m hk hkN hq h
    unfold wpX2_winningWindow_L23
    rw [nI_m1 (by omega), nI_and]
    unfold jn2
    dsimp only
    have hand : k &&& A.1 5 < 2 ^ 31 := by have := Nat.and_le_left (n := k) (m := A.1 5); omega
    refine br_f (nI_ge (by omega) (by omega)) (pk_eq (k &&& A.1 5) (A.1 5) (fun e => ?_) (fun e => ?_))
    · have hs := hq.st hs0
      have put : ∀ (r : Int32) (s' : Ob), Eq6 s0 s' → (r = 0 ↔ can A k ∧ ¬ W k) → (vp_in (nI k) 1024) ∧ wpX2_winningWindow_L23 (nI (A.1 5)) K (d + 1) (nI (k - 1)) s' (pa m 1 (nC (nI k)) r) := by
        intro r s' q' hr
        refine ⟨vp_in_nI (by omega) (by omega), ih (k - 1) _ _ (by omega) (by omega) q' (fun T h1 h3 h4 => ?_)⟩
        rw [nC_n (by omega), pa_s]
        by_cases eT : T = k
        · simp only [upd, if_pos eT]; rw [eT]; exact hr
        · simp only [upd, if_neg eT]; exact h T (by omega) h3 h4
      unfold wpX2_fateOf
      refine sp8_allows (hs.1 0 (by omega)) a1 a2 (by omega) (b2_br (fun q => ?_) (fun q => ?_))
      · exact put 2 s hq ⟨fun z => absurd z (by decide), fun z => absurd z.1.1 q⟩
      · refine sp8_clashesBy hs ho (by omega) (fun s' q6 => ?_)
        have q6' := hq.trans q6
        have hs' := q6'.st hs0
        refine b2_br (fun qc => ?_) (fun qc => ?_)
        · refine sp2_best (W := W) (hs'.1 0 (by omega)) a2 hkN (fun w hw hb => ?_) (fun no => ?_) (fun w hw y _ => ?_)
          · exact h _ (or_gt hb) (or_ltn hkN hw) (or_sup e)
          · refine br_t rfl (put 0 s' q6' ⟨fun _ => ⟨⟨q, qc⟩, fun z => ?_⟩, fun _ => rfl⟩)
            obtain ⟨w, hw, z⟩ := (hW k hkN).mp z
            exact no w hw z
          · refine br_f (nI_ne6 (by omega)) (put 1 s' q6' ⟨fun z => absurd z (by decide), fun z => absurd ((hW k hkN).mpr ⟨w, hw, y⟩) z.2⟩)
        · exact put 2 s' q6' ⟨fun z => absurd z (by decide), fun z => absurd qc z.1.2⟩
    · refine ih (k - 1) s m (by omega) (by omega) hq (fun T h1 h3 h4 => ?_)
      by_cases eT : T = k
      · rw [eT] at h4; exact absurd h4 e
      · exact h T (by omega) h3 h4
def dn : Nat → Int32
  | 0 => -1
  | k + 1 => nI k
theorem dn_s (k : Nat) (h : k < 2 ^ 30) : nI k + (-1) = dn k := by
  cases k with
  | zero => rfl
  | succ k => exact nI_m1 (by omega)
def VV (A : AS) (W : Nat → Prop) (S k : Nat) (v : Int32) : Prop := ((∀ j, k ≤ j → j < A.1 0 → ¬ mv A W S j) ∧ v = -6) ∨ ∃ j, k ≤ j ∧ j < A.1 0 ∧ mv A W S j ∧ (∀ i, k ≤ i → i < j → ¬ mv A W S i) ∧ v = nI j
theorem jbz : jb 0 = 0 := by decide
theorem jbo : jb 1 = 1 := by decide
theorem sp10_canPut {y : Ob} {A : AS} {S w : Nat} {post : Int32 → Prop} (hy : YS y A) (ho : Own A) (hS : S < 2 ^ A.1 0) (hw : w < A.1 0) (hp : post (b2 (S.testBit w = false ∧ can A (S ||| 2 ^ w)))) : wpX10_canPut y (nI S) (nI w) post := by
  obtain ⟨⟨a1, a2⟩, b1, c1, -, d1, -, h8, hg⟩ := id ho
  have h2 := two_pow_le a2
  have hT := or_ltn hS hw
  unfold wpX10_canPut
  refine sp10_has (by omega) (by omega) ?_
  rw [jshl_1 (by omega), nI_or]
  unfold jn0
  dsimp only
  refine b2_br (fun q => ?_) (fun q => ?_)
  · have hb : S.testBit w = false := by
      cases c : S.testBit w with
      | false => rfl
      | true => exact absurd c q
    refine sp10_canBe hy.1.1 a1 a2 (by omega) (b2_br (fun q2 => ?_) (fun q2 => ?_))
    · rw [b2_f (fun z => q2 z.2.1)] at hp; exact hp
    · rw [hy.1.2.2.2.2.1]
      refine sp10_clashes hy.1.1 hy.1.2.1 hy.1.2.2.1 hy.2.1 hg a2 b1 d1 (by omega) (by omega) (b2_br (fun q3 => ?_) (fun q3 => ?_))
      · rw [b2_t ⟨hb, q2, q3⟩] at hp; exact hp
      · rw [b2_f (fun z => z.2.2 q3)] at hp; exact hp
  · rw [b2_f (fun z => by rw [q] at z; exact Bool.noConfusion z.1)] at hp; exact hp
theorem lp10_43 {y0 : Ob} {A : AS} {W : Nat → Prop} {S : Nat} {x0 : Int32} {K : Int32 → Ob → Prop} (hy0 : YS y0 A) (ho : Own A) (hS : S < 2 ^ A.1 0) (hW : ∀ S, S < 2 ^ A.1 0 → (W S ↔ ∃ w, w < A.1 0 ∧ mv A W S w)) (hK : ∀ v y, YQ y0 y → (∀ T, S ≤ T → T < 2 ^ A.1 0 → y 9 T = b2 (W T)) → (S = A.1 5 → VV A W S 0 v) → (S ≠ A.1 5 → v = x0) → K v y) :
    ∀ k v y, k ≤ A.1 0 → YQ y0 y → (∀ T, S < T → T < 2 ^ A.1 0 → y 9 T = b2 (W T)) → y 9 S = b2 (∃ j, k ≤ j ∧ j < A.1 0 ∧ mv A W S j) → (S = A.1 5 → VV A W S k v) → (S ≠ A.1 5 → v = x0) → wpX10_turns_L43 (nI S) K (k + 1) v (dn k) y := by
  obtain ⟨a1, a2⟩ := id ho.1
  have h2 := two_pow_le a2
  have hf5 := ho.2.2.2.2.2.1.1
  intro k
  induction k with
  | zero =>
    intro v y hk hq h9 hS9 hv1 hv2
    unfold wpX10_turns_L43
    refine br_t (by decide) (hK v y hq (fun T h1 h3 => ?_) hv1 hv2)
    by_cases e : T = S
    · rw [e, hS9]
      refine b2_c ?_
      rw [hW S hS]
      exact ⟨fun ⟨j, _, b, c⟩ => ⟨j, b, c⟩, fun ⟨j, b, c⟩ => ⟨j, Nat.zero_le _, b, c⟩⟩
    · exact h9 T (by omega) h3
  | succ k ih =>
    intro v y hk hq h9 hS9 hv1 hv2
    have hy := hq.ys hy0
    have hT := or_ltn hS (show k < A.1 0 by omega)
    -- the row after the write
    have row : ∀ c : Int32, c = b2 (∃ j, k ≤ j ∧ j < A.1 0 ∧ mv A W S j) → YQ y0 (pa y 9 (nC (nI S)) c) ∧ (∀ T, S < T → T < 2 ^ A.1 0 → pa y 9 (nC (nI S)) c 9 T = b2 (W T)) ∧ pa y 9 (nC (nI S)) c 9 S = b2 (∃ j, k ≤ j ∧ j < A.1 0 ∧ mv A W S j) := by
      intro c hc
      rw [nC_n (by omega)]
      refine ⟨hq.trans (YQ.pa _ _ _ (by omega)), fun T h1 h3 => ?_, ?_⟩
      · rw [pa_s]
        simp only [upd, if_neg (show ¬ T = S by omega)]
        exact h9 T h1 h3
      · rw [pa_s, ← hc]; simp [upd]
    unfold wpX10_turns_L43
    rw [show dn (k + 1) = nI k from rfl, dn_s k (by omega), jshl_1 (by omega), nI_or, hy.1.2.2.2.2.2.1]
    refine br_f (nI_nn (by omega)) (sp10_canPut hy ho hS (by omega) ?_)
    unfold jn1 jn0 jn2
    dsimp only
    rw [jld_n (by omega), jld_n (by omega), hS9]
    by_cases hm : mv A W S k
    · have r1 := row (jb 1) (by rw [jbo, b2_t ⟨k, Nat.le_refl _, by omega, hm⟩])
      have ends : (vp_in (nI S) 1024) ∧ ((((1 : Int32) = 0) → wpX10_turns_L43 (nI S) K (k + 1) v (dn k) (pa y 9 (nC (nI S)) (jb 1))) ∧ (¬ ((1 : Int32) = 0) → ((nI S = nI (A.1 5)) → wpX10_turns_L43 (nI S) K (k + 1) (nI k) (dn k) (pa y 9 (nC (nI S)) (jb 1))) ∧ (¬ (nI S = nI (A.1 5)) → wpX10_turns_L43 (nI S) K (k + 1) v (dn k) (pa y 9 (nC (nI S)) (jb 1))))) := by
        refine ⟨vp_in_nI (by omega) (by omega), br_f (by decide) (pk_eq S (A.1 5) (fun e => ?_) (fun e => ?_))⟩
        · exact ih _ _ (by omega) r1.1 r1.2.1 r1.2.2 (fun _ => Or.inr ⟨k, Nat.le_refl _, by omega, hm, fun i h1 h3 => absurd h3 (by omega), rfl⟩) (fun z => absurd e z)
        · exact ih _ _ (by omega) r1.1 r1.2.1 r1.2.2 (fun z => absurd z e) hv2
      rw [b2_t ⟨hm.1, hm.2.1⟩]
      refine br_f (by decide) ⟨vp_in_nI (by omega) (by omega), ?_⟩
      rw [h9 _ (or_gt hm.1) hT]
      refine br_t (b2_f hm.2.2) ⟨vp_in_nI (by omega) (by omega), ?_⟩
      exact b2_br (fun _ => br_f (by decide) ends) (fun _ => ends)
    · have hex : (∃ j, k ≤ j ∧ j < A.1 0 ∧ mv A W S j) ↔ (∃ j, k + 1 ≤ j ∧ j < A.1 0 ∧ mv A W S j) := by
        refine ⟨fun ⟨j, x1, x2, x3⟩ => ⟨j, ?_, x2, x3⟩, fun ⟨j, x1, x2, x3⟩ => ⟨j, by omega, x2, x3⟩⟩
        by_cases e : j = k
        · rw [e] at x3; exact absurd x3 hm
        · omega
      have hv1' : S = A.1 5 → VV A W S k v := fun e => by
        rcases hv1 e with ⟨z1, z2⟩ | ⟨j, x1, x2, x3, x4, x5⟩
        · refine Or.inl ⟨fun j h1 h3 => ?_, z2⟩
          by_cases e2 : j = k
          · rw [e2]; exact hm
          · exact z1 j (by omega) h3
        · refine Or.inr ⟨j, by omega, x2, x3, fun i h1 h3 => ?_, x5⟩
          by_cases e2 : i = k
          · rw [e2]; exact hm
          · exact x4 i (by omega) h3
      have ends : ∀ c : Int32, jb c = b2 (∃ j, k ≤ j ∧ j < A.1 0 ∧ mv A W S j) → (vp_in (nI S) 1024) ∧ ((((0 : Int32) = 0) → wpX10_turns_L43 (nI S) K (k + 1) v (dn k) (pa y 9 (nC (nI S)) (jb c))) ∧ (¬ ((0 : Int32) = 0) → ((nI S = nI (A.1 5)) → wpX10_turns_L43 (nI S) K (k + 1) (nI k) (dn k) (pa y 9 (nC (nI S)) (jb c))) ∧ (¬ (nI S = nI (A.1 5)) → wpX10_turns_L43 (nI S) K (k + 1) v (dn k) (pa y 9 (nC (nI S)) (jb c))))) := by
        intro c hc
        have r1 := row (jb c) hc
        exact ⟨vp_in_nI (by omega) (by omega), br_t rfl (ih _ _ (by omega) r1.1 r1.2.1 r1.2.2 hv1' hv2)⟩
      have tail : (vp_in (nI S) 1024) ∧ (((b2 (∃ j, k + 1 ≤ j ∧ j < A.1 0 ∧ mv A W S j) = 0) → (((0 : Int32) = 0) → (vp_in (nI S) 1024) ∧ ((((0 : Int32) = 0) → wpX10_turns_L43 (nI S) K (k + 1) v (dn k) (pa y 9 (nC (nI S)) (jb 0))) ∧ (¬ ((0 : Int32) = 0) → ((nI S = nI (A.1 5)) → wpX10_turns_L43 (nI S) K (k + 1) (nI k) (dn k) (pa y 9 (nC (nI S)) (jb 0))) ∧ (¬ (nI S = nI (A.1 5)) → wpX10_turns_L43 (nI S) K (k + 1) v (dn k) (pa y 9 (nC (nI S)) (jb 0)))))) ∧ (¬ ((0 : Int32) = 0) → (vp_in (nI S) 1024) ∧ ((((0 : Int32) = 0) → wpX10_turns_L43 (nI S) K (k + 1) v (dn k) (pa y 9 (nC (nI S)) (jb 1))) ∧ (¬ ((0 : Int32) = 0) → ((nI S = nI (A.1 5)) → wpX10_turns_L43 (nI S) K (k + 1) (nI k) (dn k) (pa y 9 (nC (nI S)) (jb 1))) ∧ (¬ (nI S = nI (A.1 5)) → wpX10_turns_L43 (nI S) K (k + 1) v (dn k) (pa y 9 (nC (nI S)) (jb 1))))))) ∧ (¬ (b2 (∃ j, k + 1 ≤ j ∧ j < A.1 0 ∧ mv A W S j) = 0) → (vp_in (nI S) 1024) ∧ ((((0 : Int32) = 0) → wpX10_turns_L43 (nI S) K (k + 1) v (dn k) (pa y 9 (nC (nI S)) (jb 1))) ∧ (¬ ((0 : Int32) = 0) → ((nI S = nI (A.1 5)) → wpX10_turns_L43 (nI S) K (k + 1) (nI k) (dn k) (pa y 9 (nC (nI S)) (jb 1))) ∧ (¬ (nI S = nI (A.1 5)) → wpX10_turns_L43 (nI S) K (k + 1) v (dn k) (pa y 9 (nC (nI S)) (jb 1))))))) := by
        refine ⟨vp_in_nI (by omega) (by omega), b2_br (fun z => br_t rfl (ends 0 ?_)) (fun z => ends 1 ?_)⟩
        · rw [jbz, b2_f (fun w => z (hex.mp w))]
        · rw [jbo, b2_t (hex.mpr z)]
      refine b2_br (fun q => tail) (fun q => ⟨vp_in_nI (by omega) (by omega), ?_⟩)
      rw [h9 _ (or_gt q.1) hT]
      refine b2_br (fun z => absurd ⟨q.1, q.2, z⟩ hm) (fun _ => tail)
theorem lp10_24 {y0 : Ob} {A : AS} {W : Nat → Prop} {K : Int32 → Ob → Prop} (hy0 : YS y0 A) (ho : Own A) (hW : ∀ S, S < 2 ^ A.1 0 → (W S ↔ ∃ w, w < A.1 0 ∧ mv A W S w)) (hK : ∀ v y, YQ y0 y → (∀ T, T < 2 ^ A.1 0 → y 9 T = b2 (W T)) → VV A W (A.1 5) 0 v → K v y) :
    ∀ k v y, k ≤ 2 ^ A.1 0 → YQ y0 y → (∀ T, k ≤ T → T < 2 ^ A.1 0 → y 9 T = b2 (W T)) → (k ≤ A.1 5 → VV A W (A.1 5) 0 v) → (A.1 5 < k → v = -6) → wpX10_turns_L24 K (k + 1) v (dn k) y := by
  obtain ⟨a1, a2⟩ := id ho.1
  have h2 := two_pow_le a2
  intro k
  induction k with
  | zero =>
    intro v y hk hq h9 hv1 hv2
    unfold wpX10_turns_L24
    exact br_t (by decide) (hK v y hq (fun T h => h9 T (Nat.zero_le _) h) (hv1 (Nat.zero_le _)))
  | succ k ih =>
    intro v y hk hq h9 hv1 hv2
    have hy := hq.ys hy0
    unfold wpX10_turns_L24
    rw [show dn (k + 1) = nI k from rfl, dn_s k (by omega), hy.1.1, nI_sub1 (by omega), jbz, nC_n (by omega)]
    refine br_f (nI_nn (by omega)) ⟨vp_in_nI (by omega) (by omega), A.1 0 + 1, ?_⟩
    have : nI (A.1 0 - 1) = dn (A.1 0) := by
      cases h : A.1 0 with
      | zero => omega
      | succ z => rfl
    rw [this]
    refine lp10_43 (x0 := v) hy0 ho (show k < 2 ^ A.1 0 by omega) hW (fun v' y' q' r' w1 w2 => ?_) (A.1 0) v _ (Nat.le_refl _) (hq.trans (YQ.pa _ _ _ (by omega))) (fun T h1 h3 => ?_) ?_ (fun e => ?_) (fun _ => rfl)
    · refine ih v' y' (by omega) q' (fun T h1 h3 => r' T h1 h3) (fun hle => ?_) (fun hlt => ?_)
      · by_cases e : k = A.1 5
        · rw [← e]; exact w1 e
        · rw [w2 e]; exact hv1 (by omega)
      · rw [w2 (by omega)]; exact hv2 (by omega)
    · rw [pa_s]
      simp only [upd, if_neg (show ¬ T = k by omega)]
      exact h9 T (by omega) h3
    · rw [pa_s, b2_f (fun ⟨j, x1, x2, _⟩ => absurd x1 (by omega))]; simp [upd]
    · exact Or.inl ⟨fun j x1 x2 => absurd x1 (by omega), hv2 (by omega)⟩
theorem st_turns {oX oS oM oY : Ob} {A : AS} (h : Good oS oY A) (v1 : Int32) {K : Int32 → Int32 → Ob → Ob → Ob → Prop} (hK : ∀ r s' m' y', Eq6 oS s' → YQ oY y' → K r r s' m' y') : wpX9_turns oX oS oM v1 (fun r s' m' => wpX10_turns oY v1 (fun r2 y' => K r r2 s' m' y')) := by
  obtain ⟨hs, hy, ho, hsg, how⟩ := id h
  obtain ⟨a1, a2⟩ := id ho.1
  have h2 := two_pow_le a2
  have hf5 := ho.2.2.2.2.2.1.1
  have e0 : oS 0 0 = nI (A.1 0) := hs.1 0 (by omega)
  have e5 : oS 0 5 = nI (A.1 5) := hs.1 5 (by omega)
  obtain ⟨W, hW⟩ := exW A
  unfold wpX9_turns
  refine sp9_out (b2_br (fun hin => ?_) (fun hout => ?_))
  · have mod : ∀ post : Int32 → Ob → Prop, (∀ v y', YQ oY y' → VV A W (A.1 5) 0 v → ((v1 = (1 : Int32)) → post v y') ∧ (¬ (v1 = (1 : Int32)) → ((b2 (W (A.1 5)) = 0) → post 1 y') ∧ (¬ (b2 (W (A.1 5)) = 0) → post 0 y'))) → wpX10_turns oY v1 post := by
      intro post hp
      unfold wpX10_turns
      refine sp10_in (b2_br (fun q => absurd hin q) (fun _ => ⟨2 ^ A.1 0 + 1, ?_⟩))
      have : nI (2 ^ A.1 0) - 1 = dn (2 ^ A.1 0) := by
        rw [nI_sub1 (Nat.two_pow_pos _)]
        cases h : 2 ^ A.1 0 with
        | zero => have := Nat.two_pow_pos (A.1 0); omega
        | succ z => rfl
      rw [hy.1.1, jshl_1 (by omega), this]
      refine lp10_24 hy ho hW (fun v y' q r w => ?_) (2 ^ A.1 0) _ oY (Nat.le_refl _) (YQ.refl _) (fun T x1 x2 => absurd x1 (by omega)) (fun z => absurd z (by omega)) (fun _ => rfl)
      have hp' := hp v y' q w
      have hy' := q.ys hy
      rw [hy'.1.2.2.2.2.2.1, jld_n (by omega), r _ hf5]
      exact ⟨hp'.1, fun z => ⟨vp_in_nI (by omega) (by omega), hp'.2 z⟩⟩
    unfold wpX2_winningWindow
    intro y17 e
    have e17 : y17 = nI (2 ^ A.1 0) := by
      rw [e, e0, jshl_1 (by omega)]
      have := jmin_n (a := 2 ^ A.1 0) (b := 1024) (by omega) (by omega)
      rw [show (1024 : Int32) = nI 1024 from rfl, this]
      congr 1; omega
    rw [e17, nI_sub1 (Nat.two_pow_pos _), e5]
    refine ⟨2 ^ A.1 0 - 1 - A.1 5 + 1, lp2_23 hs ho hW (fun s' m' q6 hm => ?_) (2 ^ A.1 0 - 1 - A.1 5) (2 ^ A.1 0 - 1) oS oM (by omega) (by omega) (Eq6.refl _) (fun T x1 x2 => absurd x2 (by omega))⟩
    have hs' := q6.st hs
    refine sp2_best (W := W) (hs'.1 0 (by omega)) a2 hf5 (fun w hw hb => hm _ (or_gt hb) (or_ltn hf5 hw) ?_) (fun no => ?_) (fun w hw hmv hfirst => ?_)
    · exact or_sup (Nat.and_self _)
    · have hnW : ¬ W (A.1 5) := fun z => by
        obtain ⟨w, hw, z⟩ := (hW _ hf5).mp z
        exact no w hw z
      have vv : ∀ v, VV A W (A.1 5) 0 v → v = -6 := fun v z => z.elim (fun z => z.2) (fun ⟨j, _, x2, x3, _⟩ => absurd x3 (no j x2))
      refine ⟨fun e1 => mod _ (fun v y' q w => br_t e1 ?_), fun e1 => br_t rfl (mod _ (fun v y' q w => br_f e1 (br_t (b2_f hnW) (hK _ _ _ _ q6 q))))⟩
      rw [vv v w]; exact hK _ _ _ _ q6 q
    · have hyW : W (A.1 5) := (hW _ hf5).mpr ⟨w, hw, hmv⟩
      have vv : ∀ v, VV A W (A.1 5) 0 v → v = nI w := by
        rintro v (⟨z, _⟩ | ⟨j, x1, x2, x3, x4, x5⟩)
        · exact absurd hmv (z w (Nat.zero_le _) hw)
        · rw [x5]
          congr 1
          rcases Nat.lt_trichotomy j w with c | c | c
          · exact absurd x3 (hfirst j c)
          · exact c
          · exact absurd hmv (x4 w (Nat.zero_le _) c)
      refine ⟨fun e1 => mod _ (fun v y' q u => br_t e1 ?_), fun e1 => br_f (nI_ne6 (by omega)) (mod _ (fun v y' q u => br_f e1 (br_f (by rw [b2_t hyW]; decide) (hK _ _ _ _ q6 q))))⟩
      rw [vv v u]; exact hK _ _ _ _ q6 q
  · unfold wpX10_turns
    exact sp10_in (b2_br (fun _ => hK _ _ _ _ (Eq6.refl _) (YQ.refl _)) (fun q => absurd hout q))
