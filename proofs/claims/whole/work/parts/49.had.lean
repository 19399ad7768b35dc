/-! hooks: the differences that marks have -/
def df (X d : Nat) : Prop := ∃ i, X.testBit i = true ∧ X.testBit (i + d) = true
theorem df_and {X d : Nat} : X &&& (X / 2 ^ d) = 0 ↔ ¬ df X d := by
  constructor
  · rintro h ⟨i, h1, h2⟩
    have : (X &&& (X / 2 ^ d)).testBit i = true := by
      rw [Nat.testBit_and, Nat.testBit_div_two_pow, h1, h2]; rfl
    rw [h, Nat.zero_testBit] at this
    exact Bool.noConfusion this
  · intro h
    apply Nat.eq_of_testBit_eq
    intro i
    rw [Nat.testBit_and, Nat.testBit_div_two_pow, Nat.zero_testBit]
    cases h1 : X.testBit i with
    | false => rfl
    | true =>
      cases h2 : X.testBit (i + d) with
      | false => rfl
      | true => exact absurd ⟨i, h1, h2⟩ h
theorem lp6_2 {X L f : Nat} {post : Int32 → Prop} (hX : X < 2 ^ 31) (hL : L < 2 ^ 31) (hf : f ≤ 16) (hp : post (b2 (∀ d, 1 ≤ d → d ≤ f → L.testBit d = true → df X d))) :
    ∀ k, k ≤ f → (∀ d, k < d → d ≤ f → L.testBit d = true → df X d) → wpX6_hasAll_L2 (nI X) (nI L) post (post 1) (k + 1) (nI k) := by
  intro k
  induction k with
  | zero =>
    intro hk h
    unfold wpX6_hasAll_L2
    refine br_t (nI_lt (a := 0) (b := 1) (by omega) (by omega)) ?_
    rw [b2_t (fun d h1 h2 => h d (by omega) h2)] at hp
    exact hp
  | succ k ih =>
    intro hk h
    unfold wpX6_hasAll_L2
    rw [nI_m1 (by omega), Nat.add_sub_cancel]
    unfold jn0
    dsimp only
    have hdiv : X / 2 ^ (k + 1) ≤ X := Nat.div_le_self _ _
    have hand : X &&& (X / 2 ^ (k + 1)) ≤ X := Nat.and_le_left
    refine br_f (nI_nlt (b := 1) (by omega) (by omega)) (br_ush hL (by omega) (fun q => ih (by omega) (fun d h1 h2 h3 => ?_)) (fun q => ?_))
    · by_cases e : d = k + 1
      · rw [e, q] at h3; exact Bool.noConfusion h3
      · exact h d (by omega) h2 h3
    · rw [jush_n (by omega) (by omega), nI_and]
      refine pk_eq (X &&& (X / 2 ^ (k + 1))) 0 (fun e => ?_) (fun e => ih (by omega) (fun d h1 h2 h3 => ?_))
      · rw [b2_f (fun z => df_and.mp e (z (k + 1) (by omega) hk q))] at hp
        exact hp
      · by_cases ed : d = k + 1
        · rw [ed]; exact Classical.byContradiction (fun z => e (df_and.mpr z))
        · exact h d (by omega) h2 h3
theorem sp6_hasAll {X L f : Nat} {post : Int32 → Prop} (hX : X < 2 ^ 31) (hL : L < 2 ^ 31) (hf : f ≤ 16) (hp : post (b2 (∀ d, 1 ≤ d → d ≤ f → L.testBit d = true → df X d))) : wpX6_hasAll (nI X) (nI L) (nI f) post :=
  ⟨f + 1, lp6_2 hX hL hf hp f (Nat.le_refl _) (fun d h1 h2 => absurd h1 (by omega))⟩
/-- the differences of pairs that come before (a, b) -/
def dq (X a b d : Nat) : Prop := ∃ i j, (i < a ∨ (i = a ∧ j < b)) ∧ i < j ∧ j < 17 ∧ X.testBit i = true ∧ X.testBit j = true ∧ j - i = d
def HQ (X a b H : Nat) : Prop := H < 2 ^ 17 ∧ ∀ d, H.testBit d = true ↔ dq X a b d
theorem HQ.skip {X a b H : Nat} (h : HQ X a b H) (hn : ¬ (a < b ∧ X.testBit a = true ∧ X.testBit b = true)) : HQ X a (b + 1) H := by
  refine ⟨h.1, fun d => (h.2 d).trans ⟨fun ⟨i, j, h1, h2⟩ => ⟨i, j, by omega, h2⟩, fun ⟨i, j, h1, h2, h3, h4, h5, h6⟩ => ⟨i, j, ?_, h2, h3, h4, h5, h6⟩⟩⟩
  rcases h1 with q | ⟨q1, q2⟩
  · exact Or.inl q
  · refine Or.inr ⟨q1, ?_⟩
    by_cases e : j = b
    · subst e; subst q1; exact absurd ⟨h2, h4, h5⟩ hn
    · omega
theorem HQ.put {X a b H : Nat} (h : HQ X a b H) (hab : a < b) (hb : b < 17) (h1 : X.testBit a = true) (h2 : X.testBit b = true) : HQ X a (b + 1) (H ||| 2 ^ (b - a)) := by
  refine ⟨Nat.or_lt_two_pow h.1 (Nat.pow_lt_pow_right (by decide) (by omega)), fun d => ?_⟩
  rw [Nat.testBit_or, Bool.or_eq_true, h.2 d, Nat.testBit_two_pow]
  constructor
  · rintro (⟨i, j, q1, q2⟩ | q)
    · exact ⟨i, j, by omega, q2⟩
    · exact ⟨a, b, Or.inr ⟨rfl, by omega⟩, hab, hb, h1, h2, of_decide_eq_true q⟩
  · rintro ⟨i, j, q1, q2, q3, q4, q5, q6⟩
    by_cases e : i = a ∧ j = b
    · refine Or.inr (decide_eq_true ?_)
      rw [e.1, e.2] at q6; exact q6
    · exact Or.inl ⟨i, j, by omega, q2, q3, q4, q5, q6⟩
theorem lp10_h14 {X a : Nat} {K : Int32 → Prop} (hX : X < 2 ^ 31) (ha : a < 17) (hK : ∀ H, HQ X a 17 H → K (nI H)) :
    ∀ d b H, b + d = 17 → a < b → HQ X a b H → wpX10_had_L14 (nI X) (nI a) K (d + 1) (nI H) (nI b) := by
  intro d
  induction d with
  | zero =>
    intro b H hb hab h
    have e : b = 17 := by omega
    subst e
    unfold wpX10_had_L14
    exact br_t (nI_le (a := 17) (by omega) (by omega)) (hK H h)
  | succ d ih =>
    intro b H hb hab h
    unfold wpX10_had_L14
    rw [nI_1 b]
    refine br_f (nI_ge (b := 17) (by omega) (by omega)) (sp10_has hX (by omega) ?_)
    unfold jn2 jn1
    dsimp only
    have z : nI H ||| 0 = nI H := by rw [show (0 : Int32) = nI 0 from rfl, nI_or, Nat.or_zero]
    rw [z]
    refine b2_br (fun q => ih (b + 1) H (by omega) (by omega) (h.skip (fun w => q w.2.1))) (fun q => sp10_has hX (by omega) (b2_br (fun q2 => ih (b + 1) H (by omega) (by omega) (h.skip (fun w => q2 w.2.2))) (fun q2 => ?_)))
    rw [pk_sub (by omega), jshl_1 (by omega), nI_or]
    exact ih (b + 1) _ (by omega) (by omega) (h.put hab (by omega) q q2)
theorem lp10_h4 {X : Nat} {K : Int32 → Prop} (hX : X < 2 ^ 31) (hK : ∀ H, H < 2 ^ 17 → (∀ d, H.testBit d = true ↔ ∃ i j, i < j ∧ j < 17 ∧ X.testBit i = true ∧ X.testBit j = true ∧ j - i = d) → K (nI H)) :
    ∀ d a H, a + d = 17 → HQ X a (a + 1) H → wpX10_had_L4 (nI X) K (d + 1) (nI H) (nI a) := by
  intro d
  induction d with
  | zero =>
    intro a H ha h
    have e : a = 17 := by omega
    subst e
    unfold wpX10_had_L4
    refine br_t (nI_le (a := 17) (by omega) (by omega)) (hK H h.1 (fun d => (h.2 d).trans ⟨fun ⟨i, j, _, h2⟩ => ⟨i, j, h2⟩, fun ⟨i, j, h2, h3, h4⟩ => ⟨i, j, by omega, h2, h3, h4⟩⟩))
  | succ d ih =>
    intro a H ha h
    unfold wpX10_had_L4
    rw [nI_1 a]
    refine br_f (nI_ge (b := 17) (by omega) (by omega)) ⟨17 - (a + 1) + 1, lp10_h14 hX (by omega) (fun H' h' => ih (a + 1) H' (by omega) ⟨h'.1, fun d => (h'.2 d).trans ⟨fun ⟨i, j, h1, h2⟩ => ⟨i, j, by omega, h2⟩, fun ⟨i, j, h1, h2, h3, h4⟩ => ⟨i, j, by omega, h2, h3, h4⟩⟩⟩) (17 - (a + 1)) (a + 1) H (by omega) (by omega) h⟩
theorem sp10_had {X : Nat} {post : Int32 → Prop} (hX : X < 2 ^ 17) (hp : ∀ H, H < 2 ^ 17 → (∀ d, H.testBit d = true ↔ 1 ≤ d ∧ df X d) → post (nI H)) : wpX10_had (nI X) post := by
  refine ⟨18, lp10_h4 (K := fun v => post v) (by omega) (fun H h1 h2 => hp H h1 (fun d => (h2 d).trans ⟨fun ⟨i, j, a, b, c, e, f⟩ => ⟨by omega, i, c, by rw [show i + d = j by omega]; exact e⟩, fun ⟨d1, i, c, e⟩ => ⟨i, i + d, by omega, ?_, c, e, by omega⟩⟩)) 17 0 0 (by omega) ⟨by decide, fun d => ?_⟩⟩
  · apply Classical.byContradiction
    intro q
    rw [Nat.testBit_lt_two_pow (Nat.lt_of_lt_of_le hX (Nat.pow_le_pow_right (by decide) (by omega)))] at e
    exact Bool.noConfusion e
  · rw [Nat.zero_testBit]
    exact ⟨fun h => Bool.noConfusion h, fun ⟨i, j, h1, h2, _⟩ => absurd h2 (by omega)⟩
