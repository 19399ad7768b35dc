/-! stopped, friends: the fewest fingers, the least set of as few -/
noncomputable def best (m : Nat) (Q : Nat → Prop) : Nat → Option Nat
  | 0 => none
  | k + 1 => @ite _ (popc k ≤ m ∧ (∀ s, best m Q k = some s → popc k < popc s) ∧ Q k) (Classical.propDecidable _) (some k) (best m Q k)
theorem best_y {m : Nat} {Q : Nat → Prop} {k : Nat} (h : popc k ≤ m ∧ (∀ s, best m Q k = some s → popc k < popc s) ∧ Q k) : best m Q (k + 1) = some k := by rw [best]; exact @if_pos _ (Classical.propDecidable _) h _ _ _
theorem best_n {m : Nat} {Q : Nat → Prop} {k : Nat} (h : ¬ (popc k ≤ m ∧ (∀ s, best m Q k = some s → popc k < popc s) ∧ Q k)) : best m Q (k + 1) = best m Q k := by rw [best]; exact @if_neg _ (Classical.propDecidable _) h _ _ _
theorem best_some {m : Nat} {Q : Nat → Prop} : ∀ {k s : Nat}, best m Q k = some s → s < k ∧ popc s ≤ m ∧ Q s
  | 0, s, h => by cases h
  | k + 1, s, h => by
    by_cases c : popc k ≤ m ∧ (∀ s, best m Q k = some s → popc k < popc s) ∧ Q k
    · rw [best_y c] at h
      cases h
      exact ⟨by omega, c.1, c.2.2⟩
    · rw [best_n c] at h
      have := best_some h
      exact ⟨by omega, this.2⟩
theorem best_none {m : Nat} {Q : Nat → Prop} : ∀ {k : Nat}, best m Q k = none ↔ ∀ s, s < k → popc s ≤ m → ¬ Q s
  | 0 => ⟨fun _ s h => absurd h (Nat.not_lt_zero _), fun _ => rfl⟩
  | k + 1 => by
    by_cases c : popc k ≤ m ∧ (∀ s, best m Q k = some s → popc k < popc s) ∧ Q k
    · rw [best_y c]
      exact ⟨fun h => (by cases h), fun h => absurd c.2.2 (h k (by omega) c.1)⟩
    · rw [best_n c]
      constructor
      · intro h s hs hp hq
        by_cases e : s = k
        · subst e
          exact c ⟨hp, (fun z hz => by rw [h] at hz; cases hz), hq⟩
        · exact (best_none (k := k)).mp h s (by omega) hp hq
      · intro h
        exact (best_none (k := k)).mpr (fun s hs => h s (by omega))
theorem best_cong {m : Nat} {Q Q' : Nat → Prop} (h : ∀ s, Q s ↔ Q' s) (k : Nat) : best m Q k = best m Q' k := by
  have : Q = Q' := funext (fun s => propext (h s))
  rw [this]
def o2i (o : Option Nat) : Int32 := match o with
  | none => -6
  | some s => nI s
def o2f (m : Nat) (o : Option Nat) : Nat := match o with
  | none => m + 1
  | some s => popc s
theorem lp7_23 {s : Ob} {A : AS} {a b v w : Nat} {K : Int32 → Prop} (hs : StS s A) (ho : Own A) (ha : a < A.1 0) (hb : b < A.1 0) (hv : v < 2 ^ 31) (hw : w < 2 ^ 31) (hK : K (o2i (best (may (A.1 0)) (fun S => len A.2.1 (A.1 0) (A.1 1 + A.1 4) S a = v ∧ len A.2.1 (A.1 0) (A.1 1 + A.1 4) S b = w) (2 ^ A.1 0)))) :
    ∀ d k, k + d = 2 ^ A.1 0 → wpX7_fewestFingers_L23 (nI a) (nI v) (nI b) (nI w) (nI (2 ^ A.1 0)) s K (d + 1) (o2i (best (may (A.1 0)) (fun S => len A.2.1 (A.1 0) (A.1 1 + A.1 4) S a = v ∧ len A.2.1 (A.1 0) (A.1 1 + A.1 4) S b = w) k)) (nI (o2f (may (A.1 0)) (best (may (A.1 0)) (fun S => len A.2.1 (A.1 0) (A.1 1 + A.1 4) S a = v ∧ len A.2.1 (A.1 0) (A.1 1 + A.1 4) S b = w) k))) (nI k) := by
  obtain ⟨⟨a1, a2⟩, b1, -, -, d1, -, -, hg⟩ := id ho
  have h2 := two_pow_le a2
  have hm := may_le a2
  have hlen := fun S z (hz : z < A.1 0) => len_bd hg (S := S) a2 (show 1 ≤ A.1 1 + A.1 4 by omega) (by omega) hz
  intro d
  induction d with
  | zero =>
    intro k hk
    have e : k = 2 ^ A.1 0 := by omega
    subst e
    unfold wpX7_fewestFingers_L23
    exact br_t (nI_le (by omega) (by omega)) hK
  | succ d ih =>
    intro k hk
    have ih1 := ih (k + 1) (by omega)
    unfold wpX7_fewestFingers_L23
    rw [nI_1]
    unfold jn2
    refine br_f (nI_ge (by omega) (by omega)) (sp_bitCount (by omega) ?_)
    have hp := popc_le k
    have hof : o2f (may (A.1 0)) (best (may (A.1 0)) (fun S => len A.2.1 (A.1 0) (A.1 1 + A.1 4) S a = v ∧ len A.2.1 (A.1 0) (A.1 1 + A.1 4) S b = w) k) ≤ 17 := by
      cases hbk : best (may (A.1 0)) (fun S => len A.2.1 (A.1 0) (A.1 1 + A.1 4) S a = v ∧ len A.2.1 (A.1 0) (A.1 1 + A.1 4) S b = w) k with
      | none => show may (A.1 0) + 1 ≤ 17; omega
      | some z => exact popc_le z
    have hless : popc k < o2f (may (A.1 0)) (best (may (A.1 0)) (fun S => len A.2.1 (A.1 0) (A.1 1 + A.1 4) S a = v ∧ len A.2.1 (A.1 0) (A.1 1 + A.1 4) S b = w) k) ↔ (popc k ≤ may (A.1 0) ∧ ∀ z, best (may (A.1 0)) (fun S => len A.2.1 (A.1 0) (A.1 1 + A.1 4) S a = v ∧ len A.2.1 (A.1 0) (A.1 1 + A.1 4) S b = w) k = some z → popc k < popc z) := by
      cases hbk : best (may (A.1 0)) (fun S => len A.2.1 (A.1 0) (A.1 1 + A.1 4) S a = v ∧ len A.2.1 (A.1 0) (A.1 1 + A.1 4) S b = w) k with
      | none =>
        show popc k < may (A.1 0) + 1 ↔ _
        exact ⟨fun q => ⟨by omega, fun z hz => (by cases hz)⟩, fun q => (by omega)⟩
      | some z =>
        show popc k < popc z ↔ _
        have := best_some hbk
        exact ⟨fun q => ⟨by omega, fun z2 hz => (by cases hz; exact q)⟩, fun q => q.2 z rfl⟩
    refine pk_le _ (popc k) (fun q => ?_) (fun q => ?_)
    · rw [best_n (fun c => by have := hless.mpr ⟨c.1, c.2.1⟩; omega)] at ih1
      exact ih1
    · have la := hlen k a ha
      have lb := hlen k b hb
      refine sp8_lengthAt hs ho ha (by omega) (pk_eq _ v (fun e1 => ?_) (fun e1 => ?_))
      · refine sp8_lengthAt hs ho hb (by omega) (pk_eq _ w (fun e2 => ?_) (fun e2 => ?_))
        · rw [best_y ⟨(hless.mp q).1, (hless.mp q).2, e1, e2⟩] at ih1
          exact ih1
        · rw [best_n (fun c => e2 c.2.2.2)] at ih1
          exact ih1
      · rw [best_n (fun c => e1 c.2.2.1)] at ih1
        exact ih1
theorem sp7_fewest {s : Ob} {A : AS} {a b v w : Nat} {post : Int32 → Prop} (hs : StS s A) (ho : Own A) (ha : a < A.1 0) (hb : b < A.1 0) (hv : v < 2 ^ 31) (hw : w < 2 ^ 31) (hp : post (o2i (best (may (A.1 0)) (fun S => len A.2.1 (A.1 0) (A.1 1 + A.1 4) S a = v ∧ len A.2.1 (A.1 0) (A.1 1 + A.1 4) S b = w) (2 ^ A.1 0)))) : wpX7_fewestFingers s (nI a) (nI v) (nI b) (nI w) post := by
  obtain ⟨a1, a2⟩ := id ho.1
  unfold wpX7_fewestFingers
  refine sp8_mostFingers (hs.1 0 (by omega)) a1 a2 ⟨2 ^ A.1 0 + 1, ?_⟩
  rw [hs.1 0 (by omega), jshl_1 (by omega), nI_1]
  exact lp7_23 (K := fun v => post v) hs ho ha hb hv hw hp (2 ^ A.1 0) 0 (by omega)
/-- the reference's: the second window may be none -/
theorem lp10_f7 {y : Ob} {A : AS} {a v : Nat} {xb xw : Int32} {Q : Nat → Prop} {K : Int32 → Prop} (hy : YS y A) (ho : Own A) (ha : a < A.1 0) (hv : v < 2 ^ 31) (hx : (xb < 0 ∧ ∀ S, Q S ↔ len A.2.1 (A.1 0) (A.1 1 + A.1 4) S a = v) ∨ ∃ b w, b < A.1 0 ∧ w < 2 ^ 31 ∧ xb = nI b ∧ xw = nI w ∧ ∀ S, Q S ↔ len A.2.1 (A.1 0) (A.1 1 + A.1 4) S a = v ∧ len A.2.1 (A.1 0) (A.1 1 + A.1 4) S b = w) (hK : K (o2i (best (may (A.1 0)) Q (2 ^ A.1 0)))) :
    ∀ d k, k + d = 2 ^ A.1 0 → wpX10_fewestFor_L7 (nI a) (nI v) xb xw y K (d + 1) (o2i (best (may (A.1 0)) Q k)) (nI k) := by
  obtain ⟨⟨a1, a2⟩, b1, -, -, d1, -, -, hg⟩ := id ho
  have h2 := two_pow_le a2
  have hm := may_le a2
  have hlen := fun S z (hz : z < A.1 0) => len_bd hg (S := S) a2 (show 1 ≤ A.1 1 + A.1 4 by omega) (by omega) hz
  intro d
  induction d with
  | zero =>
    intro k hk
    have e : k = 2 ^ A.1 0 := by omega
    subst e
    unfold wpX10_fewestFor_L7
    rw [hy.1.1, jshl_1 (by omega)]
    exact br_t (nI_le (by omega) (by omega)) hK
  | succ d ih =>
    intro k hk
    have ih1 := ih (k + 1) (by omega)
    unfold wpX10_fewestFor_L7
    rw [hy.1.1, jshl_1 (by omega), nI_1]
    unfold jn1 jn0
    dsimp only
    have hp := popc_le k
    -- once 'better' is known
    have mid : ∀ c : Prop, (c ↔ (popc k ≤ may (A.1 0) ∧ ∀ z, best (may (A.1 0)) Q k = some z → popc k < popc z)) → ((b2 c = 0) → ((((0 : Int32) = 0) → wpX10_fewestFor_L7 (nI a) (nI v) xb xw y K (d + 1) (o2i (best (may (A.1 0)) Q k)) (nI (k + 1))) ∧ (¬ ((0 : Int32) = 0) → wpX10_fewestFor_L7 (nI a) (nI v) xb xw y K (d + 1) (nI k) (nI (k + 1))))) ∧ (¬ (b2 c = 0) → wpX10_lengthOf y (nI a) (nI k) (y 0 5) (fun (r65 : Int32) => ((r65 = nI v) → ((xb < 0) → ((((1 : Int32) = 0) → wpX10_fewestFor_L7 (nI a) (nI v) xb xw y K (d + 1) (o2i (best (may (A.1 0)) Q k)) (nI (k + 1))) ∧ (¬ ((1 : Int32) = 0) → wpX10_fewestFor_L7 (nI a) (nI v) xb xw y K (d + 1) (nI k) (nI (k + 1))))) ∧ (¬ (xb < 0) → wpX10_lengthOf y xb (nI k) (y 0 5) (fun (r84 : Int32) => ((r84 = xw) → ((((1 : Int32) = 0) → wpX10_fewestFor_L7 (nI a) (nI v) xb xw y K (d + 1) (o2i (best (may (A.1 0)) Q k)) (nI (k + 1))) ∧ (¬ ((1 : Int32) = 0) → wpX10_fewestFor_L7 (nI a) (nI v) xb xw y K (d + 1) (nI k) (nI (k + 1))))) ∧ (¬ (r84 = xw) → ((((0 : Int32) = 0) → wpX10_fewestFor_L7 (nI a) (nI v) xb xw y K (d + 1) (o2i (best (may (A.1 0)) Q k)) (nI (k + 1))) ∧ (¬ ((0 : Int32) = 0) → wpX10_fewestFor_L7 (nI a) (nI v) xb xw y K (d + 1) (nI k) (nI (k + 1)))))))) ∧ (¬ (r65 = nI v) → ((((0 : Int32) = 0) → wpX10_fewestFor_L7 (nI a) (nI v) xb xw y K (d + 1) (o2i (best (may (A.1 0)) Q k)) (nI (k + 1))) ∧ (¬ ((0 : Int32) = 0) → wpX10_fewestFor_L7 (nI a) (nI v) xb xw y K (d + 1) (nI k) (nI (k + 1))))))) := by
      intro c hc
      have no : ¬ (popc k ≤ may (A.1 0) ∧ (∀ z, best (may (A.1 0)) Q k = some z → popc k < popc z) ∧ Q k) → wpX10_fewestFor_L7 (nI a) (nI v) xb xw y K (d + 1) (o2i (best (may (A.1 0)) Q k)) (nI (k + 1)) := fun q => by
        rw [best_n q] at ih1; exact ih1
      have yes : (popc k ≤ may (A.1 0) ∧ (∀ z, best (may (A.1 0)) Q k = some z → popc k < popc z) ∧ Q k) → wpX10_fewestFor_L7 (nI a) (nI v) xb xw y K (d + 1) (nI k) (nI (k + 1)) := fun q => by
        rw [best_y q] at ih1; exact ih1
      refine b2_br (fun q => br_t rfl (no (fun z => q (hc.mpr ⟨z.1, z.2.1⟩)))) (fun q => ?_)
      have q' := hc.mp q
      have la := hlen k a ha
      refine sp10_len hy ho ha (by omega) hy.1.2.2.2.2.1 (pk_eq _ v (fun e1 => ?_) (fun e1 => ?_))
      · rcases hx with ⟨x1, x2⟩ | ⟨b, w, hb, hw, rfl, rfl, x2⟩
        · exact br_t x1 (br_f (by decide) (yes ⟨q'.1, q'.2, (x2 k).mpr e1⟩))
        · have lb := hlen k b hb
          refine br_f (nI_pos (by omega)) (sp10_len hy ho hb (by omega) hy.1.2.2.2.2.1 (pk_eq _ w (fun e2 => ?_) (fun e2 => ?_)))
          · exact br_f (by decide) (yes ⟨q'.1, q'.2, (x2 k).mpr ⟨e1, e2⟩⟩)
          · exact br_t rfl (no (fun z => e2 ((x2 k).mp z.2.2).2))
      · refine br_t rfl (no (fun z => e1 ?_))
        rcases hx with ⟨x1, x2⟩ | ⟨b, w, hb, hw, _, _, x2⟩
        · exact (x2 k).mp z.2.2
        · exact ((x2 k).mp z.2.2).1
    refine br_f (nI_ge (by omega) (by omega)) (sp10_canBe hy.1.1 a1 a2 (by omega) (b2_br (fun q => ?_) (fun q => ?_)))
    · have := mid False ⟨fun z => z.elim, fun z => q z.1⟩
      rw [b2_f (p := False) (fun z => z)] at this
      exact this
    · cases hbk : best (may (A.1 0)) Q k with
      | none =>
        have := mid True ⟨fun _ => ⟨q, fun z hz => by rw [hbk] at hz; cases hz⟩, fun _ => trivial⟩
        rw [b2_t (p := True) trivial, hbk] at this
        exact br_t (show o2i none < (0 : Int32) by decide) this
      | some z =>
        have hz := best_some hbk
        have hz31 : z < 2 ^ 31 := by omega
        have hpz := popc_le z
        refine br_f (show ¬ o2i (some z) < (0 : Int32) from nI_pos hz31) (sp10_bits (by omega) (sp10_bits (S := z) hz31 ?_))
        refine pk_le (popc z) (popc k) (fun c => ?_) (fun c => ?_)
        · have := mid False ⟨fun x => x.elim, fun x => by have := x.2 z hbk; omega⟩
          rw [b2_f (p := False) (fun x => x), hbk] at this
          exact this
        · have := mid True ⟨fun _ => ⟨q, fun x hx => by rw [hbk] at hx; cases hx; exact c⟩, fun _ => trivial⟩
          rw [b2_t (p := True) trivial, hbk] at this
          exact this
theorem sp10_fewest1 {y : Ob} {A : AS} {a v : Nat} {xw : Int32} {post : Int32 → Prop} (hy : YS y A) (ho : Own A) (ha : a < A.1 0) (hv : v < 2 ^ 31) (hp : post (o2i (best (may (A.1 0)) (fun S => len A.2.1 (A.1 0) (A.1 1 + A.1 4) S a = v) (2 ^ A.1 0)))) : wpX10_fewestFor y (nI a) (nI v) (-6) xw post :=
  ⟨2 ^ A.1 0 + 1, lp10_f7 (K := fun v => post v) hy ho ha hv (Or.inl ⟨by decide, fun _ => Iff.rfl⟩) hp (2 ^ A.1 0) 0 (by omega)⟩
theorem sp10_fewest2 {y : Ob} {A : AS} {a b v w : Nat} {post : Int32 → Prop} (hy : YS y A) (ho : Own A) (ha : a < A.1 0) (hb : b < A.1 0) (hv : v < 2 ^ 31) (hw : w < 2 ^ 31) (hp : post (o2i (best (may (A.1 0)) (fun S => len A.2.1 (A.1 0) (A.1 1 + A.1 4) S a = v ∧ len A.2.1 (A.1 0) (A.1 1 + A.1 4) S b = w) (2 ^ A.1 0)))) : wpX10_fewestFor y (nI a) (nI v) (nI b) (nI w) post :=
  ⟨2 ^ A.1 0 + 1, lp10_f7 (K := fun v => post v) hy ho ha hv (Or.inr ⟨b, w, hb, hw, rfl, rfl, fun _ => Iff.rfl⟩) hp (2 ^ A.1 0) 0 (by omega)⟩
/-- how it is told -/
theorem tell {o : Option Nat} {w : Int32} (ho : ∀ s, o = some s → s < 1024) {p1 p2 : Int32 → Prop} (hw : w = 0 ∨ w = 1) (hn : p1 (-6) ∧ p2 (-6)) (hs : ∀ s, o = some s → w = 1 → p1 (nI s) ∧ p2 (nI s)) (hc : ∀ s, o = some s → w = 0 → p1 (nI (popc s)) ∧ p2 (nI (popc s))) : wpX9_sizeOrSet (o2i o) w p1 ∧ (((o2i o < 0) → p2 (o2i o)) ∧ (¬ (o2i o < 0) → ((w = (1 : Int32)) → p2 (o2i o)) ∧ (¬ (w = (1 : Int32)) → wpX10_bits (o2i o) (fun (r61 : Int32) => p2 r61)))) := by
  unfold wpX9_sizeOrSet
  cases o with
  | none => exact ⟨br_t rfl hn.1, br_t (show o2i none < (0 : Int32) by decide) hn.2⟩
  | some s =>
    have h1024 := ho s rfl
    have e : o2i (some s) = nI s := rfl
    rw [e]
    rcases hw with rfl | rfl
    · refine ⟨br_f (nI_ne6 (by omega)) (br_t rfl (sp_bitCount h1024 (hc s rfl rfl).1)), br_f (nI_pos (by omega)) (br_f (by decide) (sp10_bits (by omega) (hc s rfl rfl).2))⟩
    · exact ⟨br_f (nI_ne6 (by omega)) (br_f (by decide) (hs s rfl rfl).1), br_f (nI_pos (by omega)) (br_t rfl (hs s rfl rfl).2)⟩
