/-! two windows -/
theorem two_cases (x y : Int32) {n : Nat} (hn : n ≤ 10) : (¬ ∃ a b, a < n ∧ b < n ∧ a ≠ b ∧ x = nI a ∧ y = nI b) ∨ ∃ a b, a < n ∧ b < n ∧ a ≠ b ∧ x = nI a ∧ y = nI b := (Classical.em _).symm
theorem two9_n {oX s : Ob} {n : Nat} {x y : Int32} {post : Int32 → Prop} (h0 : s 0 0 = nI n) (hn : n ≤ 10) (h : ¬ ∃ a b, a < n ∧ b < n ∧ a ≠ b ∧ x = nI a ∧ y = nI b) (hp : post 0) : wpX9_areTwo oX s x y post := by
  unfold wpX9_areTwo jn0
  rcases win_cases x hn with q | ⟨a, ha, rfl⟩
  · exact sp8_has_n h0 q (br_t rfl hp)
  · refine sp8_has_y h0 hn ha (br_f (by decide) ?_)
    rcases win_cases y hn with q | ⟨b, hb, rfl⟩
    · exact sp8_has_n h0 q (br_t rfl hp)
    · refine sp8_has_y h0 hn hb (br_f (by decide) (pk_eq a b (fun _ => hp) (fun e => ?_)))
      exact absurd ⟨a, b, ha, hb, e, rfl, rfl⟩ h
theorem two9_y {oX s : Ob} {n a b : Nat} {post : Int32 → Prop} (h0 : s 0 0 = nI n) (hn : n ≤ 10) (ha : a < n) (hb : b < n) (hab : a ≠ b) (hp : post 1) : wpX9_areTwo oX s (nI a) (nI b) post := by
  unfold wpX9_areTwo jn0
  exact sp8_has_y h0 hn ha (br_f (by decide) (sp8_has_y h0 hn hb (br_f (by decide) (pk_eq a b (fun e => absurd e hab) (fun _ => hp)))))
theorem two10_n {s : Ob} {n : Nat} {x y : Int32} {post : Int32 → Prop} (h0 : s 0 0 = nI n) (hn1 : 1 ≤ n) (hn : n ≤ 10) (h : ¬ ∃ a b, a < n ∧ b < n ∧ a ≠ b ∧ x = nI a ∧ y = nI b) (hp : post 0) : wpX10_areTwo s x y post := by
  unfold wpX10_areTwo jn0
  rcases win_cases x hn with q | ⟨a, ha, rfl⟩
  · exact sp10_isWindow_n h0 hn1 hn q (br_t rfl hp)
  · refine sp10_isWindow_y h0 hn ha (br_f (by decide) ?_)
    rcases win_cases y hn with q | ⟨b, hb, rfl⟩
    · exact sp10_isWindow_n h0 hn1 hn q (br_t rfl hp)
    · refine sp10_isWindow_y h0 hn hb (br_f (by decide) (pk_eq a b (fun _ => hp) (fun e => ?_)))
      exact absurd ⟨a, b, ha, hb, e, rfl, rfl⟩ h
theorem two10_y {s : Ob} {n a b : Nat} {post : Int32 → Prop} (h0 : s 0 0 = nI n) (hn : n ≤ 10) (ha : a < n) (hb : b < n) (hab : a ≠ b) (hp : post 1) : wpX10_areTwo s (nI a) (nI b) post := by
  unfold wpX10_areTwo jn0
  exact sp10_isWindow_y h0 hn ha (br_f (by decide) (sp10_isWindow_y h0 hn hb (br_f (by decide) (pk_eq a b (fun e => absurd e hab) (fun _ => hp)))))
theorem sp9_low {a b : Nat} {v : Int32} {post : Int64 → Prop} (ha : 1 ≤ a ∨ 1 ≤ b) (ha2 : a < 2 ^ 60) (hb2 : b < 2 ^ 60) (h0 : v = 0 → post (lN (a / Nat.gcd a b))) (h1 : ¬ v = 0 → post (lN (b / Nat.gcd a b))) : wpX9_lowestTerms (lN a) (lN b) v post := by
  unfold wpX9_lowestTerms jn1
  have hg : 0 < Nat.gcd a b := by
    rcases ha with h | h
    · exact Nat.gcd_pos_of_pos_left _ h
    · exact Nat.gcd_pos_of_pos_right _ h
  have hgl : Nat.gcd a b < 2 ^ 60 := by
    rcases ha with h | h
    · exact Nat.lt_of_le_of_lt (Nat.gcd_le_left _ h) ha2
    · exact Nat.lt_of_le_of_lt (Nat.gcd_le_right _ h) hb2
  refine sp9_gcd ha2 hb2 ?_
  have hne : ¬ lN (Nat.gcd a b) = 0 := fun q => by
    have := (pk_lEQ (b := 0) (by omega) (by omega)).mp q
    omega
  have hc : (0 : Int32) ≤ lg_cmp (lN (Nat.gcd a b)) (1 : Int64) := by
    by_cases e : Nat.gcd a b = 1
    · rw [e]
      have : lg_cmp (lN 1) (lN 1) = 0 := cmp_eq 1
      show (0 : Int32) ≤ lg_cmp (lN 1) (lN 1)
      rw [this]; decide
    · have : lg_cmp (lN (Nat.gcd a b)) (lN 1) = 1 := cmp_gt (by omega) (by omega) (by omega)
      show (0 : Int32) ≤ lg_cmp (lN (Nat.gcd a b)) (lN 1)
      rw [this]; decide
  refine br_c (fun e => br_t hc ⟨hne, ?_⟩) (fun e => br_t hc ⟨hne, ?_⟩)
  · rw [pk_lDiv (by omega) hg (by omega)]; exact h0 e
  · rw [pk_lDiv (by omega) hg (by omega)]; exact h1 e
theorem st_interval {oX oS oY : Ob} {A : AS} (h : Good oS oY A) (v1 v2 v3 : Int32) {K : Int64 → Int64 → Prop} (hK : ∀ r, K r r) : wpX9_interval oX oS v1 v2 v3 (fun r => wpX10_interval oY v1 v2 v3 (fun r2 => K r r2)) := by
  obtain ⟨hs, hy, ho, -⟩ := h
  obtain ⟨a1, a2⟩ := ho.1
  have hf : A.1 5 < 2 ^ 31 := by have := set_lt a2 ho.2.2.2.2.2.1.1; omega
  have b1 := ho.2.1
  have d1 := ho.2.2.2.2.1
  have hg := ho.2.2.2.2.2.2.2
  unfold wpX9_interval
  rcases two_cases v1 v2 a2 with q | ⟨a, b, ha, hb, hab, rfl, rfl⟩
  · refine two9_n (hs.1 0 (by omega)) a2 q (br_t rfl ?_)
    unfold wpX10_interval
    exact two10_n hy.1.1 (by omega) a2 q (br_t rfl (hK _))
  · refine two9_y (hs.1 0 (by omega)) a2 ha hb hab (br_f (by decide) ?_)
    refine sp9_out (b2_br (fun hin => ?_) (fun hout => ?_))
    · obtain ⟨n, n1, n2, rfl⟩ := in_rng (a := 0) (b := 1) (x := v3) (by omega) (fun q => hin (Or.inl q)) (fun q => hin (Or.inr q)) (by omega)
      rw [hs.1 5 (by omega)]
      refine sp8_lengthAt hs ho ha hf (sp8_lengthAt hs ho hb hf ?_)
      have la := len_bd hg (S := A.1 5) a2 (show 1 ≤ A.1 1 + A.1 4 by omega) (by omega) ha
      have lb := len_bd hg (S := A.1 5) a2 (show 1 ≤ A.1 1 + A.1 4 by omega) (by omega) hb
      obtain ⟨La, eLa⟩ : ∃ z, z = len A.2.1 (A.1 0) (A.1 1 + A.1 4) (A.1 5) a := ⟨_, rfl⟩
      obtain ⟨Lb, eLb⟩ : ∃ z, z = len A.2.1 (A.1 0) (A.1 1 + A.1 4) (A.1 5) b := ⟨_, rfl⟩
      rw [← eLa] at la
      rw [← eLb] at lb
      rw [← eLa, ← eLb]
      rw [jmax_n (by omega) (by omega), jmin_n (by omega) (by omega), nI_l (by omega), nI_l (by omega)]
      have eg : Nat.gcd (max La Lb) (min La Lb) = Nat.gcd La Lb := by
        rcases Nat.le_total La Lb with q | q
        · rw [Nat.max_eq_right q, Nat.min_eq_left q, Nat.gcd_comm]
        · rw [Nat.max_eq_left q, Nat.min_eq_right q]
      have hgp := gcd_pos (b := Lb) la.1
      have hgl := gcd_le (b := Lb) la.1
      have mod : ∀ post : Int64 → Prop, ((nI n = 0) → post (lN (max La Lb / Nat.gcd La Lb))) → (¬ (nI n = 0) → post (lN (min La Lb / Nat.gcd La Lb))) → wpX10_interval oY (nI a) (nI b) (nI n) post := by
        intro post p0 p1
        unfold wpX10_interval
        refine two10_y hy.1.1 a2 ha hb hab (br_f (by decide) (sp10_in (b2_br (fun q => absurd hin q) (fun _ => ?_))))
        rw [hy.1.2.2.2.2.2.1]
        refine sp10_len hy ho ha hf hy.1.2.2.2.2.1 (sp10_len hy ho hb hf hy.1.2.2.2.2.1 ?_)
        rw [← eLa, ← eLb]
        refine sp10_divisor (by omega) (by omega) ?_
        unfold jn1
        have key : ∀ M m : Nat, M = max La Lb → m = min La Lb → nI (La + Lb) - nI M = nI m := by
          intro M m e1 e2
          rw [pk_sub (by omega)]
          congr 1; omega
        have dv := fun (z : Nat) (hz : z ≤ 108) => pk_div (a := z) (d := Nat.gcd La Lb) (by omega) hgp (by omega)
        have fin : ∀ M, M = max La Lb → ((nI n = 0) → (¬ nI (Nat.gcd La Lb) = 0) ∧ (post (Int32.toInt64 (nI M / nI (Nat.gcd La Lb))))) ∧ (¬ (nI n = 0) → (¬ nI (Nat.gcd La Lb) = 0) ∧ (post (Int32.toInt64 (((nI La + nI Lb) - nI M) / nI (Nat.gcd La Lb))))) := by
          intro M e1
          have hq1 := Nat.div_le_self (max La Lb) (Nat.gcd La Lb)
          have hq2 := Nat.div_le_self (min La Lb) (Nat.gcd La Lb)
          refine br_c (fun e => ⟨nI_ne0 hgp (by omega), ?_⟩) (fun e => ⟨nI_ne0 hgp (by omega), ?_⟩)
          · rw [e1, dv _ (by omega), nI_l (by omega)]; exact p0 e
          · rw [nI_add, key M (min La Lb) e1 rfl, dv _ (by omega), nI_l (by omega)]; exact p1 e
        refine pk_le La Lb (fun q => fin Lb (by omega)) (fun q => fin La (by omega))
      refine sp9_low (Or.inl (by omega)) (by omega) (by omega) (fun e => ?_) (fun e => ?_)
      · rw [eg]; exact mod _ (fun _ => hK _) (fun q => absurd e q)
      · rw [eg]; exact mod _ (fun q => absurd q e) (fun _ => hK _)
    · unfold wpX10_interval
      refine two10_y hy.1.1 a2 ha hb hab (br_f (by decide) (sp10_in (b2_br (fun _ => hK _) (fun q => absurd hout q))))

/-! heard -/
def newAt (f : Nat → Nat) (w : Nat) : Prop := ∀ x, x < w → f x ≠ f w
noncomputable def ndif (f : Nat → Nat) : Nat → Nat
  | 0 => 0
  | k + 1 => ndif f k + @ite _ (newAt f k) (Classical.propDecidable _) 1 0
theorem ndif_y {f : Nat → Nat} {k : Nat} (h : newAt f k) : ndif f (k + 1) = ndif f k + 1 := by rw [ndif]; congr 1; exact @if_pos _ (Classical.propDecidable _) h _ _ _
theorem ndif_n {f : Nat → Nat} {k : Nat} (h : ¬ newAt f k) : ndif f (k + 1) = ndif f k := by rw [ndif]; rw [@if_neg _ (Classical.propDecidable _) h _ _ _]; rfl
theorem ndif_le (f : Nat → Nat) : ∀ k, ndif f k ≤ k
  | 0 => Nat.le_refl _
  | k + 1 => by
    have := ndif_le f k
    by_cases h : newAt f k
    · rw [ndif_y h]; omega
    · rw [ndif_n h]; omega
def hmx (f : Nat → Nat) : Nat → Nat × Nat
  | 0 => (0, 0)
  | k + 1 => if (hmx f k).1 < f k then (f k, 1) else if f k = (hmx f k).1 then ((hmx f k).1, (hmx f k).2 + 1) else hmx f k
theorem hmx_le (f : Nat → Nat) (hf : ∀ k, k < 10 → f k ≤ 108) : ∀ k, k ≤ 10 → (hmx f k).1 ≤ 108 ∧ (hmx f k).2 ≤ k
  | 0, _ => ⟨Nat.zero_le _, Nat.zero_le _⟩
  | k + 1, h => by
    have ih := hmx_le f hf k (by omega)
    have := hf k (by omega)
    rw [hmx]
    split
    · exact ⟨this, by show 1 ≤ k + 1; omega⟩
    · split
      · exact ⟨ih.1, by show (hmx f k).2 + 1 ≤ k + 1; omega⟩
      · exact ⟨ih.1, by omega⟩
theorem lp9_18 {s : Ob} {A : AS} {w : Nat} {post : Int32 → Prop} {K : Prop} (hs : StS s A) (ho : Own A) (hw : w < A.1 0) (hK : (∀ x, x < w → len A.2.1 (A.1 0) (A.1 1 + A.1 4) (A.1 5) x ≠ len A.2.1 (A.1 0) (A.1 1 + A.1 4) (A.1 5) w) → K) (hy : ¬ newAt (len A.2.1 (A.1 0) (A.1 1 + A.1 4) (A.1 5)) w → post 1) :
    ∀ d k, k + d = w → (∀ x, x < k → len A.2.1 (A.1 0) (A.1 1 + A.1 4) (A.1 5) x ≠ len A.2.1 (A.1 0) (A.1 1 + A.1 4) (A.1 5) w) → wpX9_isHeardAbove_L18 (nI w) (nI (len A.2.1 (A.1 0) (A.1 1 + A.1 4) (A.1 5) w)) s post K (d + 1) (nI k) := by
  obtain ⟨a1, a2⟩ := id ho.1
  have hf : A.1 5 < 2 ^ 31 := by have := set_lt a2 ho.2.2.2.2.2.1.1; omega
  have b1 := ho.2.1
  have d1 := ho.2.2.2.2.1
  have hlen := fun z (hz : z < A.1 0) => len_bd ho.2.2.2.2.2.2.2 (S := A.1 5) a2 (show 1 ≤ A.1 1 + A.1 4 by omega) (by omega) hz
  intro d
  induction d with
  | zero =>
    intro k hk hn
    unfold wpX9_isHeardAbove_L18
    exact br_t (nI_le (by omega) (by omega)) (hK (fun x hx => hn x (by omega)))
  | succ d ih =>
    intro k hk hn
    unfold wpX9_isHeardAbove_L18
    rw [hs.1 5 (by omega)]
    have l1 := hlen k (by omega)
    have l2 := hlen w hw
    refine br_f (nI_ge (by omega) (by omega)) (sp8_lengthAt hs ho (by omega) hf ?_)
    refine pk_eq (len A.2.1 (A.1 0) (A.1 1 + A.1 4) (A.1 5) k) (len A.2.1 (A.1 0) (A.1 1 + A.1 4) (A.1 5) w) (fun e => ?_) (fun e => ?_)
    · exact hy (fun q => q k (by omega) e)
    · rw [nI_1]
      refine ih (k + 1) (by omega) (fun x hx => ?_)
      by_cases ex : x = k
      · subst ex; exact e
      · exact hn x (by omega)
theorem sp9_isHeardAbove {x s : Ob} {A : AS} {w : Nat} {post : Int32 → Prop} (hs : StS s A) (ho : Own A) (hw : w < A.1 0) (hp : post (b2 (¬ newAt (len A.2.1 (A.1 0) (A.1 1 + A.1 4) (A.1 5)) w))) : wpX9_isHeardAbove x s (nI w) post := by
  obtain ⟨a1, a2⟩ := id ho.1
  have hf : A.1 5 < 2 ^ 31 := by have := set_lt a2 ho.2.2.2.2.2.1.1; omega
  unfold wpX9_isHeardAbove
  rw [hs.1 5 (by omega)]
  refine sp8_lengthAt hs ho hw hf ⟨w + 1, ?_⟩
  refine lp9_18 hs ho hw (fun h => ?_) (fun h => ?_) w 0 (by omega) (fun x hx => absurd hx (Nat.not_lt_zero _))
  · rw [b2_f (fun q => q h)] at hp; exact hp
  · rw [b2_t h] at hp; exact hp
theorem lp9_d4 {x s : Ob} {A : AS} {K : Int32 → Prop} (hs : StS s A) (ho : Own A) (hK : K (nI (ndif (len A.2.1 (A.1 0) (A.1 1 + A.1 4) (A.1 5)) (A.1 0)))) :
    ∀ d k, k + d = A.1 0 → wpX9_differentLengths_L4 x s K (d + 1) (nI (ndif (len A.2.1 (A.1 0) (A.1 1 + A.1 4) (A.1 5)) k)) (nI k) := by
  obtain ⟨a1, a2⟩ := id ho.1
  intro d
  induction d with
  | zero =>
    intro k hk
    have e : k = A.1 0 := by omega
    subst e
    unfold wpX9_differentLengths_L4
    rw [hs.1 0 (by omega)]
    exact br_t (nI_le (by omega) (by omega)) hK
  | succ d ih =>
    intro k hk
    unfold wpX9_differentLengths_L4
    rw [hs.1 0 (by omega)]
    refine br_f (nI_ge (by omega) (by omega)) (sp9_isHeardAbove hs ho (by omega) ?_)
    unfold jn1
    rw [nI_1, nI_1]
    have := ih (k + 1) (by omega)
    refine b2_br (fun q => ?_) (fun q => ?_)
    · rw [ndif_y (Classical.not_not.mp q)] at this; exact this
    · rw [ndif_n q] at this; exact this
theorem lp9_h6 {s : Ob} {A : AS} {K : Int32 → Prop} (hs : StS s A) (ho : Own A) (hK : K (nI (hmx (len A.2.1 (A.1 0) (A.1 1 + A.1 4) (A.1 5)) (A.1 0)).2)) :
    ∀ d k, k + d = A.1 0 → wpX9_hearersOfLongest_L6 s K (d + 1) (nI (hmx (len A.2.1 (A.1 0) (A.1 1 + A.1 4) (A.1 5)) k).1) (nI (hmx (len A.2.1 (A.1 0) (A.1 1 + A.1 4) (A.1 5)) k).2) (nI k) := by
  obtain ⟨a1, a2⟩ := id ho.1
  have hf : A.1 5 < 2 ^ 31 := by have := set_lt a2 ho.2.2.2.2.2.1.1; omega
  have b1 := ho.2.1
  have d1 := ho.2.2.2.2.1
  have hlen := fun z (hz : z < A.1 0) => len_bd ho.2.2.2.2.2.2.2 (S := A.1 5) a2 (show 1 ≤ A.1 1 + A.1 4 by omega) (by omega) hz
  intro d
  induction d with
  | zero =>
    intro k hk
    have e : k = A.1 0 := by omega
    subst e
    unfold wpX9_hearersOfLongest_L6
    rw [hs.1 0 (by omega)]
    exact br_t (nI_le (by omega) (by omega)) hK
  | succ d ih =>
    intro k hk
    unfold wpX9_hearersOfLongest_L6
    rw [hs.1 0 (by omega), hs.1 5 (by omega)]
    refine br_f (nI_ge (by omega) (by omega)) (sp8_lengthAt hs ho (by omega) hf ?_)
    have l1 := hlen k (by omega)
    have hm : (hmx (len A.2.1 (A.1 0) (A.1 1 + A.1 4) (A.1 5)) k).1 ≤ 108 := by
      have gen : ∀ j, j ≤ A.1 0 → (hmx (len A.2.1 (A.1 0) (A.1 1 + A.1 4) (A.1 5)) j).1 ≤ 108 := by
        intro j
        induction j with
        | zero => intro _; exact Nat.zero_le _
        | succ j ihj =>
          intro hj
          have := ihj (by omega)
          have := hlen j (by omega)
          rw [hmx]
          split
          · exact this.2.1
          · split
            · assumption
            · assumption
      exact gen k (by omega)
    unfold jn1 jn2
    dsimp only
    have ih1 := ih (k + 1) (by omega)
    rw [hmx] at ih1
    have e01 : (0 : Int32) + 1 = nI 1 := rfl
    rw [nI_1 k, nI_1, e01]
    generalize hmx (len A.2.1 (A.1 0) (A.1 1 + A.1 4) (A.1 5)) k = mx at *
    generalize len A.2.1 (A.1 0) (A.1 1 + A.1 4) (A.1 5) k = lk at *
    refine pk_le lk mx.1 (fun hc => ?_) (fun hc => ?_)
    · rw [if_neg (by omega)] at ih1
      refine pk_eq lk mx.1 (fun e => ?_) (fun e => ?_)
      · rw [if_pos e] at ih1; exact ih1
      · rw [if_neg e] at ih1; exact ih1
    · rw [if_pos hc] at ih1
      refine pk_eq lk lk (fun _ => ih1) (fun e => absurd rfl e)
theorem lp10_h53 {y : Ob} {A : AS} {w : Nat} {K : Int32 → Prop} (hy : YS y A) (ho : Own A) (hw : w < A.1 0) :
    ∀ d k (Pp : Prop), k + d = w → K (b2 (Pp ∧ ∀ x, k ≤ x → x < w → len A.2.1 (A.1 0) (A.1 1 + A.1 4) (A.1 5) x ≠ len A.2.1 (A.1 0) (A.1 1 + A.1 4) (A.1 5) w)) → wpX10_heard_L53 (nI w) (nI (len A.2.1 (A.1 0) (A.1 1 + A.1 4) (A.1 5) w)) y K (d + 1) (b2 Pp) (nI k) := by
  obtain ⟨a1, a2⟩ := id ho.1
  have hf : A.1 5 < 2 ^ 31 := by have := set_lt a2 ho.2.2.2.2.2.1.1; omega
  have b1 := ho.2.1
  have d1 := ho.2.2.2.2.1
  have hlen := fun z (hz : z < A.1 0) => len_bd ho.2.2.2.2.2.2.2 (S := A.1 5) a2 (show 1 ≤ A.1 1 + A.1 4 by omega) (by omega) hz
  intro d
  induction d with
  | zero =>
    intro k Pp hk hK
    unfold wpX10_heard_L53
    refine br_t (nI_le (by omega) (by omega)) ?_
    rw [b2_c (q := Pp)] at hK
    · exact hK
    · exact ⟨fun q => q.1, fun q => ⟨q, fun x h1 h2 => absurd h2 (by omega)⟩⟩
  | succ d ih =>
    intro k Pp hk hK
    unfold wpX10_heard_L53
    refine br_f (nI_ge (by omega) (by omega)) ?_
    unfold jn1 jn0
    rw [nI_1]
    have l1 := hlen k (by omega)
    have l2 := hlen w hw
    refine b2_br (fun hp => ?_) (fun hp => ?_)
    · have := ih (k + 1) False (by omega)
      rw [b2_f (p := False) (fun q => q)] at this
      refine this ?_
      rw [b2_f (fun q => q.1)]
      rw [b2_f (fun q => hp q.1)] at hK
      exact hK
    · rw [hy.1.2.2.2.2.2.1]
      refine sp10_len hy ho (by omega) hf hy.1.2.2.2.2.1 ?_
      refine pk_eq (len A.2.1 (A.1 0) (A.1 1 + A.1 4) (A.1 5) k) (len A.2.1 (A.1 0) (A.1 1 + A.1 4) (A.1 5) w) (fun e => ?_) (fun e => ?_)
      · have := ih (k + 1) False (by omega)
        rw [b2_f (p := False) (fun q => q)] at this
        refine this ?_
        rw [b2_f (fun q => q.1)]
        rw [b2_f (fun q => q.2 k (Nat.le_refl _) (by omega) e)] at hK
        exact hK
      · have := ih (k + 1) True (by omega)
        rw [b2_t (p := True) trivial] at this
        refine this ?_
        rw [b2_c (q := Pp ∧ ∀ x, k ≤ x → x < w → len A.2.1 (A.1 0) (A.1 1 + A.1 4) (A.1 5) x ≠ len A.2.1 (A.1 0) (A.1 1 + A.1 4) (A.1 5) w)]
        · exact hK
        · constructor
          · rintro ⟨-, q⟩
            refine ⟨hp, fun x h1 h2 => ?_⟩
            by_cases ex : x = k
            · subst ex; exact e
            · exact q x (by omega) h2
          · rintro ⟨-, q⟩
            exact ⟨trivial, fun x h1 h2 => q x (by omega) h2⟩
theorem lp10_h22 {y : Ob} {A : AS} {K : Int32 → Int32 → Prop} (hy : YS y A) (ho : Own A) (hK : K (nI (ndif (len A.2.1 (A.1 0) (A.1 1 + A.1 4) (A.1 5)) (A.1 0))) (nI (hmx (len A.2.1 (A.1 0) (A.1 1 + A.1 4) (A.1 5)) (A.1 0)).2)) :
    ∀ d k, k + d = A.1 0 → wpX10_heard_L22 y K (d + 1) (nI (ndif (len A.2.1 (A.1 0) (A.1 1 + A.1 4) (A.1 5)) k)) (nI (hmx (len A.2.1 (A.1 0) (A.1 1 + A.1 4) (A.1 5)) k).1) (nI (hmx (len A.2.1 (A.1 0) (A.1 1 + A.1 4) (A.1 5)) k).2) (nI k) := by
  obtain ⟨a1, a2⟩ := id ho.1
  have hf : A.1 5 < 2 ^ 31 := by have := set_lt a2 ho.2.2.2.2.2.1.1; omega
  have b1 := ho.2.1
  have d1 := ho.2.2.2.2.1
  have hlen := fun z (hz : z < A.1 0) => len_bd ho.2.2.2.2.2.2.2 (S := A.1 5) a2 (show 1 ≤ A.1 1 + A.1 4 by omega) (by omega) hz
  intro d
  induction d with
  | zero =>
    intro k hk
    have e : k = A.1 0 := by omega
    subst e
    unfold wpX10_heard_L22
    rw [hy.1.1]
    exact br_t (nI_le (by omega) (by omega)) hK
  | succ d ih =>
    intro k hk
    unfold wpX10_heard_L22
    rw [hy.1.1, hy.1.2.2.2.2.2.1]
    refine br_f (nI_ge (by omega) (by omega)) (sp10_len hy ho (by omega) hf hy.1.2.2.2.2.1 ⟨k + 1, ?_⟩)
    have l1 := hlen k (by omega)
    have hm : (hmx (len A.2.1 (A.1 0) (A.1 1 + A.1 4) (A.1 5)) k).1 ≤ 108 := by
      have gen : ∀ j, j ≤ A.1 0 → (hmx (len A.2.1 (A.1 0) (A.1 1 + A.1 4) (A.1 5)) j).1 ≤ 108 := by
        intro j
        induction j with
        | zero => intro _; exact Nat.zero_le _
        | succ j ihj =>
          intro hj
          have := ihj (by omega)
          have := hlen j (by omega)
          rw [hmx]
          split
          · exact this.2.1
          · split
            · assumption
            · assumption
      exact gen k (by omega)
    have start := lp10_h53 (y := y) (K := fun (v7_97 : Int32) => jn2 (fun (p0_108 : Int32) (p1_108 : Int32) => jn1 (fun (p0_135 : Int32) => jn1 (fun (p0_149 : Int32) => wpX10_heard_L22 y K (d + 1) (p1_108 + p0_108) p0_149 p0_135 (nI k + (1 : Int32))) (fun J149 => ((nI (len A.2.1 (A.1 0) (A.1 1 + A.1 4) (A.1 5) k) ≤ nI (hmx (len A.2.1 (A.1 0) (A.1 1 + A.1 4) (A.1 5)) k).1) → J149 (nI (hmx (len A.2.1 (A.1 0) (A.1 1 + A.1 4) (A.1 5)) k).1)) ∧ (¬ (nI (len A.2.1 (A.1 0) (A.1 1 + A.1 4) (A.1 5) k) ≤ nI (hmx (len A.2.1 (A.1 0) (A.1 1 + A.1 4) (A.1 5)) k).1) → J149 (nI (len A.2.1 (A.1 0) (A.1 1 + A.1 4) (A.1 5) k))))) (fun J135 => ((nI (len A.2.1 (A.1 0) (A.1 1 + A.1 4) (A.1 5) k) ≤ nI (hmx (len A.2.1 (A.1 0) (A.1 1 + A.1 4) (A.1 5)) k).1) → ((nI (len A.2.1 (A.1 0) (A.1 1 + A.1 4) (A.1 5) k) = nI (hmx (len A.2.1 (A.1 0) (A.1 1 + A.1 4) (A.1 5)) k).1) → J135 (nI (hmx (len A.2.1 (A.1 0) (A.1 1 + A.1 4) (A.1 5)) k).2 + (1 : Int32))) ∧ (¬ (nI (len A.2.1 (A.1 0) (A.1 1 + A.1 4) (A.1 5) k) = nI (hmx (len A.2.1 (A.1 0) (A.1 1 + A.1 4) (A.1 5)) k).1) → J135 (nI (hmx (len A.2.1 (A.1 0) (A.1 1 + A.1 4) (A.1 5)) k).2))) ∧ (¬ (nI (len A.2.1 (A.1 0) (A.1 1 + A.1 4) (A.1 5) k) ≤ nI (hmx (len A.2.1 (A.1 0) (A.1 1 + A.1 4) (A.1 5)) k).1) → J135 (1 : Int32)))) (fun J108 => ((v7_97 = 0) → J108 (0 : Int32) (nI (ndif (len A.2.1 (A.1 0) (A.1 1 + A.1 4) (A.1 5)) k))) ∧ (¬ (v7_97 = 0) → J108 (1 : Int32) (nI (ndif (len A.2.1 (A.1 0) (A.1 1 + A.1 4) (A.1 5)) k))))) hy ho (show k < A.1 0 by omega) k 0 True (by omega) ?_
    · rw [b2_t (p := True) trivial] at start; exact start
    · unfold jn2 jn1
      dsimp only
      have ih1 := ih (k + 1) (by omega)
      rw [nI_1 k]
      have tail : ∀ x : Int32, nI (ndif (len A.2.1 (A.1 0) (A.1 1 + A.1 4) (A.1 5)) k) + x = nI (ndif (len A.2.1 (A.1 0) (A.1 1 + A.1 4) (A.1 5)) (k + 1)) → ((nI (len A.2.1 (A.1 0) (A.1 1 + A.1 4) (A.1 5) k) ≤ nI (hmx (len A.2.1 (A.1 0) (A.1 1 + A.1 4) (A.1 5)) k).1) → ((nI (len A.2.1 (A.1 0) (A.1 1 + A.1 4) (A.1 5) k) = nI (hmx (len A.2.1 (A.1 0) (A.1 1 + A.1 4) (A.1 5)) k).1) → ((nI (len A.2.1 (A.1 0) (A.1 1 + A.1 4) (A.1 5) k) ≤ nI (hmx (len A.2.1 (A.1 0) (A.1 1 + A.1 4) (A.1 5)) k).1) → wpX10_heard_L22 y K (d + 1) (nI (ndif (len A.2.1 (A.1 0) (A.1 1 + A.1 4) (A.1 5)) k) + x) (nI (hmx (len A.2.1 (A.1 0) (A.1 1 + A.1 4) (A.1 5)) k).1) (nI (hmx (len A.2.1 (A.1 0) (A.1 1 + A.1 4) (A.1 5)) k).2 + (1 : Int32)) (nI (k + 1))) ∧ (¬ (nI (len A.2.1 (A.1 0) (A.1 1 + A.1 4) (A.1 5) k) ≤ nI (hmx (len A.2.1 (A.1 0) (A.1 1 + A.1 4) (A.1 5)) k).1) → wpX10_heard_L22 y K (d + 1) (nI (ndif (len A.2.1 (A.1 0) (A.1 1 + A.1 4) (A.1 5)) k) + x) (nI (len A.2.1 (A.1 0) (A.1 1 + A.1 4) (A.1 5) k)) (nI (hmx (len A.2.1 (A.1 0) (A.1 1 + A.1 4) (A.1 5)) k).2 + (1 : Int32)) (nI (k + 1)))) ∧ (¬ (nI (len A.2.1 (A.1 0) (A.1 1 + A.1 4) (A.1 5) k) = nI (hmx (len A.2.1 (A.1 0) (A.1 1 + A.1 4) (A.1 5)) k).1) → ((nI (len A.2.1 (A.1 0) (A.1 1 + A.1 4) (A.1 5) k) ≤ nI (hmx (len A.2.1 (A.1 0) (A.1 1 + A.1 4) (A.1 5)) k).1) → wpX10_heard_L22 y K (d + 1) (nI (ndif (len A.2.1 (A.1 0) (A.1 1 + A.1 4) (A.1 5)) k) + x) (nI (hmx (len A.2.1 (A.1 0) (A.1 1 + A.1 4) (A.1 5)) k).1) (nI (hmx (len A.2.1 (A.1 0) (A.1 1 + A.1 4) (A.1 5)) k).2) (nI (k + 1))) ∧ (¬ (nI (len A.2.1 (A.1 0) (A.1 1 + A.1 4) (A.1 5) k) ≤ nI (hmx (len A.2.1 (A.1 0) (A.1 1 + A.1 4) (A.1 5)) k).1) → wpX10_heard_L22 y K (d + 1) (nI (ndif (len A.2.1 (A.1 0) (A.1 1 + A.1 4) (A.1 5)) k) + x) (nI (len A.2.1 (A.1 0) (A.1 1 + A.1 4) (A.1 5) k)) (nI (hmx (len A.2.1 (A.1 0) (A.1 1 + A.1 4) (A.1 5)) k).2) (nI (k + 1))))) ∧ (¬ (nI (len A.2.1 (A.1 0) (A.1 1 + A.1 4) (A.1 5) k) ≤ nI (hmx (len A.2.1 (A.1 0) (A.1 1 + A.1 4) (A.1 5)) k).1) → ((nI (len A.2.1 (A.1 0) (A.1 1 + A.1 4) (A.1 5) k) ≤ nI (hmx (len A.2.1 (A.1 0) (A.1 1 + A.1 4) (A.1 5)) k).1) → wpX10_heard_L22 y K (d + 1) (nI (ndif (len A.2.1 (A.1 0) (A.1 1 + A.1 4) (A.1 5)) k) + x) (nI (hmx (len A.2.1 (A.1 0) (A.1 1 + A.1 4) (A.1 5)) k).1) (1 : Int32) (nI (k + 1))) ∧ (¬ (nI (len A.2.1 (A.1 0) (A.1 1 + A.1 4) (A.1 5) k) ≤ nI (hmx (len A.2.1 (A.1 0) (A.1 1 + A.1 4) (A.1 5)) k).1) → wpX10_heard_L22 y K (d + 1) (nI (ndif (len A.2.1 (A.1 0) (A.1 1 + A.1 4) (A.1 5)) k) + x) (nI (len A.2.1 (A.1 0) (A.1 1 + A.1 4) (A.1 5) k)) (1 : Int32) (nI (k + 1)))) := by
        intro x hx
        rw [hx, nI_1]
        generalize nI (ndif (len A.2.1 (A.1 0) (A.1 1 + A.1 4) (A.1 5)) (k + 1)) = nn at *
        rw [hmx] at ih1
        generalize hmx (len A.2.1 (A.1 0) (A.1 1 + A.1 4) (A.1 5)) k = mx at *
        generalize len A.2.1 (A.1 0) (A.1 1 + A.1 4) (A.1 5) k = lk at *
        refine pk_le lk mx.1 (fun hc => ?_) (fun hc => ?_)
        · rw [if_neg (by omega)] at ih1
          refine pk_eq lk mx.1 (fun e => ?_) (fun e => ?_)
          · rw [if_pos e] at ih1
            exact pk_le lk mx.1 (fun _ => ih1) (fun q => absurd hc (by omega))
          · rw [if_neg e] at ih1
            exact pk_le lk mx.1 (fun _ => ih1) (fun q => absurd hc (by omega))
        · rw [if_pos hc] at ih1
          exact pk_le lk mx.1 (fun q => absurd q (by omega)) (fun _ => ih1)
      refine b2_br (fun q => tail 0 ?_) (fun q => tail 1 ?_)
      · have hn : ¬ newAt (len A.2.1 (A.1 0) (A.1 1 + A.1 4) (A.1 5)) k := fun z => q ⟨trivial, fun x _ h2 => z x h2⟩
        rw [ndif_n hn, Int32.add_zero]
      · have hn : newAt (len A.2.1 (A.1 0) (A.1 1 + A.1 4) (A.1 5)) k := fun x hx => q.2 x (Nat.zero_le _) hx
        rw [ndif_y hn, nI_1]
theorem st_heard {oX oS oY : Ob} {A : AS} (h : Good oS oY A) (v1 : Int32) {K : Int32 → Int32 → Prop} (hK : ∀ r, K r r) : wpX9_heard oX oS v1 (fun r => wpX10_heard oY v1 (fun r2 => K r r2)) := by
  obtain ⟨hs, hy, ho, -⟩ := h
  unfold wpX9_heard
  refine sp9_out (b2_br (fun hin => ?_) (fun hout => ?_))
  · obtain ⟨n, n1, n2, rfl⟩ := in_rng (a := 0) (b := 1) (x := v1) (by omega) (fun q => hin (Or.inl q)) (fun q => hin (Or.inr q)) (by omega)
    have mod : ∀ post : Int32 → Prop, ((nI n = 0) → post (nI (ndif (len A.2.1 (A.1 0) (A.1 1 + A.1 4) (A.1 5)) (A.1 0)))) → (¬ (nI n = 0) → post (nI (hmx (len A.2.1 (A.1 0) (A.1 1 + A.1 4) (A.1 5)) (A.1 0)).2)) → wpX10_heard oY (nI n) post := by
      intro post p0 p1
      unfold wpX10_heard
      exact sp10_in (b2_br (fun q => absurd hin q) (fun _ => ⟨_, lp10_h22 (K := fun v2 v4 => ((nI n = 0) → post v2) ∧ (¬ (nI n = 0) → post v4)) hy ho ⟨p0, p1⟩ (A.1 0) 0 (by omega)⟩))
    refine br_c (fun e => ?_) (fun e => ?_)
    · exact ⟨_, lp9_d4 (K := fun v => wpX10_heard oY (nI n) (fun r2 => K v r2)) hs ho (mod _ (fun _ => hK _) (fun q => absurd e q)) (A.1 0) 0 (by omega)⟩
    · exact ⟨_, lp9_h6 (K := fun v => wpX10_heard oY (nI n) (fun r2 => K v r2)) hs ho (mod _ (fun q => absurd q e) (fun _ => hK _)) (A.1 0) 0 (by omega)⟩
  · unfold wpX10_heard
    exact sp10_in (b2_br (fun _ => hK _) (fun q => absurd hout q))
