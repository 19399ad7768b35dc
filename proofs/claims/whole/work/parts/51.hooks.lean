/-! hooks: the best by count, then by number; differences of few marks are few -/
theorem best_min {m : Nat} {Q : Nat → Prop} : ∀ {k s : Nat}, best m Q k = some s → ∀ w, w < k → popc w ≤ m → Q w → popc s < popc w ∨ (popc s = popc w ∧ s ≤ w)
  | 0, s, h, w, hw, _, _ => absurd hw (Nat.not_lt_zero _)
  | k + 1, s, h, w, hw, hm, hq => by
    by_cases c : popc k ≤ m ∧ (∀ s, best m Q k = some s → popc k < popc s) ∧ Q k
    · rw [best_y c] at h
      have e0 : k = s := Option.some.inj h
      rw [← e0]
      by_cases e : w = k
      · rw [e]; exact Or.inr ⟨rfl, Nat.le_refl _⟩
      · cases hb : best m Q k with
        | none => exact absurd hq (best_none.mp hb w (by omega) hm)
        | some z =>
          have h1 := c.2.1 z hb
          rcases best_min hb w (by omega) hm hq with h2 | h2
          · exact Or.inl (by omega)
          · exact Or.inl (by omega)
    · rw [best_n c] at h
      by_cases e : w = k
      · rw [e] at hm hq ⊢
        have h1 := best_some h
        have : ¬ popc k < popc s := fun q => c ⟨hm, fun z hz => by rw [h] at hz; rw [← Option.some.inj hz]; exact q, hq⟩
        by_cases e2 : popc s = popc k
        · exact Or.inr ⟨e2, by omega⟩
        · exact Or.inl (by omega)
      · exact best_min h w (by omega) hm hq
theorem best_is {m : Nat} {Q : Nat → Prop} {k s : Nat} (h1 : s < k) (h2 : popc s ≤ m) (h3 : Q s) (h4 : ∀ w, w < k → popc w ≤ m → Q w → popc s < popc w ∨ (popc s = popc w ∧ s ≤ w)) : best m Q k = some s := by
  cases hb : best m Q k with
  | none => exact absurd h3 (best_none.mp hb s h1 h2)
  | some z =>
    have hz := best_some hb
    have a := best_min hb s h1 h2 h3
    have b := h4 z hz.1 hz.2.1 hz.2.2
    have : z = s := by omega
    rw [this]
def mks (f u : Nat) : Nat := (2 * u ||| 1) ||| 2 ^ f
theorem half_pow {f : Nat} (h : 2 ≤ f) : 2 ^ f = 2 * 2 ^ (f - 1) := by
  obtain ⟨g, rfl⟩ : ∃ g, f = g + 1 := ⟨f - 1, by omega⟩
  rw [Nat.add_sub_cancel, Nat.pow_succ, Nat.mul_comm]
theorem hk_lt {f u : Nat} (h2 : 2 ≤ f) (hu : u < 2 ^ (f - 1)) : mks f u < 2 ^ (f + 1) := by
  have e := half_pow h2
  have e2 : 2 ^ (f + 1) = 2 * 2 ^ f := by rw [Nat.pow_succ, Nat.mul_comm]
  have e3 : 0 < 2 ^ (f - 1) := Nat.two_pow_pos _
  unfold mks
  exact Nat.or_lt_two_pow (Nat.or_lt_two_pow (by omega) (by omega)) (by omega)
theorem or_xor {X w : Nat} (h : X.testBit w = false) : X ||| 2 ^ w = X ^^^ 2 ^ w := by
  apply Nat.eq_of_testBit_eq
  intro i
  rw [Nat.testBit_or, Nat.testBit_xor, Nat.testBit_two_pow]
  by_cases e : w = i
  · rw [← e, h, Bool.false_or, Bool.false_xor]
  · rw [decide_eq_false e, Bool.or_false, Bool.xor_false]
theorem popc_dbl {u : Nat} (hu : u < 2 ^ 16) : popc (2 * u) = popc u := by
  have := pc_shift u 0 (by decide) 16
  rw [Nat.add_zero, Nat.add_zero] at this
  rw [popc_at hu (by decide)]
  exact this
theorem hk_pop {f u : Nat} (h2 : 2 ≤ f) (hf : f ≤ 16) (hu : u < 2 ^ (f - 1)) : popc (mks f u) = popc u + 2 := by
  have e := half_pow h2
  have e3 : 0 < 2 ^ (f - 1) := Nat.two_pow_pos _
  have e4 : 2 ^ (f - 1) ≤ 2 ^ 15 := Nat.pow_le_pow_right (by decide) (by omega)
  have b0 : (2 * u).testBit 0 = false := by rw [Nat.testBit_zero]; exact decide_eq_false (by omega)
  have b1 : ((2 * u) ||| 2 ^ 0).testBit f = false := Nat.testBit_lt_two_pow (Nat.or_lt_two_pow (by omega) (by rw [Nat.pow_zero]; omega))
  have e5 : mks f u = ((2 * u) ||| 2 ^ 0) ||| 2 ^ f := rfl
  rw [e5, or_xor b1, popc_set (by omega) b1, or_xor b0, popc_set (by omega) b0, popc_dbl (by omega)]
def bl (X : Nat) : Nat → List Nat
  | 0 => []
  | n + 1 => cond (X.testBit n) (n :: bl X n) (bl X n)
theorem bl_len (X : Nat) : ∀ n, (bl X n).length = pc10 X n
  | 0 => rfl
  | n + 1 => by
    simp only [bl, pc10]
    cases X.testBit n with
    | true => rw [if_pos rfl]; show (bl X n).length + 1 = _; rw [bl_len X n]
    | false => rw [if_neg (by decide)]; exact bl_len X n
theorem bl_mem {X i : Nat} : ∀ n, i < n → X.testBit i = true → i ∈ bl X n
  | 0, h, _ => absurd h (Nat.not_lt_zero _)
  | n + 1, h, hb => by
    simp only [bl]
    by_cases e : i = n
    · rw [← e, hb]; exact List.mem_cons_self
    · have := bl_mem n (by omega) hb
      cases X.testBit n with
      | true => exact List.mem_cons_of_mem _ this
      | false => exact this
def prs : List Nat → List Nat
  | [] => []
  | x :: l => l.map (fun i => x - i) ++ prs l
theorem prs_len : ∀ l : List Nat, 2 * (prs l).length + l.length = l.length * l.length
  | [] => rfl
  | x :: l => by
    have := prs_len l
    simp only [prs, List.length_append, List.length_map, List.length_cons]
    rw [show (l.length + 1) * (l.length + 1) = l.length * l.length + l.length + (l.length + 1) by rw [Nat.succ_mul, Nat.mul_succ]]
    omega
theorem prs_mem {X : Nat} : ∀ n i j, i < j → j < n → X.testBit i = true → X.testBit j = true → j - i ∈ prs (bl X n)
  | 0, i, j, _, h, _, _ => absurd h (Nat.not_lt_zero _)
  | n + 1, i, j, h1, h2, h3, h4 => by
    simp only [bl]
    by_cases e : j = n
    · rw [← e, h4]
      exact List.mem_append_left _ (List.mem_map.mpr ⟨i, bl_mem j h1 h3, rfl⟩)
    · have := prs_mem n i j h1 (by omega) h3 h4
      cases X.testBit n with
      | true => exact List.mem_append_right _ this
      | false => exact this
theorem pc_list {L : Nat} : ∀ n (D : List Nat), (∀ d, d < n → L.testBit d = true → d ∈ D) → pc10 L n ≤ D.length
  | 0, D, _ => Nat.zero_le _
  | n + 1, D, h => by
    simp only [pc10]
    cases hb : L.testBit n with
    | false =>
      rw [if_neg (by decide)]
      exact pc_list n D (fun d hd => h d (by omega))
    | true =>
      rw [if_pos rfl]
      have hm := h n (by omega) hb
      have h1 := List.length_erase_of_mem hm
      have h2 : 0 < D.length := List.length_pos_of_mem hm
      have := pc_list n (D.erase n) (fun d hd hbd => (List.mem_erase_of_ne (by omega)).mpr (h d (by omega) hbd))
      omega
def hQ (f L u : Nat) : Prop := ∀ d, L.testBit d = true → 1 ≤ d ∧ df (mks f u) d
theorem few_had {f L u : Nat} (h2 : 2 ≤ f) (hf : f ≤ 16) (hu : u < 2 ^ (f - 1)) (hq : hQ f L u) : 2 * popc L ≤ (popc u + 2) * (popc u + 1) := by
  have hl := bl_len (mks f u) 17
  have hp : pc10 (mks f u) 17 = popc u + 2 := hk_pop h2 hf hu
  have hm : mks f u < 2 ^ 17 := Nat.lt_of_lt_of_le (hk_lt h2 hu) (Nat.pow_le_pow_right (by decide) (by omega))
  have h3 := prs_len (bl (mks f u) 17)
  rw [hl, hp] at h3
  have h4 : pc10 L 17 ≤ (prs (bl (mks f u) 17)).length := by
    refine pc_list 17 _ (fun d hd hb => ?_)
    obtain ⟨d1, i, hi, hj⟩ := hq d hb
    have hj17 : i + d < 17 := by
      apply Classical.byContradiction
      intro q
      rw [bit_over hm (by omega)] at hj
      exact Bool.noConfusion hj
    have := prs_mem 17 i (i + d) (by omega) hj17 hi hj
    rw [Nat.add_sub_cancel_left] at this
    exact this
  have h5 : (popc u + 2) * (popc u + 2) = (popc u + 2) * (popc u + 1) + (popc u + 2) := by
    rw [show popc u + 2 = (popc u + 1) + 1 from rfl, Nat.mul_succ (popc u + 1 + 1) (popc u + 1)]
  show 2 * pc10 L 17 ≤ _
  omega
theorem no_long {f L u : Nat} (h2 : 2 ≤ f) (hu : u < 2 ^ (f - 1)) (hL : ¬ L < 2 ^ (f + 1)) : ¬ hQ f L u := by
  intro hq
  refine hL (Nat.lt_pow_two_of_testBit _ (fun d hd => ?_))
  cases hb : L.testBit d with
  | false => rfl
  | true =>
    obtain ⟨d1, i, hi, hj⟩ := hq d hb
    rw [bit_over (hk_lt h2 hu) (by omega)] at hj
    exact Bool.noConfusion hj
theorem hQ_iff {f L u : Nat} (hL : L < 2 ^ (f + 1)) (h0 : L.testBit 0 = false) : (∀ d, 1 ≤ d → d ≤ f → L.testBit d = true → df (mks f u) d) ↔ hQ f L u := by
  constructor
  · intro h d hb
    have d1 : 1 ≤ d := by
      apply Classical.byContradiction
      intro q
      have : d = 0 := by omega
      rw [this, h0] at hb
      exact Bool.noConfusion hb
    refine ⟨d1, h d d1 ?_ hb⟩
    apply Classical.byContradiction
    intro q
    rw [bit_over hL (by omega)] at hb
    exact Bool.noConfusion hb
  · exact fun h d _ _ hb => (h d hb).2
theorem hk_I {f u : Nat} (hf : f ≤ 16) (hu : u < 2 ^ 17) : ((nI (2 * u) ||| (1 : Int32)) ||| (jshl (1 : Int32) (nI f))) = nI (mks f u) := by
  rw [jshl_1 (by omega), show (1 : Int32) = nI 1 from rfl, nI_or, nI_or]
  rfl
theorem shl1_I {u : Nat} (hu : u < 2 ^ 17) : jshl (nI u) (1 : Int32) = nI (2 * u) := by
  have := jshl_n (a := u) (j := 1) (by decide) (by omega)
  rw [Nat.pow_one, Nat.mul_comm] at this
  exact this
theorem lp6_16 {f L k : Nat} {Q : Nat → Prop} {post : Int32 → Prop} {K : Prop} (h2 : 2 ≤ f) (hf : f ≤ 16) (hL : L < 2 ^ 31) (hE : ∀ u, (∀ d, 1 ≤ d → d ≤ f → L.testBit d = true → df (mks f u) d) ↔ Q u)
    (hy : ∀ u, u < 2 ^ (f - 1) → popc u = k → Q u → (∀ w, w < u → popc w = k → ¬ Q w) → post (nI (2 * u)))
    (hn : (∀ u, u < 2 ^ (f - 1) → popc u = k → ¬ Q u) → post (-6) ∧ K) :
    ∀ d v t, 2 ^ (f - 1) ≤ v + d → t ≤ v → v < 2 ^ 17 → popc v = k → (∀ w, w < v → popc w = k → ¬ Q w) → wpX6_leastPlaces_L16 (nI f) (nI L) (nI (2 ^ (f - 1))) post K (d + 1) (nI v) (nI t) := by
  have hp15 : 2 ^ (f - 1) ≤ 2 ^ 15 := Nat.pow_le_pow_right (by decide) (by omega)
  intro d
  induction d with
  | zero =>
    intro v t hd ht hv hk hall
    unfold wpX6_leastPlaces_L16
    have hno := hn (fun u hu hp => hall u (by omega) hp)
    exact br_c (fun _ => hno.2) (fun _ => br_t (nI_le (by omega) (by omega)) hno.2)
  | succ d ih =>
    intro v t hd ht hv hk hall
    unfold wpX6_leastPlaces_L16
    rw [nI_1, shl1_I hv, hk_I hf hv]
    refine pk_le 65536 t (fun q => (hn (fun u hu hp => hall u (by omega) hp)).2) (fun _ => pk_le (2 ^ (f - 1)) v (fun q => (hn (fun u hu hp => hall u (by omega) hp)).2) (fun q => ?_))
    have hm : mks f v < 2 ^ 17 := Nat.lt_of_lt_of_le (hk_lt h2 q) (Nat.pow_le_pow_right (by decide) (by omega))
    refine sp6_hasAll (by omega) hL hf ?_
    rw [b2_c (hE v)]
    refine b2_br (fun hq => pk_eq v 0 (fun e => (hn (fun u hu hp => ?_)).1) (fun e => sp6_next (by omega) (by omega) (fun w w1 w2 w3 w4 => ih w (t + 1) (by omega) (by omega) w2 (by omega) (fun x hx hp => ?_)))) (fun hq => hy v q hk hq hall)
    · have hv0 : popc u = 0 := by rw [hp, ← hk, e]; exact popc_0
      have : u = 0 := pc_zero (m := 17) (by omega) hv0
      rw [this, ← e]; exact hq
    · by_cases c1 : x < v
      · exact hall x c1 hp
      · by_cases c2 : x = v
        · rw [c2]; exact hq
        · exact absurd (hp.trans hk.symm) (w4 x (by omega) hx)
theorem sp6_least {f L k : Nat} {Q : Nat → Prop} {post : Int32 → Prop} (h2 : 2 ≤ f) (hf : f ≤ 16) (hL : L < 2 ^ 31) (hk6 : k ≤ 6) (hE : ∀ u, (∀ d, 1 ≤ d → d ≤ f → L.testBit d = true → df (mks f u) d) ↔ Q u)
    (hy : ∀ u, u < 2 ^ (f - 1) → popc u = k → Q u → (∀ w, w < u → popc w = k → ¬ Q w) → post (nI (2 * u)))
    (hn : (∀ u, u < 2 ^ (f - 1) → popc u = k → ¬ Q u) → post (-6)) : wpX6_leastPlaces (nI f) (nI L) (nI k) post := by
  have hk2 : 2 ^ k ≤ 2 ^ 6 := Nat.pow_le_pow_right (by decide) hk6
  have hk0 : 0 < 2 ^ k := Nat.two_pow_pos _
  refine ⟨2 ^ (f - 1) + 1, ?_⟩
  rw [nI_sub1 (show 0 < f by omega), jshl_1 (by omega), jshl_1 (by omega), nI_sub1 hk0]
  refine lp6_16 h2 hf hL hE hy (fun h => ⟨hn h, hn h⟩) (2 ^ (f - 1)) (2 ^ k - 1) 0 (by omega) (by omega) (by omega) ?_ (fun w hw hp => ?_)
  · rw [popc_at (n := k) (by omega) (by omega), pc_full]
  · rw [popc_at (n := k) (by omega) (by omega)] at hp
    have := pc_max (by omega) hp
    omega
theorem tri7 : ∀ k, k < 7 → ((nI k + (2 : Int32)) * (nI k + (1 : Int32))) / (2 : Int32) = nI ((k + 2) * (k + 1) / 2) := by decide +kernel
theorem tri_le {k : Nat} (h : k ≤ 6) : (k + 2) * (k + 1) ≤ 56 := Nat.mul_le_mul (show k + 2 ≤ 8 by omega) (show k + 1 ≤ 7 by omega)
def dbl (o : Option Nat) : Option Nat := match o with
  | none => none
  | some s => some (2 * s)
theorem lp6_13 {f L : Nat} {Q : Nat → Prop} {post : Int32 → Prop} (h2 : 2 ≤ f) (hf : f ≤ 16) (hL : L < 2 ^ 17) (hE : ∀ u, (∀ d, 1 ≤ d → d ≤ f → L.testBit d = true → df (mks f u) d) ↔ Q u) (hfew : ∀ u, u < 2 ^ (f - 1) → Q u → 2 * popc L ≤ (popc u + 2) * (popc u + 1)) (hp : post (o2i (dbl (best 6 Q (2 ^ (f - 1)))))) :
    ∀ d k, k + d = 7 → (∀ u, u < 2 ^ (f - 1) → popc u < k → ¬ Q u) → wpX6_fewestHooks_L13 (nI f) (nI L) post (post (-6)) (d + 1) (nI k) := by
  have hp15 : 2 ^ (f - 1) ≤ 2 ^ 15 := Nat.pow_le_pow_right (by decide) (by omega)
  have hnone : (∀ u, u < 2 ^ (f - 1) → popc u ≤ 6 → ¬ Q u) → post (-6) := fun h => by
    rw [best_none.mpr h] at hp; exact hp
  intro d
  induction d with
  | zero =>
    intro k hk hall
    have e : k = 7 := by omega
    subst e
    unfold wpX6_fewestHooks_L13
    exact br_t (nI_lt (a := 6) (b := 7) (by omega) (by omega)) (hnone (fun u hu hpu => hall u hu (by omega)))
  | succ d ih =>
    intro k hk hall
    unfold wpX6_fewestHooks_L13
    rw [tri7 k (by omega), nI_1]
    refine br_f (nI_nlt (b := k) (a := 6) (by omega) (by omega)) (pk_le f k (fun q => hnone (fun u hu hpu => hall u hu ?_)) (fun q => sp_bitCount17 hL ?_))
    · have := popc_at hu (by omega)
      have := pc10_le u (f - 1)
      omega
    · unfold jn0
      have ht := tri_le (k := k) (by omega)
      have hpl := popc_le L
      refine pk_lt ((k + 2) * (k + 1) / 2) (popc L) (fun c => ih (k + 1) (by omega) (fun u hu hpu => ?_)) (fun c => ?_)
      · by_cases e : popc u = k
        · intro hq
          have := hfew u hu hq
          rw [e] at this
          omega
        · exact hall u hu (by omega)
      · refine sp6_least h2 hf (by omega) (by omega) hE (fun u hu hpu hq hmin => br_f (nI_ne6 (by omega)) ?_) (fun hno => br_t rfl (ih (k + 1) (by omega) (fun u hu hpu => ?_)))
        · have : best 6 Q (2 ^ (f - 1)) = some u := by
            refine best_is hu (by omega) hq (fun w hw hpw hqw => ?_)
            by_cases c1 : popc w < k
            · exact absurd hqw (hall w hw c1)
            · by_cases c2 : popc w = k
              · refine Or.inr ⟨by omega, ?_⟩
                apply Classical.byContradiction
                intro c3
                exact hmin w (by omega) c2 hqw
              · exact Or.inl (by omega)
          rw [this] at hp
          exact hp
        · by_cases e : popc u = k
          · exact hno u hu e
          · exact hall u hu (by omega)
theorem sp6_fewest {f L : Nat} {post : Int32 → Prop} (h2 : 2 ≤ f) (hf : f ≤ 16) (hL : L < 2 ^ 17) (h0 : L.testBit 0 = false) (hp : post (o2i (dbl (best 6 (hQ f L) (2 ^ (f - 1)))))) : wpX6_fewestHooks (nI f) (nI L) post := by
  unfold wpX6_fewestHooks
  rw [nI_1, jush_n (by omega) (by omega)]
  have hd : L / 2 ^ (f + 1) ≤ L := Nat.div_le_self _ _
  have hpos : 0 < 2 ^ (f + 1) := Nat.two_pow_pos _
  refine pk_eq (L / 2 ^ (f + 1)) 0 (fun e => ?_) (fun e => ?_)
  · have hl : L < 2 ^ (f + 1) := by
      rcases Nat.div_eq_zero_iff.mp e with h | h
      · omega
      · exact h
    exact ⟨8, lp6_13 h2 hf hL (fun u => hQ_iff hl h0) (fun u hu hq => few_had h2 hf hu hq) hp 7 0 (by omega) (fun u _ h => absurd h (Nat.not_lt_zero _))⟩
  · have hl : ¬ L < 2 ^ (f + 1) := fun q => e (Nat.div_eq_of_lt q)
    rw [best_none.mpr (fun u hu _ => no_long h2 hu hl)] at hp
    exact hp
