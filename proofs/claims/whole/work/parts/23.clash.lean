/-! common divisors -/
theorem jmax_n {a b : Nat} (ha : a < 2 ^ 31) (hb : b < 2 ^ 31) : jmax (nI a) (nI b) = nI (max a b) := by
  unfold jmax
  by_cases h : a < b
  · rw [if_pos (nI_lt h hb)]; congr 1; omega
  · rw [if_neg (nI_nlt (by omega) ha)]; congr 1; omega
theorem jmin_n {a b : Nat} (ha : a < 2 ^ 31) (hb : b < 2 ^ 31) : jmin (nI a) (nI b) = nI (min a b) := by
  unfold jmin
  by_cases h : b < a
  · rw [if_pos (nI_lt h ha)]; congr 1; omega
  · rw [if_neg (nI_nlt (by omega) hb)]; congr 1; omega
theorem cmp_lt {a b : Nat} (ha : a < 2 ^ 63) (hb : b < 2 ^ 63) (h : a < b) : lg_cmp (lN a) (lN b) = -1 := by
  unfold lg_cmp
  have h1 : ¬ lN b < lN a := fun q => by rw [pk_lLT hb ha] at q; omega
  have h2 : ¬ lN a = lN b := fun q => by rw [pk_lEQ ha hb] at q; omega
  rw [if_neg h1, if_neg h2]
theorem cmp_eq (a : Nat) : lg_cmp (lN a) (lN a) = 0 := by
  unfold lg_cmp
  have h1 : ¬ lN a < lN a := Int64.lt_irrefl
  rw [if_neg h1, if_pos rfl]
theorem cmp_gt {a b : Nat} (ha : a < 2 ^ 63) (hb : b < 2 ^ 63) (h : b < a) : lg_cmp (lN a) (lN b) = 1 := by
  unfold lg_cmp
  rw [if_pos ((pk_lLT hb ha).mpr h)]
theorem mod_half {a b : Nat} (hb : 0 < b) (h : 0 < a % b) : 2 * (b % (a % b)) < b := by
  have h1 := Nat.mod_lt a hb
  generalize a % b = c at h h1
  by_cases hc : 2 * c ≤ b
  · have := Nat.mod_lt b h; omega
  · have : b % c = b - c := by
      rw [Nat.mod_eq_sub_mod (by omega), Nat.mod_eq_of_lt (by omega)]
    omega
theorem gcd_step (a b : Nat) : Nat.gcd b (a % b) = Nat.gcd a b := by
  rw [Nat.gcd_comm b, ← Nat.gcd_rec, Nat.gcd_comm]
theorem lp9_gcd {K : Int64 → Prop} : ∀ (k a b t : Nat), a < 2 ^ 63 → b < 2 ^ 63 → b < 2 ^ k → t + 2 * k < 200 → K (lN (Nat.gcd a b)) → wpX9_commonDivisor_L9 K (2 * k + 2) (lN a) (lN b) (nI t)
  | 0, a, b, t, ha, hb, h, ht, hk => by
    have e : b = 0 := by omega
    subst e
    rw [Nat.gcd_zero_right] at hk
    unfold wpX9_commonDivisor_L9
    exact br_f (nI_ge (b := 200) (by omega) (by omega)) (br_t (cmp_eq 0) hk)
  | k + 1, a, b, t, ha, hb, h, ht, hk => by
    by_cases e : b = 0
    · subst e
      rw [Nat.gcd_zero_right] at hk
      unfold wpX9_commonDivisor_L9
      exact br_f (nI_ge (b := 200) (by omega) (by omega)) (br_t (cmp_eq 0) hk)
    · have hne : ¬ lN b = 0 := fun q => by
        have := (pk_lEQ (b := 0) hb (by omega)).mp q
        omega
      have hc : ¬ lg_cmp (lN b) (0 : Int64) = 0 := by
        have : lg_cmp (lN b) (lN 0) = 1 := cmp_gt hb (by omega) (by omega)
        show ¬ lg_cmp (lN b) (lN 0) = 0
        rw [this]; decide
      have hm := Nat.mod_lt a (show 0 < b by omega)
      rw [show 2 * (k + 1) + 2 = (2 * k + 2 + 1) + 1 by omega]
      unfold wpX9_commonDivisor_L9
      refine br_f (nI_ge (b := 200) (by omega) (by omega)) (br_f hc ⟨hne, ?_⟩)
      unfold jremL
      rw [pk_lRem ha (by omega) hb, nI_1]
      rw [← gcd_step] at hk
      unfold wpX9_commonDivisor_L9
      refine br_f (nI_ge (b := 200) (by omega) (by omega)) ?_
      by_cases e2 : a % b = 0
      · rw [e2] at hk ⊢
        rw [Nat.gcd_zero_right] at hk
        exact br_t (cmp_eq 0) hk
      · have hne2 : ¬ lN (a % b) = 0 := fun q => by
          have := (pk_lEQ (b := 0) (by omega) (by omega)).mp q
          omega
        have hc2 : ¬ lg_cmp (lN (a % b)) (0 : Int64) = 0 := by
          have : lg_cmp (lN (a % b)) (lN 0) = 1 := cmp_gt (by omega) (by omega) (by omega)
          show ¬ lg_cmp (lN (a % b)) (lN 0) = 0
          rw [this]; decide
        have hh := mod_half (a := a) (b := b) (by omega) (by omega)
        refine br_f hc2 ⟨hne2, ?_⟩
        unfold jremL
        rw [pk_lRem hb (by omega) (by omega), nI_1]
        rw [← gcd_step] at hk
        exact lp9_gcd k (a % b) (b % (a % b)) (t + 1 + 1) (by omega) (by omega) (by rw [Nat.pow_succ] at h; omega) (by omega) hk
theorem sp9_gcd {a b : Nat} {post : Int64 → Prop} (ha : a < 2 ^ 60) (hb : b < 2 ^ 60) (hp : post (lN (Nat.gcd a b))) : wpX9_commonDivisor (lN a) (lN b) post := ⟨_, lp9_gcd (K := fun v => post v) 60 a b 0 (by omega) (by omega) hb (by omega) hp⟩
theorem lp10_gcd {K : Int32 → Prop} : ∀ (f a b : Nat), a < 2 ^ 31 → b < 2 ^ 31 → b < f → K (nI (Nat.gcd a b)) → wpX10_divisor_L4 K f (nI a) (nI b)
  | 0, a, b, ha, hb, h, hk => absurd h (Nat.not_lt_zero _)
  | f + 1, a, b, ha, hb, h, hk => by
    unfold wpX10_divisor_L4
    refine pk_eq b 0 (fun e => ?_) (fun e => ?_)
    · subst e
      rw [Nat.gcd_zero_right] at hk
      exact hk
    · refine ⟨nI_ne0 (by omega) hb, ?_⟩
      have hm := Nat.mod_lt a (show 0 < b by omega)
      unfold jrem
      rw [pk_rem ha (by omega) hb]
      rw [← gcd_step] at hk
      exact lp10_gcd f b (a % b) hb (by omega) (by omega) hk
theorem sp10_divisor {a b : Nat} {post : Int32 → Prop} (ha : a < 2 ^ 31) (hb : b < 2 ^ 31) (hp : post (nI (Nat.gcd a b))) : wpX10_divisor (nI a) (nI b) post := ⟨b + 1, lp10_gcd (K := fun v => post v) _ a b ha hb (by omega) hp⟩
/-! a clash of two lengths -/
def cl (li a b : Nat) : Prop := li < max a b / Nat.gcd a b
theorem cl_symm {li a b : Nat} (h : cl li a b) : cl li b a := by
  unfold cl at *
  rw [Nat.gcd_comm, Nat.max_comm]; exact h
theorem cl_self {li a : Nat} (h1 : 1 ≤ li) (h : 1 ≤ a) : ¬ cl li a a := by
  unfold cl
  rw [Nat.gcd_self, Nat.max_self, Nat.div_self (by omega)]
  omega
theorem gcd_pos {a b : Nat} (h : 1 ≤ a) : 0 < Nat.gcd a b := Nat.gcd_pos_of_pos_left _ h
theorem gcd_le {a b : Nat} (h : 1 ≤ a) : Nat.gcd a b ≤ a := Nat.gcd_le_left _ h
theorem sp10_doClash {y : Ob} {li a b : Nat} {post : Int32 → Prop} (h3 : y 0 3 = nI li) (hli : li ≤ 99) (ha : 1 ≤ a ∧ a ≤ 108) (hb : 1 ≤ b ∧ b ≤ 108) (hp : post (b2 (cl li a b))) : wpX10_doClash y (nI a) (nI b) post := by
  unfold wpX10_doClash jn1
  have hg := gcd_pos (b := b) ha.1
  have hgl := gcd_le (b := b) ha.1
  have key : wpX10_divisor (nI a) (nI b) (fun (r14 : Int32) => (¬ r14 = 0) ∧ ((((nI (max a b) / r14) ≤ (y 0 3)) → post (0 : Int32)) ∧ (¬ ((nI (max a b) / r14) ≤ (y 0 3)) → post (1 : Int32)))) := by
    refine sp10_divisor (by omega) (by omega) ⟨nI_ne0 hg (by omega), ?_⟩
    rw [h3, pk_div (by omega) hg (by omega)]
    have hd := Nat.div_le_self (max a b) (Nat.gcd a b)
    refine pk_le (max a b / Nat.gcd a b) li (fun h => ?_) (fun h => ?_)
    · rw [b2_f (by unfold cl; omega)] at hp; exact hp
    · rw [b2_t (by unfold cl; omega)] at hp; exact hp
  refine pk_le a b (fun h => ?_) (fun h => ?_)
  · rw [show max a b = b by omega] at key; exact key
  · rw [show max a b = a by omega] at key; exact key
theorem sp8_isClash {s : Ob} {li a b : Nat} {post : Int32 → Prop} (h2 : s 0 2 = nI li) (hli : 1 ≤ li ∧ li ≤ 99) (ha : 1 ≤ a ∧ a ≤ 108) (hb : 1 ≤ b ∧ b ≤ 108) (hp : post (b2 (cl li a b))) : wpX8_isClash s (nI a) (nI b) post := by
  unfold wpX8_isClash
  intro y5 hy5
  rw [jmax_n (by omega) (by omega)] at hy5
  subst hy5
  rw [jmin_n (by omega) (by omega), h2]
  have hg := gcd_pos (b := b) ha.1
  have hgl := gcd_le (b := b) ha.1
  refine pk_eq a b (fun e => ?_) (fun e => ?_)
  · subst e
    rw [b2_f (cl_self hli.1 ha.1)] at hp; exact hp
  · refine pk_lt li (max a b) (fun h => ?_) (fun h => ?_)
    · rw [nI_l (by omega), nI_l (by omega), nI_l (by omega)]
      refine sp9_gcd (by omega) (by omega) ?_
      have eg : Nat.gcd (max a b) (min a b) = Nat.gcd a b := by
        rcases Nat.le_total a b with q | q
        · rw [Nat.max_eq_right q, Nat.min_eq_left q, Nat.gcd_comm]
        · rw [Nat.max_eq_left q, Nat.min_eq_right q]
      rw [eg]
      unfold jn0
      have hd := Nat.div_le_self (max a b) (Nat.gcd a b)
      have hc1 : lg_cmp (lN (Nat.gcd a b)) (0 : Int64) = 1 := cmp_gt (b := 0) (by omega) (by omega) hg
      have hne : ¬ lN (Nat.gcd a b) = 0 := fun q => by
        have := (pk_lEQ (b := 0) (by omega) (by omega)).mp q
        omega
      refine br_f (by rw [hc1]; decide) ⟨hne, ?_⟩
      rw [pk_lDiv (by omega) hg (by omega)]
      rcases Nat.lt_trichotomy li (max a b / Nat.gcd a b) with q | q | q
      · rw [cmp_gt (by omega) (by omega) q]
        rw [b2_t (by unfold cl; omega)] at hp
        exact br_f (by decide) hp
      · rw [← q, cmp_eq]
        rw [b2_f (by unfold cl; omega)] at hp
        exact br_t (by decide) hp
      · rw [cmp_lt (by omega) (by omega) q]
        rw [b2_f (by unfold cl; omega)] at hp
        exact br_t (by decide) hp
    · have hd := Nat.div_le_self (max a b) (Nat.gcd a b)
      rw [b2_f (by unfold cl; omega)] at hp
      exact hp
/-! clashes of a set of fingers -/
def Cl (li : Nat) (f : Nat → Nat) (n : Nat) : Prop := ∃ w x, w < x ∧ x < n ∧ cl li (f w) (f x)
theorem lp10_c20 {y : Ob} {g : Nat → Nat} {n e x li S w : Nat} {K : Int32 → Prop} (h0 : y 0 0 = nI n) (h2 : y 0 2 = nI e) (h3 : y 0 3 = nI li) (hy : ∀ k, k < 10 → y 1 k = nI (g k)) (hg : Gok g) (hn : n ≤ 10) (he : 1 ≤ e ∧ e ≤ 9) (hx : x ≤ 9) (hli : li ≤ 99) (hw : w < n) (hS : S < 2 ^ 31) :
    ∀ d k (P : Prop), k + d = n → K (b2 (P ∨ ∃ z, k ≤ z ∧ z < n ∧ cl li (len g n (e + x) S w) (len g n (e + x) S z))) → wpX10_clashes_L20 (nI S) (nI x) (nI w) y K (d + 1) (b2 P) (nI k)
  | 0, k, P, h, hk => by
    unfold wpX10_clashes_L20
    rw [h0]
    refine br_t (nI_le (by omega) (by omega)) ?_
    rw [b2_c (q := P)] at hk
    · exact hk
    · constructor
      · rintro (q | ⟨z, q1, q2, -⟩)
        · exact q
        · omega
      · exact Or.inl
  | d + 1, k, P, h, hk => by
    unfold wpX10_clashes_L20
    rw [h0]
    refine br_f (nI_ge (by omega) (by omega)) ?_
    unfold jn1 jn0
    rw [nI_1]
    have ih := fun P' => lp10_c20 (K := K) h0 h2 h3 hy hg hn he hx hli hw hS d (k + 1) P' (by omega)
    have hlen := fun z (hz : z < n) => len_bd hg (S := S) hn (show 1 ≤ e + x by omega) (by omega) hz
    have split : (P ∨ ∃ z, k ≤ z ∧ z < n ∧ cl li (len g n (e + x) S w) (len g n (e + x) S z)) ↔ ((P ∨ cl li (len g n (e + x) S w) (len g n (e + x) S k)) ∨ ∃ z, k + 1 ≤ z ∧ z < n ∧ cl li (len g n (e + x) S w) (len g n (e + x) S z)) := by
      constructor
      · rintro (q | ⟨z, q1, q2, q3⟩)
        · exact Or.inl (Or.inl q)
        · by_cases ez : z = k
          · subst ez; exact Or.inl (Or.inr q3)
          · exact Or.inr ⟨z, by omega, q2, q3⟩
      · rintro ((q | q) | ⟨z, q1, q2, q3⟩)
        · exact Or.inl q
        · exact Or.inr ⟨k, Nat.le_refl _, by omega, q⟩
        · exact Or.inr ⟨z, by omega, q2, q3⟩
    rw [b2_c split] at hk
    refine b2_br (fun hP => ?_) (fun hP => ?_)
    · refine sp10_lengthOf h0 h2 hy hg hn he hx hw hS (sp10_lengthOf h0 h2 hy hg hn he hx (by omega) hS ?_)
      have l1 := hlen w hw
      have l2 := hlen k (by omega)
      refine sp10_doClash h3 hli ⟨l1.1, l1.2.1⟩ ⟨l2.1, l2.2.1⟩ (b2_br (fun hc => ?_) (fun hc => ?_))
      · have := ih False
        rw [b2_f (p := False) (fun q => q)] at this
        refine this ?_
        rw [b2_c (q := (P ∨ cl li (len g n (e + x) S w) (len g n (e + x) S k)) ∨ ∃ z, k + 1 ≤ z ∧ z < n ∧ cl li (len g n (e + x) S w) (len g n (e + x) S z))]
        · exact hk
        · simp [hP, hc]
      · have := ih True
        rw [b2_t (p := True) trivial] at this
        refine this ?_
        rw [b2_c (q := (P ∨ cl li (len g n (e + x) S w) (len g n (e + x) S k)) ∨ ∃ z, k + 1 ≤ z ∧ z < n ∧ cl li (len g n (e + x) S w) (len g n (e + x) S z))]
        · exact hk
        · simp [hc]
    · have := ih True
      rw [b2_t (p := True) trivial] at this
      refine this ?_
      rw [b2_c (q := (P ∨ cl li (len g n (e + x) S w) (len g n (e + x) S k)) ∨ ∃ z, k + 1 ≤ z ∧ z < n ∧ cl li (len g n (e + x) S w) (len g n (e + x) S z))]
      · exact hk
      · simp [hP]
theorem lp10_c5 {y : Ob} {g : Nat → Nat} {n e x li S : Nat} {K : Int32 → Prop} (h0 : y 0 0 = nI n) (h2 : y 0 2 = nI e) (h3 : y 0 3 = nI li) (hy : ∀ k, k < 10 → y 1 k = nI (g k)) (hg : Gok g) (hn : n ≤ 10) (he : 1 ≤ e ∧ e ≤ 9) (hx : x ≤ 9) (hli : li ≤ 99) (hS : S < 2 ^ 31) :
    ∀ d k (P : Prop), k + d = n → K (b2 (P ∨ ∃ w z, k ≤ w ∧ w < z ∧ z < n ∧ cl li (len g n (e + x) S w) (len g n (e + x) S z))) → wpX10_clashes_L5 (nI S) (nI x) y K (d + 1) (b2 P) (nI k)
  | 0, k, P, h, hk => by
    unfold wpX10_clashes_L5
    rw [h0]
    refine br_t (nI_le (by omega) (by omega)) ?_
    rw [b2_c (q := P)] at hk
    · exact hk
    · constructor
      · rintro (q | ⟨w, z, q1, q2, q3, -⟩)
        · exact q
        · omega
      · exact Or.inl
  | d + 1, k, P, h, hk => by
    unfold wpX10_clashes_L5
    rw [h0]
    refine br_f (nI_ge (by omega) (by omega)) ⟨n - (k + 1) + 1, ?_⟩
    rw [nI_1]
    refine lp10_c20 h0 h2 h3 hy hg hn he hx hli (by omega) hS _ _ P (by omega) ?_
    refine lp10_c5 h0 h2 h3 hy hg hn he hx hli hS d (k + 1) _ (by omega) ?_
    rw [b2_c (q := P ∨ ∃ w z, k ≤ w ∧ w < z ∧ z < n ∧ cl li (len g n (e + x) S w) (len g n (e + x) S z))]
    · exact hk
    · constructor
      · rintro ((q | ⟨z, q1, q2, q3⟩) | ⟨w, z, q1, q2, q3, q4⟩)
        · exact Or.inl q
        · exact Or.inr ⟨k, z, Nat.le_refl _, by omega, q2, q3⟩
        · exact Or.inr ⟨w, z, by omega, q2, q3, q4⟩
      · rintro (q | ⟨w, z, q1, q2, q3, q4⟩)
        · exact Or.inl (Or.inl q)
        · by_cases ew : w = k
          · subst ew; exact Or.inl (Or.inr ⟨z, by omega, q3, q4⟩)
          · exact Or.inr ⟨w, z, by omega, q2, q3, q4⟩
theorem sp10_clashes {y : Ob} {g : Nat → Nat} {n e x li S : Nat} {post : Int32 → Prop} (h0 : y 0 0 = nI n) (h2 : y 0 2 = nI e) (h3 : y 0 3 = nI li) (hy : ∀ k, k < 10 → y 1 k = nI (g k)) (hg : Gok g) (hn : n ≤ 10) (he : 1 ≤ e ∧ e ≤ 9) (hx : x ≤ 9) (hli : li ≤ 99) (hS : S < 2 ^ 31) (hp : post (b2 (Cl li (len g n (e + x) S) n))) : wpX10_clashes y (nI S) (nI x) post := by
  refine ⟨n + 1, ?_⟩
  have q := lp10_c5 (K := fun v => isB v ∧ post v) h0 h2 h3 hy hg hn he hx hli hS n 0 False (by omega) ?_
  · rw [b2_f (p := False) (fun q => q)] at q; exact q
  · rw [b2_c (q := Cl li (len g n (e + x) S) n)]
    · exact ⟨b2_B _, hp⟩
    · unfold Cl
      constructor
      · rintro (q | ⟨w, z, -, q2, q3, q4⟩)
        · exact q.elim
        · exact ⟨w, z, q2, q3, q4⟩
      · rintro ⟨w, z, q2, q3, q4⟩
        exact Or.inr ⟨w, z, Nat.zero_le _, q2, q3, q4⟩
