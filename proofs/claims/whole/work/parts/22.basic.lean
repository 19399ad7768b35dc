/-! truth values -/
noncomputable def b2 (p : Prop) : Int32 := @ite _ p (Classical.propDecidable p) 1 0
theorem b2_t {p : Prop} (h : p) : b2 p = 1 := by unfold b2; exact @if_pos _ (Classical.propDecidable p) h _ _ _
theorem b2_f {p : Prop} (h : ¬ p) : b2 p = 0 := by unfold b2; exact @if_neg _ (Classical.propDecidable p) h _ _ _
theorem b2_c {p q : Prop} (h : p ↔ q) : b2 p = b2 q := by
  by_cases hp : p
  · rw [b2_t hp, b2_t (h.mp hp)]
  · rw [b2_f hp, b2_f (fun x => hp (h.mpr x))]
theorem b2_B (p : Prop) : isB (b2 p) := by
  by_cases h : p
  · rw [b2_t h]; exact Or.inr rfl
  · rw [b2_f h]; exact Or.inl rfl
theorem b2_br {p : Prop} {A B : Prop} (f : ¬ p → A) (g : p → B) : (b2 p = 0 → A) ∧ (¬ b2 p = 0 → B) := by
  by_cases h : p
  · rw [b2_t h]; exact br_f (by decide) (g h)
  · rw [b2_f h]; exact br_t rfl (f h)
/-! the reference's smallest methods -/
theorem sp10_in_y {x : Int32} {a b : Int32} {post : Int32 → Prop} (h1 : ¬ x < a) (h2 : ¬ b < x) (hp : post 1) : wpX10_in x a b post := by
  unfold wpX10_in jn0
  exact br_f h1 (br_f h2 hp)
theorem sp10_in_n {x : Int32} {a b : Int32} {post : Int32 → Prop} (h : x < a ∨ b < x) (hp : post 0) : wpX10_in x a b post := by
  unfold wpX10_in jn0
  rcases h with h | h
  · exact br_t h hp
  · exact br_c (fun _ => hp) (fun _ => br_t h hp)
theorem sp10_in {x : Int32} {a b : Int32} {post : Int32 → Prop} (hp : post (b2 (¬ (x < a ∨ b < x)))) : wpX10_in x a b post := by
  by_cases h : x < a ∨ b < x
  · rw [b2_f (by simp [h])] at hp; exact sp10_in_n h hp
  · rw [b2_t h] at hp; exact sp10_in_y (fun q => h (Or.inl q)) (fun q => h (Or.inr q)) hp
theorem sp10_has {S k : Nat} {post : Int32 → Prop} (hS : S < 2 ^ 31) (hk : k < 32) (hp : post (b2 (S.testBit k = true))) : wpX10_has (nI S) (nI k) post := by
  unfold wpX10_has
  refine br_shr hS hk (fun h => ?_) (fun h => ?_)
  · rw [b2_t h] at hp; exact hp
  · rw [b2_f (by rw [h]; decide)] at hp; exact hp
theorem lp10_bits {S : Nat} {K : Int32 → Prop} (hS : S < 2 ^ 31) (hk : K (nI (popc S))) : ∀ d k, k + d = 17 → wpX10_bits_L4 (nI S) K (d + 1) (nI (pc10 S k)) (nI k)
  | 0, k, h => by
    have e : k = 17 := by omega
    subst e
    unfold wpX10_bits_L4
    exact br_t (nI_le (a := 17) (b := 17) (by omega) (by omega)) hk
  | d + 1, k, h => by
    unfold wpX10_bits_L4
    refine br_f (nI_ge (b := 17) (by omega) (by omega)) ?_
    rw [shr_bit hS (by omega), nI_add, nI_1]
    exact lp10_bits hS hk d (k + 1) (by omega)
theorem sp10_bits {S : Nat} {post : Int32 → Prop} (hS : S < 2 ^ 31) (hp : post (nI (popc S))) : wpX10_bits (nI S) post := ⟨18, lp10_bits (K := fun v => post v) hS hp 17 0 rfl⟩
theorem sp10_isWindow_y {y : Ob} {n w : Nat} {post : Int32 → Prop} (h0 : y 0 0 = nI n) (hn : n ≤ 10) (hw : w < n) (hp : post 1) : wpX10_isWindow y (nI w) post := by
  unfold wpX10_isWindow
  rw [h0, nI_sub1 (by omega)]
  exact sp10_in_y (nI_pos (by omega)) (nI_nlt (by omega) (by omega)) ⟨Or.inr rfl, hp⟩
theorem sp10_isWindow_n {y : Ob} {n : Nat} {x : Int32} {post : Int32 → Prop} (h0 : y 0 0 = nI n) (hn1 : 1 ≤ n) (hn : n ≤ 10) (hx : x < 0 ∨ nI n ≤ x) (hp : post 0) : wpX10_isWindow y x post := by
  unfold wpX10_isWindow
  rw [h0, nI_sub1 (by omega)]
  refine sp10_in_n ?_ ⟨Or.inl rfl, hp⟩
  rcases hx with h | h
  · exact Or.inl h
  · right
    have e1 := nI_toInt (n := n) (by omega)
    have e2 := nI_toInt (n := n - 1) (by omega)
    rw [Int32.le_iff_toInt_le] at h
    rw [Int32.lt_iff_toInt_lt]
    omega
theorem win_cases (x : Int32) {n : Nat} (hn : n ≤ 10) : (x < 0 ∨ nI n ≤ x) ∨ ∃ w, w < n ∧ x = nI w := by
  rcases pk_ix x (n := n) (by omega) with h | h | h
  · exact Or.inl (Or.inl h)
  · exact Or.inl (Or.inr h)
  · exact Or.inr h
theorem sp10_may {y : Ob} {n : Nat} {post : Int32 → Prop} (h0 : y 0 0 = nI n) (hn1 : 2 ≤ n) (hn : n ≤ 10) (hp : post (nI (may n))) : wpX10_may y post := by
  unfold wpX10_may
  rw [h0]
  refine pk_eq n 2 (fun h => ?_) (fun h => ?_)
  · simp only [may, h] at hp; exact hp
  · have e : may n = n - 2 := by simp [may, h]
    rw [e] at hp
    have e2 : nI n - 2 = nI (n - 2) := pk_sub (by omega)
    rw [e2]; exact hp
theorem sp8_mostFingers {s : Ob} {n : Nat} {post : Int32 → Prop} (h0 : s 0 0 = nI n) (hn1 : 2 ≤ n) (hn : n ≤ 10) (hp : post (nI (may n))) : wpX8_mostFingers s post := by
  unfold wpX8_mostFingers
  rw [h0]
  refine pk_eq n 2 (fun h => ?_) (fun h => ?_)
  · simp only [may, h] at hp; exact hp
  · have e : may n = n - 2 := by simp [may, h]
    rw [e] at hp
    have e2 : nI n - 2 = nI (n - 2) := pk_sub (by omega)
    rw [e2]; exact hp
theorem may_le {n : Nat} (h : n ≤ 10) : may n ≤ 8 := by unfold may; split <;> omega
theorem pc10_le (S : Nat) : ∀ k, pc10 S k ≤ k
  | 0 => Nat.le_refl _
  | k + 1 => by have := pc10_le S k; simp only [pc10]; split <;> omega
theorem popc_le (S : Nat) : popc S ≤ 17 := pc10_le S 17
theorem sp10_canBe {y : Ob} {n S : Nat} {post : Int32 → Prop} (h0 : y 0 0 = nI n) (hn1 : 2 ≤ n) (hn : n ≤ 10) (hS : S < 2 ^ 31) (hp : post (b2 (popc S ≤ may n))) : wpX10_canBe y (nI S) post := by
  unfold wpX10_canBe
  refine sp10_bits hS (sp10_may h0 hn1 hn ?_)
  have h1 := popc_le S
  have h2 := may_le hn
  refine pk_lt (may n) (popc S) (fun h => ?_) (fun h => ?_)
  · rw [b2_f (by omega)] at hp; exact hp
  · rw [b2_t (by omega)] at hp; exact hp
/-! the JDK's bitCount -/
def bcE (v : Int32) : Int32 :=
  let y23 := (((v - ((jush v (1 : Int32)) &&& (1431655765 : Int32))) &&& (858993459 : Int32)) + ((jush (v - ((jush v (1 : Int32)) &&& (1431655765 : Int32))) (2 : Int32)) &&& (858993459 : Int32)))
  let y40 := (((y23 + (jush y23 (4 : Int32))) &&& (252645135 : Int32)) + (jush ((y23 + (jush y23 (4 : Int32))) &&& (252645135 : Int32)) (8 : Int32)))
  ((y40 + (jush y40 (16 : Int32))) &&& (63 : Int32))
theorem sp_bc {v : Int32} {post : Int32 → Prop} (hp : post (bcE v)) : wpJ6_bitCount_0f7a4 v post := by
  unfold wpJ6_bitCount_0f7a4
  intro y23 h1 y40 h2
  subst h1
  subst h2
  exact hp
theorem bc_small : ∀ S, S < 1024 → bcE (nI S) = nI (popc S) := by decide +kernel
theorem sp_bitCount {S : Nat} {post : Int32 → Prop} (hS : S < 1024) (hp : post (nI (popc S))) : wpJ6_bitCount_0f7a4 (nI S) post := sp_bc (by rw [bc_small S hS]; exact hp)
theorem sp8_allows {s : Ob} {n S : Nat} {post : Int32 → Prop} (h0 : s 0 0 = nI n) (hn1 : 2 ≤ n) (hn : n ≤ 10) (hS : S < 1024) (hp : post (b2 (popc S ≤ may n))) : wpX8_allows s (nI S) post := by
  unfold wpX8_allows
  refine sp_bitCount hS (sp8_mostFingers h0 hn1 hn ?_)
  have h1 := popc_le S
  have h2 := may_le hn
  refine pk_lt (may n) (popc S) (fun h => ?_) (fun h => ?_)
  · rw [b2_f (by omega)] at hp; exact hp
  · rw [b2_t (by omega)] at hp; exact hp
/-! the reference's lengths -/
def YS (y : Ob) (A : AS) : Prop := (y 0 0 = nI (A.1 0) ∧ y 0 2 = nI (A.1 1) ∧ y 0 3 = nI (A.1 2) ∧ y 0 4 = nI (A.1 3) ∧ y 0 5 = nI (A.1 4) ∧ y 0 6 = nI (A.1 5) ∧ y 0 8 = nI (A.1 6)) ∧ (∀ k, k < 10 → y 1 k = nI (A.2.1 k)) ∧ (∀ k, k < A.1 6 → y 3 (2 * k) = nI (A.2.2.2.1 k) ∧ y 3 (2 * k + 1) = nI (A.2.2.2.2 k)) ∧ (∀ k, k < 10 → y 2 k = A.2.2.1 k)
def psum (g : Nat → Nat) : Nat → Nat
  | 0 => 0
  | k + 1 => psum g k + g k
theorem psum_pos (g : Nat → Nat) : ∀ k, psum g (k + 1) = pos g k
  | 0 => by simp [psum, pos]
  | k + 1 => by rw [psum, psum_pos g k, pos]
theorem lp10_at {y : Ob} {g : Nat → Nat} {w : Nat} {K : Int32 → Prop} (hy : ∀ k, k < 10 → y 1 k = nI (g k)) (hw : w < 10) (hk : K (nI (pos g w))) : ∀ d k, k + d = w + 1 → wpX10_at_L4 (nI w) y K (d + 1) (nI (psum g k)) (nI k)
  | 0, k, h => by
    have e : k = w + 1 := by omega
    subst e
    unfold wpX10_at_L4
    rw [psum_pos]
    exact br_t (nI_lt (by omega) (by omega)) hk
  | d + 1, k, h => by
    unfold wpX10_at_L4
    refine br_f (nI_nlt (by omega) (by omega)) ⟨vp_in_nI (by omega) (by omega), ?_⟩
    rw [jld_n (by omega), hy k (by omega), nI_add, nI_1]
    exact lp10_at hy hw hk d (k + 1) (by omega)
theorem sp10_at {y : Ob} {g : Nat → Nat} {w : Nat} {post : Int32 → Prop} (hy : ∀ k, k < 10 → y 1 k = nI (g k)) (hw : w < 10) (hp : post (nI (pos g w))) : wpX10_at y (nI w) post := ⟨w + 2, lp10_at (K := fun v => post v) hy hw hp (w + 1) 0 (by omega)⟩
/-- above, as the reference goes: windows 0 to k less 1 looked at -/
def abk (g : Nat → Nat) (S w : Nat) : Nat → Nat
  | 0 => 0
  | k + 1 => if S.testBit k ∧ k ≤ w then pos g k else abk g S w k
theorem abk_abv (g : Nat → Nat) (S w : Nat) : ∀ k, k ≤ w → abk g S w (k + 1) = abv g S k
  | 0, _ => by
    by_cases h : S.testBit 0 = true
    · simp [abk, abv, h]
    · simp [abk, abv, h]
  | k + 1, h => by
    rw [abk, abv, abk_abv g S w k (by omega)]
    by_cases hb : S.testBit (k + 1) = true
    · simp [hb, h]
    · simp [hb]
theorem abk_end (g : Nat → Nat) (S w : Nat) : ∀ d, abk g S w (w + 1 + d) = abv g S w
  | 0 => abk_abv g S w w (Nat.le_refl _)
  | d + 1 => by
    rw [show w + 1 + (d + 1) = (w + 1 + d) + 1 from rfl, abk, abk_end g S w d]
    have : ¬ (w + 1 + d ≤ w) := by omega
    simp [this]
theorem lp10_25 {y : Ob} {g : Nat → Nat} {n S w : Nat} {K : Int32 → Prop} (h0 : y 0 0 = nI n) (hn : n ≤ 10) (hy : ∀ k, k < 10 → y 1 k = nI (g k)) (hw : w < n) (hS : S < 2 ^ 31) (hk : K (nI (abv g S w))) : ∀ d k, k + d = n → wpX10_lengthOf_L25 (nI w) (nI S) y K (d + 1) (nI (abk g S w k)) (nI k)
  | 0, k, h => by
    unfold wpX10_lengthOf_L25
    rw [h0]
    refine br_t (nI_le (by omega) (by omega)) ?_
    have e := abk_end g S w (n - (w + 1))
    rw [show w + 1 + (n - (w + 1)) = k by omega] at e
    rw [e]; exact hk
  | d + 1, k, h => by
    unfold wpX10_lengthOf_L25
    rw [h0]
    refine br_f (nI_ge (by omega) (by omega)) (sp10_has hS (by omega) ?_)
    unfold jn1 jn0
    rw [nI_1]
    have ih := lp10_25 h0 hn hy hw hS hk d (k + 1) (by omega)
    refine b2_br (fun hb => ?_) (fun hb => ?_)
    · have e : abk g S w (k + 1) = abk g S w k := by simp [abk, hb]
      rw [e] at ih; exact ih
    · refine pk_lt w k (fun hc => ?_) (fun hc => ?_)
      · have e : abk g S w (k + 1) = abk g S w k := by
          have : ¬ k ≤ w := by omega
          simp [abk, this]
        rw [e] at ih; exact ih
      · have e : abk g S w (k + 1) = pos g k := by simp [abk, hb, hc]
        rw [e] at ih
        exact sp10_at hy (by omega) ih
theorem lp10_76 {y : Ob} {g : Nat → Nat} {n E S w : Nat} {K : Int32 → Prop} (hn : n ≤ 10) (hy : ∀ k, k < 10 → y 1 k = nI (g k)) (hS : S < 2 ^ 31) (hw : w < n) (hk : K (nI (blw g S n E (n - (w + 1))))) : ∀ d k, w + d = k → k < n → wpX10_lengthOf_L76 (nI w) (nI S) y K (d + 1) (nI (blw g S n E (n - (k + 1)))) (nI k)
  | 0, k, h, hkn => by
    have e : k = w := by omega
    subst e
    unfold wpX10_lengthOf_L76
    exact br_t (nI_le (by omega) (by omega)) hk
  | d + 1, k, h, hkn => by
    unfold wpX10_lengthOf_L76
    refine br_f (nI_ge (by omega) (by omega)) (sp10_has hS (by omega) ?_)
    unfold jn1
    rw [nI_m1 (by omega)]
    have ih := lp10_76 hn hy hS hw hk d (k - 1) (by omega) (by omega)
    have e0 : n - (k - 1 + 1) = (n - (k + 1)) + 1 := by omega
    have e1 : n - ((n - (k + 1)) + 1) = k := by omega
    rw [e0] at ih
    refine b2_br (fun hb => ?_) (fun hb => ?_)
    · have e : blw g S n E (n - (k + 1) + 1) = blw g S n E (n - (k + 1)) := by simp [blw, e1, hb]
      rw [e] at ih; exact ih
    · have e : blw g S n E (n - (k + 1) + 1) = pos g k := by simp [blw, e1, hb]
      rw [e] at ih
      exact sp10_at hy (by omega) ih
theorem sp10_lengthOf {y : Ob} {g : Nat → Nat} {n e x S w : Nat} {post : Int32 → Prop} (h0 : y 0 0 = nI n) (h2 : y 0 2 = nI e) (hy : ∀ k, k < 10 → y 1 k = nI (g k)) (hg : Gok g) (hn : n ≤ 10) (he : 1 ≤ e ∧ e ≤ 9) (hx : x ≤ 9) (hw : w < n) (hS : S < 2 ^ 31) (hp : post (nI (len g n (e + x) S w))) : wpX10_lengthOf y (nI w) (nI S) (nI x) post := by
  unfold wpX10_lengthOf
  rw [h0, h2, nI_sub1 (by omega)]
  refine sp10_at hy (by omega) ⟨n + 1, ?_⟩
  refine lp10_25 h0 hn hy hw hS ?_ n 0 (by omega)
  refine ⟨n - (w + 1) + 1, ?_⟩
  rw [nI_add, nI_add, Nat.add_assoc]
  have q := lp10_76 (E := e + x) (K := fun v => post (v - nI (abv g S w))) hn hy hS hw ?_ (n - (w + 1)) (n - 1) (by omega) (by omega)
  · rw [show n - (n - 1 + 1) = 0 by omega] at q
    exact q
  · obtain ⟨l1, l2, l3, l4, l5⟩ := len_bd hg (S := S) hn (show 1 ≤ e + x by omega) (by omega) hw
    show post (nI _ - nI _)
    rw [pk_sub l5]
    exact hp
theorem sp10_len {y : Ob} {A : AS} {w S : Nat} {x : Int32} {post : Int32 → Prop} (hy : YS y A) (ho : Own A) (hw : w < A.1 0) (hS : S < 2 ^ 31) (hx : x = nI (A.1 4)) (hp : post (nI (len A.2.1 (A.1 0) (A.1 1 + A.1 4) S w))) : wpX10_lengthOf y (nI w) (nI S) x post := by
  obtain ⟨⟨y0, y2, -⟩, y1, -⟩ := hy
  obtain ⟨⟨a1, a2⟩, b1, -, -, d1, -, -, hg⟩ := ho
  subst hx
  exact sp10_lengthOf y0 y2 y1 hg a2 b1 d1 hw hS hp
