/-! numbers: ints that are naturals; bits -/
theorem nI_or (a b : Nat) : nI a ||| nI b = nI (a ||| b) := by
  apply Int32.toBitVec_inj.1
  show BitVec.ofNat 32 a ||| BitVec.ofNat 32 b = BitVec.ofNat 32 (a ||| b)
  apply BitVec.eq_of_getLsbD_eq
  intro i hi
  simp [hi]
theorem nI_and (a b : Nat) : nI a &&& nI b = nI (a &&& b) := by
  apply Int32.toBitVec_inj.1
  show BitVec.ofNat 32 a &&& BitVec.ofNat 32 b = BitVec.ofNat 32 (a &&& b)
  apply BitVec.eq_of_getLsbD_eq
  intro i hi
  simp [hi]
theorem nI_xor (a b : Nat) : nI a ^^^ nI b = nI (a ^^^ b) := by
  apply Int32.toBitVec_inj.1
  show BitVec.ofNat 32 a ^^^ BitVec.ofNat 32 b = BitVec.ofNat 32 (a ^^^ b)
  apply BitVec.eq_of_getLsbD_eq
  intro i hi
  simp [hi]
theorem sh_cnt : ∀ j, j < 32 → ((nI j &&& 31).toBitVec.smod 32).toNat = j := by decide +kernel
theorem sh_cnu : ∀ j, j < 32 → (((nI j).toUInt32 &&& Int32.toUInt32 31).toBitVec % 32).toNat = j := by decide +kernel
theorem jshl_n {a j : Nat} (hj : j < 32) (h : a * 2 ^ j < 2 ^ 31) : jshl (nI a) (nI j) = nI (a * 2 ^ j) := by
  unfold jshl
  exact pk_shlN _ j (sh_cnt j hj) (by omega)
theorem jshl_1 {j : Nat} (hj : j < 31) : jshl 1 (nI j) = nI (2 ^ j) := by
  have h2 : (2 : Nat) ^ j < 2 ^ 31 := Nat.pow_lt_pow_right (by decide) hj
  have := jshl_n (a := 1) (j := j) (by omega) (by omega)
  rw [Nat.one_mul] at this
  exact this
theorem jshr_n {a j : Nat} (hj : j < 32) (h : a < 2 ^ 31) : jshr (nI a) (nI j) = nI (a / 2 ^ j) := by
  unfold jshr
  exact pk_shrN h _ j (sh_cnt j hj)
theorem jush_n {a j : Nat} (hj : j < 32) (h : a < 2 ^ 32) : jush (nI a) (nI j) = nI (a / 2 ^ j) := by
  unfold jush
  exact pk_ushrN h _ j (sh_cnu j hj)
theorem bit_mod (S k : Nat) : (S / 2 ^ k) % 2 = (if S.testBit k then 1 else 0) := by
  rw [Nat.testBit_eq_decide_div_mod_eq]
  have : (S / 2 ^ k) % 2 < 2 := Nat.mod_lt _ (by decide)
  by_cases h : (S / 2 ^ k) % 2 = 1
  · simp [h]
  · have h0 : (S / 2 ^ k) % 2 = 0 := by omega
    simp [h0]
theorem div_lt31 {a k : Nat} (h : a < 2 ^ 31) : a / 2 ^ k < 2 ^ 31 := Nat.lt_of_le_of_lt (Nat.div_le_self _ _) h
theorem ush_bit {S k : Nat} (hS : S < 2 ^ 31) (hk : k < 32) : (jush (nI S) (nI k)) &&& 1 = nI (if S.testBit k then 1 else 0) := by
  rw [jush_n hk (by omega), ← bit_mod]
  show nI (S / 2 ^ k) &&& nI 1 = _
  rw [nI_and, Nat.and_one_is_mod]
theorem shr_bit {S k : Nat} (hS : S < 2 ^ 31) (hk : k < 32) : (jshr (nI S) (nI k)) &&& 1 = nI (if S.testBit k then 1 else 0) := by
  rw [jshr_n hk hS, ← bit_mod]
  show nI (S / 2 ^ k) &&& nI 1 = _
  rw [nI_and, Nat.and_one_is_mod]
/-- branches on one bit -/
theorem br_ush {S k : Nat} {A B : Prop} (hS : S < 2 ^ 31) (hk : k < 32) (f : S.testBit k = false → A) (g : S.testBit k = true → B) : (((jush (nI S) (nI k)) &&& (1 : Int32)) = 0 → A) ∧ (¬ ((jush (nI S) (nI k)) &&& (1 : Int32)) = 0 → B) := by
  rw [ush_bit hS hk]
  cases h : S.testBit k with
  | false => exact br_t rfl (f h)
  | true => exact br_f (by decide) (g h)
theorem br_shr {S k : Nat} {A B : Prop} (hS : S < 2 ^ 31) (hk : k < 32) (f : S.testBit k = true → A) (g : S.testBit k = false → B) : (((jshr (nI S) (nI k)) &&& (1 : Int32)) = (1 : Int32) → A) ∧ (¬ ((jshr (nI S) (nI k)) &&& (1 : Int32)) = (1 : Int32) → B) := by
  rw [shr_bit hS hk]
  cases h : S.testBit k with
  | true => exact br_t rfl (f h)
  | false => exact br_f (by decide) (g h)
theorem nI_sub1 {n : Nat} (h : 0 < n) : nI n - 1 = nI (n - 1) := by
  obtain ⟨m, rfl⟩ : ∃ m, n = m + 1 := ⟨n - 1, by omega⟩
  exact nI_pred m
theorem nI_m1 {n : Nat} (h : 0 < n) : nI n + (-1) = nI (n - 1) := by
  obtain ⟨m, rfl⟩ : ∃ m, n = m + 1 := ⟨n - 1, by omega⟩
  exact pk_m1 m
theorem nC_n {n : Nat} (h : n < 2 ^ 31) : nC (nI n) = n := nI_clamp h
theorem jld_n {f : Nat → Int32} {n : Nat} (h : n < 2 ^ 31) : jld f (nI n) = f n := by unfold jld; rw [nI_clamp h]
/-- every int that isn't below 0 is a natural; ranges -/
theorem in_rng {x : Int32} {a b : Nat} (hb : b < 2 ^ 31) (h1 : ¬ x < nI a) (h2 : ¬ nI b < x) (ha : a < 2 ^ 31) : ∃ j : Nat, a ≤ j ∧ j ≤ b ∧ x = nI j := by
  have e1 := nI_toInt (n := a) ha
  have e2 := nI_toInt (n := b) hb
  rw [Int32.lt_iff_toInt_lt] at h1 h2
  have h0 : ¬ x < 0 := by
    rw [Int32.lt_iff_toInt_lt]
    simp only [Int32.toInt_zero]
    omega
  obtain ⟨j, hj, rfl⟩ := nI_of h0
  have e3 := nI_toInt (n := j) hj
  exact ⟨j, by omega, by omega, rfl⟩
theorem rng_in {j a b : Nat} (hj : j < 2 ^ 31) (ha : a < 2 ^ 31) (hb : b < 2 ^ 31) (h1 : a ≤ j) (h2 : j ≤ b) : ¬ nI j < nI a ∧ ¬ nI b < nI j := ⟨nI_nlt h1 hj, nI_nlt h2 hb⟩
theorem pf_s (o : Ob) (j : Nat) (v : Int32) : pf o j v 0 j = v := by simp [pf, cond]
theorem pf_n (o : Ob) {j k : Nat} (v : Int32) (h : k ≠ j) : pf o j v 0 k = o 0 k := by
  have : Nat.beq k j = false := by
    cases hb : Nat.beq k j
    · rfl
    · exact absurd (Nat.eq_of_beq_eq_true hb) h
  simp [pf, cond, this]
theorem pf_r (o : Ob) (j r : Nat) (v : Int32) (h : r ≠ 0) : pf o j v r = o r := by
  have : Nat.beq r 0 = false := by
    cases hb : Nat.beq r 0
    · rfl
    · exact absurd (Nat.eq_of_beq_eq_true hb) h
  simp [pf, cond, this]
theorem pa_s (o : Ob) (r k : Nat) (v : Int32) : pa o r k v r = upd (o r) k v := by
  have : Nat.beq r r = true := by simp
  simp [pa, cond, this]
theorem pa_n (o : Ob) {r q : Nat} (k : Nat) (v : Int32) (h : q ≠ r) : pa o r k v q = o q := by
  have : Nat.beq q r = false := by
    cases hb : Nat.beq q r
    · rfl
    · exact absurd (Nat.eq_of_beq_eq_true hb) h
  simp [pa, cond, this]
