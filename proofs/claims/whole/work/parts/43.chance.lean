/-! slips, calm -/
theorem i_andnot (x y : Int32) : x &&& (y ^^^ (-1)) = x ^^^ (x &&& y) := by
  apply Int32.toBitVec_inj.1
  show x.toBitVec &&& (y.toBitVec ^^^ BitVec.allOnes 32) = x.toBitVec ^^^ (x.toBitVec &&& y.toBitVec)
  apply BitVec.eq_of_getLsbD_eq
  intro i hi
  rw [BitVec.getLsbD_and, BitVec.getLsbD_xor, BitVec.getLsbD_xor, BitVec.getLsbD_and, BitVec.getLsbD_allOnes]
  generalize x.toBitVec.getLsbD i = p
  generalize y.toBitVec.getLsbD i = q
  rw [decide_eq_true hi]
  cases p <;> cases q <;> decide
theorem nI_andnot (a b : Nat) : nI a &&& (nI b ^^^ (-1)) = nI (a ^^^ (a &&& b)) := by rw [i_andnot, nI_and, nI_xor]
theorem xor_z {a b : Nat} : a ^^^ b = 0 ↔ a = b := by
  constructor
  · intro h
    have : (a ^^^ b) ^^^ b = 0 ^^^ b := by rw [h]
    rw [Nat.xor_assoc, Nat.xor_self, Nat.xor_zero, Nat.zero_xor] at this
    exact this
  · intro h; rw [h, Nat.xor_self]
theorem part_br {a b : Nat} {X Y : Prop} (ha : a < 2 ^ 31) (f : a &&& b = a → X) (g : ¬ a &&& b = a → Y) : (nI a &&& (nI b ^^^ (-1)) = 0 → X) ∧ (¬ nI a &&& (nI b ^^^ (-1)) = 0 → Y) := by
  rw [nI_andnot]
  have h1 : a &&& b ≤ a := Nat.and_le_left
  have h2 : a ^^^ (a &&& b) < 2 ^ 31 := Nat.xor_lt_two_pow ha (by omega)
  refine pk_eq (a ^^^ (a &&& b)) 0 (fun e => f (xor_z.mp e).symm) (fun e => g (fun q => e (xor_z.mpr q.symm)))
theorem sp0_power {a b : Nat} {post : Int64 → Prop} (ha : a < 2 ^ 31) (hb : b < 2 ^ 30) (hp : post (lN (a ^ b))) : wpX0_power (nI a) (nI b) post := by
  have key : ∀ d k, k + d = b → wpX0_power_L5 (nI a) (nI b) (fun v => post v) (d + 1) (lN (a ^ k)) (nI k) := by
    intro d
    induction d with
    | zero =>
      intro k hk
      have e : k = b := by omega
      subst e
      unfold wpX0_power_L5
      exact br_t (nI_le (by omega) (by omega)) hp
    | succ d ih =>
      intro k hk
      unfold wpX0_power_L5
      rw [nI_1 k, nI_l ha, lN_mul, ← Nat.pow_succ]
      exact br_f (nI_ge (by omega) (by omega)) (ih (k + 1) (by omega))
  exact ⟨_, key b 0 (by omega)⟩
def stay (F S t : Nat) : Nat := (10 - t) ^ popc S * t ^ (popc F - popc S)
theorem sub_bit {S F : Nat} (h : S &&& F = S) {i : Nat} (hi : S.testBit i = true) : F.testBit i = true := by
  have := hi
  rw [← h, Nat.testBit_and, Bool.and_eq_true] at this
  exact this.2
theorem pc_sub {S F : Nat} (h : S &&& F = S) : ∀ k, pc10 S k ≤ pc10 F k
  | 0 => Nat.le_refl _
  | k + 1 => by
    have := pc_sub h k
    simp only [pc10]
    by_cases c : S.testBit k = true
    · rw [if_pos c, if_pos (sub_bit h c)]; omega
    · rw [if_neg c]; omega
theorem pc_ext {S n : Nat} (h : S < 2 ^ n) : ∀ d, pc10 S (n + d) = pc10 S n
  | 0 => rfl
  | d + 1 => by
    rw [← Nat.add_assoc]
    simp only [pc10]
    rw [pc_ext h d, Nat.testBit_lt_two_pow (Nat.lt_of_lt_of_le h (Nat.pow_le_pow_right (by decide) (by omega)))]
    rfl
theorem popc_n {S n : Nat} (h : S < 2 ^ n) (hn : n ≤ 10) : popc S = pc10 S n := by
  have := pc_ext h (17 - n)
  rw [show n + (17 - n) = 17 by omega] at this
  exact this
theorem sp0_stay {F S t : Nat} {post : Int64 → Prop} (hF : F < 1024) (hS : S < 1024) (ht : t ≤ 10) (hsub : S &&& F = S) (hp : post (lN (stay F S t))) : wpX0_toStay (nI F) (nI S) (nI t) post := by
  have h1 := popc_le S
  have h2 := popc_le F
  have h3 : popc S ≤ popc F := pc_sub hsub 17
  unfold wpX0_toStay
  refine sp_bitCount hS ?_
  have e : (10 : Int32) - nI t = nI (10 - t) := pk_sub (a := 10) (by omega)
  rw [e]
  refine sp0_power (by omega) (by omega) (sp_bitCount hF ?_)
  rw [pk_sub h3]
  refine sp0_power (by omega) (by omega) ?_
  rw [lN_mul]; exact hp
noncomputable def sm (F t : Nat) (Q : Nat → Prop) : Nat → Nat
  | 0 => 0
  | k + 1 => @ite _ (k &&& F = k ∧ Q k) (Classical.propDecidable _) (sm F t Q k + stay F k t) (sm F t Q k)
theorem sm_y {F t : Nat} {Q : Nat → Prop} {k : Nat} (h : k &&& F = k ∧ Q k) : sm F t Q (k + 1) = sm F t Q k + stay F k t := by rw [sm]; exact @if_pos _ (Classical.propDecidable _) h _ _ _
theorem sm_n {F t : Nat} {Q : Nat → Prop} {k : Nat} (h : ¬ (k &&& F = k ∧ Q k)) : sm F t Q (k + 1) = sm F t Q k := by rw [sm]; exact @if_neg _ (Classical.propDecidable _) h _ _ _
theorem sm_ext {F t : Nat} {Q : Nat → Prop} : ∀ d, sm F t Q (F + 1 + d) = sm F t Q (F + 1)
  | 0 => rfl
  | d + 1 => by
    rw [← Nat.add_assoc, sm_n, sm_ext d]
    intro h
    have : (F + 1 + d) &&& F ≤ F := Nat.and_le_right
    omega
theorem stay_le {F S t : Nat} (ht : t ≤ 10) (hsub : S &&& F = S) (hF : popc F ≤ 8) : stay F S t ≤ 10 ^ 8 := by
  have h3 : popc S ≤ popc F := pc_sub hsub 17
  unfold stay
  calc (10 - t) ^ popc S * t ^ (popc F - popc S) ≤ 10 ^ popc S * 10 ^ (popc F - popc S) := Nat.mul_le_mul (Nat.pow_le_pow_left (by omega) _) (Nat.pow_le_pow_left ht _)
    _ = 10 ^ (popc S + (popc F - popc S)) := (Nat.pow_add _ _ _).symm
    _ ≤ 10 ^ 8 := Nat.pow_le_pow_right (by decide) (by omega)
theorem sm_le {F t : Nat} {Q : Nat → Prop} (ht : t ≤ 10) (hF : popc F ≤ 8) : ∀ k, sm F t Q k ≤ k * 10 ^ 8
  | 0 => Nat.zero_le _
  | k + 1 => by
    have h1 := sm_le (Q := Q) ht hF k
    rw [Nat.succ_mul]
    by_cases c : k &&& F = k ∧ Q k
    · rw [sm_y c]
      exact Nat.add_le_add h1 (stay_le ht c.1 hF)
    · rw [sm_n c]; exact Nat.le_trans h1 (Nat.le_add_right _ _)
theorem lp0_6 {s : Ob} {A : AS} {w v t : Nat} {K : Int64 → Prop} (hs : StS s A) (ho : Own A) (hw : w < A.1 0) (hv : v < 2 ^ 30) (ht : t ≤ 10) (hK : K (lN (sm (A.1 5) t (fun S => lw A w S = v) (A.1 5 + 1)))) :
    ∀ d k, k + d = A.1 5 + 1 → wpX0_toHear_L6 (nI w) (nI v) (nI t) s K (d + 1) (lN (sm (A.1 5) t (fun S => lw A w S = v) k)) (nI k) := by
  obtain ⟨a1, a2⟩ := id ho.1
  have h2 := two_pow_le a2
  have hf5 := ho.2.2.2.2.2.1.1
  have e5 : s 0 5 = nI (A.1 5) := hs.1 5 (by omega)
  intro d
  induction d with
  | zero =>
    intro k hk
    have e : k = A.1 5 + 1 := by omega
    subst e
    unfold wpX0_toHear_L6
    rw [e5]
    exact br_t (nI_lt (by omega) (by omega)) hK
  | succ d ih =>
    intro k hk
    have ih1 := ih (k + 1) (by omega)
    unfold wpX0_toHear_L6 wpX0_isPart
    rw [e5, nI_1 k]
    unfold jn1
    dsimp only
    refine br_f (nI_nlt (by omega) (by omega)) (part_br (by omega) (fun q => br_f (by decide) ?_) (fun q => br_t rfl ?_))
    · have hb := lw_bd ho hw k
      refine sp8_lengthAt hs ho hw (by omega) ?_
      rw [show len A.2.1 (A.1 0) (A.1 1 + A.1 4) k w = lw A w k from rfl]
      refine pk_eq (lw A w k) v (fun e => ?_) (fun e => ?_)
      · rw [sm_y ⟨q, e⟩] at ih1
        refine sp0_stay (by omega) (by omega) ht q ?_
        rw [lN_add]; exact ih1
      · rw [sm_n (Q := fun S => lw A w S = v) (fun z => e z.2)] at ih1; exact ih1
    · rw [sm_n (fun z => q z.1)] at ih1; exact ih1
theorem lp0_5 {s0 : Ob} {A : AS} {t : Nat} {K : Int64 → Ob → Prop} (hs0 : StS s0 A) (ho : Own A) (ht : t ≤ 10) (hK : ∀ s, Eq6 s0 s → K (lN (sm (A.1 5) t (fun S => ¬ Cl (A.1 2) (len A.2.1 (A.1 0) (A.1 1 + A.1 4) S) (A.1 0)) (A.1 5 + 1))) s) :
    ∀ d k s, k + d = A.1 5 + 1 → Eq6 s0 s → wpX0_toBeCalm_L5 (nI t) K (d + 1) (lN (sm (A.1 5) t (fun S => ¬ Cl (A.1 2) (len A.2.1 (A.1 0) (A.1 1 + A.1 4) S) (A.1 0)) k)) (nI k) s := by
  obtain ⟨a1, a2⟩ := id ho.1
  have h2 := two_pow_le a2
  have hf5 := ho.2.2.2.2.2.1.1
  intro d
  induction d with
  | zero =>
    intro k s hk hq
    have e : k = A.1 5 + 1 := by omega
    subst e
    unfold wpX0_toBeCalm_L5
    rw [(hq.st hs0).1 5 (by omega)]
    exact br_t (nI_lt (by omega) (by omega)) (hK s hq)
  | succ d ih =>
    intro k s hk hq
    have ih1 := fun s' => ih (k + 1) s' (by omega)
    have hs := hq.st hs0
    unfold wpX0_toBeCalm_L5 wpX0_isPart
    rw [hs.1 5 (by omega), nI_1 k]
    unfold jn2
    dsimp only
    refine br_f (nI_nlt (by omega) (by omega)) (part_br (by omega) (fun q => br_f (by decide) ?_) (fun q => br_t rfl ?_))
    · refine sp8_clashesBy hs ho (by omega) (fun s' q6 => ?_)
      have q' := hq.trans q6
      refine b2_br (fun c => ?_) (fun c => ?_)
      · rw [(q'.st hs0).1 5 (by omega)]
        refine sp0_stay (by omega) (by omega) ht q ?_
        rw [lN_add]
        rw [sm_y ⟨q, c⟩] at ih1; exact ih1 s' q'
      · rw [sm_n (Q := fun S => ¬ Cl (A.1 2) (len A.2.1 (A.1 0) (A.1 1 + A.1 4) S) (A.1 0)) (fun z => z.2 c)] at ih1; exact ih1 s' q'
    · rw [sm_n (fun z => q z.1)] at ih1; exact ih1 s hq
theorem lp10_35 {y : Ob} {A : AS} {S t : Nat} {K : Int64 → Prop} (hy : YS y A) (ho : Own A) (hS : S < 2 ^ A.1 0) (ht : t ≤ 10) (hsub : S &&& A.1 5 = S) (hK : K (lN (stay (A.1 5) S t))) :
    ∀ d k, k + d = A.1 0 → wpX10_likely_L35 (nI t) (nI S) y K (d + 1) (lN ((10 - t) ^ pc10 S k * t ^ (pc10 (A.1 5) k - pc10 S k))) (nI k) := by
  obtain ⟨a1, a2⟩ := id ho.1
  have h2 := two_pow_le a2
  have hf5 := ho.2.2.2.2.2.1.1
  have y6 := hy.1.2.2.2.2.2.1
  intro d
  induction d with
  | zero =>
    intro k hk
    have e : k = A.1 0 := by omega
    subst e
    unfold wpX10_likely_L35
    rw [hy.1.1]
    refine br_t (nI_le (by omega) (by omega)) ?_
    unfold stay at hK
    rw [popc_n hS a2, popc_n hf5 a2] at hK
    exact hK
  | succ d ih =>
    intro k hk
    have ih1 := ih (k + 1) (by omega)
    have hle := pc_sub hsub k
    simp only [pc10] at ih1
    unfold wpX10_likely_L35
    rw [hy.1.1, y6, nI_1 k]
    refine br_f (nI_ge (by omega) (by omega)) (sp10_has (by omega) (by omega) ?_)
    unfold jn2
    dsimp only
    refine b2_br (fun q => ?_) (fun q => sp10_has (by omega) (by omega) (b2_br (fun q2 => ?_) (fun q2 => ?_)))
    · have q2 : ¬ S.testBit k = true := fun z => q (sub_bit hsub z)
      rw [if_neg q, if_neg q2, Nat.add_zero, Nat.add_zero] at ih1
      rw [show (1 : Int64) = lN 1 from rfl, lN_mul, Nat.mul_one]
      exact ih1
    · rw [if_pos q, if_neg q2] at ih1
      simp only [Nat.add_zero] at ih1
      rw [show pc10 (A.1 5) k + 1 - pc10 S k = (pc10 (A.1 5) k - pc10 S k) + 1 by omega, Nat.pow_succ, ← Nat.mul_assoc] at ih1
      rw [nI_l (by omega), lN_mul]
      exact ih1
    · rw [if_pos q, if_pos q2, show pc10 (A.1 5) k + 1 - (pc10 S k + 1) = pc10 (A.1 5) k - pc10 S k by omega, Nat.pow_succ, Nat.mul_assoc, Nat.mul_comm (10 - t), ← Nat.mul_assoc] at ih1
      have e : (10 : Int32) - nI t = nI (10 - t) := pk_sub (a := 10) (by omega)
      rw [e, nI_l (by omega), lN_mul]
      exact ih1
theorem lp10_l6 {y : Ob} {A : AS} {t : Nat} {c1 c2 : Int32} {Q : Nat → Prop} {K : Int64 → Prop} (hy : YS y A) (ho : Own A) (ht : t ≤ 10) (hx : (∃ w v, w < A.1 0 ∧ v < 2 ^ 30 ∧ c1 = nI w ∧ c2 = nI v ∧ ∀ S, Q S ↔ lw A w S = v) ∨ (c1 = -6 ∧ ∀ S, Q S ↔ ¬ Cl (A.1 2) (len A.2.1 (A.1 0) (A.1 1 + A.1 4) S) (A.1 0))) (hK : K (lN (sm (A.1 5) t Q (2 ^ A.1 0)))) :
    ∀ d k, k + d = 2 ^ A.1 0 → wpX10_likely_L6 c1 c2 (nI t) y K (d + 1) (lN (sm (A.1 5) t Q k)) (nI k) := by
  obtain ⟨⟨a1, a2⟩, b1, l1, -, d1, -, h8, hg⟩ := id ho
  have h2 := two_pow_le a2
  have hf5 := ho.2.2.2.2.2.1.1
  have y6 := hy.1.2.2.2.2.2.1
  intro d
  induction d with
  | zero =>
    intro k hk
    have e : k = 2 ^ A.1 0 := by omega
    subst e
    unfold wpX10_likely_L6
    rw [hy.1.1, jshl_1 (by omega)]
    exact br_t (nI_le (by omega) (by omega)) hK
  | succ d ih =>
    intro k hk
    have ih1 := ih (k + 1) (by omega)
    unfold wpX10_likely_L6
    rw [hy.1.1, jshl_1 (by omega), y6, nI_1 k]
    unfold jn1
    dsimp only
    refine br_f (nI_ge (by omega) (by omega)) (part_br (by omega) (fun q => ⟨A.1 0 + 1, ?_⟩) (fun q => ?_))
    · have s35 := fun K' hK' => lp10_35 (K := K') hy ho (show k < 2 ^ A.1 0 by omega) ht q hK' (A.1 0) 0 (by omega)
      have e1 : lN ((10 - t) ^ pc10 k 0 * t ^ (pc10 (A.1 5) 0 - pc10 k 0)) = 1 := rfl
      rw [e1] at s35
      refine s35 _ ?_
      unfold jn2
      dsimp only
      have no : ¬ Q k → (((0 : Int32) = 0) → wpX10_likely_L6 c1 c2 (nI t) y K (d + 1) (lN (sm (A.1 5) t Q k) + 0) (nI (k + 1))) ∧ (¬ ((0 : Int32) = 0) → wpX10_likely_L6 c1 c2 (nI t) y K (d + 1) (lN (sm (A.1 5) t Q k) + lN (stay (A.1 5) k t)) (nI (k + 1))) := fun z => by
        rw [sm_n (fun x => z x.2)] at ih1
        refine br_t rfl ?_
        rw [show (0 : Int64) = lN 0 from rfl, lN_add, Nat.add_zero]
        exact ih1
      have yes : Q k → (((1 : Int32) = 0) → wpX10_likely_L6 c1 c2 (nI t) y K (d + 1) (lN (sm (A.1 5) t Q k) + 0) (nI (k + 1))) ∧ (¬ ((1 : Int32) = 0) → wpX10_likely_L6 c1 c2 (nI t) y K (d + 1) (lN (sm (A.1 5) t Q k) + lN (stay (A.1 5) k t)) (nI (k + 1))) := fun z => by
        rw [sm_y ⟨q, z⟩] at ih1
        refine br_f (by decide) ?_
        rw [lN_add]
        exact ih1
      rw [hy.1.2.2.2.2.1]
      rcases hx with ⟨w, v, hw, hv, rfl, rfl, hQ⟩ | ⟨rfl, hQ⟩
      · have hb := lw_bd ho hw k
        refine br_t (nI_le (a := 0) (by omega) (by omega)) (sp10_lengthOf hy.1.1 hy.1.2.1 hy.2.1 hg a2 b1 d1 hw (by omega) ?_)
        rw [show len A.2.1 (A.1 0) (A.1 1 + A.1 4) k w = lw A w k from rfl]
        exact pk_eq (lw A w k) v (fun e => yes ((hQ k).mpr e)) (fun e => no (fun z => e ((hQ k).mp z)))
      · refine br_f (by decide) (sp10_clashes hy.1.1 hy.1.2.1 hy.1.2.2.1 hy.2.1 hg a2 b1 d1 (by omega) (by omega) (b2_br (fun c => yes ((hQ k).mpr c)) (fun c => no (fun z => (hQ k).mp z c))))
    · rw [sm_n (fun x => q x.1)] at ih1; exact ih1
theorem lp10_pg {K : Int64 → Prop} : ∀ (f a b : Nat), a < 2 ^ 63 → b < 2 ^ 63 → b < f → K (lN (Nat.gcd a b)) → wpX10_part_L39 K f (lN a) (lN b)
  | 0, a, b, ha, hb, h, hk => absurd h (Nat.not_lt_zero _)
  | f + 1, a, b, ha, hb, h, hk => by
    unfold wpX10_part_L39
    by_cases e : b = 0
    · subst e
      rw [Nat.gcd_zero_right] at hk
      exact br_t (cmp_eq 0) hk
    · have hne : ¬ lN b = 0 := fun q => by
        have := (pk_lEQ (b := 0) hb (by omega)).mp q
        omega
      have hc : ¬ lg_cmp (lN b) (0 : Int64) = 0 := by
        have : lg_cmp (lN b) (lN 0) = 1 := cmp_gt hb (by omega) (by omega)
        show ¬ lg_cmp (lN b) (lN 0) = 0
        rw [this]; decide
      have hm := Nat.mod_lt a (show 0 < b by omega)
      refine br_f hc ⟨hne, ?_⟩
      unfold jremL
      rw [pk_lRem ha (by omega) hb]
      rw [← gcd_step] at hk
      exact lp10_pg f b (a % b) hb (by omega) (by omega) hk
theorem sp10_part {y : Ob} {A : AS} {a : Nat} {v : Int32} {post : Int64 → Prop} (hy : YS y A) (ho : Own A) (ha : a < 2 ^ 60) (h0 : v = 0 → post (lN (a / Nat.gcd a (10 ^ popc (A.1 5))))) (h1 : ¬ v = 0 → post (lN (10 ^ popc (A.1 5) / Nat.gcd a (10 ^ popc (A.1 5))))) : wpX10_part y (lN a) v post := by
  obtain ⟨a1, a2⟩ := id ho.1
  have h2 := two_pow_le a2
  have hf5 := ho.2.2.2.2.2.1.1
  have hm := may_le a2
  have hp8 : popc (A.1 5) ≤ 8 := Nat.le_trans ho.2.2.2.2.2.1.2 hm
  have hten : 10 ^ popc (A.1 5) ≤ 10 ^ 8 := Nat.pow_le_pow_right (by decide) hp8
  have hpos : 0 < 10 ^ popc (A.1 5) := Nat.pow_pos (by decide)
  have y6 := hy.1.2.2.2.2.2.1
  have key : ∀ (K : Int64 → Prop), K (lN (10 ^ popc (A.1 5))) → ∀ d k, k + d = popc (A.1 5) → wpX10_part_L6 y K (d + 1) (lN (10 ^ k)) (nI k) := by
    intro K hK d
    induction d with
    | zero =>
      intro k hk
      have e : k = popc (A.1 5) := by omega
      subst e
      unfold wpX10_part_L6
      rw [y6]
      exact sp10_bits (by omega) (br_t (nI_le (by omega) (by omega)) hK)
    | succ d ih =>
      intro k hk
      unfold wpX10_part_L6
      rw [y6]
      refine sp10_bits (by omega) (br_f (nI_ge (by omega) (by omega)) ?_)
      rw [nI_1 k, show (10 : Int64) = lN 10 from rfl, lN_mul, ← Nat.pow_succ]
      exact ih (k + 1) (by omega)
  have hg : 0 < Nat.gcd a (10 ^ popc (A.1 5)) := Nat.gcd_pos_of_pos_right _ hpos
  have hgl : Nat.gcd a (10 ^ popc (A.1 5)) ≤ 10 ^ 8 := Nat.le_trans (Nat.gcd_le_right _ hpos) hten
  refine ⟨_, key _ ⟨10 ^ 8 + 1, ?_⟩ (popc (A.1 5)) 0 (by omega)⟩
  refine lp10_pg (10 ^ 8 + 1) a (10 ^ popc (A.1 5)) (by omega) (by omega) (by omega) ?_
  have hne : ¬ lN (Nat.gcd a (10 ^ popc (A.1 5))) = 0 := fun q => by
    have := (pk_lEQ (b := 0) (by omega) (by omega)).mp q
    omega
  refine br_c (fun e => ⟨hne, ?_⟩) (fun e => ⟨hne, ?_⟩)
  · rw [pk_lDiv (by omega) hg (by omega)]; exact h0 e
  · rw [pk_lDiv (by omega) hg (by omega)]; exact h1 e
theorem sp0_ofAll {s : Ob} {A : AS} {post : Int64 → Prop} (hs : StS s A) (ho : Own A) (hp : post (lN (10 ^ popc (A.1 5)))) : wpX0_ofAll s post := by
  obtain ⟨a1, a2⟩ := id ho.1
  have h2 := two_pow_le a2
  have hf5 := ho.2.2.2.2.2.1.1
  have h3 := popc_le (A.1 5)
  unfold wpX0_ofAll
  rw [hs.1 5 (by omega)]
  exact sp_bitCount (by omega) (sp0_power (a := 10) (by omega) (by omega) hp)
theorem chance_mod {y : Ob} {A : AS} {t : Nat} {Q : Nat → Prop} {c1 c2 v : Int32} {post : Int64 → Prop} (hy : YS y A) (ho : Own A) (ht : t ≤ 10) (hx : (∃ w v, w < A.1 0 ∧ v < 2 ^ 30 ∧ c1 = nI w ∧ c2 = nI v ∧ ∀ S, Q S ↔ lw A w S = v) ∨ (c1 = -6 ∧ ∀ S, Q S ↔ ¬ Cl (A.1 2) (len A.2.1 (A.1 0) (A.1 1 + A.1 4) S) (A.1 0))) (h0 : v = 0 → post (lN (sm (A.1 5) t Q (A.1 5 + 1) / Nat.gcd (sm (A.1 5) t Q (A.1 5 + 1)) (10 ^ popc (A.1 5))))) (h1 : ¬ v = 0 → post (lN (10 ^ popc (A.1 5) / Nat.gcd (sm (A.1 5) t Q (A.1 5 + 1)) (10 ^ popc (A.1 5))))) : wpX10_likely y c1 c2 (nI t) (fun r => wpX10_part y r v (fun r2 => post r2)) := by
  obtain ⟨a1, a2⟩ := id ho.1
  have h2 := two_pow_le a2
  have hf5 := ho.2.2.2.2.2.1.1
  have hp8 : popc (A.1 5) ≤ 8 := Nat.le_trans ho.2.2.2.2.2.1.2 (may_le a2)
  have e : sm (A.1 5) t Q (2 ^ A.1 0) = sm (A.1 5) t Q (A.1 5 + 1) := by
    have := sm_ext (F := A.1 5) (t := t) (Q := Q) (2 ^ A.1 0 - (A.1 5 + 1))
    rw [show A.1 5 + 1 + (2 ^ A.1 0 - (A.1 5 + 1)) = 2 ^ A.1 0 by omega] at this
    exact this
  have hle := sm_le (Q := Q) ht hp8 (A.1 5 + 1)
  have hle2 : sm (A.1 5) t Q (A.1 5 + 1) < 2 ^ 60 := by
    have : (A.1 5 + 1) * 10 ^ 8 ≤ 1024 * 10 ^ 8 := Nat.mul_le_mul_right _ (by omega)
    omega
  refine ⟨2 ^ A.1 0 + 1, lp10_l6 hy ho ht hx ?_ (2 ^ A.1 0) 0 (by omega)⟩
  rw [e]
  exact sp10_part hy ho hle2 h0 h1
theorem low_ok {A : AS} {t : Nat} {Q : Nat → Prop} {v : Int32} {post : Int64 → Prop} (ho : Own A) (ht : t ≤ 10) (h0 : v = 0 → post (lN (sm (A.1 5) t Q (A.1 5 + 1) / Nat.gcd (sm (A.1 5) t Q (A.1 5 + 1)) (10 ^ popc (A.1 5))))) (h1 : ¬ v = 0 → post (lN (10 ^ popc (A.1 5) / Nat.gcd (sm (A.1 5) t Q (A.1 5 + 1)) (10 ^ popc (A.1 5))))) : wpX9_lowestTerms (lN (sm (A.1 5) t Q (A.1 5 + 1))) (lN (10 ^ popc (A.1 5))) v post := by
  obtain ⟨a1, a2⟩ := id ho.1
  have h2 := two_pow_le a2
  have hf5 := ho.2.2.2.2.2.1.1
  have hp8 : popc (A.1 5) ≤ 8 := Nat.le_trans ho.2.2.2.2.2.1.2 (may_le a2)
  have hten : 10 ^ popc (A.1 5) ≤ 10 ^ 8 := Nat.pow_le_pow_right (by decide) hp8
  have hpos : 0 < 10 ^ popc (A.1 5) := Nat.pow_pos (by decide)
  have hle := sm_le (Q := Q) ht hp8 (A.1 5 + 1)
  have hle2 : sm (A.1 5) t Q (A.1 5 + 1) < 2 ^ 60 := by
    have : (A.1 5 + 1) * 10 ^ 8 ≤ 1024 * 10 ^ 8 := Nat.mul_le_mul_right _ (by omega)
    omega
  exact sp9_low (Or.inr hpos) hle2 (by omega) h0 h1
theorem st_slips {oX oS oY : Ob} {A : AS} (h : Good oS oY A) (v1 v2 v3 v4 : Int32) {K : Int64 → Int64 → Prop} (hK : ∀ r, K r r) : wpX9_slips oX oS v1 v2 v3 v4 (fun r => wpX10_slips oY v1 v2 v3 v4 (fun r2 => K r r2)) := by
  obtain ⟨hs, hy, ho, hsg, how⟩ := id h
  obtain ⟨a1, a2⟩ := id ho.1
  have h2 := two_pow_le a2
  have hf5 := ho.2.2.2.2.2.1.1
  unfold wpX9_slips
  rcases win_cases v1 a2 with q | ⟨w, hw, rfl⟩
  · refine sp8_has_n (hs.1 0 (by omega)) q (br_t rfl ?_)
    unfold wpX10_slips
    exact sp10_isWindow_n hy.1.1 (by omega) a2 q (br_t rfl (hK _))
  · refine sp8_has_y (hs.1 0 (by omega)) a2 hw (br_f (by decide) ?_)
    refine sp9_out (b2_br (fun i1 => ?_) (fun o1 => ?_))
    · refine sp9_out (b2_br (fun i2 => ?_) (fun o2 => ?_))
      · refine sp9_out (b2_br (fun i3 => ?_) (fun o3 => ?_))
        · obtain ⟨v, s1, s2, rfl⟩ := in_rng (a := 1) (b := 200) (x := v2) (by omega) (fun q => i1 (Or.inl q)) (fun q => i1 (Or.inr q)) (by omega)
          obtain ⟨t, t1, t2, rfl⟩ := in_rng (a := 0) (b := 10) (x := v3) (by omega) (fun q => i2 (Or.inl q)) (fun q => i2 (Or.inr q)) (by omega)
          have mod : ∀ post : Int64 → Prop, (v4 = 0 → post (lN (sm (A.1 5) t (fun S => lw A w S = v) (A.1 5 + 1) / Nat.gcd (sm (A.1 5) t (fun S => lw A w S = v) (A.1 5 + 1)) (10 ^ popc (A.1 5))))) → (¬ v4 = 0 → post (lN (10 ^ popc (A.1 5) / Nat.gcd (sm (A.1 5) t (fun S => lw A w S = v) (A.1 5 + 1)) (10 ^ popc (A.1 5))))) → wpX10_slips oY (nI w) (nI v) (nI t) v4 post := by
            intro post p0 p1
            unfold wpX10_slips
            refine sp10_isWindow_y hy.1.1 a2 hw (br_f (by decide) (sp10_in (b2_br (fun q => absurd i1 q) (fun _ => sp10_in (b2_br (fun q => absurd i2 q) (fun _ => sp10_in (b2_br (fun q => absurd i3 q) (fun _ => ?_))))))))
            exact chance_mod hy ho t2 (Or.inl ⟨w, v, hw, by omega, rfl, rfl, fun _ => Iff.rfl⟩) p0 p1
          refine ⟨A.1 5 + 1 + 1, lp0_6 hs ho hw (by omega) t2 ?_ (A.1 5 + 1) 0 (by omega)⟩
          refine sp0_ofAll hs ho (low_ok ho t2 (fun e => mod _ (fun _ => hK _) (fun z => absurd e z)) (fun e => mod _ (fun z => absurd z e) (fun _ => hK _)))
        · unfold wpX10_slips
          exact sp10_isWindow_y hy.1.1 a2 hw (br_f (by decide) (sp10_in (b2_br (fun q => absurd i1 q) (fun _ => sp10_in (b2_br (fun q => absurd i2 q) (fun _ => sp10_in (b2_br (fun _ => hK _) (fun q => absurd o3 q))))))))
      · unfold wpX10_slips
        exact sp10_isWindow_y hy.1.1 a2 hw (br_f (by decide) (sp10_in (b2_br (fun q => absurd i1 q) (fun _ => sp10_in (b2_br (fun _ => hK _) (fun q => absurd o2 q))))))
    · unfold wpX10_slips
      exact sp10_isWindow_y hy.1.1 a2 hw (br_f (by decide) (sp10_in (b2_br (fun _ => hK _) (fun q => absurd o1 q))))
theorem st_calm {oX oS oY : Ob} {A : AS} (h : Good oS oY A) (v1 v2 : Int32) {K : Int64 → Int64 → Ob → Prop} (hK : ∀ r s', Eq6 oS s' → K r r s') : wpX9_calm oX oS v1 v2 (fun r s' => wpX10_calm oY v1 v2 (fun r2 => K r r2 s')) := by
  obtain ⟨hs, hy, ho, hsg, how⟩ := id h
  obtain ⟨a1, a2⟩ := id ho.1
  have h2 := two_pow_le a2
  have hf5 := ho.2.2.2.2.2.1.1
  unfold wpX9_calm
  refine sp9_out (b2_br (fun i2 => ?_) (fun o2 => ?_))
  · refine sp9_out (b2_br (fun i3 => ?_) (fun o3 => ?_))
    · obtain ⟨t, t1, t2, rfl⟩ := in_rng (a := 0) (b := 10) (x := v1) (by omega) (fun q => i2 (Or.inl q)) (fun q => i2 (Or.inr q)) (by omega)
      refine ⟨A.1 5 + 1 + 1, lp0_5 hs ho t2 (fun s' q6 => ?_) (A.1 5 + 1) 0 oS (by omega) (Eq6.refl _)⟩
      have mod : ∀ post : Int64 → Prop, (v2 = 0 → post (lN (sm (A.1 5) t (fun S => ¬ Cl (A.1 2) (len A.2.1 (A.1 0) (A.1 1 + A.1 4) S) (A.1 0)) (A.1 5 + 1) / Nat.gcd (sm (A.1 5) t (fun S => ¬ Cl (A.1 2) (len A.2.1 (A.1 0) (A.1 1 + A.1 4) S) (A.1 0)) (A.1 5 + 1)) (10 ^ popc (A.1 5))))) → (¬ v2 = 0 → post (lN (10 ^ popc (A.1 5) / Nat.gcd (sm (A.1 5) t (fun S => ¬ Cl (A.1 2) (len A.2.1 (A.1 0) (A.1 1 + A.1 4) S) (A.1 0)) (A.1 5 + 1)) (10 ^ popc (A.1 5))))) → wpX10_calm oY (nI t) v2 post := by
        intro post p0 p1
        unfold wpX10_calm
        refine sp10_in (b2_br (fun q => absurd i2 q) (fun _ => sp10_in (b2_br (fun q => absurd i3 q) (fun _ => ?_))))
        exact chance_mod hy ho t2 (Or.inr ⟨rfl, fun _ => Iff.rfl⟩) p0 p1
      refine sp0_ofAll (q6.st hs) ho (low_ok ho t2 (fun e => mod _ (fun _ => hK _ _ q6) (fun z => absurd e z)) (fun e => mod _ (fun z => absurd z e) (fun _ => hK _ _ q6)))
    · unfold wpX10_calm
      exact sp10_in (b2_br (fun q => absurd i2 q) (fun _ => sp10_in (b2_br (fun _ => hK _ _ (Eq6.refl _)) (fun q => absurd o3 q))))
  · unfold wpX10_calm
    exact sp10_in (b2_br (fun _ => hK _ _ (Eq6.refl _)) (fun q => absurd o2 q))
