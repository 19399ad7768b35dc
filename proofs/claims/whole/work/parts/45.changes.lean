/-! changes -/
def FAR : Nat := 1000000
def Dm (c : Nat → Nat) : Nat → Nat → Nat
  | 0, S => c S
  | v + 1, S => min (Dm c v S) (Dm c v (S ^^^ 2 ^ v) + 1)
theorem Dm_self (c : Nat → Nat) (S : Nat) : ∀ v, Dm c v S ≤ c S
  | 0 => Nat.le_refl _
  | v + 1 => Nat.le_trans (Nat.min_le_left _ _) (Dm_self c S v)
theorem bit_small {X v : Nat} (h : X < 2 ^ (v + 1)) (hb : X.testBit v = false) : X < 2 ^ v := by
  apply Nat.lt_pow_two_of_testBit
  intro i hi
  by_cases e : i = v
  · rw [e]; exact hb
  · exact Nat.testBit_lt_two_pow (Nat.lt_of_lt_of_le h (Nat.pow_le_pow_right (by decide) (by omega)))
theorem xor_sh (T S x : Nat) : T ^^^ (S ^^^ x) = (T ^^^ S) ^^^ x := (Nat.xor_assoc _ _ _).symm
theorem Dm_le (c : Nat → Nat) : ∀ v S T, v ≤ 10 → T ^^^ S < 2 ^ v → Dm c v S ≤ c T + popc (T ^^^ S)
  | 0, S, T, _, h => by
    have e : T = S := xor_z.mp (by rw [Nat.pow_zero] at h; omega)
    subst e
    exact Nat.le_add_right _ _
  | v + 1, S, T, hv, h => by
    simp only [Dm]
    cases hb : (T ^^^ S).testBit v with
    | false =>
      exact Nat.le_trans (Nat.min_le_left _ _) (Dm_le c v S T (by omega) (bit_small h hb))
    | true =>
      have h1 : (T ^^^ S) ^^^ 2 ^ v < 2 ^ (v + 1) := Nat.xor_lt_two_pow h (Nat.pow_lt_pow_right (by decide) (by omega))
      have h2 := bit_small h1 (by rw [flip_bit, hb]; rfl)
      have h3 := Dm_le c v (S ^^^ 2 ^ v) T (by omega) (by rw [xor_sh]; exact h2)
      rw [xor_sh] at h3
      have h4 := popc_clr (f := T ^^^ S) (w := v) (by omega) hb
      refine Nat.le_trans (Nat.min_le_right _ _) ?_
      omega
theorem Dm_att (c : Nat → Nat) : ∀ v S, v ≤ 10 → ∃ T, T ^^^ S < 2 ^ v ∧ c T + popc (T ^^^ S) ≤ Dm c v S
  | 0, S, _ => ⟨S, by rw [Nat.xor_self]; decide, by rw [Nat.xor_self, popc_0]; exact Nat.le_refl _⟩
  | v + 1, S, hv => by
    obtain ⟨T1, a1, a2⟩ := Dm_att c v S (by omega)
    obtain ⟨T2, b1, b2⟩ := Dm_att c v (S ^^^ 2 ^ v) (by omega)
    have hp : (2 : Nat) ^ v < 2 ^ (v + 1) := Nat.pow_lt_pow_right (by decide) (by omega)
    simp only [Dm]
    by_cases q : Dm c v S ≤ Dm c v (S ^^^ 2 ^ v) + 1
    · exact ⟨T1, by omega, by rw [Nat.min_eq_left q]; exact a2⟩
    · refine ⟨T2, ?_, ?_⟩
      · have e : T2 ^^^ S = (T2 ^^^ (S ^^^ 2 ^ v)) ^^^ 2 ^ v := by rw [xor_sh, Nat.xor_assoc, Nat.xor_self, Nat.xor_zero]
        rw [e]
        exact Nat.xor_lt_two_pow (by omega) hp
      · rw [Nat.min_eq_right (by omega)]
        rw [xor_sh] at b1 b2
        have hb : ((T2 ^^^ S) ^^^ 2 ^ v).testBit v = false := Nat.testBit_lt_two_pow b1
        rw [flip_bit] at hb
        have hb2 : (T2 ^^^ S).testBit v = true := by cases z : (T2 ^^^ S).testBit v <;> rw [z] at hb <;> first | rfl | exact absurd hb (by decide)
        have h4 := popc_clr (f := T2 ^^^ S) (w := v) (by omega) hb2
        omega
def mm (c : Nat → Nat) (S : Nat) : Nat → Nat
  | 0 => FAR
  | k + 1 => min (mm c S k) (if c k = FAR then FAR else c k + popc (k ^^^ S))
theorem mm_le (c : Nat → Nat) (S : Nat) : ∀ k, mm c S k ≤ FAR
  | 0 => Nat.le_refl _
  | k + 1 => Nat.le_trans (Nat.min_le_left _ _) (mm_le c S k)
theorem mm_le2 (c : Nat → Nat) (S T : Nat) (h : c T ≠ FAR) : ∀ k, T < k → mm c S k ≤ c T + popc (T ^^^ S)
  | 0, q => absurd q (Nat.not_lt_zero _)
  | k + 1, q => by
    simp only [mm]
    by_cases e : T = k
    · subst e; rw [if_neg h]; exact Nat.min_le_right _ _
    · exact Nat.le_trans (Nat.min_le_left _ _) (mm_le2 c S T h k (by omega))
theorem mm_att (c : Nat → Nat) (S : Nat) : ∀ k, mm c S k = FAR ∨ ∃ T, T < k ∧ mm c S k = c T + popc (T ^^^ S)
  | 0 => Or.inl rfl
  | k + 1 => by
    simp only [mm]
    by_cases q : mm c S k ≤ (if c k = FAR then FAR else c k + popc (k ^^^ S))
    · rw [Nat.min_eq_left q]
      rcases mm_att c S k with z | ⟨T, z1, z2⟩
      · exact Or.inl z
      · exact Or.inr ⟨T, by omega, z2⟩
    · rw [Nat.min_eq_right (by omega)]
      by_cases e : c k = FAR
      · rw [if_pos e]; exact Or.inl rfl
      · rw [if_neg e]; exact Or.inr ⟨k, by omega, rfl⟩
theorem mm_Dm {c : Nat → Nat} {n S : Nat} (hn : n ≤ 10) (hS : S < 2 ^ n) (hc : ∀ T, c T ≤ FAR) : mm c S (2 ^ n) = Dm c n S := by
  apply Nat.le_antisymm
  · obtain ⟨T, t1, t2⟩ := Dm_att c n S hn
    have hT : T < 2 ^ n := by
      have : T = (T ^^^ S) ^^^ S := by rw [Nat.xor_assoc, Nat.xor_self, Nat.xor_zero]
      rw [this]; exact Nat.xor_lt_two_pow t1 hS
    by_cases e : c T = FAR
    · have := mm_le c S (2 ^ n); omega
    · exact Nat.le_trans (mm_le2 c S T e _ hT) t2
  · rcases mm_att c S (2 ^ n) with z | ⟨T, z1, z2⟩
    · rw [z]; exact Nat.le_trans (Dm_self c S n) (hc S)
    · rw [z2]; exact Dm_le c n S T hn (Nat.xor_lt_two_pow z1 hS)
def Lq (A : AS) (a S : Nat) : Nat := if popc S ≤ may (A.1 0) then lw A a S else 0
def cs (A : AS) (a : Nat) (P : PD) : Nat → Nat → Nat
  | 0, S => if S = A.1 5 then 0 else FAR
  | i + 1, S => if Lq A a S = tone P i then Dm (cs A a P i) (A.1 0) S else FAR
theorem cs_le (A : AS) (a : Nat) (P : PD) : ∀ i S, cs A a P i S ≤ FAR
  | 0, S => by
    simp only [cs]
    by_cases c : S = A.1 5
    · rw [if_pos c]; exact Nat.zero_le _
    · rw [if_neg c]; exact Nat.le_refl _
  | i + 1, S => by
    simp only [cs]
    by_cases c : Lq A a S = tone P i
    · rw [if_pos c]; exact Nat.le_trans (Dm_self _ _ _) (cs_le A a P i S)
    · rw [if_neg c]; exact Nat.le_refl _
/-! the class -/
theorem sp7_even {l : Ob} {S T a b : Nat} {post : Ob → Prop} (hS : S < 1024) (hT : T < 1024) (hne : S ≠ T) (ha : a ≤ FAR) (hb : b ≤ FAR) (h1 : l 2 S = nI a) (h2 : l 2 T = nI b) (hp : ∀ l', l' 1 = l 1 → l' 2 S = nI (min a (b + 1)) → l' 2 T = nI (min b (a + 1)) → (∀ X, X ≠ S → X ≠ T → l' 2 X = l 2 X) → post l') : wpX7_evenOut l (nI S) (nI T) post := by
  unfold FAR at ha hb
  unfold wpX7_evenOut
  rw [jld_n (by omega), jld_n (by omega), h1, h2, nI_1, nI_1, nC_n (by omega), nC_n (by omega)]
  refine ⟨vp_in_nI hS (by omega), vp_in_nI hT (by omega), pk_le b (a + 1) (fun c => ⟨vp_in_nI hT (by omega), vp_in_nI hS (by omega), pk_le a (b + 1) (fun c2 => ?_) (fun c2 => ⟨vp_in_nI hT (by omega), vp_in_nI hS (by omega), ?_⟩)⟩) (fun c => ⟨vp_in_nI hS (by omega), vp_in_nI hT (by omega), ?_⟩)⟩
  · refine hp l rfl ?_ ?_ (fun X _ _ => rfl)
    · rw [Nat.min_eq_left c2]; exact h1
    · rw [Nat.min_eq_left c]; exact h2
  · refine hp _ (pa_n _ _ _ (by decide)) ?_ ?_ (fun X x1 x2 => ?_)
    · rw [pa_s, Nat.min_eq_right (by omega)]; simp [upd]
    · rw [pa_s, Nat.min_eq_left c]
      simp only [upd, if_neg (fun e : T = S => hne e.symm)]; exact h2
    · rw [pa_s]; simp only [upd, if_neg x1]
  · refine hp _ (pa_n _ _ _ (by decide)) ?_ ?_ (fun X x1 x2 => ?_)
    · rw [pa_s, Nat.min_eq_left (by omega)]
      simp only [upd, if_neg hne]; exact h1
    · rw [pa_s, Nat.min_eq_right (by omega)]; simp [upd]
    · rw [pa_s]; simp only [upd, if_neg x2]
def lo (v T : Nat) : Nat := if T.testBit v = true then T ^^^ 2 ^ v else T
theorem lo_le (v T : Nat) : lo v T ≤ T := by
  unfold lo
  by_cases c : T.testBit v = true
  · rw [if_pos c]; have := flip_less c; omega
  · rw [if_neg c]; exact Nat.le_refl _
theorem lo_bit (v T : Nat) : (lo v T).testBit v = false := by
  unfold lo
  by_cases c : T.testBit v = true
  · rw [if_pos c, flip_bit, c]; rfl
  · rw [if_neg c]; cases z : T.testBit v
    · rfl
    · exact absurd z c
theorem or_flip {S v : Nat} (h : S.testBit v = false) : S ||| 2 ^ v = S ^^^ 2 ^ v := by
  apply Nat.eq_of_testBit_eq
  intro i
  rw [Nat.testBit_or, Nat.testBit_xor, Nat.testBit_two_pow]
  by_cases c : v = i
  · subst c; rw [h]; simp
  · simp [c]
theorem lp7_15 {l0 : Ob} {c : Nat → Nat} {n v : Nat} {K : Ob → Prop} (hn : n ≤ 10) (hv : v < n) (hc : ∀ T, c T ≤ FAR) (hK : ∀ l, l 1 = l0 1 → (∀ T, T < 2 ^ n → l 2 T = nI (Dm c (v + 1) T)) → K l) :
    ∀ d k l, k + d = 2 ^ n → l 1 = l0 1 → (∀ T, T < 2 ^ n → l 2 T = nI (if lo v T < k then Dm c (v + 1) T else Dm c v T)) → wpX7_spreadCosts_L15 (nI (2 ^ n)) (nI (2 ^ v)) K (d + 1) (nI k) l := by
  have h2 := two_pow_le hn
  intro d
  induction d with
  | zero =>
    intro k l hk h1 hT
    unfold wpX7_spreadCosts_L15
    refine br_t (nI_le (by omega) (by omega)) (hK l h1 (fun T hTN => ?_))
    rw [hT T hTN, if_pos (by have := lo_le v T; omega)]
  | succ d ih =>
    intro k l hk h1 hT
    unfold wpX7_spreadCosts_L15
    rw [nI_or, nI_1 k]
    unfold jn1
    dsimp only
    have hor := or_ltn (S := k) (w := v) (n := n) (by omega) hv
    refine br_f (nI_ge (by omega) (by omega)) ?_
    cases hb : k.testBit v with
    | true =>
      refine br_t (by rw [or_eq hb]) (ih (k + 1) l (by omega) h1 (fun T hTN => ?_))
      have : lo v T ≠ k := fun e => by have := lo_bit v T; rw [e, hb] at this; exact absurd this (by decide)
      rw [hT T hTN]
      by_cases q : lo v T < k
      · rw [if_pos q, if_pos (by omega)]
      · rw [if_neg q, if_neg (by omega)]
    | false =>
      have hgt := or_gt hb
      refine br_f (fun q => absurd ((nI_eq (by omega) (by omega)).mp q) (by omega)) (br_f (nI_ge (by omega) (by omega)) ?_)
      have hb' : ¬ k.testBit v = true := by rw [hb]; exact Bool.noConfusion
      have hor' := hor
      rw [or_flip hb] at hor' ⊢
      have lk : lo v k = k := by unfold lo; rw [if_neg hb']
      have lk2 : lo v (k ^^^ 2 ^ v) = k := by
        unfold lo
        rw [if_pos (by rw [flip_bit, hb]; rfl), Nat.xor_assoc, Nat.xor_self, Nat.xor_zero]
      have e1 := hT k (by omega)
      have e2 := hT _ hor'
      rw [lk, if_neg (by omega)] at e1
      rw [lk2, if_neg (by omega)] at e2
      rw [or_flip hb] at hgt
      refine sp7_even (by omega) (by omega) (by omega) (Nat.le_trans (Dm_self c _ v) (hc _)) (Nat.le_trans (Dm_self c _ v) (hc _)) e1 e2 (fun l' w1 w2 w3 w4 => ih (k + 1) l' (by omega) (w1.trans h1) (fun T hTN => ?_))
      by_cases x1 : T = k
      · rw [x1, w2, lk, if_pos (by omega)]; rfl
      · by_cases x2 : T = k ^^^ 2 ^ v
        · rw [x2, w3, lk2, if_pos (by omega)]
          simp only [Dm]
          rw [Nat.xor_assoc, Nat.xor_self, Nat.xor_zero]
        · have : lo v T ≠ k := fun e => by
            unfold lo at e
            by_cases z : T.testBit v = true
            · rw [if_pos z] at e
              apply x2
              rw [← e, Nat.xor_assoc, Nat.xor_self, Nat.xor_zero]
            · rw [if_neg z] at e; exact x1 e
          rw [w4 T x1 x2, hT T hTN]
          by_cases q : lo v T < k
          · rw [if_pos q, if_pos (by omega)]
          · rw [if_neg q, if_neg (by omega)]
theorem lp7_s2 {l0 : Ob} {c : Nat → Nat} {n : Nat} {K : Ob → Prop} (hn : n ≤ 10) (hc : ∀ T, c T ≤ FAR) (hK : ∀ l, l 1 = l0 1 → (∀ T, T < 2 ^ n → l 2 T = nI (Dm c n T)) → K l) :
    ∀ d v l, v + d = n → l 1 = l0 1 → (∀ T, T < 2 ^ n → l 2 T = nI (Dm c v T)) → wpX7_spreadCosts_L2 (nI n) (nI (2 ^ n)) K (d + 1) (nI v) l := by
  have h2 := two_pow_le hn
  intro d
  induction d with
  | zero =>
    intro v l hk h1 hT
    have e : v = n := by omega
    subst e
    unfold wpX7_spreadCosts_L2
    exact br_t (nI_le (by omega) (by omega)) (hK l h1 hT)
  | succ d ih =>
    intro v l hk h1 hT
    unfold wpX7_spreadCosts_L2
    rw [jshl_1 (by omega), nI_1 v]
    refine br_f (nI_ge (by omega) (by omega)) ⟨2 ^ n + 1, lp7_15 (l0 := l0) hn (by omega) hc (fun l' w1 w2 => ih (v + 1) l' (by omega) w1 w2) (2 ^ n) 0 l (by omega) h1 (fun T hTN => ?_)⟩
    rw [if_neg (Nat.not_lt_zero _)]; exact hT T hTN
