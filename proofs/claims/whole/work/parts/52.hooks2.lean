/-! hooks: the reference, and both -/
theorem andnot0 {L H : Nat} : L ^^^ (L &&& H) = 0 ↔ ∀ d, L.testBit d = true → H.testBit d = true := by
  constructor
  · intro h d hb
    have : (L ^^^ (L &&& H)).testBit d = false := by rw [h, Nat.zero_testBit]
    rw [Nat.testBit_xor, Nat.testBit_and, hb] at this
    cases hh : H.testBit d with
    | true => rfl
    | false => rw [hh] at this; exact absurd this (by decide)
  · intro h
    apply Nat.eq_of_testBit_eq
    intro i
    rw [Nat.testBit_xor, Nat.testBit_and, Nat.zero_testBit]
    cases hb : L.testBit i with
    | false => rfl
    | true => rw [h i hb]; rfl
theorem lp10_46 {f L : Nat} {K : Int32 → Prop} (h2 : 2 ≤ f) (hf : f ≤ 16) (hL : L < 2 ^ 17) (hK : K (o2i (dbl (best 6 (hQ f L) (2 ^ (f - 1)))))) :
    ∀ d u, u + d = 2 ^ (f - 1) → wpX10_hooks_L46 (nI f) (nI L) K (d + 1) (o2i (dbl (best 6 (hQ f L) u))) (nI (2 * u)) := by
  have hp15 : 2 ^ (f - 1) ≤ 2 ^ 15 := Nat.pow_le_pow_right (by decide) (by omega)
  have e2 := half_pow h2
  intro d
  induction d with
  | zero =>
    intro u hu
    have e : u = 2 ^ (f - 1) := by omega
    unfold wpX10_hooks_L46
    rw [jshl_1 (by omega)]
    refine br_t (nI_le (by omega) (by omega)) ?_
    rw [e]; exact hK
  | succ d ih =>
    intro u hu
    have ih1 := ih (u + 1) (by omega)
    unfold wpX10_hooks_L46
    have e5 : nI (2 * u) + (2 : Int32) = nI (2 * (u + 1)) := by
      rw [show (2 : Int32) = nI 2 from rfl, nI_add]
      rfl
    have hpu := popc_le u
    have hpd : popc (2 * u) = popc u := popc_dbl (by omega)
    rw [e5, hk_I hf (by omega)]
    rw [jshl_1 (by omega)]
    unfold jn1 jn0
    dsimp only
    have no : ¬ (popc u ≤ 6 ∧ (∀ z, best 6 (hQ f L) u = some z → popc u < popc z) ∧ hQ f L u) → wpX10_hooks_L46 (nI f) (nI L) K (d + 1) (o2i (dbl (best 6 (hQ f L) u))) (nI (2 * (u + 1))) := fun q => by
      rw [best_n q] at ih1; exact ih1
    have yes : (popc u ≤ 6 ∧ (∀ z, best 6 (hQ f L) u = some z → popc u < popc z) ∧ hQ f L u) → wpX10_hooks_L46 (nI f) (nI L) K (d + 1) (nI (2 * u)) (nI (2 * (u + 1))) := fun q => by
      rw [best_y q] at ih1; exact ih1
    have hm : mks f u < 2 ^ 17 := Nat.lt_of_lt_of_le (hk_lt h2 (by omega)) (Nat.pow_le_pow_right (by decide) (by omega))
    have mid : ∀ c : Prop, (c ↔ (popc u ≤ 6 ∧ ∀ z, best 6 (hQ f L) u = some z → popc u < popc z)) → ((b2 c = 0) → wpX10_hooks_L46 (nI f) (nI L) K (d + 1) (o2i (dbl (best 6 (hQ f L) u))) (nI (2 * (u + 1)))) ∧ (¬ (b2 c = 0) → wpX10_had (nI (mks f u)) (fun (r103 : Int32) => (((nI L &&& (r103 ^^^ (-1 : Int32))) = 0) → wpX10_hooks_L46 (nI f) (nI L) K (d + 1) (nI (2 * u)) (nI (2 * (u + 1)))) ∧ (¬ ((nI L &&& (r103 ^^^ (-1 : Int32))) = 0) → wpX10_hooks_L46 (nI f) (nI L) K (d + 1) (o2i (dbl (best 6 (hQ f L) u))) (nI (2 * (u + 1)))))) := by
      intro c hc
      refine b2_br (fun q => no (fun z => q (hc.mpr ⟨z.1, z.2.1⟩))) (fun q => sp10_had hm (fun H hH hHb => ?_))
      have q' := hc.mp q
      rw [nI_andnot]
      have hb : L ^^^ (L &&& H) < 2 ^ 17 := Nat.xor_lt_two_pow hL (Nat.lt_of_le_of_lt Nat.and_le_left hL)
      refine pk_eq (L ^^^ (L &&& H)) 0 (fun e => yes ⟨q'.1, q'.2, fun x hx => (hHb x).mp (andnot0.mp e x hx)⟩) (fun e => no (fun z => e (andnot0.mpr (fun x hx => (hHb x).mpr (z.2.2 x hx)))))
    refine br_f (nI_ge (by omega) (by omega)) (sp10_bits (S := 2 * u) (by omega) ?_)
    rw [hpd]
    refine pk_lt 6 (popc u) (fun q => ?_) (fun q => ?_)
    · have := mid False ⟨fun z => z.elim, fun z => by omega⟩
      rw [b2_f (p := False) (fun z => z)] at this
      exact this
    · cases hbk : best 6 (hQ f L) u with
      | none =>
        have := mid True ⟨fun _ => ⟨q, fun z hz => by rw [hbk] at hz; cases hz⟩, fun _ => trivial⟩
        rw [b2_t (p := True) trivial, hbk] at this
        exact br_t (show o2i (dbl none) < (0 : Int32) by decide) this
      | some z =>
        have hz := best_some hbk
        have hpz := popc_le z
        have hpz2 : popc (2 * z) = popc z := popc_dbl (by omega)
        refine br_f (show ¬ o2i (dbl (some z)) < (0 : Int32) from nI_pos (n := 2 * z) (by omega)) (sp10_bits (S := 2 * u) (by omega) (sp10_bits (S := 2 * z) (by omega) ?_))
        rw [hpd, hpz2]
        refine pk_le (popc z) (popc u) (fun c => ?_) (fun c => ?_)
        · have := mid False ⟨fun x => x.elim, fun x => by have := x.2 z hbk; omega⟩
          rw [b2_f (p := False) (fun x => x), hbk] at this
          exact this
        · have := mid True ⟨fun _ => ⟨q, fun x hx => by rw [hbk] at hx; cases hx; exact c⟩, fun _ => trivial⟩
          rw [b2_t (p := True) trivial, hbk] at this
          exact this
theorem mask_0 {L : Nat} (hL : L < 2 ^ 17) (h0 : L % 2 = 0) : nI L &&& (-131071 : Int32) = 0 := by
  rw [show (-131071 : Int32) = nI 4294836225 from rfl, nI_and]
  have : L &&& 4294836225 = 0 := by
    apply Nat.eq_of_testBit_eq
    intro i
    rw [Nat.testBit_and, Nat.zero_testBit]
    by_cases hi : i < 17
    · by_cases h1 : i = 0
      · rw [h1, Nat.testBit_zero, decide_eq_false (show ¬ L % 2 = 1 by omega)]
        rfl
      · have : ∀ k, k < 17 → k ≠ 0 → Nat.testBit 4294836225 k = false := by decide +kernel
        rw [this i hi h1, Bool.and_false]
    · rw [bit_over hL (by omega), Bool.false_and]
  rw [this]
  rfl
theorem mask_inv {x : Int32} (h : x &&& (-131071 : Int32) = 0) : ∃ L, L < 2 ^ 17 ∧ L % 2 = 0 ∧ x = nI L := by
  have hx : x = nI x.toBitVec.toNat := by
    apply Int32.toBitVec_inj.1
    show x.toBitVec = BitVec.ofNat 32 x.toBitVec.toNat
    rw [BitVec.ofNat_toNat, BitVec.setWidth_eq]
  have hlt : x.toBitVec.toNat < 2 ^ 32 := x.toBitVec.isLt
  generalize x.toBitVec.toNat = N at hx hlt
  rw [hx, show (-131071 : Int32) = nI 4294836225 from rfl, nI_and] at h
  have h3 := congrArg (fun z : Int32 => z.toBitVec.toNat) h
  have hle : N &&& 4294836225 < 2 ^ 32 := Nat.lt_of_le_of_lt Nat.and_le_left hlt
  have h4 : N &&& 4294836225 = 0 := by
    have e1 := pk_tn hle
    rw [e1] at h3
    exact h3
  refine ⟨N, ?_, ?_, hx⟩
  · refine Nat.lt_pow_two_of_testBit _ (fun i hi => ?_)
    by_cases h32 : i < 32
    · have hb : (N &&& 4294836225).testBit i = false := by rw [h4, Nat.zero_testBit]
      have : ∀ k, k < 32 → 17 ≤ k → Nat.testBit 4294836225 k = true := by decide +kernel
      rw [Nat.testBit_and, this i h32 hi, Bool.and_true] at hb
      exact hb
    · exact bit_over hlt (by omega)
  · have hb : (N &&& 4294836225).testBit 0 = false := by rw [h4, Nat.zero_testBit]
    rw [Nat.testBit_and, show Nat.testBit 4294836225 0 = true by decide +kernel, Bool.and_true, Nat.testBit_zero] at hb
    have := of_decide_eq_false hb
    omega
theorem tell9h {o : Option Nat} {w : Int32} {post : Int32 → Prop} (ho : ∀ s, o = some s → s < 2 ^ 17) (hp : post (tv o w)) : wpX9_sizeOrSet (o2i o) w post := by
  unfold wpX9_sizeOrSet
  cases o with
  | none => exact br_t rfl hp
  | some s =>
    have h17 := ho s rfl
    refine br_f (show ¬ nI s = (-6 : Int32) from nI_ne6 (by omega)) ?_
    have e : tv (some s) w = if w = 0 then nI (popc s) else nI s := rfl
    rw [e] at hp
    refine br_c (fun q => ?_) (fun q => ?_)
    · rw [if_pos q] at hp
      exact sp_bitCount17 h17 hp
    · rw [if_neg q] at hp; exact hp
theorem dbl_some {o : Option Nat} {s : Nat} (h : dbl o = some s) : ∃ z, o = some z ∧ s = 2 * z := by
  cases o with
  | none => cases h
  | some z => exact ⟨z, rfl, (Option.some.inj h).symm⟩
theorem st_hooks {oX oY : Ob} (v1 v2 v3 : Int32) {K : Int32 → Int32 → Prop} (hK : ∀ r, K r r) : wpX9_hooks oX v1 v2 v3 (fun r => wpX10_hooks oY v1 v2 v3 (fun r2 => K r r2)) := by
  unfold wpX9_hooks
  refine sp9_out (b2_br (fun i1 => sp9_out (b2_br (fun i3 => ?_) (fun o3 => ?_))) (fun o1 => ?_))
  · refine br_c (fun hm => ?_) (fun hm => ?_)
    · obtain ⟨f, f1, f2, rfl⟩ := in_rng (a := 2) (b := 16) (x := v1) (by omega) (fun q => i1 (Or.inl q)) (fun q => i1 (Or.inr q)) (by omega)
      obtain ⟨w, w1, w2, rfl⟩ := in_rng (a := 0) (b := 1) (x := v3) (by omega) (fun q => i3 (Or.inl q)) (fun q => i3 (Or.inr q)) (by omega)
      obtain ⟨L, hL, hL0, rfl⟩ := mask_inv hm
      have hb0 : L.testBit 0 = false := by rw [Nat.testBit_zero]; exact decide_eq_false (by omega)
      have hp15 : 2 ^ (f - 1) ≤ 2 ^ 15 := Nat.pow_le_pow_right (by decide) (by omega)
      have hbd : ∀ s, dbl (best 6 (hQ f L) (2 ^ (f - 1))) = some s → s < 2 ^ 17 := fun s hs => by
        obtain ⟨z, hz, rfl⟩ := dbl_some hs
        have := (best_some hz).1
        omega
      refine sp6_fewest f1 f2 hL hb0 (tell9h hbd ?_)
      unfold wpX10_hooks
      have hrem : jrem (nI L) (2 : Int32) = nI (L % 2) := pk_rem (a := L) (d := 2) (by omega) (by omega) (by omega)
      have hr1 : ¬ nI (0 : Nat) = (1 : Int32) := by decide
      refine sp10_in (b2_br (fun q => absurd i1 q) (fun _ => sp10_in (b2_br (fun q => absurd ?_ q) (fun _ => ?_))))
      · have := rng_in (j := L) (a := 0) (b := 131071) (by omega) (by omega) (by omega) (by omega) (by omega)
        exact fun z => z.elim this.1 this.2
      · rw [hrem, hL0]
        refine br_f hr1 (sp10_in (b2_br (fun q => absurd i3 q) (fun _ => ⟨2 ^ (f - 1) + 1, ?_⟩)))
        refine lp10_46 f1 f2 hL ?_ (2 ^ (f - 1)) 0 (by omega)
        unfold jn0
        exact tell10 (fun s q => by have := hbd s q; omega) (w01 w2) (hK _)
    · unfold wpX10_hooks
      refine sp10_in (b2_br (fun q => absurd i1 q) (fun _ => sp10_in (b2_br (fun _ => hK _) (fun q => br_c (fun _ => hK _) (fun hr => absurd ?_ hm)))))
      obtain ⟨L, l1, l2, rfl⟩ := in_rng (a := 0) (b := 131071) (x := v2) (by omega) (fun z => q (Or.inl z)) (fun z => q (Or.inr z)) (by omega)
      have hrem : jrem (nI L) (2 : Int32) = nI (L % 2) := pk_rem (a := L) (d := 2) (by omega) (by omega) (by omega)
      rw [hrem] at hr
      refine mask_0 (by omega) ?_
      apply Classical.byContradiction
      intro z
      have : L % 2 = 1 := by omega
      rw [this] at hr
      exact hr rfl
  · unfold wpX10_hooks
    refine sp10_in (b2_br (fun q => absurd i1 q) (fun _ => sp10_in (b2_br (fun _ => hK _) (fun q => br_c (fun _ => hK _) (fun hr => sp10_in (b2_br (fun _ => hK _) (fun q => absurd o3 q)))))))
  · unfold wpX10_hooks
    exact sp10_in (b2_br (fun _ => hK _) (fun q => absurd o1 q))
