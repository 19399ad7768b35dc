/-! one finger more or less -/
theorem tb_flip (f w j : Nat) : (f ^^^ 2 ^ w).testBit j = (if j = w then !f.testBit j else f.testBit j) := by
  rw [Nat.testBit_xor, Nat.testBit_two_pow]
  by_cases h : j = w
  · subst h; simp
  · have : ¬ w = j := fun e => h e.symm
    simp [h, this]
theorem pc_flip_le (f w : Nat) : ∀ k, k ≤ w → pc10 (f ^^^ 2 ^ w) k = pc10 f k
  | 0, _ => rfl
  | k + 1, h => by
    have e : (f ^^^ 2 ^ w).testBit k = f.testBit k := by rw [tb_flip, if_neg (by omega)]
    rw [pc10, pc10, pc_flip_le f w k (by omega), e]
theorem pc_flip_set {f w : Nat} (hb : f.testBit w = false) : ∀ d, pc10 (f ^^^ 2 ^ w) (w + 1 + d) = pc10 f (w + 1 + d) + 1
  | 0 => by
    rw [Nat.add_zero, pc10, pc10, pc_flip_le f w w (Nat.le_refl _), tb_flip, if_pos rfl, hb]
    simp
  | d + 1 => by
    have e : (f ^^^ 2 ^ w).testBit (w + 1 + d) = f.testBit (w + 1 + d) := by rw [tb_flip, if_neg (by omega)]
    rw [show w + 1 + (d + 1) = (w + 1 + d) + 1 from rfl, pc10, pc10, pc_flip_set hb d, e]
    omega
theorem pc_flip_clr {f w : Nat} (hb : f.testBit w = true) : ∀ d, pc10 (f ^^^ 2 ^ w) (w + 1 + d) + 1 = pc10 f (w + 1 + d)
  | 0 => by
    rw [Nat.add_zero, pc10, pc10, pc_flip_le f w w (Nat.le_refl _), tb_flip, if_pos rfl, hb]
    simp
  | d + 1 => by
    have := pc_flip_clr hb d
    have e : (f ^^^ 2 ^ w).testBit (w + 1 + d) = f.testBit (w + 1 + d) := by rw [tb_flip, if_neg (by omega)]
    rw [show w + 1 + (d + 1) = (w + 1 + d) + 1 from rfl, pc10, pc10, e]
    omega
theorem popc_set {f w : Nat} (hw : w < 17) (hb : f.testBit w = false) : popc (f ^^^ 2 ^ w) = popc f + 1 := by
  have := pc_flip_set hb (16 - w)
  rw [show w + 1 + (16 - w) = 17 by omega] at this
  exact this
theorem popc_clr {f w : Nat} (hw : w < 17) (hb : f.testBit w = true) : popc (f ^^^ 2 ^ w) + 1 = popc f := by
  have := pc_flip_clr hb (16 - w)
  rw [show w + 1 + (16 - w) = 17 by omega] at this
  exact this
theorem flip_lt {f w n : Nat} (hf : f < 2 ^ n) (hw : w < n) : f ^^^ 2 ^ w < 2 ^ n := Nat.xor_lt_two_pow hf (Nat.pow_lt_pow_right (by decide) hw)
theorem setS_ne {A : AS} {j v k : Nat} (h : k ≠ j) : (setS A j v).1 k = A.1 k := by simp [setS, h]
theorem setS_eq {A : AS} {j v : Nat} : (setS A j v).1 j = v := by simp [setS]
/-- other fingers, other damp -/
def setFD (A : AS) (f d : Nat) : AS := setS (setS A 5 f) 4 d
theorem setFD_5 {A : AS} {f d : Nat} : (setFD A f d).1 5 = f := rfl
theorem setFD_4 {A : AS} {f d : Nat} : (setFD A f d).1 4 = d := rfl
theorem setFD_k {A : AS} {f d k : Nat} (h4 : k ≠ 4) (h5 : k ≠ 5) : (setFD A f d).1 k = A.1 k := by simp [setFD, setS, h4, h5]
theorem setFD_g {A : AS} {f d : Nat} : (setFD A f d).2 = A.2 := rfl
theorem setFD_own {A : AS} {f d : Nat} (ho : Own A) (hd : d ≤ 9) (hf : f < 2 ^ A.1 0 ∧ popc f ≤ may (A.1 0)) : Own (setFD A f d) := by
  obtain ⟨o1, o2, o3, o4, o5, o6, o7, o8⟩ := ho
  exact ⟨o1, o2, o3, o4, hd, hf, o7, o8⟩
theorem StS.fd {s : Ob} {A : AS} {f d : Nat} (hs : StS s (setFD A f d)) (f' d' : Nat) : StS (pf (pf s 5 (nI f')) 4 (nI d')) (setFD A f' d') := by
  have h1 := (hs.set (j := 5) (v := f') (by omega)).set (j := 4) (v := d') (by omega)
  have e : setS (setS (setFD A f d) 5 f') 4 d' = setFD A f' d' := by
    unfold setFD setS
    congr 1
    funext k
    by_cases h4 : k = 4
    · simp [h4]
    · by_cases h5 : k = 5
      · simp [h5]
      · simp [h4, h5]
  rw [e] at h1; exact h1
theorem StS.f5 {s : Ob} {A : AS} {f d : Nat} (hs : StS s (setFD A f d)) (f' : Nat) : StS (pf s 5 (nI f')) (setFD A f' d) := by
  have h1 := hs.set (j := 5) (v := f') (by omega)
  have e : setS (setFD A f d) 5 f' = setFD A f' d := by
    unfold setFD setS
    congr 1
    funext k
    by_cases h4 : k = 4
    · simp [h4]
    · by_cases h5 : k = 5
      · simp [h5]
      · simp [h4, h5]
  rw [e] at h1; exact h1
theorem StS.f4 {s : Ob} {A : AS} {f d : Nat} (hs : StS s (setFD A f d)) (d' : Nat) : StS (pf s 4 (nI d')) (setFD A f d') := by
  have h1 := hs.set (j := 4) (v := d') (by omega)
  have e : setS (setFD A f d) 4 d' = setFD A f d' := by
    unfold setFD setS
    congr 1
    funext k
    by_cases h4 : k = 4
    · simp [h4]
    · by_cases h5 : k = 5
      · simp [h5]
      · simp [h4, h5]
  rw [e] at h1; exact h1
/-! an act: what it does, or why it can not be -/
/-- (reason, fingers, damp) behind the act c -/
noncomputable def act1 (n f d c : Nat) : Nat × Nat × Nat :=
  if c = 43 then (if d < 9 then (0, f, d + 1) else (1, f, d))
  else if c = 45 then (if 0 < d then (0, f, d - 1) else (2, f, d))
  else (if popc (f ^^^ 2 ^ (c - 97)) ≤ may n then (0, f ^^^ 2 ^ (c - 97), d) else (3, f, d))
def FDok (n f d : Nat) : Prop := f < 2 ^ n ∧ popc f ≤ may n ∧ d ≤ 9
theorem act1_ok {n f d c : Nat} (h : FDok n f d) (hc : isAct n c) (h46 : c ≠ 46) : FDok n (act1 n f d c).2.1 (act1 n f d c).2.2 ∧ (act1 n f d c).1 ≤ 3 := by
  obtain ⟨h1, h2, h3⟩ := h
  unfold act1
  by_cases e : c = 43
  · rw [if_pos e]
    split
    · exact ⟨⟨h1, h2, by show d + 1 ≤ 9; omega⟩, by show 0 ≤ 3; omega⟩
    · exact ⟨⟨h1, h2, h3⟩, by show 1 ≤ 3; omega⟩
  · rw [if_neg e]
    by_cases e2 : c = 45
    · rw [if_pos e2]
      split
      · exact ⟨⟨h1, h2, by show d - 1 ≤ 9; omega⟩, by show 0 ≤ 3; omega⟩
      · exact ⟨⟨h1, h2, h3⟩, by show 2 ≤ 3; omega⟩
    · rw [if_neg e2]
      have hw : c - 97 < n := by unfold isAct at hc; omega
      split
      · rename_i hq
        exact ⟨⟨flip_lt h1 hw, hq, h3⟩, by show 0 ≤ 3; omega⟩
      · exact ⟨⟨h1, h2, h3⟩, by show 3 ≤ 3; omega⟩
theorem sp8_touch {t : Ob} {A : AS} {f d w : Nat} {post : Int32 → Ob → Prop} (ht : StS t (setFD A f d)) (ho : Own A) (hf : f < 2 ^ A.1 0) (hw : w < A.1 0) (hy : popc (f ^^^ 2 ^ w) ≤ may (A.1 0) → ∀ t', StS t' (setFD A (f ^^^ 2 ^ w) d) → post 0 t') (hn : ¬ popc (f ^^^ 2 ^ w) ≤ may (A.1 0) → post 3 t) : wpX8_touch t (nI w) post := by
  unfold wpX8_touch
  obtain ⟨⟨a1, a2⟩, -⟩ := ho
  have e5 : t 0 5 = nI f := ht.1 5 (by omega)
  have e0 : t 0 0 = nI (A.1 0) := ht.1 0 (by omega)
  rw [e5, jshl_1 (by omega), nI_xor]
  refine sp8_allows e0 a1 a2 (set_lt a2 (flip_lt hf hw)) (b2_br (fun q => hn q) (fun q => ?_))
  exact hy q _ (ht.f5 _)
theorem sp1_perform {v t : Ob} {A : AS} {f d c : Nat} {post : Int32 → Ob → Prop} (ht : StS t (setFD A f d)) (ho : Own A) (hfd : FDok (A.1 0) f d) (hc : isAct (A.1 0) c) (h46 : c ≠ 46) (hp : ∀ t', StS t' (setFD A (act1 (A.1 0) f d c).2.1 (act1 (A.1 0) f d c).2.2) → post (nI (act1 (A.1 0) f d c).1) t') : wpX1_perform v t (nI c) post := by
  unfold wpX1_perform
  have hc126 : c < 200 := by obtain ⟨⟨a1, a2⟩, -⟩ := ho; unfold isAct at hc; omega
  have e4 : t 0 4 = nI d := ht.1 4 (by omega)
  have hd9 := hfd.2.2
  unfold act1 at hp
  refine pk_eq c 43 (fun e => ?_) (fun e => pk_eq c 45 (fun e2 => ?_) (fun e2 => ?_))
  · rw [if_pos e] at hp
    unfold wpX8_moreDamp
    rw [e4]
    refine pk_lt d 9 (fun h => ?_) (fun h => ?_)
    · rw [if_pos h] at hp
      rw [nI_1]; exact hp _ (ht.f4 _)
    · rw [if_neg (by omega)] at hp
      exact hp _ ht
  · rw [if_neg e, if_pos e2] at hp
    unfold wpX8_lessDamp
    rw [e4]
    refine pk_lt 0 d (fun h => ?_) (fun h => ?_)
    · rw [if_pos h] at hp
      rw [nI_sub1 h]; exact hp _ (ht.f4 _)
    · rw [if_neg (by omega)] at hp
      exact hp _ ht
  · rw [if_neg e, if_neg e2] at hp
    have hw : c - 97 < A.1 0 ∧ 97 ≤ c := by unfold isAct at hc; omega
    have e97 : nI c - 97 = nI (c - 97) := pk_sub hw.2
    rw [e97]
    refine sp8_touch ht ho hfd.1 hw.1 (fun q t' ht' => ?_) (fun q => ?_)
    · rw [if_pos q] at hp; exact hp t' ht'
    · rw [if_neg q] at hp; exact hp t ht
/-- the reference's own evening: fields 12 (fingers), 13 (damp) -/
theorem sp10_whyNot {y : Ob} {n f d c : Nat} {post : Int32 → Prop} (h0 : y 0 0 = nI n) (h12 : y 0 12 = nI f) (h13 : y 0 13 = nI d) (hn : 2 ≤ n ∧ n ≤ 10) (hfd : FDok n f d) (hc : isAct n c) (h46 : c ≠ 46) (hp : post (nI (act1 n f d c).1)) : wpX10_whyNot y (nI c) post := by
  unfold wpX10_whyNot
  have hc126 : c < 200 := by unfold isAct at hc; omega
  obtain ⟨f1, f2, f3⟩ := hfd
  have hf31 : f < 2 ^ 31 := by have := set_lt hn.2 f1; omega
  unfold act1 at hp
  rw [h12, h13]
  refine pk_eq c 43 (fun e => ?_) (fun e => pk_eq c 45 (fun e2 => ?_) (fun e2 => ?_))
  · rw [if_pos e] at hp
    refine pk_eq d 9 (fun h => ?_) (fun h => ?_)
    · rw [if_neg (by omega)] at hp; exact hp
    · rw [if_pos (by omega)] at hp; exact hp
  · rw [if_neg e, if_pos e2] at hp
    refine pk_eq d 0 (fun h => ?_) (fun h => ?_)
    · rw [if_neg (by omega)] at hp; exact hp
    · rw [if_pos (by omega)] at hp; exact hp
  · rw [if_neg e, if_neg e2] at hp
    have hw : c - 97 < n ∧ 97 ≤ c := by unfold isAct at hc; omega
    have e97 : nI c - 97 = nI (c - 97) := pk_sub hw.2
    rw [e97]
    unfold jn0
    refine sp10_has hf31 (by omega) (b2_br (fun hb => ?_) (fun hb => ?_))
    · refine sp10_bits hf31 (sp10_may h0 hn.1 hn.2 ?_)
      have hb' : f.testBit (c - 97) = false := by simpa using hb
      have hp1 := popc_set (by omega) hb'
      have := popc_le f
      have := may_le hn.2
      refine pk_lt (popc f) (may n) (fun h => ?_) (fun h => ?_)
      · rw [if_pos (by omega)] at hp; exact hp
      · rw [if_neg (by omega)] at hp; exact hp
    · have hp1 := popc_clr (by omega) hb
      rw [if_pos (by omega)] at hp; exact hp
theorem sp10_act {y : Ob} {n f d c : Nat} {post : Ob → Prop} (h12 : y 0 12 = nI f) (h13 : y 0 13 = nI d) (hn : n ≤ 10) (hfd : FDok n f d) (hc : isAct n c) (h46 : c ≠ 46) (h0 : (act1 n f d c).1 = 0) (hp : ∀ y', (∀ r, r ≠ 0 → y' r = y r) → (∀ k, k ≠ 12 → k ≠ 13 → y' 0 k = y 0 k) → y' 0 12 = nI (act1 n f d c).2.1 → y' 0 13 = nI (act1 n f d c).2.2 → post y') : wpX10_act y (nI c) post := by
  unfold wpX10_act jn0 jn2
  have hc126 : c < 200 := by unfold isAct at hc; omega
  have hd9 := hfd.2.2
  rw [h12, h13]
  unfold act1 at hp h0
  have damp : ∀ x : Int32, (∀ d', nI d' = nI d + x → (∀ y', (∀ r, r ≠ 0 → y' r = y r) → (∀ k, k ≠ 12 → k ≠ 13 → y' 0 k = y 0 k) → y' 0 12 = nI f → y' 0 13 = nI d' → post y') → post (pf y 13 (nI d + x))) := by
    intro x d' e hq
    refine hq _ (fun r hr => pf_r _ _ _ _ hr) (fun k _ hk => pf_n _ _ hk) ?_ ?_
    · rw [pf_n _ _ (by decide)]; exact h12
    · rw [pf_s]; exact e.symm
  refine pk_eq c 43 (fun e => ?_) (fun e => pk_eq c 45 (fun e2 => ?_) (fun e2 => ?_))
  · rw [if_pos e] at hp h0
    refine pk_eq c 43 (fun _ => ?_) (fun q => absurd e q)
    by_cases h : d < 9
    · rw [if_pos h] at hp
      exact damp 1 (d + 1) (nI_1 d).symm hp
    · rw [if_neg h] at h0; simp at h0
  · rw [if_neg e, if_pos e2] at hp h0
    refine pk_eq c 43 (fun q => absurd q e) (fun _ => ?_)
    by_cases h : 0 < d
    · rw [if_pos h] at hp
      exact damp (-1) (d - 1) (nI_m1 h).symm hp
    · rw [if_neg h] at h0; simp at h0
  · rw [if_neg e, if_neg e2] at hp h0
    have hw : c - 97 < n ∧ 97 ≤ c := by unfold isAct at hc; omega
    have e97 : nI c - 97 = nI (c - 97) := pk_sub hw.2
    rw [e97, jshl_1 (by omega), nI_xor]
    by_cases h : popc (f ^^^ 2 ^ (c - 97)) ≤ may n
    · rw [if_pos h] at hp
      refine hp _ (fun r hr => pf_r _ _ _ _ hr) (fun k hk _ => pf_n _ _ hk) (pf_s _ _ _) ?_
      rw [pf_n _ _ (by decide)]; exact h13
    · rw [if_neg h] at h0; simp at h0
