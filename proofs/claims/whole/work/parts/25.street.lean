/-! the street's own changes -/
theorem lp8_m4 {s : Ob} {g : Nat → Nat} {K : Ob → Prop} (h1 : ∀ k, k < 10 → s 1 k = nI (g k)) (hK : ∀ s', (∀ r, r ≠ 2 → s' r = s r) → (∀ k, k < 10 → s' 2 k = nI (pos g k)) → K s') :
    ∀ d k s', k + d = 10 → (∀ r, r ≠ 2 → s' r = s r) → (∀ j, j < k → s' 2 j = nI (pos g j)) → wpX8_measure_L4 K (d + 1) (nI (psum g k)) (nI k) s'
  | 0, k, s', h, i1, i2 => by
    unfold wpX8_measure_L4
    exact br_t (nI_le (a := 10) (by omega) (by omega)) (hK s' i1 (fun j hj => i2 j (by omega)))
  | d + 1, k, s', h, i1, i2 => by
    unfold wpX8_measure_L4
    refine br_f (nI_ge (b := 10) (by omega) (by omega)) ⟨vp_in_nI (by omega) (by omega), vp_in_nI (by omega) (by omega), ?_⟩
    rw [jld_n (by omega), i1 1 (by decide), h1 k (by omega), nI_add, nI_1, nC_n (by omega)]
    refine lp8_m4 h1 hK d (k + 1) _ (by omega) (fun r hr => ?_) (fun j hj => ?_)
    · rw [pa_n _ _ _ hr]; exact i1 r hr
    · rw [pa_s]
      by_cases e : j = k
      · subst e
        have := psum_pos g j
        simp only [psum] at this
        simp [upd, this]
      · simp only [upd, if_neg e]; exact i2 j (by omega)
theorem sp8_measure {s : Ob} {g : Nat → Nat} {post : Ob → Prop} (h1 : ∀ k, k < 10 → s 1 k = nI (g k)) (hp : ∀ s', (∀ r, r ≠ 2 → s' r = s r) → (∀ k, k < 10 → s' 2 k = nI (pos g k)) → post s') : wpX8_measure s post :=
  ⟨11, lp8_m4 (K := fun o => post o) h1 hp 10 0 s (by omega) (fun _ _ => rfl) (fun j hj => absurd hj (by omega))⟩
def freshA (n li re : Nat) : AS := ((fun k => match k with | 0 => n | 1 => 2 | 2 => li | 3 => re | _ => 0), (fun _ => 2), (fun _ => 0), (fun _ => 0), (fun _ => 0))
theorem lp8_b27 {s : Ob} {K : Ob → Prop} (hK : ∀ s', (∀ r, r ≠ 1 → r ≠ 5 → s' r = s r) → (∀ k, k < 10 → s' 1 k = 2 ∧ s' 5 k = 0) → K s') :
    ∀ d k s', k + d = 10 → (∀ r, r ≠ 1 → r ≠ 5 → s' r = s r) → (∀ j, j < k → s' 1 j = 2 ∧ s' 5 j = 0) → wpX8_beginAnew_L27 K (d + 1) (nI k) s'
  | 0, k, s', h, i1, i2 => by
    unfold wpX8_beginAnew_L27
    exact br_t (nI_le (a := 10) (by omega) (by omega)) (hK s' i1 (fun j hj => i2 j (by omega)))
  | d + 1, k, s', h, i1, i2 => by
    unfold wpX8_beginAnew_L27
    refine br_f (nI_ge (b := 10) (by omega) (by omega)) ⟨vp_in_nI (by omega) (by omega), ?_⟩
    intro s1 hs1
    refine ⟨vp_in_nI (by omega) (by omega), ?_⟩
    rw [nI_1, nC_n (by omega)]
    rw [nC_n (by omega)] at hs1
    refine lp8_b27 hK d (k + 1) _ (by omega) (fun r hr hr5 => ?_) (fun j hj => ?_)
    · rw [pa_n _ _ _ hr5, hs1, pa_n _ _ _ hr]; exact i1 r hr hr5
    · rw [pa_s, pa_n _ _ _ (by decide), hs1, pa_s, pa_n _ _ _ (by decide)]
      by_cases e : j = k
      · subst e; simp [upd]
      · simp only [upd, if_neg e]; exact i2 j (by omega)
theorem sp8_beginAnew {s : Ob} {n li re : Nat} {post : Ob → Prop} (h2 : s 0 2 = nI li) (h3 : s 0 3 = nI re) (hp : ∀ s', StS s' (freshA n li re) → post s') : wpX8_beginAnew s (nI n) post := by
  refine ⟨11, ?_⟩
  refine lp8_b27 (K := fun (oS_53 : Ob) => wpX8_measure oS_53 (fun (oS_54 : Ob) => post oS_54)) (fun s' i1 i2 => ?_) 10 0 _ (by omega) (fun _ _ _ => rfl) (fun j hj => absurd hj (by omega))
  refine sp8_measure (g := fun _ => 2) (fun k hk => (i2 k hk).1) (fun s2 j1 j2 => hp s2 ⟨?_, ?_, j2, ?_, ?_⟩)
  · intro k hk
    rw [j1 0 (by decide), i1 0 (by decide) (by decide)]
    match k, hk with
    | 0, _ => rfl
    | 1, _ => rfl
    | 2, _ => exact h2
    | 3, _ => exact h3
    | 4, _ => rfl
    | 5, _ => rfl
    | 6, _ => rfl
  · intro k hk
    rw [j1 1 (by decide)]; exact (i2 k hk).1
  · intro k hk
    exact absurd hk (by simp [freshA])
  · intro k hk
    rw [j1 5 (by decide)]; exact (i2 k hk).2
theorem lp8_c58 {s r : Ob} {K : Ob → Prop} (hK : ∀ s', (∀ q, q ≠ 1 → q ≠ 5 → s' q = s q) → (∀ k, k < 10 → s' 1 k = r 1 k ∧ s' 5 k = r 5 k) → K s') :
    ∀ d k s', k + d = 10 → (∀ q, q ≠ 1 → q ≠ 5 → s' q = s q) → (∀ j, j < k → s' 1 j = r 1 j ∧ s' 5 j = r 5 j) → wpX8_copyFrom_L58 r K (d + 1) (nI k) s'
  | 0, k, s', h, i1, i2 => by
    unfold wpX8_copyFrom_L58
    exact br_t (nI_le (a := 10) (by omega) (by omega)) (hK s' i1 (fun j hj => i2 j (by omega)))
  | d + 1, k, s', h, i1, i2 => by
    unfold wpX8_copyFrom_L58
    refine br_f (nI_ge (b := 10) (by omega) (by omega)) ⟨vp_in_nI (by omega) (by omega), vp_in_nI (by omega) (by omega), vp_in_nI (by omega) (by omega), ?_⟩
    intro s1 hs1
    refine ⟨vp_in_nI (by omega) (by omega), ?_⟩
    rw [nI_1, nC_n (by omega), jld_n (by omega)]
    rw [nC_n (by omega), jld_n (by omega)] at hs1
    refine lp8_c58 hK d (k + 1) _ (by omega) (fun q hr hr5 => ?_) (fun j hj => ?_)
    · rw [pa_n _ _ _ hr5, hs1, pa_n _ _ _ hr]; exact i1 q hr hr5
    · rw [pa_s, pa_n _ _ _ (by decide), hs1, pa_s, pa_n _ _ _ (by decide)]
      by_cases e : j = k
      · subst e; simp [upd]
      · simp only [upd, if_neg e]; exact i2 j (by omega)
theorem lp8_c96 {s r : Ob} {K : Ob → Prop} (hK : ∀ s', (∀ q, q ≠ 3 → q ≠ 4 → s' q = s q) → (∀ k, k < 8 → s' 3 k = r 3 k ∧ s' 4 k = r 4 k) → K s') :
    ∀ d k s', k + d = 8 → (∀ q, q ≠ 3 → q ≠ 4 → s' q = s q) → (∀ j, j < k → s' 3 j = r 3 j ∧ s' 4 j = r 4 j) → wpX8_copyFrom_L96 r K (d + 1) (nI k) s'
  | 0, k, s', h, i1, i2 => by
    unfold wpX8_copyFrom_L96
    exact br_t (nI_le (a := 8) (by omega) (by omega)) (hK s' i1 (fun j hj => i2 j (by omega)))
  | d + 1, k, s', h, i1, i2 => by
    unfold wpX8_copyFrom_L96
    refine br_f (nI_ge (b := 8) (by omega) (by omega)) ⟨vp_in_nI (by omega) (by omega), vp_in_nI (by omega) (by omega), vp_in_nI (by omega) (by omega), ?_⟩
    intro s1 hs1
    refine ⟨vp_in_nI (by omega) (by omega), ?_⟩
    rw [nI_1, nC_n (by omega), jld_n (by omega)]
    rw [nC_n (by omega), jld_n (by omega)] at hs1
    refine lp8_c96 hK d (k + 1) _ (by omega) (fun q hr hr5 => ?_) (fun j hj => ?_)
    · rw [pa_n _ _ _ hr5, hs1, pa_n _ _ _ hr]; exact i1 q hr hr5
    · rw [pa_s, pa_n _ _ _ (by decide), hs1, pa_s, pa_n _ _ _ (by decide)]
      by_cases e : j = k
      · subst e; simp [upd]
      · simp only [upd, if_neg e]; exact i2 j (by omega)
theorem sp8_copyFrom {s r : Ob} {A : AS} {post : Ob → Prop} (hr : StS r A) (h6 : A.1 6 ≤ 8) (hp : ∀ s', StS s' A → post s') : wpX8_copyFrom s r post := by
  refine ⟨11, ?_⟩
  refine lp8_c58 (fun s1 i1 i2 => ⟨9, ?_⟩) 10 0 _ (by omega) (fun _ _ _ => rfl) (fun j hj => absurd hj (by omega))
  refine lp8_c96 (fun s2 j1 j2 => ?_) 8 0 s1 (by omega) (fun _ _ _ => rfl) (fun j hj => absurd hj (by omega))
  obtain ⟨r0, r1, r2, r3, r5⟩ := hr
  refine sp8_measure (g := A.2.1) (fun k hk => ?_) (fun s3 k1 k2 => hp s3 ⟨fun k hk => ?_, fun k hk => ?_, k2, fun k hk => ?_, fun k hk => ?_⟩)
  · rw [j1 1 (by decide) (by decide), (i2 k hk).1, r1 k hk]
  · rw [k1 0 (by decide), j1 0 (by decide) (by decide), i1 0 (by decide) (by decide), ← r0 k hk]
    match k, hk with
    | 0, _ => rfl
    | 1, _ => rfl
    | 2, _ => rfl
    | 3, _ => rfl
    | 4, _ => rfl
    | 5, _ => rfl
    | 6, _ => rfl
  · rw [k1 1 (by decide), j1 1 (by decide) (by decide), (i2 k hk).1, r1 k hk]
  · rw [k1 3 (by decide), k1 4 (by decide), (j2 k (by omega)).1, (j2 k (by omega)).2]
    exact r3 k hk
  · rw [k1 5 (by decide), j1 5 (by decide) (by decide), (i2 k hk).2, r5 k hk]
/-! changes of single scalars -/
def setS (A : AS) (j v : Nat) : AS := ((fun k => if k = j then v else A.1 k), A.2)
theorem StS.set {s : Ob} {A : AS} (hs : StS s A) {j v : Nat} (hj : j < 6) : StS (pf s j (nI v)) (setS A j v) := by
  obtain ⟨r0, r1, r2, r3, r5⟩ := hs
  refine ⟨fun k hk => ?_, fun k hk => ?_, fun k hk => ?_, fun k hk => ?_, fun k hk => ?_⟩
  · by_cases e : k = j
    · subst e; rw [pf_s]; simp [setS]
    · rw [pf_n _ _ e, r0 k hk]; simp [setS, e]
  · rw [pf_r _ _ _ _ (by decide)]; exact r1 k hk
  · rw [pf_r _ _ _ _ (by decide)]; exact r2 k hk
  · rw [pf_r _ _ _ _ (by decide), pf_r _ _ _ _ (by decide)]
    have : (setS A j v).1 6 = A.1 6 := by simp [setS]; omega
    rw [this] at hk
    exact r3 k hk
  · rw [pf_r _ _ _ _ (by decide)]; exact r5 k hk
