/-! images -/
def YI (y : Ob) (j : Nat) (B : AS) : Prop := (∀ k, k < 10 → y 10 (50 * j + k) = nI (B.2.1 k) ∧ y 10 (50 * j + 10 + k) = B.2.2.1 k) ∧ (∀ k, k < B.1 6 → y 10 (50 * j + 20 + 2 * k) = nI (B.2.2.2.1 k) ∧ y 10 (50 * j + 20 + (2 * k + 1)) = nI (B.2.2.2.2 k)) ∧ y 10 (50 * j + 40) = nI (B.1 0) ∧ y 10 (50 * j + 41) = nI (B.1 1) ∧ y 10 (50 * j + 42) = nI (B.1 2) ∧ y 10 (50 * j + 43) = nI (B.1 3) ∧ y 10 (50 * j + 44) = nI (B.1 4) ∧ y 10 (50 * j + 45) = nI (B.1 5) ∧ y 10 (50 * j + 46) = nI (B.1 6)
def Im (x im y : Ob) (f j : Nat) : Prop := (x 0 f = 0 ∧ y 11 j = 0) ∨ (x 0 f = 1 ∧ y 11 j = 1 ∧ ∃ B, StS im B ∧ YI y j B ∧ Own B ∧ Sig B ∧ Owe B)
def RR (x s i j p y : Ob) : Prop := (∃ A, Good s y A) ∧ (∃ P, GoodP p y P) ∧ Im x i y 3 0 ∧ Im x j y 4 1
theorem Im.y {x im y y' : Ob} {f j : Nat} (h : Im x im y f j) (h10 : y' 10 = y 10) (h11 : y' 11 = y 11) : Im x im y' f j := by
  unfold Im YI at *
  rw [h10, h11]; exact h
theorem mul50 {j : Nat} : (50 : Int32) * nI j = nI (50 * j) := pk_mul 50 j
/-- writes of row 10 within one image -/
def In10 (y y' : Ob) (j : Nat) : Prop := (∀ r, r ≠ 10 → y' r = y r) ∧ ∀ q, (q < 50 * j ∨ 50 * j + 50 ≤ q) → y' 10 q = y 10 q
theorem In10.refl (y : Ob) (j : Nat) : In10 y y j := ⟨fun _ _ => rfl, fun _ _ => rfl⟩
theorem In10.put {y y' : Ob} {j q : Nat} {v : Int32} (h : In10 y y' j) (h1 : 50 * j ≤ q) (h2 : q < 50 * j + 50) : In10 y (pa y' 10 q v) j := by
  refine ⟨fun r hr => ?_, fun z hz => ?_⟩
  · rw [pa_n _ _ _ hr]; exact h.1 r hr
  · rw [pa_s]
    have : ¬ z = q := by omega
    simp only [upd, if_neg this]; exact h.2 z hz
theorem lp10_i19 {y : Ob} {j : Nat} {K : Ob → Prop} (hj : j < 2) (hK : ∀ y', In10 y y' j → (∀ k, k < 10 → y' 10 (50 * j + k) = y 1 k ∧ y' 10 (50 * j + 10 + k) = y 2 k) → K y') :
    ∀ d k y', k + d = 10 → In10 y y' j → (∀ i, i < k → y' 10 (50 * j + i) = y 1 i ∧ y' 10 (50 * j + 10 + i) = y 2 i) → wpX10_image_L19 (nI (50 * j)) K (d + 1) (nI k) y'
  | 0, k, y', h, i1, i2 => by
    unfold wpX10_image_L19
    exact br_t (nI_le (a := 10) (by omega) (by omega)) (hK y' i1 (fun i hi => i2 i (by omega)))
  | d + 1, k, y', h, i1, i2 => by
    unfold wpX10_image_L19
    have e10 : nI (50 * j) + (10 : Int32) = nI (50 * j + 10) := nI_add _ 10
    rw [e10, nI_add, nI_add, nI_1]
    refine br_f (nI_ge (b := 10) (by omega) (by omega)) ⟨vp_in_nI (by omega) (by omega), vp_in_nI (by omega) (by omega), vp_in_nI (by omega) (by omega), ?_⟩
    intro y1 e1
    refine ⟨vp_in_nI (by omega) (by omega), ?_⟩
    rw [nC_n (by omega), jld_n (by omega), i1.1 1 (by decide)] at e1
    rw [nC_n (by omega), jld_n (by omega), i1.1 2 (by decide)]
    refine lp10_i19 hj hK d (k + 1) _ (by omega) ?_ (fun i hi => ?_)
    · subst e1
      exact (i1.put (by omega) (by omega)).put (by omega) (by omega)
    · subst e1
      rw [pa_s, pa_s]
      by_cases e : i = k
      · subst e
        have n1 : ¬ 50 * j + i = 50 * j + 10 + i := by omega
        simp [upd, n1]
      · have n1 : ¬ 50 * j + i = 50 * j + 10 + k := by omega
        have n2 : ¬ 50 * j + i = 50 * j + k := by omega
        have n3 : ¬ 50 * j + 10 + i = 50 * j + 10 + k := by omega
        have n4 : ¬ 50 * j + 10 + i = 50 * j + k := by omega
        simp only [upd, if_neg n1, if_neg n2, if_neg n3, if_neg n4]
        exact i2 i (by omega)
theorem lp10_i64 {y : Ob} {j : Nat} {K : Ob → Prop} (hj : j < 2) (hK : ∀ y', In10 y y' j → (∀ k, k < 10 → y' 10 (50 * j + k) = y 1 k ∧ y' 10 (50 * j + 10 + k) = y 2 k) → (∀ k, k < 16 → y' 10 (50 * j + 20 + k) = y 3 k) → K y') :
    ∀ d k y', k + d = 16 → In10 y y' j → (∀ i, i < 10 → y' 10 (50 * j + i) = y 1 i ∧ y' 10 (50 * j + 10 + i) = y 2 i) → (∀ i, i < k → y' 10 (50 * j + 20 + i) = y 3 i) → wpX10_image_L64 (nI (50 * j)) K (d + 1) (nI k) y'
  | 0, k, y', h, i1, i2, i3 => by
    unfold wpX10_image_L64
    exact br_t (nI_le (a := 16) (by omega) (by omega)) (hK y' i1 i2 (fun i hi => i3 i (by omega)))
  | d + 1, k, y', h, i1, i2, i3 => by
    unfold wpX10_image_L64
    have e10 : nI (50 * j) + (20 : Int32) = nI (50 * j + 20) := nI_add _ 20
    rw [e10, nI_add, nI_1]
    refine br_f (nI_ge (b := 16) (by omega) (by omega)) ⟨vp_in_nI (by omega) (by omega), vp_in_nI (by omega) (by omega), ?_⟩
    rw [nC_n (by omega), jld_n (by omega), i1.1 3 (by decide)]
    refine lp10_i64 hj hK d (k + 1) _ (by omega) (i1.put (by omega) (by omega)) (fun i hi => ?_) (fun i hi => ?_)
    · rw [pa_s]
      have n1 : ¬ 50 * j + i = 50 * j + 20 + k := by omega
      have n2 : ¬ 50 * j + 10 + i = 50 * j + 20 + k := by omega
      simp only [upd, if_neg n1, if_neg n2]; exact i2 i hi
    · rw [pa_s]
      by_cases e : i = k
      · subst e; simp [upd]
      · have n1 : ¬ 50 * j + 20 + i = 50 * j + 20 + k := by omega
        simp only [upd, if_neg n1]; exact i3 i (by omega)
theorem jb1 : jb 1 = 1 := by decide +kernel
theorem sp10_image {y : Ob} {A : AS} {j : Nat} {post : Int32 → Ob → Prop} (hy : YS y A) (h8 : A.1 6 ≤ 8) (hj : j < 2) (hp : ∀ y', (∀ r, r ≠ 10 → r ≠ 11 → y' r = y r) → (∀ q, (q < 50 * j ∨ 50 * j + 50 ≤ q) → y' 10 q = y 10 q) → y' 11 = upd (y 11) j 1 → YI y' j A → post 1 y') : wpX10_image y (nI j) post := by
  unfold wpX10_image
  refine sp10_in_y (nI_pos (by omega)) (nI_nlt (b := j) (a := 1) (by omega) (by omega)) (br_f (by decide) ⟨11, ?_⟩)
  rw [mul50]
  refine lp10_i19 hj (fun y1 p1 p2 => ⟨17, ?_⟩) 10 0 y (by omega) (In10.refl y j) (fun i hi => absurd hi (Nat.not_lt_zero _))
  have e40 : nI (50 * j) + (40 : Int32) = nI (50 * j + 40) := nI_add _ 40
  have e41 : nI (50 * j) + (41 : Int32) = nI (50 * j + 41) := nI_add _ 41
  have e42 : nI (50 * j) + (42 : Int32) = nI (50 * j + 42) := nI_add _ 42
  have e43 : nI (50 * j) + (43 : Int32) = nI (50 * j + 43) := nI_add _ 43
  have e44 : nI (50 * j) + (44 : Int32) = nI (50 * j + 44) := nI_add _ 44
  have e45 : nI (50 * j) + (45 : Int32) = nI (50 * j + 45) := nI_add _ 45
  have e46 : nI (50 * j) + (46 : Int32) = nI (50 * j + 46) := nI_add _ 46
  have hq1 : ∀ y2, In10 y1 y2 j → In10 y y2 j := fun y2 q => ⟨fun r hr => (q.1 r hr).trans (p1.1 r hr), fun z hz => (q.2 z hz).trans (p1.2 z hz)⟩
  refine lp10_i64 (y := y1) hj (fun y2 q1 q2 q3 => ?_) 16 0 y1 (by omega) (In10.refl y1 j) (fun i hi => by rw [p1.1 1 (by decide), p1.1 2 (by decide)]; exact p2 i hi) (fun i hi => absurd hi (Nat.not_lt_zero _))
  have z := hq1 y2 q1
  rw [e40, e41, e42, e43, e44, e45, e46]
  refine ⟨vp_in_nI (by omega) (by omega), ?_⟩
  intro w0 f0
  refine ⟨vp_in_nI (by omega) (by omega), ?_⟩
  intro w1 f1
  refine ⟨vp_in_nI (by omega) (by omega), ?_⟩
  intro w2 f2
  refine ⟨vp_in_nI (by omega) (by omega), ?_⟩
  intro w3 f3
  refine ⟨vp_in_nI (by omega) (by omega), ?_⟩
  intro w4 f4
  refine ⟨vp_in_nI (by omega) (by omega), ?_⟩
  intro w5 f5
  refine ⟨vp_in_nI (by omega) (by omega), ?_⟩
  intro w6 f6
  refine ⟨vp_in_nI (by omega) (by omega), ?_⟩
  rw [nC_n (by omega)] at f0 f1 f2 f3 f4 f5 f6
  rw [nC_n (by omega), jb1]
  have z0 : In10 y w0 j := by rw [f0]; exact z.put (by omega) (by omega)
  have z1 : In10 y w1 j := by rw [f1]; exact z0.put (by omega) (by omega)
  have z2 : In10 y w2 j := by rw [f2]; exact z1.put (by omega) (by omega)
  have z3 : In10 y w3 j := by rw [f3]; exact z2.put (by omega) (by omega)
  have z4 : In10 y w4 j := by rw [f4]; exact z3.put (by omega) (by omega)
  have z5 : In10 y w5 j := by rw [f5]; exact z4.put (by omega) (by omega)
  have z6 : In10 y w6 j := by rw [f6]; exact z5.put (by omega) (by omega)
  obtain ⟨⟨y0, y2', y3, y4, y5, y6, y8⟩, hy1, hy2, hy3⟩ := hy
  have g0 : y2 0 0 = nI (A.1 0) := by rw [z.1 0 (by decide)]; exact y0
  have g1 : y2 0 2 = nI (A.1 1) := by rw [z.1 0 (by decide)]; exact y2'
  have g2 : w0 0 3 = nI (A.1 2) := by rw [z0.1 0 (by decide)]; exact y3
  have g3 : w1 0 4 = nI (A.1 3) := by rw [z1.1 0 (by decide)]; exact y4
  have g4 : w2 0 5 = nI (A.1 4) := by rw [z2.1 0 (by decide)]; exact y5
  have g5 : w3 0 6 = nI (A.1 5) := by rw [z3.1 0 (by decide)]; exact y6
  have g6 : w4 0 8 = nI (A.1 6) := by rw [z4.1 0 (by decide)]; exact y8
  rw [g0] at f0
  rw [g1] at f1
  rw [g2] at f2
  rw [g3] at f3
  rw [g4] at f4
  rw [g5] at f5
  rw [g6] at f6
  have cells : w6 10 = upd (upd (upd (upd (upd (upd (upd (y2 10) (50 * j + 40) (nI (A.1 0))) (50 * j + 41) (nI (A.1 1))) (50 * j + 42) (nI (A.1 2))) (50 * j + 43) (nI (A.1 3))) (50 * j + 44) (nI (A.1 4))) (50 * j + 45) (nI (A.1 5))) (50 * j + 46) (nI (A.1 6)) := by
    rw [f6, pa_s, f5, pa_s, f4, pa_s, f3, pa_s, f2, pa_s, f1, pa_s, f0, pa_s]
  have low : ∀ q, q < 50 * j + 40 → w6 10 q = y2 10 q := by
    intro q hq
    rw [cells]
    have m0 : ¬ q = 50 * j + 40 := by omega
    have m1 : ¬ q = 50 * j + 41 := by omega
    have m2 : ¬ q = 50 * j + 42 := by omega
    have m3 : ¬ q = 50 * j + 43 := by omega
    have m4 : ¬ q = 50 * j + 44 := by omega
    have m5 : ¬ q = 50 * j + 45 := by omega
    have m6 : ¬ q = 50 * j + 46 := by omega
    simp only [upd, if_neg m0, if_neg m1, if_neg m2, if_neg m3, if_neg m4, if_neg m5, if_neg m6]
  have e11 : pa w6 11 j 1 10 = w6 10 := pa_n _ _ _ (by decide)
  refine hp _ (fun r h1 h2 => ?_) (fun q hq => ?_) ?_ ⟨fun k hk => ?_, fun k hk => ?_, ?_, ?_, ?_, ?_, ?_, ?_, ?_⟩
  · rw [pa_n _ _ _ h2]; exact z6.1 r h1
  · rw [e11]; exact z6.2 q hq
  · rw [pa_s, z6.1 11 (by decide)]
  · rw [e11, low _ (by omega), low _ (by omega), (q2 k hk).1, (q2 k hk).2, p1.1 1 (by decide), p1.1 2 (by decide)]
    exact ⟨hy1 k hk, hy3 k hk⟩
  · rw [e11, low _ (by omega), low _ (by omega), q3 _ (by omega), q3 _ (by omega), p1.1 3 (by decide)]
    exact hy2 k hk
  · rw [e11, cells]; simp [upd]
  · rw [e11, cells]; simp [upd]
  · rw [e11, cells]; simp [upd]
  · rw [e11, cells]; simp [upd]
  · rw [e11, cells]; simp [upd]
  · rw [e11, cells]; simp [upd]
  · rw [e11, cells]; simp [upd]
theorem st_image {oX oS oI oJ oP oY : Ob} (h : RR oX oS oI oJ oP oY) (v1 : Int32) {K : Int32 → Int32 → Ob → Ob → Ob → Ob → Prop} (hK : ∀ r x' i' j' y', RR x' oS i' j' oP y' → K r r x' i' j' y') : wpX9_image oX oS oI oJ v1 (fun r x' i' j' => wpX10_image oY v1 (fun r2 y' => K r r2 x' i' j' y')) := by
  obtain ⟨⟨A, hg⟩, ⟨P, hP⟩, h0, h1⟩ := id h
  obtain ⟨hs, hy, ho, hsg, how⟩ := id hg
  have h8 := ho.2.2.2.2.2.2.1
  unfold wpX9_image
  refine sp9_out (b2_br (fun hin => ?_) (fun hout => ?_))
  · obtain ⟨n, n1, n2, rfl⟩ := in_rng (a := 0) (b := 1) (x := v1) (by omega) (fun q => hin (Or.inl q)) (fun q => hin (Or.inr q)) (by omega)
    have good : ∀ y', (∀ r, r ≠ 10 → r ≠ 11 → y' r = oY r) → Good oS y' A ∧ GoodP oP y' P := by
      intro y' q
      refine ⟨⟨hs, ?_, ho, hsg, how⟩, hP.1, ?_, hP.2.2⟩
      · unfold YS at *
        rw [q 0 (by decide) (by decide), q 1 (by decide) (by decide), q 2 (by decide) (by decide), q 3 (by decide) (by decide)]; exact hy
      · have := hP.2.1
        unfold YP at *
        rw [q 0 (by decide) (by decide), q 4 (by decide) (by decide)]; exact this
    refine pk_eq n 0 (fun e => ?_) (fun e => ?_)
    · subst e
      refine sp8_copyFrom hs h8 (fun i' hi' => sp10_image (j := 0) hy h8 (by decide) (fun y' q1 q2 q3 q4 => ?_))
      obtain ⟨g1, g2⟩ := good y' q1
      refine hK _ _ _ _ _ ⟨⟨A, g1⟩, ⟨P, g2⟩, Or.inr ⟨pf_s _ _ _, ?_, A, hi', q4, ho, hsg, how⟩, ?_⟩
      · rw [q3]; simp [upd]
      · unfold Im YI at *
        rw [q3, pf_n _ _ (by decide)]
        have e1 : ∀ z, y' 10 (50 * 1 + z) = oY 10 (50 * 1 + z) := fun z => q2 _ (Or.inr (by omega))
        have e2 : ∀ z w, y' 10 (50 * 1 + z + w) = oY 10 (50 * 1 + z + w) := fun z w => q2 _ (Or.inr (by omega))
        have e3 : upd (oY 11) 0 1 1 = oY 11 1 := by simp [upd]
        simp only [e1, e2, e3]
        exact h1
    · have e1 : n = 1 := by omega
      subst e1
      refine sp8_copyFrom hs h8 (fun i' hi' => sp10_image (j := 1) hy h8 (by decide) (fun y' q1 q2 q3 q4 => ?_))
      obtain ⟨g1, g2⟩ := good y' q1
      refine hK _ _ _ _ _ ⟨⟨A, g1⟩, ⟨P, g2⟩, ?_, Or.inr ⟨pf_s _ _ _, ?_, A, hi', q4, ho, hsg, how⟩⟩
      · unfold Im YI at *
        rw [q3, pf_n _ _ (by decide)]
        have e3 : upd (oY 11) 1 1 0 = oY 11 0 := by simp [upd]
        rw [e3]
        rcases h0 with z | ⟨z1, z2, B, b1, ⟨b2, b3, b4⟩, b5⟩
        · exact Or.inl z
        · refine Or.inr ⟨z1, z2, B, b1, ⟨fun k hk => ?_, fun k hk => ?_, ?_⟩, b5⟩
          · rw [q2 _ (Or.inl (by omega)), q2 _ (Or.inl (by omega))]; exact b2 k hk
          · have := b5.1.2.2.2.2.2.2.1
            rw [q2 _ (Or.inl (by omega)), q2 _ (Or.inl (by omega))]; exact b3 k hk
          · rw [q2 _ (Or.inl (by omega)), q2 _ (Or.inl (by omega)), q2 _ (Or.inl (by omega)), q2 _ (Or.inl (by omega)), q2 _ (Or.inl (by omega)), q2 _ (Or.inl (by omega)), q2 _ (Or.inl (by omega))]; exact b4
      · rw [q3]; simp [upd]
  · unfold wpX10_image
    exact sp10_in (b2_br (fun _ => hK _ _ _ _ _ h) (fun q => absurd hout q))
theorem lp10_r31 {y : Ob} {j : Nat} {K : Ob → Prop} (hj : j < 2) (hK : ∀ y', (∀ r, r ≠ 1 → r ≠ 2 → y' r = y r) → (∀ k, k < 10 → y' 1 k = y 10 (50 * j + k) ∧ y' 2 k = y 10 (50 * j + 10 + k)) → K y') :
    ∀ d k y', k + d = 10 → (∀ r, r ≠ 1 → r ≠ 2 → y' r = y r) → (∀ i, i < k → y' 1 i = y 10 (50 * j + i) ∧ y' 2 i = y 10 (50 * j + 10 + i)) → wpX10_restore_L31 (nI (50 * j)) K (d + 1) (nI k) y'
  | 0, k, y', h, i1, i2 => by
    unfold wpX10_restore_L31
    exact br_t (nI_le (a := 10) (by omega) (by omega)) (hK y' i1 (fun i hi => i2 i (by omega)))
  | d + 1, k, y', h, i1, i2 => by
    unfold wpX10_restore_L31
    have e10 : nI (50 * j) + (10 : Int32) = nI (50 * j + 10) := nI_add _ 10
    rw [e10, nI_add, nI_add, nI_1]
    refine br_f (nI_ge (b := 10) (by omega) (by omega)) ⟨vp_in_nI (by omega) (by omega), vp_in_nI (by omega) (by omega), vp_in_nI (by omega) (by omega), ?_⟩
    intro y1 e1
    refine ⟨vp_in_nI (by omega) (by omega), ?_⟩
    rw [nC_n (by omega), jld_n (by omega), i1 10 (by decide) (by decide)] at e1
    rw [nC_n (by omega), jld_n (by omega), i1 10 (by decide) (by decide)]
    refine lp10_r31 hj hK d (k + 1) _ (by omega) (fun r h1 h2 => ?_) (fun i hi => ?_)
    · rw [pa_n _ _ _ h2, e1, pa_n _ _ _ h1]; exact i1 r h1 h2
    · rw [pa_s, pa_n _ _ _ (by decide), e1, pa_s, pa_n _ _ _ (by decide)]
      by_cases e : i = k
      · subst e; simp [upd]
      · simp only [upd, if_neg e]; exact i2 i (by omega)
theorem lp10_r76 {y : Ob} {j : Nat} {K : Ob → Prop} (hj : j < 2) (hK : ∀ y', (∀ r, r ≠ 3 → y' r = y r) → (∀ k, k < 16 → y' 3 k = y 10 (50 * j + 20 + k)) → K y') :
    ∀ d k y', k + d = 16 → (∀ r, r ≠ 3 → y' r = y r) → (∀ i, i < k → y' 3 i = y 10 (50 * j + 20 + i)) → wpX10_restore_L76 (nI (50 * j)) K (d + 1) (nI k) y'
  | 0, k, y', h, i1, i2 => by
    unfold wpX10_restore_L76
    exact br_t (nI_le (a := 16) (by omega) (by omega)) (hK y' i1 (fun i hi => i2 i (by omega)))
  | d + 1, k, y', h, i1, i2 => by
    unfold wpX10_restore_L76
    have e10 : nI (50 * j) + (20 : Int32) = nI (50 * j + 20) := nI_add _ 20
    rw [e10, nI_add, nI_1]
    refine br_f (nI_ge (b := 16) (by omega) (by omega)) ⟨vp_in_nI (by omega) (by omega), vp_in_nI (by omega) (by omega), ?_⟩
    rw [nC_n (by omega), jld_n (by omega), i1 10 (by decide)]
    refine lp10_r76 hj hK d (k + 1) _ (by omega) (fun r h1 => ?_) (fun i hi => ?_)
    · rw [pa_n _ _ _ h1]; exact i1 r h1
    · rw [pa_s]
      by_cases e : i = k
      · subst e; simp [upd]
      · simp only [upd, if_neg e]; exact i2 i (by omega)
theorem sp10_restore {y : Ob} {B : AS} {j : Nat} {post : Int32 → Ob → Prop} (hi : YI y j B) (h11 : y 11 j = 1) (h8 : B.1 6 ≤ 8) (hj : j < 2) (hp : ∀ y', YS y' B → YK y y' → post 1 y') : wpX10_restore y (nI j) post := by
  unfold wpX10_restore
  refine sp10_in_y (nI_pos (by omega)) (nI_nlt (b := j) (a := 1) (by omega) (by omega)) (br_f (by decide) ⟨vp_in_nI (by omega) (by omega), ?_⟩)
  rw [jld_n (by omega), h11, mul50]
  refine br_f (by decide) ⟨11, ?_⟩
  have e40 : nI (50 * j) + (40 : Int32) = nI (50 * j + 40) := nI_add _ 40
  have e41 : nI (50 * j) + (41 : Int32) = nI (50 * j + 41) := nI_add _ 41
  have e42 : nI (50 * j) + (42 : Int32) = nI (50 * j + 42) := nI_add _ 42
  have e43 : nI (50 * j) + (43 : Int32) = nI (50 * j + 43) := nI_add _ 43
  have e44 : nI (50 * j) + (44 : Int32) = nI (50 * j + 44) := nI_add _ 44
  have e45 : nI (50 * j) + (45 : Int32) = nI (50 * j + 45) := nI_add _ 45
  have e46 : nI (50 * j) + (46 : Int32) = nI (50 * j + 46) := nI_add _ 46
  refine lp10_r31 (y := y) hj (fun y1 p1 p2 => ⟨17, ?_⟩) 10 0 y (by omega) (fun _ _ _ => rfl) (fun i hi => absurd hi (Nat.not_lt_zero _))
  refine lp10_r76 (y := y1) hj (fun y2 q1 q2 => ?_) 16 0 y1 (by omega) (fun _ _ => rfl) (fun i hi => absurd hi (Nat.not_lt_zero _))
  rw [e40, e41, e42, e43, e44, e45, e46]
  refine ⟨vp_in_nI (by omega) (by omega), vp_in_nI (by omega) (by omega), ?_⟩
  intro w0 f0
  refine ⟨vp_in_nI (by omega) (by omega), ?_⟩
  intro w1 f1
  refine ⟨vp_in_nI (by omega) (by omega), ?_⟩
  intro w2 f2
  refine ⟨vp_in_nI (by omega) (by omega), ?_⟩
  intro w3 f3
  refine ⟨vp_in_nI (by omega) (by omega), ?_⟩
  intro w4 f4
  refine ⟨vp_in_nI (by omega) (by omega), ?_⟩
  intro w5 f5
  have r10 : y2 10 = y 10 := by rw [q1 10 (by decide), p1 10 (by decide) (by decide)]
  have s0 : w0 10 = y 10 := by rw [f0, pf_r _ _ _ _ (by decide), r10]
  have s1 : w1 10 = y 10 := by rw [f1, pf_r _ _ _ _ (by decide), s0]
  have s2 : w2 10 = y 10 := by rw [f2, pf_r _ _ _ _ (by decide), s1]
  have s3 : w3 10 = y 10 := by rw [f3, pf_r _ _ _ _ (by decide), s2]
  have s4 : w4 10 = y 10 := by rw [f4, pf_r _ _ _ _ (by decide), s3]
  rw [r10, jld_n (by omega)] at f0 f1
  rw [s0, jld_n (by omega)] at f2
  rw [s1, jld_n (by omega)] at f3
  rw [s2, jld_n (by omega)] at f4
  rw [s3, jld_n (by omega)] at f5
  rw [s4, jld_n (by omega)]
  obtain ⟨b1, b2, c0, c1, c2, c3, c4, c5, c6⟩ := hi
  rw [c0] at f0
  rw [c1] at f1
  rw [c2] at f2
  rw [c3] at f3
  rw [c4] at f4
  rw [c5] at f5
  rw [c6]
  have row : ∀ r, r ≠ 0 → pf w5 8 (nI (B.1 6)) r = y2 r := fun r hr => by
    rw [pf_r _ _ _ _ hr, f5, pf_r _ _ _ _ hr, f4, pf_r _ _ _ _ hr, f3, pf_r _ _ _ _ hr, f2, pf_r _ _ _ _ hr, f1, pf_r _ _ _ _ hr, f0, pf_r _ _ _ _ hr]
  refine hp _ ⟨⟨?_, ?_, ?_, ?_, ?_, ?_, pf_s _ _ _⟩, fun k hk => ?_, fun k hk => ?_, fun k hk => ?_⟩ ⟨?_, ?_, ?_, ?_⟩
  · subst f0; subst f1; subst f2; subst f3; subst f4; subst f5; rfl
  · subst f0; subst f1; subst f2; subst f3; subst f4; subst f5; rfl
  · subst f0; subst f1; subst f2; subst f3; subst f4; subst f5; rfl
  · subst f0; subst f1; subst f2; subst f3; subst f4; subst f5; rfl
  · subst f0; subst f1; subst f2; subst f3; subst f4; subst f5; rfl
  · subst f0; subst f1; subst f2; subst f3; subst f4; subst f5; rfl
  · rw [row 1 (by decide), q1 1 (by decide), (p2 k hk).1]; exact (b1 k hk).1
  · rw [row 3 (by decide), q2 _ (by omega), q2 _ (by omega), p1 10 (by decide) (by decide)]; exact b2 k hk
  · rw [row 2 (by decide), q1 2 (by decide), (p2 k hk).2]; exact (b1 k hk).2
  · rw [row 4 (by decide), q1 4 (by decide), p1 4 (by decide) (by decide)]
  · rw [row 10 (by decide), r10]
  · rw [row 11 (by decide), q1 11 (by decide), p1 11 (by decide) (by decide)]
  · have : pf w5 8 (nI (B.1 6)) 0 10 = y2 0 10 := by subst f0; subst f1; subst f2; subst f3; subst f4; subst f5; rfl
    rw [this, q1 0 (by decide), p1 0 (by decide) (by decide)]
theorem st_restore {oX oS oI oJ oP oY : Ob} (h : RR oX oS oI oJ oP oY) (v1 : Int32) {K : Int32 → Int32 → Ob → Ob → Prop} (hK : ∀ r s' y', RR oX s' oI oJ oP y' → K r r s' y') : wpX9_restore oX oS oI oJ v1 (fun r s' => wpX10_restore oY v1 (fun r2 y' => K r r2 s' y')) := by
  obtain ⟨⟨A, hg⟩, ⟨P, hP⟩, h0, h1⟩ := id h
  unfold wpX9_restore
  refine sp9_out (b2_br (fun hin => ?_) (fun hout => ?_))
  · obtain ⟨n, n1, n2, rfl⟩ := in_rng (a := 0) (b := 1) (x := v1) (by omega) (fun q => hin (Or.inl q)) (fun q => hin (Or.inr q)) (by omega)
    unfold jn0
    refine pk_eq n 0 (fun e => ?_) (fun e => ?_)
    · subst e
      rcases h0 with ⟨z1, z2⟩ | ⟨z1, z2, B, b1, b2, b3, b4, b5⟩
      · rw [z1]
        refine br_t rfl ?_
        unfold wpX10_restore
        refine sp10_in (b2_br (fun q => absurd hin q) (fun _ => ⟨vp_in_nI (by omega) (by omega), ?_⟩))
        rw [jld_n (by omega), z2]
        exact br_t rfl (hK _ _ _ h)
      · rw [z1]
        have h8 := b3.2.2.2.2.2.2.1
        refine br_f (by decide) (br_t rfl (sp8_copyFrom b1 h8 (fun s' hs' => sp10_restore (j := 0) b2 z2 h8 (by decide) (fun y' q1 q2 => ?_))))
        exact hK _ _ _ ⟨⟨B, hs', q1, b3, b4, b5⟩, ⟨P, hP.1, q2.yp hP.2.1, hP.2.2⟩, Im.y (Or.inr ⟨z1, z2, B, b1, b2, b3, b4, b5⟩) q2.2.1 q2.2.2.1, h1.y q2.2.1 q2.2.2.1⟩
    · have e1 : n = 1 := by omega
      subst e1
      rcases h1 with ⟨z1, z2⟩ | ⟨z1, z2, B, b1, b2, b3, b4, b5⟩
      · rw [z1]
        refine br_t rfl ?_
        unfold wpX10_restore
        refine sp10_in (b2_br (fun q => absurd hin q) (fun _ => ⟨vp_in_nI (by omega) (by omega), ?_⟩))
        rw [jld_n (by omega), z2]
        exact br_t rfl (hK _ _ _ h)
      · rw [z1]
        have h8 := b3.2.2.2.2.2.2.1
        refine br_f (by decide) (br_f (by decide) (sp8_copyFrom b1 h8 (fun s' hs' => sp10_restore (j := 1) b2 z2 h8 (by decide) (fun y' q1 q2 => ?_))))
        exact hK _ _ _ ⟨⟨B, hs', q1, b3, b4, b5⟩, ⟨P, hP.1, q2.yp hP.2.1, hP.2.2⟩, h0.y q2.2.1 q2.2.2.1, Im.y (Or.inr ⟨z1, z2, B, b1, b2, b3, b4, b5⟩) q2.2.1 q2.2.2.1⟩
  · unfold wpX10_restore
    exact sp10_in (b2_br (fun _ => hK _ _ _ h) (fun q => absurd hout q))
