/-! borrow, told, feet -/
theorem add_small {x : Int32} {v : Nat} (h : -5000 < x.toInt ∧ x.toInt < 5000) (hv : v ≤ 5000) : (x + nI v).toInt = x.toInt + v := by
  rw [Int32.toInt_add, nI_toInt (by omega)]
  exact Int.bmod_eq_of_le (by omega) (by omega)
theorem sub_small {x : Int32} {v : Nat} (h : -5000 < x.toInt ∧ x.toInt < 5000) (hv : v ≤ 5000) : (x - nI v).toInt = x.toInt - v := by
  rw [Int32.toInt_sub, nI_toInt (by omega)]
  exact Int.bmod_eq_of_le (by omega) (by omega)
theorem dsum_upd (f : Nat → Int32) (a : Nat) (x : Int32) : ∀ n, dsum (upd f a x) n = dsum f n + (if a < n then x.toInt - (f a).toInt else 0)
  | 0 => by simp [dsum]
  | n + 1 => by
    rw [dsum, dsum, dsum_upd f a x n]
    by_cases e : n = a
    · subst e
      have h1 : ¬ n < n := by omega
      have h2 : n < n + 1 := by omega
      simp only [upd, if_neg h1, if_pos h2, if_pos]
      omega
    · simp only [upd, if_neg e]
      by_cases h : a < n
      · have h2 : a < n + 1 := by omega
        simp only [if_pos h, if_pos h2]; omega
      · have h2 : ¬ a < n + 1 := by omega
        simp only [if_neg h, if_neg h2]; omega
def owe2 (A : AS) (a b : Nat) (x y : Int32) : AS := (A.1, A.2.1, upd (upd A.2.2.1 a x) b y, A.2.2.2)
theorem st_borrow {oX oS oY : Ob} {A : AS} (h : Good oS oY A) (v1 v2 v3 : Int32) {K : Int32 → Int32 → Ob → Ob → Prop} (hK : ∀ r s' y' A', Good s' y' A' → YK oY y' → K r r s' y') : wpX9_borrow oX oS v1 v2 v3 (fun r s' => wpX10_borrow oY v1 v2 v3 (fun r2 y' => K r r2 s' y')) := by
  obtain ⟨hs, hy, ho, hsg, how⟩ := id h
  obtain ⟨a1, a2⟩ := ho.1
  unfold wpX9_borrow
  rcases two_cases v1 v2 a2 with q | ⟨a, b, ha, hb, hab, rfl, rfl⟩
  · refine two9_n (hs.1 0 (by omega)) a2 q (br_t rfl ?_)
    unfold wpX10_borrow
    exact two10_n hy.1.1 (by omega) a2 q (br_t rfl (hK _ _ _ A h (YQ.refl oY).k))
  · refine two9_y (hs.1 0 (by omega)) a2 ha hb hab (br_f (by decide) ?_)
    refine sp9_out (b2_br (fun hin => ?_) (fun hout => ?_))
    · obtain ⟨n, n1, n2, rfl⟩ := in_rng (a := 1) (b := 9) (x := v3) (by omega) (fun q => hin (Or.inl q)) (fun q => hin (Or.inr q)) (by omega)
      refine ⟨vp_in_nI (by omega) (by omega), vp_in_nI (by omega) (by omega), ?_⟩
      have sa : jld (oS 5) (nI a) = A.2.2.1 a := by rw [jld_n (by omega)]; exact hs.2.2.2.2 a (by omega)
      have sb : jld (oS 5) (nI b) = A.2.2.1 b := by rw [jld_n (by omega)]; exact hs.2.2.2.2 b (by omega)
      have ya : jld (oY 2) (nI a) = A.2.2.1 a := by rw [jld_n (by omega)]; exact hy.2.2.2 a (by omega)
      have yb : jld (oY 2) (nI b) = A.2.2.1 b := by rw [jld_n (by omega)]; exact hy.2.2.2 b (by omega)
      rw [sa, sb]
      have ba := how.1 a (by omega)
      have bb := how.1 b (by omega)
      have mod : ∀ post : Int32 → Ob → Prop, ((((1000 : Int32) ≤ A.2.2.1 a + nI n) → post (-3) oY) ∧ (¬ ((1000 : Int32) ≤ A.2.2.1 a + nI n) → (((-1000 : Int32) < A.2.2.1 b - nI n) → ∀ y', (∀ r, r ≠ 2 → y' r = oY r) → y' 2 = upd (upd (oY 2) a (A.2.2.1 a + nI n)) b (A.2.2.1 b - nI n) → post (A.2.2.1 a + nI n + (1000 : Int32)) y') ∧ (¬ ((-1000 : Int32) < A.2.2.1 b - nI n) → post (-3) oY))) → wpX10_borrow oY (nI a) (nI b) (nI n) post := by
        intro post hq
        unfold wpX10_borrow
        refine two10_y hy.1.1 a2 ha hb hab (br_f (by decide) (sp10_in (b2_br (fun q => absurd hin q) (fun _ => ?_))))
        rw [ya, yb]
        refine ⟨vp_in_nI (by omega) (by omega), hq.1, fun c1 => ⟨vp_in_nI (by omega) (by omega), fun c2 => ?_, (hq.2 c1).2⟩⟩
        refine ⟨vp_in_nI (by omega) (by omega), vp_in_nI (by omega) (by omega), vp_in_nI (by omega) (by omega), ?_⟩
        intro y1 e1
        refine ⟨vp_in_nI (by omega) (by omega), vp_in_nI (by omega) (by omega), ?_⟩
        rw [nC_n (by omega)] at e1
        rw [nC_n (by omega), nC_n (by omega)]
        have hba : b ≠ a := fun q => hab q.symm
        have r1 : jld (upd (oY 2) a (A.2.2.1 a + nI n)) (nI b) = A.2.2.1 b := by
          rw [jld_n (by omega)]; simp only [upd, if_neg hba]; exact hy.2.2.2 b (by omega)
        rw [r1, e1, pa_s]
        have r2 : jld (upd (upd (oY 2) a (A.2.2.1 a + nI n)) b (A.2.2.1 b - nI n)) (nI a) = A.2.2.1 a + nI n := by
          rw [jld_n (by omega)]; simp [upd, hab]
        rw [r2]
        refine (hq.2 c1).1 c2 _ (fun r hr => ?_) ?_
        · rw [pa_n _ _ _ hr, pa_n _ _ _ hr]
        · rw [pa_s, pa_s]
      refine br_c (fun c1 => mod _ (br_t c1 (hK _ _ _ A h (YQ.refl oY).k))) (fun c1 => br_c (fun c2 => ?_) (fun c2 => mod _ (br_f c1 (br_f c2 (hK _ _ _ A h (YQ.refl oY).k)))))
      refine ⟨vp_in_nI (by omega) (by omega), ?_⟩
      intro s1 e1
      refine ⟨vp_in_nI (by omega) (by omega), mod _ (br_f c1 (br_t c2 (fun y' q1 q2 => ?_)))⟩
      rw [nC_n (by omega)] at e1
      rw [nC_n (by omega), e1]
      have ta := add_small (v := n) (x := A.2.2.1 a) (by omega) (by omega)
      have tb := sub_small (v := n) (x := A.2.2.1 b) (by omega) (by omega)
      have c1' : (A.2.2.1 a).toInt + n < 1000 := by
        rw [Int32.le_iff_toInt_le, ta] at c1
        have : (1000 : Int32).toInt = 1000 := by decide
        omega
      have c2' : -1000 < (A.2.2.1 b).toInt - n := by
        rw [Int32.lt_iff_toInt_lt, tb] at c2
        have : (-1000 : Int32).toInt = -1000 := by decide
        omega
      refine hK _ _ _ (owe2 A a b (A.2.2.1 a + nI n) (A.2.2.1 b - nI n)) ⟨⟨fun k hk => ?_, fun k hk => ?_, fun k hk => ?_, fun k hk => ?_, fun k hk => ?_⟩, ⟨?_, fun k hk => ?_, fun k hk => ?_, fun k hk => ?_⟩, ho, hsg, fun k hk => ?_, ?_⟩ ⟨q1 4 (by decide), q1 10 (by decide), q1 11 (by decide), by rw [q1 0 (by decide)]⟩
      · rw [pa_n _ _ _ (by decide), pa_n _ _ _ (by decide)]; exact hs.1 k hk
      · rw [pa_n _ _ _ (by decide), pa_n _ _ _ (by decide)]; exact hs.2.1 k hk
      · rw [pa_n _ _ _ (by decide), pa_n _ _ _ (by decide)]; exact hs.2.2.1 k hk
      · rw [pa_n _ _ _ (by decide), pa_n _ _ _ (by decide), pa_n _ _ _ (by decide), pa_n _ _ _ (by decide)]; exact hs.2.2.2.1 k hk
      · rw [pa_s, pa_s]
        show upd (upd (oS 5) a _) b _ k = upd (upd A.2.2.1 a _) b _ k
        unfold upd
        split
        · rfl
        · split
          · rfl
          · exact hs.2.2.2.2 k hk
      · rw [q1 0 (by decide)]; exact hy.1
      · rw [q1 1 (by decide)]; exact hy.2.1 k hk
      · rw [q1 3 (by decide)]; exact hy.2.2.1 k hk
      · rw [q2]
        show upd (upd (oY 2) a _) b _ k = upd (upd A.2.2.1 a _) b _ k
        unfold upd
        split
        · rfl
        · split
          · rfl
          · exact hy.2.2.2 k hk
      · show -1000 < (upd (upd A.2.2.1 a _) b _ k).toInt ∧ (upd (upd A.2.2.1 a _) b _ k).toInt < 1000
        unfold upd
        split
        · rw [tb]; omega
        · split
          · rw [ta]; omega
          · exact how.1 k hk
      · show dsum (upd (upd A.2.2.1 a _) b _) (A.1 0) = 0
        rw [dsum_upd, dsum_upd, if_pos ha, if_pos hb, how.2, ta, tb]
        have hba : ¬ b = a := fun q => hab q.symm
        have e5 : (upd A.2.2.1 a (A.2.2.1 a + nI n) b) = A.2.2.1 b := by simp only [upd, if_neg hba]
        rw [e5]; omega
    · unfold wpX10_borrow
      exact two10_y hy.1.1 a2 ha hb hab (br_f (by decide) (sp10_in (b2_br (fun _ => hK _ _ _ A h (YQ.refl oY).k) (fun q => absurd hout q))))
theorem st_told {oX oS oP oY : Ob} {A : AS} {P : PD} (h : Good oS oY A) (hP : GoodP oP oY P) (v1 : Int32) {K : Int32 → Int32 → Prop} (hK : ∀ r, K r r) : wpX9_told oX oS oP v1 (fun r => wpX10_told oY v1 (fun r2 => K r r2)) := by
  obtain ⟨hs, hy, ho, hsg, how⟩ := id h
  obtain ⟨a1, a2⟩ := ho.1
  unfold wpX9_told wpX10_told
  rw [hs.1 0 (by omega), hs.1 1 (by omega), hs.1 2 (by omega), hs.1 3 (by omega), hs.1 4 (by omega), hs.1 5 (by omega), hs.1 6 (by omega), hP.1.1, hP.2.1.1, hy.1.1, hy.1.2.1, hy.1.2.2.1, hy.1.2.2.2.1, hy.1.2.2.2.2.1, hy.1.2.2.2.2.2.1, hy.1.2.2.2.2.2.2]
  refine ⟨?_, ?_, ?_, ?_, ?_, ?_, ?_, ?_, ?_⟩
  · rintro rfl
    exact br_t (by decide) ⟨fun _ => hK _, fun q => absurd q (by decide), fun q => absurd q (by decide), fun q => absurd q (by decide), fun q => absurd q (by decide), fun q => absurd q (by decide), fun q => absurd q (by decide), fun q => absurd rfl q⟩
  · rintro rfl
    exact br_t (by decide) ⟨fun q => absurd q (by decide), fun _ => hK _, fun q => absurd q (by decide), fun q => absurd q (by decide), fun q => absurd q (by decide), fun q => absurd q (by decide), fun q => absurd q (by decide), fun _ q => absurd rfl q⟩
  · rintro rfl
    exact br_t (by decide) ⟨fun q => absurd q (by decide), fun q => absurd q (by decide), fun _ => hK _, fun q => absurd q (by decide), fun q => absurd q (by decide), fun q => absurd q (by decide), fun q => absurd q (by decide), fun _ _ q => absurd rfl q⟩
  · rintro rfl
    exact br_t (by decide) ⟨fun q => absurd q (by decide), fun q => absurd q (by decide), fun q => absurd q (by decide), fun _ => hK _, fun q => absurd q (by decide), fun q => absurd q (by decide), fun q => absurd q (by decide), fun _ _ _ q => absurd rfl q⟩
  · rintro rfl
    exact br_t (by decide) ⟨fun q => absurd q (by decide), fun q => absurd q (by decide), fun q => absurd q (by decide), fun q => absurd q (by decide), fun _ => hK _, fun q => absurd q (by decide), fun q => absurd q (by decide), fun _ _ _ _ q => absurd rfl q⟩
  · rintro rfl
    exact br_t (by decide) ⟨fun q => absurd q (by decide), fun q => absurd q (by decide), fun q => absurd q (by decide), fun q => absurd q (by decide), fun q => absurd q (by decide), fun _ => hK _, fun q => absurd q (by decide), fun _ _ _ _ _ q => absurd rfl q⟩
  · rintro rfl
    exact br_t (by decide) ⟨fun q => absurd q (by decide), fun q => absurd q (by decide), fun q => absurd q (by decide), fun q => absurd q (by decide), fun q => absurd q (by decide), fun q => absurd q (by decide), fun _ => hK _, fun _ _ _ _ _ _ q => absurd rfl q⟩
  · rintro rfl
    exact br_t (by decide) ⟨fun q => absurd q (by decide), fun q => absurd q (by decide), fun q => absurd q (by decide), fun q => absurd q (by decide), fun q => absurd q (by decide), fun q => absurd q (by decide), fun q => absurd q (by decide), fun _ _ _ _ _ _ _ => br_t rfl (hK _)⟩
  · intro e0 e1 e2 e3 e4 e5 e6 e7
    unfold wpX9_gapTold
    rw [hs.1 0 (by omega)]
    have e10 : (10 : Int32) + nI (A.1 0) - 1 = nI (10 + A.1 0 - 1) := by
      have : (10 : Int32) + nI (A.1 0) = nI (10 + A.1 0) := nI_add 10 _
      rw [this, nI_sub1 (by omega)]
    rw [e10]
    refine sp9_out (b2_br (fun hin => ?_) (fun hout => ?_))
    · obtain ⟨n, n1, n2, rfl⟩ := in_rng (a := 10) (b := 10 + A.1 0 - 1) (x := v1) (by omega) (fun q => hin (Or.inl q)) (fun q => hin (Or.inr q)) (by omega)
      have es : nI n - 10 = nI (n - 10) := pk_sub n1
      rw [es]
      refine ⟨vp_in_nI (by omega) (by omega), ?_⟩
      rw [jld_n (f := oS 1) (by omega), hs.2.1 (n - 10) (by omega), jld_n (f := oY 1) (by omega), hy.2.1 (n - 10) (by omega)]
      refine br_f (nI_nlt (b := 10) n1 (by omega)) (sp10_isWindow_y hy.1.1 a2 (by omega) (br_f (by decide) ⟨vp_in_nI (by omega) (by omega), ?_⟩))
      exact hK _
    · refine br_c (fun c => ⟨fun q => absurd q e0, fun q => absurd q e1, fun q => absurd q e2, fun q => absurd q e3, fun q => absurd q e4, fun q => absurd q e5, fun q => absurd q e6, fun _ _ _ _ _ _ _ => br_f e7 (hK _)⟩) (fun c => ?_)
      refine sp10_isWindow_n hy.1.1 (by omega) a2 (Or.inr ?_) (br_t rfl (hK _))
      rcases hout with q | q
      · exact absurd q c
      · have t1 := nI_toInt (n := 10 + A.1 0 - 1) (by omega)
        have t2 := nI_toInt (n := A.1 0) (by omega)
        rw [Int32.lt_iff_toInt_lt, t1] at q
        have hm := Int32.toInt_lt v1
        have t3 : (v1 - 10).toInt = v1.toInt - 10 := by
          rw [Int32.toInt_sub]
          have : (10 : Int32).toInt = 10 := by decide
          rw [this]
          exact Int.bmod_eq_of_le (by omega) (by omega)
        rw [Int32.le_iff_toInt_le, t2, t3]
        omega
theorem st_feet {oX oS oY : Ob} {A : AS} (h : Good oS oY A) {K : Int32 → Int32 → Prop} (hK : ∀ r, K r r) : wpX9_feet oX oS (fun r => wpX10_feet oY (fun r2 => K r r2)) := by
  obtain ⟨hs, hy, ho, hsg, how⟩ := id h
  obtain ⟨a1, a2⟩ := ho.1
  have hf5 := ho.2.2.2.2.2.1.1
  have hf : A.1 5 < 2 ^ 31 := by have := set_lt a2 hf5; omega
  -- the set so far
  have key : ∀ m k, k + m = A.1 0 → ∃ fin : Nat → Int32, (∀ (S : Int32) (K9 : Int32 → Prop), K9 (S ||| fin k) → wpX9_feet_L4 oX oS K9 (m + 1) S (nI k)) ∧ (∀ (S : Int32) (K10 : Int32 → Prop), K10 (S ||| fin k) → wpX10_feet_L4 oY K10 (m + 1) S (nI k)) := by
    intro m
    induction m with
    | zero =>
      intro k hk
      refine ⟨fun _ => 0, ?_, ?_⟩
      · intro S K9 q
        unfold wpX9_feet_L4
        rw [hs.1 0 (by omega)]
        rw [Int32.or_zero] at q
        exact br_t (nI_le (by omega) (by omega)) q
      · intro S K10 q
        unfold wpX10_feet_L4
        rw [hy.1.1]
        rw [Int32.or_zero] at q
        exact br_t (nI_le (by omega) (by omega)) q
    | succ m ih =>
      intro k hk
      obtain ⟨fin, f1, f2⟩ := ih (k + 1) (by omega)
      have hx31 : A.1 5 ^^^ 2 ^ k < 1024 := set_lt a2 (flip_lt hf5 (by omega))
      by_cases hc : popc (A.1 5 ^^^ 2 ^ k) ≤ may (A.1 0) ∧ ¬ (((nI (len A.2.1 (A.1 0) (A.1 1 + A.1 4) (A.1 5 ^^^ 2 ^ k) k) / 10) * 10) - (nI (A.1 3) * nI (len A.2.1 (A.1 0) (A.1 1 + A.1 4) (A.1 5 ^^^ 2 ^ k) k)) ≤ ((nI (len A.2.1 (A.1 0) (A.1 1 + A.1 4) (A.1 5) k) / 10) * 10) - (nI (A.1 3) * nI (len A.2.1 (A.1 0) (A.1 1 + A.1 4) (A.1 5) k)))
      · refine ⟨fun _ => nI (2 ^ k) ||| fin (k + 1), ?_, ?_⟩
        · intro S K9 q
          unfold wpX9_feet_L4 wpX9_gainsByOwnFinger
          rw [hs.1 0 (by omega), hs.1 5 (by omega), jshl_1 (by omega), nI_xor, nI_1]
          unfold jn1
          refine br_f (nI_ge (by omega) (by omega)) (sp8_allows (hs.1 0 (by omega)) a1 a2 hx31 (b2_br (fun z => absurd hc.1 z) (fun _ => ?_)))
          refine sp8_lengthAt hs ho (by omega) hf (sp8_lengthAt hs ho (by omega) (by omega) ?_)
          unfold wpX8_worth
          rw [hs.1 3 (by omega)]
          refine br_f hc.2 (br_f (by decide) (f1 _ _ ?_))
          rw [Int32.or_assoc]; exact q
        · intro S K10 q
          unfold wpX10_feet_L4
          rw [hy.1.1, hy.1.2.2.2.2.2.1, jshl_1 (by omega), nI_xor, nI_1]
          unfold jn1 jn2
          refine br_f (nI_ge (by omega) (by omega)) (sp10_canBe hy.1.1 a1 a2 (by omega) (b2_br (fun z => absurd hc.1 z) (fun _ => ?_)))
          unfold wpX10_worth
          refine sp10_len hy ho (by omega) (by omega) hy.1.2.2.2.2.1 (sp10_len hy ho (by omega) hf hy.1.2.2.2.2.1 ?_)
          rw [hy.1.2.2.2.1, Int32.mul_comm 10, Int32.mul_comm 10]
          refine br_f hc.2 (f2 _ _ ?_)
          rw [Int32.or_assoc]; exact q
      · refine ⟨fun _ => fin (k + 1), ?_, ?_⟩
        · intro S K9 q
          unfold wpX9_feet_L4 wpX9_gainsByOwnFinger
          rw [hs.1 0 (by omega), hs.1 5 (by omega), jshl_1 (by omega), nI_xor, nI_1]
          unfold jn1
          refine br_f (nI_ge (by omega) (by omega)) (sp8_allows (hs.1 0 (by omega)) a1 a2 hx31 (b2_br (fun z => br_t rfl (f1 _ _ q)) (fun z => ?_)))
          refine sp8_lengthAt hs ho (by omega) hf (sp8_lengthAt hs ho (by omega) (by omega) ?_)
          unfold wpX8_worth
          rw [hs.1 3 (by omega)]
          exact br_t (Classical.byContradiction (fun n => hc ⟨z, n⟩)) (br_t rfl (f1 _ _ q))
        · intro S K10 q
          unfold wpX10_feet_L4
          rw [hy.1.1, hy.1.2.2.2.2.2.1, jshl_1 (by omega), nI_xor, nI_1]
          unfold jn1 jn2
          have q' : K10 ((S ||| 0) ||| fin (k + 1)) := by rw [Int32.or_zero]; exact q
          refine br_f (nI_ge (by omega) (by omega)) (sp10_canBe hy.1.1 a1 a2 (by omega) (b2_br (fun z => f2 _ _ q') (fun z => ?_)))
          unfold wpX10_worth
          refine sp10_len hy ho (by omega) (by omega) hy.1.2.2.2.2.1 (sp10_len hy ho (by omega) hf hy.1.2.2.2.2.1 ?_)
          rw [hy.1.2.2.2.1, Int32.mul_comm 10, Int32.mul_comm 10]
          exact br_t (Classical.byContradiction (fun n => hc ⟨z, n⟩)) (f2 _ _ q')
  obtain ⟨fin, f1, f2⟩ := key (A.1 0) 0 (by omega)
  exact ⟨_, f1 0 _ ⟨_, f2 0 _ (hK _)⟩⟩
