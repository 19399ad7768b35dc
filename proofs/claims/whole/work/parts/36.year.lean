/-! a year -/
def drw (n x : Nat) : Nat := if x % 5 = 0 then 43 else if x % 5 = 1 then 45 else 97 + x / 5 % n
theorem drw_ok {n x : Nat} (hn : 2 ≤ n ∧ n ≤ 10) : isAct n (drw n x) ∧ drw n x ≠ 46 := by
  unfold drw isAct
  have h1 := Nat.mod_lt (x / 5) (show 0 < n by omega)
  generalize x / 5 % n = z at *
  by_cases e0 : x % 5 = 0
  · rw [if_pos e0]; omega
  · rw [if_neg e0]
    by_cases e1 : x % 5 = 1
    · rw [if_pos e1]; omega
    · rw [if_neg e1]; omega
theorem sp1_drawn {v t : Ob} {A : AS} {f d x : Nat} {post : Ob → Prop} (ht : StS t (setFD A f d)) (ho : Own A) (hfd : FDok (A.1 0) f d) (hx : x < 65537) (hp : ∀ t', StS t' (setFD A (act1 (A.1 0) f d (drw (A.1 0) x)).2.1 (act1 (A.1 0) f d (drw (A.1 0) x)).2.2) → post t') : wpX1_performDrawn v t (nI x) post := by
  obtain ⟨a1, a2⟩ := id ho.1
  have e4 : t 0 4 = nI d := ht.1 4 (by omega)
  have e0 : t 0 0 = nI (A.1 0) := ht.1 0 (by omega)
  have hd9 := hfd.2.2
  unfold wpX1_performDrawn
  have r5 : jrem (nI x) 5 = nI (x % 5) := jrem_n (d := 5) (by omega) (by omega) (by omega)
  have d5 : nI x / 5 = nI (x / 5) := pk_div (d := 5) (by omega) (by omega) (by omega)
  have m5 := Nat.mod_lt x (show 0 < 5 by omega)
  have hq := Nat.div_le_self x 5
  have rn : jrem (nI (x / 5)) (nI (A.1 0)) = nI (x / 5 % A.1 0) := jrem_n (by omega) (by omega) (by omega)
  have hm := Nat.mod_lt (x / 5) (show 0 < A.1 0 by omega)
  rw [r5, d5, e0, rn]
  unfold act1 drw at hp
  refine pk_eq (x % 5) 0 (fun e => ?_) (fun e => pk_eq (x % 5) 1 (fun e2 => ?_) (fun e2 => ?_))
  · rw [if_pos e, if_pos rfl] at hp
    unfold wpX8_moreDamp
    rw [e4]
    refine pk_lt d 9 (fun h => ?_) (fun h => ?_)
    · rw [if_pos h] at hp
      rw [nI_1]; exact hp _ (ht.f4 _)
    · rw [if_neg (by omega)] at hp
      exact hp _ ht
  · rw [if_neg e, if_pos e2, if_neg (by decide), if_pos rfl] at hp
    unfold wpX8_lessDamp
    rw [e4]
    refine pk_lt 0 d (fun h => ?_) (fun h => ?_)
    · rw [if_pos h] at hp
      rw [nI_sub1 h]; exact hp _ (ht.f4 _)
    · rw [if_neg (by omega)] at hp
      exact hp _ ht
  · rw [if_neg e, if_neg e2, if_neg (by omega), if_neg (by omega), show 97 + x / 5 % A.1 0 - 97 = x / 5 % A.1 0 by omega] at hp
    refine br_f (nI_nle (by omega) (by omega)) ⟨nI_ne0 (by omega) (by omega), ?_⟩
    refine sp8_touch ht ho hfd.1 hm (fun q t' ht' => ?_) (fun q => ?_)
    · rw [if_pos q] at hp; exact hp t' ht'
    · rw [if_neg q] at hp; exact hp t ht
theorem year_ex {A : AS} {y0 : Ob} {M : Nat} (ho : Own A) (hys : YS y0 A) (hM : M ≤ 99) :
    ∀ m k x f d b sm, k + m = M → x < 65537 → FDok (A.1 0) f d → b ≤ k → sm ≤ 108 * k → ∃ b' f' sm' : Nat,
      (∀ v t (K : Ob → Ob → Prop), StS t (setFD A f d) → v 0 4 = nI b → v 0 5 = nI sm → (∀ v' t', v' 0 4 = nI b' → v' 0 5 = nI sm' → t' 0 5 = nI f' → K v' t') → wpX1_draw_L11 (nI M) K (m + 1) (nI x) (nI k) v t) ∧
      (∀ y (K : Int32 → Int32 → Ob → Prop), YQ y0 y → y 0 12 = nI f → y 0 13 = nI d → (∀ y', YQ y0 y' → y' 0 12 = nI f' → K (nI b') (nI sm') y') → wpX10_year_L61 (nI M) K (m + 1) (nI x) (nI b) (nI sm) (nI k) y) := by
  obtain ⟨⟨a1, a2⟩, b1, li1, -, -, -, -, hg⟩ := id ho
  intro m
  induction m with
  | zero =>
    intro k x f d b sm hk hx hfd hb hsm
    refine ⟨b, f, sm, ?_, ?_⟩
    · intro v t K ht h4 h5 hK
      unfold wpX1_draw_L11
      exact br_t (nI_le (by omega) (by omega)) (hK v t h4 h5 (ht.1 5 (by omega)))
    · intro y K hq h12 h13 hK
      unfold wpX10_year_L61
      exact br_t (nI_le (by omega) (by omega)) (hK y hq h12)
  | succ m ih =>
    intro k x f d b sm hk hx hfd hb hsm
    obtain ⟨x', ex'⟩ : ∃ z, z = (75 * x + 74) % 65537 := ⟨_, rfl⟩
    have hx' : x' < 65537 := by rw [ex']; exact Nat.mod_lt _ (by omega)
    have ex : ∀ y28 : Int32, y28 = jrem (((75 : Int32) * nI x) + (74 : Int32)) (65537 : Int32) → y28 = nI x' := by
      intro y28 h
      have m1 : (75 : Int32) * nI x = nI (75 * x) := pk_mul 75 x
      have m2 : nI (75 * x) + (74 : Int32) = nI (75 * x + 74) := nI_add _ 74
      have m3 : jrem (nI (75 * x + 74)) 65537 = nI ((75 * x + 74) % 65537) := jrem_n (d := 65537) (by omega) (by omega) (by omega)
      rw [h, m1, m2, m3, ← ex']
    obtain ⟨hda, hd46⟩ := drw_ok (n := A.1 0) (x := x') ⟨a1, a2⟩
    have hao := act1_ok hfd hda hd46
    generalize hres : act1 (A.1 0) f d (drw (A.1 0) x') = res at hao
    obtain ⟨rs, f1, d1⟩ := res
    obtain ⟨hfd1, hrs⟩ := hao
    have hfd1 : FDok (A.1 0) f1 d1 := hfd1
    have hf31 : f1 < 2 ^ 31 := by have := set_lt a2 hfd1.1; omega
    have hl := len_bd hg (S := f1) a2 (show 1 ≤ A.1 1 + d1 by omega) (by have := hfd1.2.2; omega) (show 0 < A.1 0 by omega)
    obtain ⟨b', f', sm', c1, c2⟩ := ih (k + 1) x' f1 d1 (mark (Cl (A.1 2) (len A.2.1 (A.1 0) (A.1 1 + d1) f1) (A.1 0)) b k 0).1 (sm + len A.2.1 (A.1 0) (A.1 1 + d1) f1 0) (by omega) hx' hfd1 (by
      by_cases q : Cl (A.1 2) (len A.2.1 (A.1 0) (A.1 1 + d1) f1) (A.1 0)
      · rw [mark_t q]; show b + 1 ≤ k + 1; omega
      · rw [mark_f q]; show b ≤ k + 1; omega) (by omega)
    refine ⟨b', f', sm', ?_, ?_⟩
    · intro v t K ht h4 h5 hK
      unfold wpX1_draw_L11
      refine br_f (nI_ge (by omega) (by omega)) ?_
      intro y28 hy28
      rw [ex y28 hy28]
      refine sp1_drawn ht ho hfd hx' ?_
      rw [hres]
      intro t1 ht1
      refine sp1_listenAt (fb := v 0 3) ht1 ho hfd1 ⟨h4, rfl⟩ (by omega) (fun v1 t2 hj hvl ht2 => ?_)
      have e5 : t2 0 5 = nI f1 := ht2.1 5 (by omega)
      rw [e5]
      refine sp8_lengthAt (w := 0) ht2 (setFD_own ho hfd1.2.2 ⟨hfd1.1, hfd1.2.1⟩) (show 0 < A.1 0 by omega) hf31 ?_
      rw [hj 5 (by decide) (by decide), h5, nI_add, nI_1]
      refine c1 _ t2 K ht2 ?_ (pf_s _ _ _) hK
      rw [pf_n _ _ (by decide), hvl.1]
      by_cases q : Cl (A.1 2) (len A.2.1 (A.1 0) (A.1 1 + d1) f1) (A.1 0)
      · rw [mark_t q, mark_t q]
      · rw [mark_f q, mark_f q]
    · intro y K hq h12 h13 hK
      have qy := hq.ys hys
      unfold wpX10_year_L61
      refine br_f (nI_ge (by omega) (by omega)) ?_
      intro y28 hy28
      rw [ex y28 hy28]
      unfold jn1 jn2
      -- behind the act
      have rest : ∀ y1, YQ y0 y1 → y1 0 12 = nI f1 → y1 0 13 = nI d1 → wpX10_clashes y1 (y1 0 12) (y1 0 13) (fun (r147 : Int32) => ((r147 = 0) → wpX10_lengthOf y1 (0 : Int32) (y1 0 12) (y1 0 13) (fun (r173 : Int32) => wpX10_year_L61 (nI M) K (m + 1) (nI x') (nI b + (0 : Int32)) (nI sm + r173) (nI k + (1 : Int32)) y1)) ∧ (¬ (r147 = 0) → wpX10_lengthOf y1 (0 : Int32) (y1 0 12) (y1 0 13) (fun (r173 : Int32) => wpX10_year_L61 (nI M) K (m + 1) (nI x') (nI b + (1 : Int32)) (nI sm + r173) (nI k + (1 : Int32)) y1))) := by
        intro y1 z1 z2 z3
        have qz := z1.ys hys
        rw [z2, z3]
        refine sp10_clashes qz.1.1 qz.1.2.1 qz.1.2.2.1 qz.2.1 hg a2 b1 hfd1.2.2 li1.2 hf31 ?_
        have ll : ∀ (post : Int32 → Prop), post (nI (len A.2.1 (A.1 0) (A.1 1 + d1) f1 0)) → wpX10_lengthOf y1 (0 : Int32) (nI f1) (nI d1) post := fun post q => sp10_lengthOf (w := 0) qz.1.1 qz.1.2.1 qz.2.1 hg a2 b1 hfd1.2.2 (by omega) hf31 q
        refine b2_br (fun q => ll _ ?_) (fun q => ll _ ?_)
        · rw [mark_f q] at c2
          rw [Int32.add_zero, nI_add, nI_1]
          exact c2 y1 K z1 z2 z3 hK
        · rw [mark_t q] at c2
          rw [nI_1, nI_1, nI_add]
          exact c2 y1 K z1 z2 z3 hK
      have step : ∀ c : Int32, c = nI (drw (A.1 0) x') → wpX10_whyNot y c (fun (r124 : Int32) => ((r124 = 0) → wpX10_act y c (fun (oY_133 : Ob) => wpX10_clashes oY_133 (oY_133 0 12) (oY_133 0 13) (fun (r147 : Int32) => ((r147 = 0) → wpX10_lengthOf oY_133 (0 : Int32) (oY_133 0 12) (oY_133 0 13) (fun (r173 : Int32) => wpX10_year_L61 (nI M) K (m + 1) (nI x') (nI b + (0 : Int32)) (nI sm + r173) (nI k + (1 : Int32)) oY_133)) ∧ (¬ (r147 = 0) → wpX10_lengthOf oY_133 (0 : Int32) (oY_133 0 12) (oY_133 0 13) (fun (r173 : Int32) => wpX10_year_L61 (nI M) K (m + 1) (nI x') (nI b + (1 : Int32)) (nI sm + r173) (nI k + (1 : Int32)) oY_133))))) ∧ (¬ (r124 = 0) → wpX10_clashes y (y 0 12) (y 0 13) (fun (r147 : Int32) => ((r147 = 0) → wpX10_lengthOf y (0 : Int32) (y 0 12) (y 0 13) (fun (r173 : Int32) => wpX10_year_L61 (nI M) K (m + 1) (nI x') (nI b + (0 : Int32)) (nI sm + r173) (nI k + (1 : Int32)) y)) ∧ (¬ (r147 = 0) → wpX10_lengthOf y (0 : Int32) (y 0 12) (y 0 13) (fun (r173 : Int32) => wpX10_year_L61 (nI M) K (m + 1) (nI x') (nI b + (1 : Int32)) (nI sm + r173) (nI k + (1 : Int32)) y))))) := by
        intro c hc
        rw [hc]
        refine sp10_whyNot qy.1.1 h12 h13 ⟨a1, a2⟩ hfd hda hd46 ?_
        rw [hres]
        refine pk_eq rs 0 (fun er => ?_) (fun er => ?_)
        · refine sp10_act h12 h13 a2 hfd hda hd46 (by rw [hres]; exact er) ?_
          rw [hres]
          intro y1 w1 w2 w3 w4
          refine rest y1 (hq.trans ⟨w1 1 (by decide), w1 2 (by decide), w1 3 (by decide), w1 4 (by decide), w1 10 (by decide), w1 11 (by decide), fun j hj => w2 j (by omega) (by omega)⟩) w3 w4
        · have ff : f1 = f ∧ d1 = d := by
            unfold act1 at hres
            by_cases c1 : drw (A.1 0) x' = 43
            · rw [if_pos c1] at hres
              by_cases c2 : d < 9
              · rw [if_pos c2] at hres; simp only [Prod.mk.injEq] at hres; omega
              · rw [if_neg c2] at hres; simp only [Prod.mk.injEq] at hres; omega
            · rw [if_neg c1] at hres
              by_cases c2 : drw (A.1 0) x' = 45
              · rw [if_pos c2] at hres
                by_cases c3 : 0 < d
                · rw [if_pos c3] at hres; simp only [Prod.mk.injEq] at hres; omega
                · rw [if_neg c3] at hres; simp only [Prod.mk.injEq] at hres; omega
              · rw [if_neg c2] at hres
                by_cases c3 : popc (f ^^^ 2 ^ (drw (A.1 0) x' - 97)) ≤ may (A.1 0)
                · rw [if_pos c3] at hres; simp only [Prod.mk.injEq] at hres; omega
                · rw [if_neg c3] at hres; simp only [Prod.mk.injEq] at hres; omega
          exact rest y hq (by rw [h12, ff.1]) (by rw [h13, ff.2])
      have r5 : jrem (nI x') 5 = nI (x' % 5) := jrem_n (d := 5) (by omega) (by omega) (by omega)
      have d5 : nI x' / 5 = nI (x' / 5) := pk_div (d := 5) (by omega) (by omega) (by omega)
      have m5 := Nat.mod_lt x' (show 0 < 5 by omega)
      have hq5 := Nat.div_le_self x' 5
      have rn : jrem (nI (x' / 5)) (nI (A.1 0)) = nI (x' / 5 % A.1 0) := jrem_n (by omega) (by omega) (by omega)
      have hm := Nat.mod_lt (x' / 5) (show 0 < A.1 0 by omega)
      rw [r5, d5, qy.1.1, rn]
      refine pk_eq (x' % 5) 0 (fun e => ?_) (fun e => pk_eq (x' % 5) 1 (fun e2 => ?_) (fun e2 => ⟨nI_ne0 (by omega) (by omega), ?_⟩))
      · exact step 43 (by unfold drw; rw [if_pos e]; rfl)
      · exact step 45 (by unfold drw; rw [if_neg e, if_pos e2]; rfl)
      · exact step _ (by unfold drw; rw [if_neg e, if_neg e2]; exact nI_add 97 _)
theorem st_year {oX oS oV oT oY : Ob} {A : AS} (h : Good oS oY A) (v1 v2 v3 : Int32) {K : Int32 → Int32 → Ob → Ob → Ob → Prop} (hK : ∀ r v' t' y', YQ oY y' → K r r v' t' y') : wpX9_year oX oS oV oT v1 v2 v3 (fun r v' t' => wpX10_year oY v1 v2 v3 (fun r2 y' => K r r2 v' t' y')) := by
  obtain ⟨hs, hy, ho, hsg, how⟩ := id h
  unfold wpX9_year
  refine sp9_out (b2_br (fun i1 => ?_) (fun o1 => ?_))
  · refine sp9_out (b2_br (fun i2 => ?_) (fun o2 => ?_))
    · refine sp9_out (b2_br (fun i3 => ?_) (fun o3 => ?_))
      · obtain ⟨sd, s1, s2, rfl⟩ := in_rng (a := 0) (b := 9999) (x := v1) (by omega) (fun q => i1 (Or.inl q)) (fun q => i1 (Or.inr q)) (by omega)
        obtain ⟨M, m1, m2, rfl⟩ := in_rng (a := 1) (b := 99) (x := v2) (by omega) (fun q => i2 (Or.inl q)) (fun q => i2 (Or.inr q)) (by omega)
        obtain ⟨w, w1, w2, rfl⟩ := in_rng (a := 0) (b := 2) (x := v3) (by omega) (fun q => i3 (Or.inl q)) (fun q => i3 (Or.inr q)) (by omega)
        obtain ⟨b', f', sm', c1, c2⟩ := year_ex (y0 := oY) (M := M) ho hy m2 M 0 sd (A.1 5) (A.1 4) 0 0 (by omega) (by omega) (own_fd ho) (Nat.le_refl _) (Nat.zero_le _)
        unfold wpX1_draw wpX1_begin
        refine sp8_copyFrom hs ho.2.2.2.2.2.2.1 (fun t' ht' => ⟨_, c1 _ t' _ (by rw [setFD_self]; exact ht') rfl rfl (fun v1 t1 q4 q5 qt => ?_)⟩)
        have mod : ∀ post : Int32 → Ob → Prop, (∀ y', YQ oY y' → ((nI w = 0) → post (nI b') y') ∧ (¬ (nI w = 0) → ((nI w = (1 : Int32)) → post (nI sm') y') ∧ (¬ (nI w = (1 : Int32)) → post (nI f') y'))) → wpX10_year oY (nI sd) (nI M) (nI w) post := by
          intro post hq
          unfold wpX10_year
          refine sp10_in (b2_br (fun q => absurd i1 q) (fun _ => sp10_in (b2_br (fun q => absurd i2 q) (fun _ => sp10_in (b2_br (fun q => absurd i3 q) (fun _ => ?_))))))
          intro y1 e1
          refine ⟨_, c2 _ _ ?_ ?_ ?_ (fun y' z1 z2 => ?_)⟩
          · rw [e1]; exact (YQ.pf 12 _ (by decide)).trans (YQ.pf 13 _ (by decide))
          · rw [pf_n _ _ (by decide), e1, pf_s]; exact hy.1.2.2.2.2.2.1
          · rw [pf_s]; exact hy.1.2.2.2.2.1
          · rw [z2]; exact hq y' z1
        dsimp only
        rw [q4, q5, qt]
        refine ⟨fun e => mod _ (fun y' z => br_t e (hK _ _ _ _ z)), fun e => mod _ (fun y' z => br_f (by rw [e]; decide) (br_t e (hK _ _ _ _ z))), fun e e2 => mod _ (fun y' z => br_f e (br_f e2 (hK _ _ _ _ z)))⟩
      · unfold wpX10_year
        exact sp10_in (b2_br (fun q => absurd i1 q) (fun _ => sp10_in (b2_br (fun q => absurd i2 q) (fun _ => sp10_in (b2_br (fun _ => hK _ _ _ _ (YQ.refl _)) (fun q => absurd o3 q))))))
    · unfold wpX10_year
      exact sp10_in (b2_br (fun q => absurd i1 q) (fun _ => sp10_in (b2_br (fun _ => hK _ _ _ _ (YQ.refl _)) (fun q => absurd o2 q))))
  · unfold wpX10_year
    exact sp10_in (b2_br (fun _ => hK _ _ _ _ (YQ.refl _)) (fun q => absurd o1 q))
