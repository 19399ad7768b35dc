theorem setFD_self (A : AS) : setFD A (A.1 5) (A.1 4) = A := by
  unfold setFD setS
  have : (fun k => if k = 4 then A.1 4 else (fun k => if k = 5 then A.1 5 else A.1 k) k) = A.1 := by
    funext k
    by_cases h4 : k = 4
    · simp [h4]
    · by_cases h5 : k = 5
      · simp [h5]
      · simp [h4, h5]
  show ((fun k => if k = 4 then A.1 4 else (fun k => if k = 5 then A.1 5 else A.1 k) k), A.2) = A
  rw [this]
theorem own_fd {A : AS} (ho : Own A) : FDok (A.1 0) (A.1 5) (A.1 4) := ⟨ho.2.2.2.2.2.1.1, ho.2.2.2.2.2.1.2, ho.2.2.2.2.1⟩
theorem ev_all {A : AS} {P : PD} {s p y : Ob} (hs : StS s A) (hys : YS y A) (ho : Own A) (hp : PS p P) (hyp : YP y P) (hok : POk P) (hact : ∀ j, j < P.1 → isAct (A.1 0) (P.2 j)) :
    ∃ r : EO, (FDok (A.1 0) r.2.2.1 r.2.2.2.1 ∧ r.1 ≤ 3 ∧ r.2.1 ≤ 60 ∧ (r.1 = 0 → r.2.1 = P.1)) ∧
      (∀ v t (post : Ob → Ob → Prop), (∀ v' t', VTo A v' t' r → post v' t') → wpX1_play s p v t 0 post) ∧
      (∀ v t (post : Ob → Ob → Prop), (∀ v' t', VTo A v' t' r → VL v' r.2.2.2.2.1 r.2.2.2.2.2 → post v' t') → wpX1_play s p v t 1 post) ∧
      (∀ (post : Int32 → Ob → Prop), (∀ y', YEo y y' r → post (if r.1 = 0 then -6 else nI r.2.1) y') → wpX10_goEvening y post) := by
  obtain ⟨r, r1, r2, r3, r4⟩ := ev_ex ho hys hp hyp hok hact P.1 0 (A.1 5) (A.1 4) 0 (-6) (by omega) (Nat.le_refl _) (own_fd ho)
  refine ⟨r, r1, ?_, ?_, ?_⟩
  · intro v t post hpo
    unfold wpX1_play wpX1_begin
    refine sp8_copyFrom hs ho.2.2.2.2.2.2.1 (fun t' ht' => ⟨_, r2 _ t' post ⟨rfl, rfl, ?_⟩ hpo⟩)
    rw [setFD_self]; exact ht'
  · intro v t post hpo
    unfold wpX1_play wpX1_begin
    refine sp8_copyFrom hs ho.2.2.2.2.2.2.1 (fun t' ht' => ⟨_, r3 _ t' post ⟨rfl, rfl, ?_⟩ ⟨rfl, rfl⟩ hpo⟩)
    rw [setFD_self]; exact ht'
  · intro post hpo
    unfold wpX10_goEvening
    intro y1 e1 y2 e2 y3 e3 y4 e4
    refine ⟨_, r4 _ post ⟨?_, pf_s _ _ _, ?_, ?_, ?_, ?_⟩ hpo⟩
    · subst e1; subst e2; subst e3; subst e4
      exact (YQ.pf 12 _ (by decide)).trans ((YQ.pf 13 _ (by decide)).trans ((YQ.pf 16 _ (by decide)).trans ((YQ.pf 17 _ (by decide)).trans (YQ.pf 15 _ (by decide)))))
    · subst e1; subst e2; subst e3; subst e4
      rw [pf_n _ _ (by decide), pf_n _ _ (by decide), pf_n _ _ (by decide), pf_n _ _ (by decide), pf_s]
      exact hys.1.2.2.2.2.2.1
    · subst e1; subst e2; subst e3; subst e4
      rw [pf_n _ _ (by decide), pf_n _ _ (by decide), pf_n _ _ (by decide), pf_s]
      exact hys.1.2.2.2.2.1
    · subst e1; subst e2; subst e3; subst e4
      rw [pf_n _ _ (by decide), pf_n _ _ (by decide), pf_s]; rfl
    · subst e1; subst e2; subst e3; subst e4
      rw [pf_n _ _ (by decide), pf_s]
theorem nI_ne6 {j : Nat} (h : j < 2 ^ 30) : ¬ nI j = (-6 : Int32) := fun q => by
  have e := nI_toInt (n := j) (by omega)
  rw [q] at e
  have : ((-6 : Int32)).toInt = -6 := by decide
  omega
theorem nI_nn {j : Nat} (h : j < 2 ^ 31) : ¬ nI j < (0 : Int32) := nI_pos h
theorem st_judge {oX oS oP oV oT oY : Ob} {A : AS} {P : PD} (h : Good oS oY A) (hP : GoodP oP oY P) (v1 : Int32) {K : Int32 → Int32 → Ob → Ob → Ob → Prop} (hK : ∀ r v' t' y', YQ oY y' → K r r v' t' y') : wpX9_judge oX oS oP oV oT v1 (fun r v' t' => wpX10_judge oY v1 (fun r2 y' => K r r2 v' t' y')) := by
  obtain ⟨hs, hy, ho, -⟩ := h
  obtain ⟨hp, hyp, hok⟩ := hP
  unfold wpX9_judge
  refine sp9_out (b2_br (fun hin => ?_) (fun hout => ?_))
  · obtain ⟨n, n1, n2, rfl⟩ := in_rng (a := 0) (b := 1) (x := v1) (by omega) (fun q => hin (Or.inl q)) (fun q => hin (Or.inr q)) (by omega)
    rw [hs.1 0 (by omega)]
    refine sp5_eveningFault hp hok ho.1.2 ?_
    rcases flt_or (n := A.1 0) (P := P) P.1 0 (by have := hok.1; omega) with ⟨hall, e⟩ | ⟨j, hj, e⟩
    · rw [e]
      obtain ⟨r, r1, r2, r3, r4⟩ := ev_all hs hy ho hp hyp hok (fun j hj => hall j (Nat.zero_le _) (by omega))
      refine br_t rfl (r2 _ _ _ (fun v' t' hv => ?_))
      have hmod : ∀ (post : Int32 → Ob → Prop), (∀ y', YEo oY y' r → (((if r.1 = 0 then (-6 : Int32) else nI r.2.1) < 0 → post (if r.1 = 0 then (-6 : Int32) else nI r.2.1) y') ∧ (¬ (if r.1 = 0 then (-6 : Int32) else nI r.2.1) < 0 → ((nI n = 0) → post (if r.1 = 0 then (-6 : Int32) else nI r.2.1) y') ∧ (¬ (nI n = 0) → post (y' 0 14) y')))) → wpX10_judge oY (nI n) post := by
        intro post hq
        unfold wpX10_judge
        refine sp10_in (b2_br (fun q => absurd hin q) (fun _ => ?_))
        refine sp10_eveningFault hy.1.1 hyp hok ho.1 ?_
        rw [e]
        exact br_t (by decide) (r4 _ (fun y' hy' => hq y' hy'))
      rw [hv.1, hv.2.1]
      refine pk_eq r.1 0 (fun e0 => ?_) (fun e0 => ?_)
      · refine hmod _ (fun y' hy' => ?_)
        rw [if_pos e0]
        exact br_t (by decide) (hK _ _ _ _ hy'.1)
      · refine pk_eq n 0 (fun en => ?_) (fun en => ?_)
        · refine hmod _ (fun y' hy' => ?_)
          rw [if_neg e0]
          refine br_f (nI_nn (by omega)) (br_t ?_ (hK _ _ _ _ hy'.1))
          rw [en]; rfl
        · refine hmod _ (fun y' hy' => ?_)
          rw [if_neg e0]
          refine br_f (nI_nn (by omega)) (br_f (nI_ne0 (by omega) (by omega)) ?_)
          rw [hy'.2.1 e0]
          exact hK _ _ _ _ hy'.1
    · rw [e]
      refine br_f (nI_ne6 (by omega)) ?_
      unfold wpX10_judge
      refine sp10_in (b2_br (fun q => absurd hin q) (fun _ => sp10_eveningFault hy.1.1 hyp hok ho.1 ?_))
      rw [e]
      exact br_f (nI_nn (by omega)) (hK _ _ _ _ (YQ.refl _))
  · unfold wpX10_judge
    exact sp10_in (b2_br (fun _ => hK _ _ _ _ (YQ.refl _)) (fun q => absurd hout q))
/-- canBePlayed and barOfEvening -/
theorem bar_ex {A : AS} {P : PD} {x s p y : Ob} (hs : StS s A) (hy : YS y A) (ho : Own A) (hp : PS p P) (hyp : YP y P) (hok : POk P) :
    ((∀ (l : Int32), l = 0 ∨ l = 1 → ∀ v t (post : Int32 → Ob → Ob → Prop), (∀ v' t', post 0 v' t') → wpX9_canBePlayed x s p v t l post) ∧ (∀ (post : Int32 → Ob → Prop), (∀ y', YQ y y' → post (-5) y') → wpX10_barOfEvening y post)) ∨
    (∃ r : EO, (FDok (A.1 0) r.2.2.1 r.2.2.2.1 ∧ r.1 = 0 ∧ r.2.1 = P.1) ∧
      (∀ v t (post : Int32 → Ob → Ob → Prop), (∀ v' t', VTo A v' t' r → post 1 v' t') → wpX9_canBePlayed x s p v t 0 post) ∧
      (∀ v t (post : Int32 → Ob → Ob → Prop), (∀ v' t', VTo A v' t' r → VL v' r.2.2.2.2.1 r.2.2.2.2.2 → post 1 v' t') → wpX9_canBePlayed x s p v t 1 post) ∧
      (∀ (post : Int32 → Ob → Prop), (∀ y', YEo y y' r → post 0 y') → wpX10_barOfEvening y post)) := by
  rcases flt_or (n := A.1 0) (P := P) P.1 0 (by have := hok.1; omega) with ⟨hall, e⟩ | ⟨j, hj, e⟩
  · obtain ⟨r, r1, r2, r3, r4⟩ := ev_all hs hy ho hp hyp hok (fun j hj => hall j (Nat.zero_le _) (by omega))
    by_cases e0 : r.1 = 0
    · right
      refine ⟨r, ⟨r1.1, e0, r1.2.2.2 e0⟩, ?_, ?_, ?_⟩
      · intro v t post hpo
        unfold wpX9_canBePlayed
        rw [hs.1 0 (by omega)]
        refine sp5_eveningFault hp hok ho.1.2 ?_
        rw [e]
        refine br_t rfl (r2 _ _ _ (fun v' t' hv => br_t ?_ (hpo v' t' hv)))
        rw [hv.1, e0]; rfl
      · intro v t post hpo
        unfold wpX9_canBePlayed
        rw [hs.1 0 (by omega)]
        refine sp5_eveningFault hp hok ho.1.2 ?_
        rw [e]
        refine br_t rfl (r3 _ _ _ (fun v' t' hv hl => br_t ?_ (hpo v' t' hv hl)))
        rw [hv.1, e0]; rfl
      · intro post hpo
        unfold wpX10_barOfEvening
        refine sp10_eveningFault hy.1.1 hyp hok ho.1 ?_
        rw [e]
        unfold jn1
        refine br_f (by decide) (r4 _ (fun y' hy' => ?_))
        rw [if_pos e0]
        exact br_t (by decide) (hpo y' hy')
    · left
      refine ⟨?_, ?_⟩
      · intro l hl v t post hpo
        unfold wpX9_canBePlayed
        rw [hs.1 0 (by omega)]
        refine sp5_eveningFault hp hok ho.1.2 ?_
        rw [e]
        have hne : ∀ v' t', VTo A v' t' r → ¬ (v' 0 2) = 0 := fun v' t' hv => by rw [hv.1]; exact nI_ne0 (by omega) (by omega)
        rcases hl with rfl | rfl
        · exact br_t rfl (r2 _ _ _ (fun v' t' hv => br_f (hne v' t' hv) (hpo v' t')))
        · exact br_t rfl (r3 _ _ _ (fun v' t' hv _ => br_f (hne v' t' hv) (hpo v' t')))
      · intro post hpo
        unfold wpX10_barOfEvening
        refine sp10_eveningFault hy.1.1 hyp hok ho.1 ?_
        rw [e]
        unfold jn1
        refine br_f (by decide) (r4 _ (fun y' hy' => ?_))
        rw [if_neg e0]
        exact br_f (nI_nn (by omega)) (hpo y' hy'.1)
  · left
    refine ⟨?_, ?_⟩
    · intro l hl v t post hpo
      unfold wpX9_canBePlayed
      rw [hs.1 0 (by omega)]
      refine sp5_eveningFault hp hok ho.1.2 ?_
      rw [e]
      exact br_f (nI_ne6 (by omega)) (hpo v t)
    · intro post hpo
      unfold wpX10_barOfEvening
      refine sp10_eveningFault hy.1.1 hyp hok ho.1 ?_
      rw [e]
      unfold jn1
      exact br_t (nI_pos' (by omega)) (hpo y (YQ.refl _))
theorem st_done {oX oS oP oV oT oY : Ob} {A : AS} {P : PD} (h : Good oS oY A) (hP : GoodP oP oY P) {K : Int32 → Int32 → Ob → Ob → Ob → Ob → Ob → Prop} (hK : ∀ r s' p' v' t' y' A' P', Good s' y' A' → GoodP p' y' P' → y' 10 = oY 10 → y' 11 = oY 11 → K r r s' p' v' t' y') : wpX9_done oX oS oP oV oT (fun r s' p' v' t' => wpX10_done oY (fun r2 y' => K r r2 s' p' v' t' y')) := by
  obtain ⟨hs, hy, ho, hsg, how⟩ := id h
  obtain ⟨hp, hyp, hok⟩ := id hP
  unfold wpX9_done
  rcases bar_ex (x := oX) hs hy ho hp hyp hok with ⟨c1, c2⟩ | ⟨r, r1, c1, -, c2⟩
  · refine c1 0 (Or.inl rfl) _ _ _ (fun v' t' => br_t rfl ?_)
    unfold wpX10_done
    refine c2 _ (fun y' hq => br_f (by decide) (hK _ _ _ _ _ _ A P ⟨hs, hq.ys hy, ho, hsg, how⟩ ⟨hp, hq.yp hyp, hok⟩ hq.2.2.2.2.1 hq.2.2.2.2.2.1))
  · refine c1 _ _ _ (fun v' t' hv => br_f (by decide) ?_)
    unfold wpX5_clear wpX10_done
    refine c2 _ (fun y' hy' => br_t (by decide) ?_)
    intro y1 e1 y2 e2
    obtain ⟨q1, q2, q3, q4, q5, q6, q7⟩ := hy'
    have ht5 : t' 0 5 = nI r.2.2.1 := hv.2.2.1 5 (by omega)
    have ht4 : t' 0 4 = nI r.2.2.2.1 := hv.2.2.1 4 (by omega)
    have e15 : y2 0 15 = nI P.1 := by
      rw [e2, pf_n _ _ (by decide), e1, pf_n _ _ (by decide), q7 r1.2.1, r1.2.2]
    rw [hp.1, e15, ht5, ht4]
    have qy := q1.ys hy
    have hs2 : StS oS (setFD A (A.1 5) (A.1 4)) := by rw [setFD_self]; exact hs
    have row : ∀ rr, rr ≠ 0 → pf y2 10 (0 : Int32) rr = y' rr := fun rr hr => by
      rw [pf_r _ _ _ _ hr, e2, pf_r _ _ _ _ hr, e1, pf_r _ _ _ _ hr]
    have fld : ∀ k, k ≠ 5 → k ≠ 6 → k ≠ 10 → pf y2 10 (0 : Int32) 0 k = y' 0 k := fun k h5 h6 h10 => by
      rw [pf_n _ _ h10, e2, pf_n _ _ h5, e1, pf_n _ _ h6]
    refine hK _ _ _ _ _ _ (setFD A r.2.2.1 r.2.2.2.1) (0, P.2) ⟨hs2.fd _ _, ⟨⟨?_, ?_, ?_, ?_, ?_, ?_, ?_⟩, ?_, ?_, ?_⟩, setFD_own ho r1.1.2.2 ⟨r1.1.1, r1.1.2.1⟩, hsg, how⟩ ⟨⟨pf_s _ _ _, fun k hk => absurd hk (Nat.not_lt_zero _)⟩, ⟨pf_s _ _ _, fun k hk => absurd hk (Nat.not_lt_zero _)⟩, Nat.zero_le _, fun k hk => absurd hk (Nat.not_lt_zero _)⟩ ?_ ?_
    · rw [fld 0 (by decide) (by decide) (by decide)]; exact qy.1.1
    · rw [fld 2 (by decide) (by decide) (by decide)]; exact qy.1.2.1
    · rw [fld 3 (by decide) (by decide) (by decide)]; exact qy.1.2.2.1
    · rw [fld 4 (by decide) (by decide) (by decide)]; exact qy.1.2.2.2.1
    · rw [pf_n _ _ (by decide), e2, pf_s]; exact q4
    · rw [pf_n _ _ (by decide), e2, pf_n _ _ (by decide), e1, pf_s]; exact q3
    · rw [fld 8 (by decide) (by decide) (by decide)]; exact qy.1.2.2.2.2.2.2
    · intro k hk; rw [row 1 (by decide)]; exact qy.2.1 k hk
    · intro k hk; rw [row 3 (by decide)]; exact qy.2.2.1 k hk
    · intro k hk; rw [row 2 (by decide)]; exact qy.2.2.2 k hk
    · rw [row 10 (by decide)]; exact q1.2.2.2.2.1
    · rw [row 11 (by decide)]; exact q1.2.2.2.2.2.1
theorem st_hears {oX oS oY : Ob} {A : AS} (h : Good oS oY A) (v1 : Int32) {K : Int32 → Int32 → Prop} (hK : ∀ r, K r r) : wpX9_hears oX oS v1 (fun r => wpX10_hears oY v1 (fun r2 => K r r2)) := by
  obtain ⟨hs, hy, ho, -⟩ := h
  obtain ⟨a1, a2⟩ := ho.1
  have hf : A.1 5 < 2 ^ 31 := by have := set_lt a2 ho.2.2.2.2.2.1.1; omega
  unfold wpX9_hears
  rcases win_cases v1 a2 with q | ⟨w, hw, rfl⟩
  · refine sp8_has_n (hs.1 0 (by omega)) q (br_t rfl ?_)
    unfold wpX10_hears
    exact sp10_isWindow_n hy.1.1 (by omega) a2 q (br_t rfl (hK _))
  · rw [hs.1 5 (by omega)]
    refine sp8_has_y (hs.1 0 (by omega)) a2 hw (br_f (by decide) (sp8_lengthAt hs ho hw hf ?_))
    unfold wpX10_hears
    rw [hy.1.2.2.2.2.2.1]
    exact sp10_isWindow_y hy.1.1 a2 hw (br_f (by decide) (sp10_len hy ho hw hf hy.1.2.2.2.2.1 (hK _)))
theorem st_behind {oX oS oP oV oT oY : Ob} {A : AS} {P : PD} (h : Good oS oY A) (hP : GoodP oP oY P) (v1 : Int32) {K : Int32 → Int32 → Ob → Ob → Ob → Prop} (hK : ∀ r v' t' y', YQ oY y' → K r r v' t' y') : wpX9_behind oX oS oP oV oT v1 (fun r v' t' => wpX10_behind oY v1 (fun r2 y' => K r r2 v' t' y')) := by
  obtain ⟨hs, hy, ho, hsg, how⟩ := id h
  obtain ⟨hp, hyp, hok⟩ := id hP
  obtain ⟨a1, a2⟩ := ho.1
  unfold wpX9_behind
  rcases win_cases v1 a2 with q | ⟨w, hw, rfl⟩
  · refine sp8_has_n (hs.1 0 (by omega)) q (br_t rfl ?_)
    unfold wpX10_behind
    exact sp10_isWindow_n hy.1.1 (by omega) a2 q (br_t rfl (hK _ _ _ _ (YQ.refl _)))
  · refine sp8_has_y (hs.1 0 (by omega)) a2 hw (br_f (by decide) ?_)
    rcases bar_ex (x := oX) hs hy ho hp hyp hok with ⟨c1, c2⟩ | ⟨r, r1, c1, -, c2⟩
    · refine c1 0 (Or.inl rfl) _ _ _ (fun v' t' => br_t rfl ?_)
      unfold wpX10_behind
      refine sp10_isWindow_y hy.1.1 a2 hw (br_f (by decide) (c2 _ (fun y' hq => br_f (by decide) (hK _ _ _ _ hq))))
    · refine c1 _ _ _ (fun v' t' hv => br_f (by decide) ?_)
      have ht5 : t' 0 5 = nI r.2.2.1 := hv.2.2.1 5 (by omega)
      have hf : r.2.2.1 < 2 ^ 31 := by have := set_lt a2 r1.1.1; omega
      rw [ht5]
      refine sp8_lengthAt hv.2.2 (setFD_own ho r1.1.2.2 ⟨r1.1.1, r1.1.2.1⟩) hw hf ?_
      unfold wpX10_behind
      refine sp10_isWindow_y hy.1.1 a2 hw (br_f (by decide) (c2 _ (fun y' hy' => br_t (by decide) ?_)))
      obtain ⟨q1, q2, q3, q4, -⟩ := hy'
      have qy := q1.ys hy
      rw [q3, q4]
      exact sp10_lengthOf qy.1.1 qy.1.2.1 qy.2.1 ho.2.2.2.2.2.2.2 a2 ho.2.1 r1.1.2.2 hw hf (hK _ _ _ _ q1)
theorem st_clashed {oX oS oP oV oT oY : Ob} {A : AS} {P : PD} (h : Good oS oY A) (hP : GoodP oP oY P) (v1 : Int32) {K : Int32 → Int32 → Ob → Ob → Ob → Prop} (hK : ∀ r v' t' y', YQ oY y' → K r r v' t' y') : wpX9_clashed oX oS oP oV oT v1 (fun r v' t' => wpX10_clashed oY v1 (fun r2 y' => K r r2 v' t' y')) := by
  obtain ⟨hs, hy, ho, hsg, how⟩ := id h
  obtain ⟨hp, hyp, hok⟩ := id hP
  unfold wpX9_clashed
  refine sp9_out (b2_br (fun hin => ?_) (fun hout => ?_))
  · obtain ⟨n, n1, n2, rfl⟩ := in_rng (a := 0) (b := 1) (x := v1) (by omega) (fun q => hin (Or.inl q)) (fun q => hin (Or.inr q)) (by omega)
    rcases bar_ex (x := oX) hs hy ho hp hyp hok with ⟨c1, c2⟩ | ⟨r, r1, -, c1, c2⟩
    · refine c1 1 (Or.inr rfl) _ _ _ (fun v' t' => br_t rfl ?_)
      unfold wpX10_clashed
      exact sp10_in (b2_br (fun q => absurd hin q) (fun _ => c2 _ (fun y' hq => br_f (by decide) (hK _ _ _ _ hq))))
    · refine c1 _ _ _ (fun v' t' hv hl => br_f (by decide) ?_)
      rw [hl.1, hl.2]
      have mod : ∀ (post : Int32 → Ob → Prop), (∀ y', YQ oY y' → ((nI n = 0) → post r.2.2.2.2.2 y') ∧ (¬ (nI n = 0) → post (nI r.2.2.2.2.1) y')) → wpX10_clashed oY (nI n) post := by
        intro post hq
        unfold wpX10_clashed
        refine sp10_in (b2_br (fun q => absurd hin q) (fun _ => c2 _ (fun y' hy' => br_t (by decide) ?_)))
        rw [hy'.2.2.2.2.1, hy'.2.2.2.2.2.1]
        exact hq y' hy'.1
      refine pk_eq n 0 (fun en => ?_) (fun en => ?_)
      · exact mod _ (fun y' hq => br_t (by rw [en]; rfl) (hK _ _ _ _ hq))
      · exact mod _ (fun y' hq => br_f (nI_ne0 (by omega) (by omega)) (hK _ _ _ _ hq))
  · unfold wpX10_clashed
    exact sp10_in (b2_br (fun _ => hK _ _ _ _ (YQ.refl _)) (fun q => absurd hout q))
