/-! set, seen, forget, borrow, told, feet -/
theorem Good.setScalar {s y : Ob} {A : AS} (h : Good s y A) {j j' v : Nat} (hj : j < 4) (h1 : 1 ≤ j) (hj' : j' = j + 1) (hv : (j = 1 → 1 ≤ v ∧ v ≤ 9) ∧ (j = 2 → 1 ≤ v ∧ v ≤ 99) ∧ (j = 3 → v ≤ 9)) : Good (pf s j (nI v)) (pf y j' (nI v)) (setS A j v) := by
  obtain ⟨hs, hy, ⟨o1, o2, o3, o4, o5, o6, o7, o8⟩, hsg, how⟩ := h
  obtain ⟨⟨y0, y2, y3, y4, y5, y6, y8⟩, hy1, hy2, hy3⟩ := hy
  subst hj'
  refine ⟨hs.set (by omega), ⟨⟨?_, ?_, ?_, ?_, ?_, ?_, ?_⟩, fun k hk => ?_, fun k hk => ?_, fun k hk => ?_⟩, ⟨?_, ?_, ?_, ?_, ?_, ?_, ?_, ?_⟩, ?_, ?_⟩
  · rw [pf_n _ _ (by omega), setS_ne (by omega)]; exact y0
  · by_cases e : j = 1
    · subst e; rw [pf_s, setS_eq]
    · rw [pf_n _ _ (by omega), setS_ne (by omega)]; exact y2
  · by_cases e : j = 2
    · subst e; rw [pf_s, setS_eq]
    · rw [pf_n _ _ (by omega), setS_ne (by omega)]; exact y3
  · by_cases e : j = 3
    · subst e; rw [pf_s, setS_eq]
    · rw [pf_n _ _ (by omega), setS_ne (by omega)]; exact y4
  · rw [pf_n _ _ (by omega), setS_ne (by omega)]; exact y5
  · rw [pf_n _ _ (by omega), setS_ne (by omega)]; exact y6
  · rw [pf_n _ _ (by omega), setS_ne (by omega)]; exact y8
  · rw [pf_r _ _ _ _ (by decide)]; exact hy1 k hk
  · rw [pf_r _ _ _ _ (by decide)]
    rw [setS_ne (by omega)] at hk
    exact hy2 k hk
  · rw [pf_r _ _ _ _ (by decide)]; exact hy3 k hk
  · rw [setS_ne (by omega)]; exact o1
  · by_cases e : j = 1
    · subst e; rw [setS_eq]; exact hv.1 rfl
    · rw [setS_ne (by omega)]; exact o2
  · by_cases e : j = 2
    · subst e; rw [setS_eq]; exact hv.2.1 rfl
    · rw [setS_ne (by omega)]; exact o3
  · by_cases e : j = 3
    · subst e; rw [setS_eq]; exact hv.2.2 rfl
    · rw [setS_ne (by omega)]; exact o4
  · rw [setS_ne (by omega)]; exact o5
  · rw [setS_ne (by omega), setS_ne (by omega)]; exact o6
  · rw [setS_ne (by omega)]; exact o7
  · exact o8
  · intro k hk
    rw [setS_ne (by omega)] at hk ⊢
    exact hsg k hk
  · refine ⟨how.1, ?_⟩
    rw [setS_ne (by omega)]; exact how.2
theorem YK.pf {y : Ob} {j : Nat} {v : Int32} (h : j ≠ 10) : YK y (pf y j v) := ⟨pf_r _ _ _ _ (by decide), pf_r _ _ _ _ (by decide), pf_r _ _ _ _ (by decide), pf_n _ _ (fun e => h e.symm)⟩
theorem set10 {y : Ob} {w v : Int32} {post : Int32 → Ob → Prop} (hout : (¬ ((w = 0 ∧ ¬ (v < 1 ∨ 9 < v)) ∨ (w = 1 ∧ ¬ (v < 1 ∨ 99 < v)) ∨ (w = 2 ∧ ¬ (v < 0 ∨ 9 < v)))) → post (-2) y) (h0 : w = 0 → ¬ (v < 1 ∨ 9 < v) → ∀ y', (∀ r, r ≠ 0 → y' r = y r) → (∀ k, k ≠ 2 → y' 0 k = y 0 k) → y' 0 2 = v → post (y 0 2) y') (h1 : w = 1 → ¬ (v < 1 ∨ 99 < v) → ∀ y', (∀ r, r ≠ 0 → y' r = y r) → (∀ k, k ≠ 3 → y' 0 k = y 0 k) → y' 0 3 = v → post (y 0 3) y') (h2 : w = 2 → ¬ (v < 0 ∨ 9 < v) → ∀ y', (∀ r, r ≠ 0 → y' r = y r) → (∀ k, k ≠ 4 → y' 0 k = y 0 k) → y' 0 4 = v → post (y 0 4) y') : wpX10_set y w v post := by
  unfold wpX10_set jn1 jn0
  dsimp only
  have row : ∀ (a b c : Int32) r, r ≠ 0 → pf (pf (pf y 2 a) 3 b) 4 c r = y r := fun a b c r hr => by rw [pf_r _ _ _ _ hr, pf_r _ _ _ _ hr, pf_r _ _ _ _ hr]
  have fld : ∀ (a b c : Int32) k, k ≠ 2 → k ≠ 3 → k ≠ 4 → pf (pf (pf y 2 a) 3 b) 4 c 0 k = y 0 k := fun a b c k e2 e3 e4 => by rw [pf_n _ _ e4, pf_n _ _ e3, pf_n _ _ e2]
  have f2 : ∀ (a b c : Int32), pf (pf (pf y 2 a) 3 b) 4 c 0 2 = a := fun a b c => by rw [pf_n _ _ (by decide), pf_n _ _ (by decide), pf_s]
  have f3 : ∀ (a b c : Int32), pf (pf (pf y 2 a) 3 b) 4 c 0 3 = b := fun a b c => by rw [pf_n _ _ (by decide), pf_s]
  have f4 : ∀ (a b c : Int32), pf (pf (pf y 2 a) 3 b) 4 c 0 4 = c := fun a b c => pf_s _ _ _
  by_cases w0 : w = 0
  · subst w0
    refine br_t rfl (sp10_in (b2_br (fun q => ?_) (fun q => ?_)))
    · refine hout ?_
      rintro (z | z | z)
      · exact q z.2
      · exact absurd z.1 (by decide)
      · exact absurd z.1 (by decide)
    · refine br_t rfl (br_t rfl (br_f (by decide) ?_))
      intro y1 e1
      refine br_f (by decide) ?_
      intro y2 e2
      subst e1; subst e2
      refine h0 rfl q _ (row _ _ _) (fun k hk => ?_) (f2 _ _ _)
      by_cases k3 : k = 3
      · subst k3; rw [f3]
      · by_cases k4 : k = 4
        · subst k4; rw [f4, pf_n _ _ (by decide)]
        · exact fld _ _ _ k hk k3 k4
  · refine br_f w0 ?_
    by_cases w1 : w = 1
    · subst w1
      refine br_t rfl (sp10_in (b2_br (fun q => ?_) (fun q => ?_)))
      · refine hout ?_
        rintro (z | z | z)
        · exact absurd z.1 (by decide)
        · exact q z.2
        · exact absurd z.1 (by decide)
      · refine br_f (by decide) (br_t rfl (br_f (by decide) (br_t rfl ?_)))
        intro y1 e1
        refine br_f (by decide) ?_
        intro y2 e2
        subst e1; subst e2
        refine h1 rfl q _ (row _ _ _) (fun k hk => ?_) (f3 _ _ _)
        by_cases k2 : k = 2
        · subst k2; rw [f2]
        · by_cases k4 : k = 4
          · subst k4; rw [f4, pf_n _ _ (by decide)]
          · exact fld _ _ _ k k2 hk k4
    · refine br_f w1 ?_
      by_cases w2 : w = 2
      · subst w2
        refine br_t rfl (sp10_in (b2_br (fun q => br_t rfl ?_) (fun q => br_f (by decide) ?_)))
        · refine hout ?_
          rintro (z | z | z)
          · exact absurd z.1 (by decide)
          · exact absurd z.1 (by decide)
          · exact q z.2
        · refine br_f (by decide) (br_f (by decide) (br_f (by decide) (br_f (by decide) ?_)))
          intro y1 e1
          refine br_t rfl ?_
          intro y2 e2
          subst e1; subst e2
          refine h2 rfl q _ (row _ _ _) (fun k hk => ?_) (f4 _ _ _)
          by_cases k2 : k = 2
          · subst k2; rw [f2]
          · by_cases k3 : k = 3
            · subst k3; rw [f3]
            · exact fld _ _ _ k k2 k3 hk
      · refine br_f w2 (br_t rfl (hout ?_))
        rintro (z | z | z)
        · exact w0 z.1
        · exact w1 z.1
        · exact w2 z.1
theorem ob_ext {y y' : Ob} (hr : ∀ r, r ≠ 0 → y' r = y r) (h0 : ∀ k, y' 0 k = y 0 k) : y' = y := by
  funext r k
  by_cases e : r = 0
  · subst e; exact h0 k
  · rw [hr r e]
theorem st_set {oX oS oY : Ob} {A : AS} (h : Good oS oY A) (v1 v2 : Int32) {K : Int32 → Int32 → Ob → Ob → Prop} (hK : ∀ r s' y' A', Good s' y' A' → YK oY y' → K r r s' y') : wpX9_set oX oS v1 v2 (fun r s' => wpX10_set oY v1 v2 (fun r2 y' => K r r2 s' y')) := by
  obtain ⟨hs, hy, ho, hsg, how⟩ := id h
  unfold wpX9_set
  have same : ∀ (y' : Ob) (j : Nat) (v : Int32), (∀ r, r ≠ 0 → y' r = oY r) → (∀ k, k ≠ j → y' 0 k = oY 0 k) → y' 0 j = v → y' = pf oY j v := by
    intro y' j v q1 q2 q3
    refine ob_ext (fun r hr => by rw [pf_r _ _ _ _ hr]; exact q1 r hr) (fun k => ?_)
    by_cases e : k = j
    · subst e; rw [pf_s]; exact q3
    · rw [pf_n _ _ e]; exact q2 k e
  refine ⟨fun e => ?_, fun e => ?_, fun e => ?_, fun e0 e1 e2 => ?_⟩
  · subst e
    unfold wpX9_putEnd
    refine sp9_out (b2_br (fun hin => ?_) (fun hout => ?_))
    · obtain ⟨n, n1, n2, rfl⟩ := in_rng (a := 1) (b := 9) (x := v2) (by omega) (fun q => hin (Or.inl q)) (fun q => hin (Or.inr q)) (by omega)
      refine set10 (fun q => absurd (Or.inl ⟨rfl, hin⟩) q) (fun _ _ y' q1 q2 q3 => ?_) (fun q => absurd q (by decide)) (fun q => absurd q (by decide))
      rw [same y' 2 _ q1 q2 q3, hs.1 1 (by omega), hy.1.2.1]
      exact hK _ _ _ (setS A 1 n) (h.setScalar (j := 1) (by omega) (by omega) rfl ⟨fun _ => ⟨n1, n2⟩, fun q => absurd q (by decide), fun q => absurd q (by decide)⟩) (YK.pf (by decide))
    · refine set10 (fun _ => hK _ _ _ A h (YQ.refl oY).k) (fun _ q => absurd hout q) (fun q => absurd q (by decide)) (fun q => absurd q (by decide))
  · subst e
    unfold wpX9_putLimit
    refine sp9_out (b2_br (fun hin => ?_) (fun hout => ?_))
    · obtain ⟨n, n1, n2, rfl⟩ := in_rng (a := 1) (b := 99) (x := v2) (by omega) (fun q => hin (Or.inl q)) (fun q => hin (Or.inr q)) (by omega)
      refine set10 (fun q => absurd (Or.inr (Or.inl ⟨rfl, hin⟩)) q) (fun q => absurd q (by decide)) (fun _ _ y' q1 q2 q3 => ?_) (fun q => absurd q (by decide))
      rw [same y' 3 _ q1 q2 q3, hs.1 2 (by omega), hy.1.2.2.1]
      exact hK _ _ _ (setS A 2 n) (h.setScalar (j := 2) (by omega) (by omega) rfl ⟨fun q => absurd q (by decide), fun _ => ⟨n1, n2⟩, fun q => absurd q (by decide)⟩) (YK.pf (by decide))
    · refine set10 (fun _ => hK _ _ _ A h (YQ.refl oY).k) (fun q => absurd q (by decide)) (fun _ q => absurd hout q) (fun q => absurd q (by decide))
  · subst e
    unfold wpX9_putRent
    refine sp9_out (b2_br (fun hin => ?_) (fun hout => ?_))
    · obtain ⟨n, n1, n2, rfl⟩ := in_rng (a := 0) (b := 9) (x := v2) (by omega) (fun q => hin (Or.inl q)) (fun q => hin (Or.inr q)) (by omega)
      refine set10 (fun q => absurd (Or.inr (Or.inr ⟨rfl, hin⟩)) q) (fun q => absurd q (by decide)) (fun q => absurd q (by decide)) (fun _ _ y' q1 q2 q3 => ?_)
      rw [same y' 4 _ q1 q2 q3, hs.1 3 (by omega), hy.1.2.2.2.1]
      exact hK _ _ _ (setS A 3 n) (h.setScalar (j := 3) (by omega) (by omega) rfl ⟨fun q => absurd q (by decide), fun q => absurd q (by decide), fun _ => n2⟩) (YK.pf (by decide))
    · refine set10 (fun _ => hK _ _ _ A h (YQ.refl oY).k) (fun q => absurd q (by decide)) (fun q => absurd q (by decide)) (fun _ q => absurd hout q)
  · exact set10 (fun _ => hK _ _ _ A h (YQ.refl oY).k) (fun q => absurd q e0) (fun q => absurd q e1) (fun q => absurd q e2)
def addSg (A : AS) (w v : Nat) : AS := ((fun k => if k = 6 then A.1 6 + 1 else A.1 k), A.2.1, A.2.2.1, (fun k => if k = A.1 6 then w else A.2.2.2.1 k), (fun k => if k = A.1 6 then v else A.2.2.2.2 k))
theorem st_seen {oX oS oY : Ob} {A : AS} (h : Good oS oY A) (v1 v2 : Int32) {K : Int32 → Int32 → Ob → Ob → Prop} (hK : ∀ r s' y' A', Good s' y' A' → YK oY y' → K r r s' y') : wpX9_seen oX oS v1 v2 (fun r s' => wpX10_seen oY v1 v2 (fun r2 y' => K r r2 s' y')) := by
  obtain ⟨hs, hy, ho, hsg, how⟩ := id h
  obtain ⟨a1, a2⟩ := ho.1
  have h8 : A.1 6 ≤ 8 := ho.2.2.2.2.2.2.1
  unfold wpX9_seen
  rcases win_cases v1 a2 with q | ⟨w, hw, rfl⟩
  · refine sp8_has_n (hs.1 0 (by omega)) q (br_t rfl ?_)
    unfold wpX10_seen
    exact sp10_isWindow_n hy.1.1 (by omega) a2 q (br_t rfl (hK _ _ _ A h (YQ.refl oY).k))
  · refine sp8_has_y (hs.1 0 (by omega)) a2 hw (br_f (by decide) ?_)
    refine sp9_out (b2_br (fun hin => ?_) (fun hout => ?_))
    · obtain ⟨n, n1, n2, rfl⟩ := in_rng (a := 1) (b := 200) (x := v2) (by omega) (fun q => hin (Or.inl q)) (fun q => hin (Or.inr q)) (by omega)
      unfold wpX8_addSight
      have s6 : oS 0 6 = nI (A.1 6) := hs.1 6 (by omega)
      have y8 : oY 0 8 = nI (A.1 6) := hy.1.2.2.2.2.2.2
      rw [s6]
      refine br_f (nI_pos (by omega)) (pk_lt (A.1 6) 8 (fun hlt => ?_) (fun hge => ?_))
      · refine ⟨vp_in_nI hlt (by omega), ?_⟩
        intro s1 e1
        refine ⟨vp_in_nI hlt (by omega), ?_⟩
        intro s2 e2
        refine br_f (by decide) ?_
        unfold wpX10_seen
        refine sp10_isWindow_y hy.1.1 a2 hw (br_f (by decide) (sp10_in (b2_br (fun q => absurd hin q) (fun _ => ?_))))
        rw [y8]
        refine pk_eq (A.1 6) 8 (fun e => absurd e (by omega)) (fun _ => ?_)
        have m2 : (2 : Int32) * nI (A.1 6) = nI (2 * A.1 6) := pk_mul 2 _
        rw [m2, nI_1]
        refine ⟨vp_in_nI (by omega) (by omega), ?_⟩
        intro y1 f1
        refine ⟨vp_in_nI (by omega) (by omega), ?_⟩
        intro y2 f2
        rw [nC_n (by omega)] at e1 e2 f1 f2
        have es1 : s1 0 6 = nI (A.1 6) := by rw [e1, pa_n _ _ _ (by decide)]; exact s6
        have ey1 : y1 0 8 = nI (A.1 6) := by rw [f1, pa_n _ _ _ (by decide)]; exact y8
        rw [es1, ey1, nI_1, pf_s]
        refine hK _ _ _ (addSg A w n) ⟨⟨fun k hk => ?_, fun k hk => ?_, fun k hk => ?_, fun k hk => ?_, fun k hk => ?_⟩, ⟨⟨?_, ?_, ?_, ?_, ?_, ?_, pf_s _ _ _⟩, fun k hk => ?_, fun k hk => ?_, fun k hk => ?_⟩, ⟨ho.1, ho.2.1, ho.2.2.1, ho.2.2.2.1, ho.2.2.2.2.1, ho.2.2.2.2.2.1, by show A.1 6 + 1 ≤ 8; omega, ho.2.2.2.2.2.2.2⟩, fun k hk => ?_, how⟩ ⟨?_, ?_, ?_, ?_⟩
        · by_cases e : k = 6
          · subst e; rw [pf_s]; rfl
          · rw [pf_n _ _ e, e2, pa_n _ _ _ (by decide), e1, pa_n _ _ _ (by decide), hs.1 k hk]
            show nI (A.1 k) = nI (if k = 6 then A.1 6 + 1 else A.1 k)
            rw [if_neg e]
        · rw [pf_r _ _ _ _ (by decide), e2, pa_n _ _ _ (by decide), e1, pa_n _ _ _ (by decide)]; exact hs.2.1 k hk
        · rw [pf_r _ _ _ _ (by decide), e2, pa_n _ _ _ (by decide), e1, pa_n _ _ _ (by decide)]; exact hs.2.2.1 k hk
        · have hk' : k < A.1 6 + 1 := hk
          rw [pf_r _ _ _ _ (by decide), pf_r _ _ _ _ (by decide), e2, pa_n _ _ _ (by decide), pa_s, e1, pa_s, pa_n _ _ _ (by decide)]
          show upd (oS 3) (A.1 6) (nI w) k = nI (if k = A.1 6 then w else A.2.2.2.1 k) ∧ upd (oS 4) (A.1 6) (nI n) k = nI (if k = A.1 6 then n else A.2.2.2.2 k)
          by_cases e : k = A.1 6
          · simp [upd, e]
          · simp only [upd, if_neg e]; exact hs.2.2.2.1 k (by omega)
        · rw [pf_r _ _ _ _ (by decide), e2, pa_n _ _ _ (by decide), e1, pa_n _ _ _ (by decide)]; exact hs.2.2.2.2 k hk
        · rw [pf_n _ _ (by decide), f2, pa_n _ _ _ (by decide), f1, pa_n _ _ _ (by decide)]; exact hy.1.1
        · rw [pf_n _ _ (by decide), f2, pa_n _ _ _ (by decide), f1, pa_n _ _ _ (by decide)]; exact hy.1.2.1
        · rw [pf_n _ _ (by decide), f2, pa_n _ _ _ (by decide), f1, pa_n _ _ _ (by decide)]; exact hy.1.2.2.1
        · rw [pf_n _ _ (by decide), f2, pa_n _ _ _ (by decide), f1, pa_n _ _ _ (by decide)]; exact hy.1.2.2.2.1
        · rw [pf_n _ _ (by decide), f2, pa_n _ _ _ (by decide), f1, pa_n _ _ _ (by decide)]; exact hy.1.2.2.2.2.1
        · rw [pf_n _ _ (by decide), f2, pa_n _ _ _ (by decide), f1, pa_n _ _ _ (by decide)]; exact hy.1.2.2.2.2.2.1
        · rw [pf_r _ _ _ _ (by decide), f2, pa_n _ _ _ (by decide), f1, pa_n _ _ _ (by decide)]; exact hy.2.1 k hk
        · have hk' : k < A.1 6 + 1 := hk
          rw [pf_r _ _ _ _ (by decide), f2, pa_s, f1, pa_s]
          show upd (upd (oY 3) (2 * A.1 6) (nI w)) (2 * A.1 6 + 1) (nI n) (2 * k) = nI (if k = A.1 6 then w else A.2.2.2.1 k) ∧ upd (upd (oY 3) (2 * A.1 6) (nI w)) (2 * A.1 6 + 1) (nI n) (2 * k + 1) = nI (if k = A.1 6 then n else A.2.2.2.2 k)
          by_cases e : k = A.1 6
          · subst e
            have : ¬ 2 * A.1 6 = 2 * A.1 6 + 1 := by omega
            simp [upd]
          · have n1 : ¬ 2 * k = 2 * A.1 6 + 1 := by omega
            have n2 : ¬ 2 * k = 2 * A.1 6 := by omega
            have n3 : ¬ 2 * k + 1 = 2 * A.1 6 + 1 := by omega
            have n4 : ¬ 2 * k + 1 = 2 * A.1 6 := by omega
            simp only [upd, if_neg n1, if_neg n2, if_neg n3, if_neg n4, if_neg e]
            exact hy.2.2.1 k (by omega)
        · rw [pf_r _ _ _ _ (by decide), f2, pa_n _ _ _ (by decide), f1, pa_n _ _ _ (by decide)]; exact hy.2.2.2 k hk
        · have hk' : k < A.1 6 + 1 := hk
          show (if k = A.1 6 then w else A.2.2.2.1 k) < A.1 0 ∧ 1 ≤ (if k = A.1 6 then n else A.2.2.2.2 k) ∧ (if k = A.1 6 then n else A.2.2.2.2 k) ≤ 200
          by_cases e : k = A.1 6
          · simp only [if_pos e]; exact ⟨hw, n1, n2⟩
          · simp only [if_neg e]; exact hsg k (by omega)
        · rw [pf_r _ _ _ _ (by decide), f2, pa_n _ _ _ (by decide), f1, pa_n _ _ _ (by decide)]
        · rw [pf_r _ _ _ _ (by decide), f2, pa_n _ _ _ (by decide), f1, pa_n _ _ _ (by decide)]
        · rw [pf_r _ _ _ _ (by decide), f2, pa_n _ _ _ (by decide), f1, pa_n _ _ _ (by decide)]
        · rw [pf_n _ _ (by decide), f2, pa_n _ _ _ (by decide), f1, pa_n _ _ _ (by decide)]
      · refine br_t rfl ?_
        unfold wpX10_seen
        refine sp10_isWindow_y hy.1.1 a2 hw (br_f (by decide) (sp10_in (b2_br (fun q => absurd hin q) (fun _ => ?_))))
        rw [y8]
        exact pk_eq (A.1 6) 8 (fun _ => hK _ _ _ A h (YQ.refl oY).k) (fun e => absurd (by omega) e)
    · unfold wpX10_seen
      exact sp10_isWindow_y hy.1.1 a2 hw (br_f (by decide) (sp10_in (b2_br (fun _ => hK _ _ _ A h (YQ.refl oY).k) (fun q => absurd hout q))))
theorem st_forget {oX oS oY : Ob} {A : AS} (h : Good oS oY A) {K : Int32 → Int32 → Ob → Ob → Prop} (hK : ∀ r s' y' A', Good s' y' A' → YK oY y' → K r r s' y') : wpX9_forget oX oS (fun r s' => wpX10_forget oY (fun r2 y' => K r r2 s' y')) := by
  obtain ⟨hs, hy, ho, hsg, how⟩ := id h
  unfold wpX9_forget wpX10_forget
  rw [hs.1 6 (by omega), hy.1.2.2.2.2.2.2]
  have e6 : (setS A 6 0).1 6 = 0 := setS_eq
  refine hK _ _ _ (setS A 6 0) ⟨⟨fun k hk => ?_, fun k hk => ?_, fun k hk => ?_, fun k hk => ?_, fun k hk => ?_⟩, ⟨⟨?_, ?_, ?_, ?_, ?_, ?_, ?_⟩, fun k hk => ?_, fun k hk => ?_, fun k hk => ?_⟩, ⟨?_, ?_, ?_, ?_, ?_, ?_, ?_, ho.2.2.2.2.2.2.2⟩, fun k hk => ?_, ?_⟩ (YK.pf (by decide))
  · by_cases e : k = 6
    · subst e; rw [pf_s, e6]; rfl
    · rw [pf_n _ _ e, setS_ne e]; exact hs.1 k hk
  · rw [pf_r _ _ _ _ (by decide)]; exact hs.2.1 k hk
  · rw [pf_r _ _ _ _ (by decide)]; exact hs.2.2.1 k hk
  · rw [e6] at hk; exact absurd hk (Nat.not_lt_zero _)
  · rw [pf_r _ _ _ _ (by decide)]; exact hs.2.2.2.2 k hk
  · rw [pf_n _ _ (by decide), setS_ne (by decide)]; exact hy.1.1
  · rw [pf_n _ _ (by decide), setS_ne (by decide)]; exact hy.1.2.1
  · rw [pf_n _ _ (by decide), setS_ne (by decide)]; exact hy.1.2.2.1
  · rw [pf_n _ _ (by decide), setS_ne (by decide)]; exact hy.1.2.2.2.1
  · rw [pf_n _ _ (by decide), setS_ne (by decide)]; exact hy.1.2.2.2.2.1
  · rw [pf_n _ _ (by decide), setS_ne (by decide)]; exact hy.1.2.2.2.2.2.1
  · rw [pf_s, e6]; rfl
  · rw [pf_r _ _ _ _ (by decide)]; exact hy.2.1 k hk
  · rw [e6] at hk; exact absurd hk (Nat.not_lt_zero _)
  · rw [pf_r _ _ _ _ (by decide)]; exact hy.2.2.2 k hk
  · rw [setS_ne (by decide)]; exact ho.1
  · rw [setS_ne (by decide)]; exact ho.2.1
  · rw [setS_ne (by decide)]; exact ho.2.2.1
  · rw [setS_ne (by decide)]; exact ho.2.2.2.1
  · rw [setS_ne (by decide)]; exact ho.2.2.2.2.1
  · rw [setS_ne (by decide), setS_ne (by decide)]; exact ho.2.2.2.2.2.1
  · rw [e6]; exact Nat.zero_le _
  · rw [e6] at hk; exact absurd hk (Nat.not_lt_zero _)
  · exact ⟨how.1, by rw [setS_ne (by decide)]; exact how.2⟩
