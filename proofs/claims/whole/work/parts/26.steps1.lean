/-! what the two sides hold alike -/
/-- the reference keeps all that later calls read -/
def YQ (y y' : Ob) : Prop := y' 1 = y 1 ∧ y' 2 = y 2 ∧ y' 3 = y 3 ∧ y' 4 = y 4 ∧ y' 10 = y 10 ∧ y' 11 = y 11 ∧ ∀ k, k < 12 → y' 0 k = y 0 k
theorem YQ.refl (y : Ob) : YQ y y := ⟨rfl, rfl, rfl, rfl, rfl, rfl, fun _ _ => rfl⟩
theorem YQ.trans {a b c : Ob} (h : YQ a b) (h2 : YQ b c) : YQ a c := ⟨h2.1.trans h.1, h2.2.1.trans h.2.1, h2.2.2.1.trans h.2.2.1, h2.2.2.2.1.trans h.2.2.2.1, h2.2.2.2.2.1.trans h.2.2.2.2.1, h2.2.2.2.2.2.1.trans h.2.2.2.2.2.1, fun k hk => (h2.2.2.2.2.2.2 k hk).trans (h.2.2.2.2.2.2 k hk)⟩
theorem YQ.ys {y y' : Ob} {A : AS} (h : YQ y y') (hy : YS y A) : YS y' A := by
  obtain ⟨h1, h2, h3, h4, h5, h6, h7⟩ := h
  unfold YS at *
  rw [h1, h2, h3, h7 0 (by omega), h7 2 (by omega), h7 3 (by omega), h7 4 (by omega), h7 5 (by omega), h7 6 (by omega), h7 8 (by omega)]
  exact hy
theorem YQ.pa {y : Ob} (r k : Nat) (v : Int32) (h : 5 ≤ r ∧ r ≤ 9) : YQ y (pa y r k v) := ⟨pa_n _ _ _ (by omega), pa_n _ _ _ (by omega), pa_n _ _ _ (by omega), pa_n _ _ _ (by omega), pa_n _ _ _ (by omega), pa_n _ _ _ (by omega), fun j hj => by rw [pa_n _ _ _ (by omega)]⟩
theorem YQ.pf {y : Ob} (j : Nat) (v : Int32) (h : 12 ≤ j) : YQ y (pf y j v) := ⟨pf_r _ _ _ _ (by decide), pf_r _ _ _ _ (by decide), pf_r _ _ _ _ (by decide), pf_r _ _ _ _ (by decide), pf_r _ _ _ _ (by decide), pf_r _ _ _ _ (by decide), fun k hk => pf_n _ _ (by omega)⟩
/-- pad and images stay -/
def YK (y y' : Ob) : Prop := y' 4 = y 4 ∧ y' 10 = y 10 ∧ y' 11 = y 11 ∧ y' 0 10 = y 0 10
theorem YQ.k {y y' : Ob} (h : YQ y y') : YK y y' := ⟨h.2.2.2.1, h.2.2.2.2.1, h.2.2.2.2.2.1, h.2.2.2.2.2.2 10 (by omega)⟩
/-- debts: small, only of windows that there are, and nothing in all -/
def dsum (w : Nat → Int32) : Nat → Int
  | 0 => 0
  | k + 1 => dsum w k + (w k).toInt
def Owe (A : AS) : Prop := (∀ k, k < 10 → -1000 < (A.2.2.1 k).toInt ∧ (A.2.2.1 k).toInt < 1000) ∧ dsum A.2.2.1 (A.1 0) = 0
def Good (s y : Ob) (A : AS) : Prop := StS s A ∧ YS y A ∧ Own A ∧ Sig A ∧ Owe A
/-! ranges -/
theorem sp9_out {x a b : Int32} {post : Int32 → Prop} (hp : post (b2 (x < a ∨ b < x))) : wpX9_isOutside x a b post := by
  unfold wpX9_isOutside jn0
  by_cases h1 : x < a
  · rw [b2_t (Or.inl h1)] at hp; exact br_t h1 hp
  · by_cases h2 : b < x
    · rw [b2_t (Or.inr h2)] at hp
      exact br_f h1 (br_f (Int32.not_le.mpr h2) hp)
    · rw [b2_f (by rintro (q | q); exact h1 q; exact h2 q)] at hp
      exact br_f h1 (br_t (Int32.not_lt.mp h2) hp)
/-- both look at the same range -/
theorem rng2 {x a b : Int32} {p1 p2 : Int32 → Prop} (hout : (x < a ∨ b < x) → p1 1 ∧ p2 0) (hin : ¬ (x < a ∨ b < x) → p1 0 ∧ p2 1) : wpX9_isOutside x a b p1 ∧ wpX10_in x a b p2 := by
  by_cases h : x < a ∨ b < x
  · exact ⟨sp9_out (by rw [b2_t h]; exact (hout h).1), sp10_in (by rw [b2_f (by simp [h])]; exact (hout h).2)⟩
  · exact ⟨sp9_out (by rw [b2_f h]; exact (hin h).1), sp10_in (by rw [b2_t h]; exact (hin h).2)⟩
theorem lp10_cl22 {y : Ob} {K : Ob → Prop} (hK : ∀ y', (∀ r, r ≠ 1 → r ≠ 2 → y' r = y r) → (∀ k, k < 10 → y' 1 k = 2 ∧ y' 2 k = 0) → K y') :
    ∀ d k y', k + d = 10 → (∀ r, r ≠ 1 → r ≠ 2 → y' r = y r) → (∀ j, j < k → y' 1 j = 2 ∧ y' 2 j = 0) → wpX10_clear_L22 K (d + 1) (nI k) y'
  | 0, k, y', h, i1, i2 => by
    unfold wpX10_clear_L22
    exact br_t (nI_le (a := 10) (by omega) (by omega)) (hK y' i1 (fun j hj => i2 j (by omega)))
  | d + 1, k, y', h, i1, i2 => by
    unfold wpX10_clear_L22
    refine br_f (nI_ge (b := 10) (by omega) (by omega)) ⟨vp_in_nI (by omega) (by omega), ?_⟩
    intro y1 hy1
    refine ⟨vp_in_nI (by omega) (by omega), ?_⟩
    rw [nI_1, nC_n (by omega)]
    rw [nC_n (by omega)] at hy1
    refine lp10_cl22 hK d (k + 1) _ (by omega) (fun r hr hr5 => ?_) (fun j hj => ?_)
    · rw [pa_n _ _ _ hr5, hy1, pa_n _ _ _ hr]; exact i1 r hr hr5
    · rw [pa_s, pa_n _ _ _ (by decide), hy1, pa_s, pa_n _ _ _ (by decide)]
      by_cases e : j = k
      · subst e; simp [upd]
      · simp only [upd, if_neg e]; exact i2 j (by omega)
theorem sp10_clear {y : Ob} {n li re : Nat} {post : Ob → Prop} (h0 : y 0 0 = nI n) (h3 : y 0 3 = nI li) (h4 : y 0 4 = nI re) (hp : ∀ y', YS y' (freshA n li re) → YK y y' → post y') : wpX10_clear y post := by
  unfold wpX10_clear
  intro y1 e1 y2 e2 y3 e3
  refine ⟨11, ?_⟩
  refine lp10_cl22 (K := fun o => post o) (fun y' i1 i2 => hp y' ⟨?_, ?_, ?_, ?_⟩ ?_) 10 0 _ (by omega) (fun _ _ _ => rfl) (fun j hj => absurd hj (by omega))
  · rw [i1 0 (by decide) (by decide)]
    subst e1; subst e2; subst e3
    exact ⟨h0, rfl, h3, h4, rfl, rfl, rfl⟩
  · intro k hk; exact (i2 k hk).1
  · intro k hk; exact absurd hk (by simp [freshA])
  · intro k hk; exact (i2 k hk).2
  · refine ⟨?_, ?_, ?_, ?_⟩
    · rw [i1 4 (by decide) (by decide)]; subst e1; subst e2; subst e3; rfl
    · rw [i1 10 (by decide) (by decide)]; subst e1; subst e2; subst e3; rfl
    · rw [i1 11 (by decide) (by decide)]; subst e1; subst e2; subst e3; rfl
    · rw [i1 0 (by decide) (by decide)]; subst e1; subst e2; subst e3; rfl
theorem popc_0 : popc 0 = 0 := by decide +kernel
theorem fresh_own {n li re : Nat} (hn : 2 ≤ n ∧ n ≤ 10) (hl : 1 ≤ li ∧ li ≤ 99) (hr : re ≤ 9) : Own (freshA n li re) ∧ Sig (freshA n li re) ∧ Owe (freshA n li re) := by
  refine ⟨⟨hn, ⟨show 1 ≤ 2 by decide, show 2 ≤ 9 by decide⟩, hl, hr, Nat.zero_le _, ⟨Nat.two_pow_pos _, by show popc 0 ≤ _; rw [popc_0]; exact Nat.zero_le _⟩, Nat.zero_le _, fun k _ => ⟨show 1 ≤ 2 by decide, show 2 ≤ 9 by decide⟩⟩, fun k hk => absurd hk (Nat.not_lt_zero _), fun k _ => ⟨show -1000 < (0 : Int32).toInt by decide, show (0 : Int32).toInt < 1000 by decide⟩, ?_⟩
  show dsum (fun _ => 0) n = 0
  induction n with
  | zero => rfl
  | succ m ih =>
    have : dsum (fun _ => (0 : Int32)) (m + 1) = dsum (fun _ => (0 : Int32)) m + (0 : Int32).toInt := rfl
    rw [this]
    have gen : ∀ j, dsum (fun _ => (0 : Int32)) j = 0 := by
      intro j
      induction j with
      | zero => rfl
      | succ i hi => show dsum (fun _ => (0 : Int32)) i + (0 : Int32).toInt = 0; rw [hi]; decide
    rw [gen m]; decide
theorem st_windows {oX oS oY : Ob} {A : AS} (h : Good oS oY A) (v1 : Int32) {K : Int32 → Int32 → Ob → Ob → Prop} (hK : ∀ r s' y' A', Good s' y' A' → YK oY y' → K r r s' y') : wpX9_windows oX oS v1 (fun r s' => wpX10_windows oY v1 (fun r2 y' => K r r2 s' y')) := by
  obtain ⟨hs, hy, ho, hsg, how⟩ := id h
  unfold wpX9_windows
  refine sp9_out (b2_br (fun hin => ?_) (fun hout => ?_))
  · obtain ⟨n, n1, n2, rfl⟩ := in_rng (a := 2) (b := 10) (x := v1) (by omega) (fun q => hin (Or.inl q)) (fun q => hin (Or.inr q)) (by omega)
    refine sp8_beginAnew (hs.1 2 (by omega)) (hs.1 3 (by omega)) (fun s' hs' => ?_)
    unfold wpX10_windows
    refine sp10_in (b2_br (fun q => absurd hin q) (fun _ => ?_))
    refine sp10_clear (n := n) (li := A.1 2) (re := A.1 3) rfl hy.1.2.2.1 hy.1.2.2.2.1 (fun y' hy' hk => ?_)
    rw [hs.1 0 (by omega), hy.1.1]
    obtain ⟨o1, o2, o3⟩ := fresh_own (n := n) (li := A.1 2) (re := A.1 3) ⟨n1, n2⟩ ho.2.2.1 ho.2.2.2.1
    exact hK _ _ _ _ ⟨hs', hy', o1, o2, o3⟩ hk
  · unfold wpX10_windows
    exact sp10_in (b2_br (fun _ => hK _ _ _ A h (YQ.refl oY).k) (fun q => absurd hout q))
theorem hasw {s y : Ob} {A : AS} (h : Good s y A) (x : Int32) {p1 p2 : Int32 → Prop} (hn : p1 0 ∧ p2 0) (hy : ∀ w, w < A.1 0 → x = nI w → p1 1 ∧ p2 1) : wpX8_has s x p1 ∧ wpX10_isWindow y x p2 := by
  obtain ⟨hs, hyy, ⟨⟨a1, a2⟩, -⟩, -⟩ := h
  rcases win_cases x a2 with q | ⟨w, hw, rfl⟩
  · exact ⟨sp8_has_n (hs.1 0 (by omega)) q hn.1, sp10_isWindow_n hyy.1.1 (by omega) a2 q hn.2⟩
  · exact ⟨sp8_has_y (hs.1 0 (by omega)) a2 hw (hy w hw rfl).1, sp10_isWindow_y hyy.1.1 a2 hw (hy w hw rfl).2⟩
def setG (A : AS) (w v : Nat) : AS := (A.1, (fun k => if k = w then v else A.2.1 k), A.2.2)
theorem st_gap {oX oS oY : Ob} {A : AS} (h : Good oS oY A) (v1 v2 : Int32) {K : Int32 → Int32 → Ob → Ob → Prop} (hK : ∀ r s' y' A', Good s' y' A' → YK oY y' → K r r s' y') : wpX9_gap oX oS v1 v2 (fun r s' => wpX10_gap oY v1 v2 (fun r2 y' => K r r2 s' y')) := by
  obtain ⟨hs, hy, ho, hsg, how⟩ := id h
  obtain ⟨a1, a2⟩ := ho.1
  unfold wpX9_gap
  rcases win_cases v1 a2 with q | ⟨w, hw, rfl⟩
  · refine sp8_has_n (hs.1 0 (by omega)) q (br_t rfl ?_)
    unfold wpX10_gap
    exact sp10_isWindow_n hy.1.1 (by omega) a2 q (br_t rfl (hK _ _ _ A h (YQ.refl oY).k))
  · refine sp8_has_y (hs.1 0 (by omega)) a2 hw (br_f (by decide) ?_)
    refine sp9_out (b2_br (fun hin => ?_) (fun hout => ?_))
    · obtain ⟨n, n1, n2, rfl⟩ := in_rng (a := 1) (b := 9) (x := v2) (by omega) (fun q => hin (Or.inl q)) (fun q => hin (Or.inr q)) (by omega)
      refine ⟨vp_in_nI (by omega) (by omega), vp_in_nI (by omega) (by omega), ?_⟩
      rw [nC_n (by omega), jld_n (by omega), hs.2.1 w (by omega)]
      refine sp8_measure (g := (setG A w n).2.1) (fun k hk => ?_) (fun s' j1 j2 => ?_)
      · rw [pa_s]
        by_cases e : k = w
        · subst e; simp [upd, setG]
        · simp only [upd, if_neg e, setG]; exact hs.2.1 k hk
      · unfold wpX10_gap
        refine sp10_isWindow_y hy.1.1 a2 hw (br_f (by decide) (sp10_in (b2_br (fun q => absurd hin q) (fun _ => ?_))))
        refine ⟨vp_in_nI (by omega) (by omega), vp_in_nI (by omega) (by omega), ?_⟩
        rw [nC_n (by omega), jld_n (by omega), hy.2.1 w (by omega)]
        refine hK _ _ _ (setG A w n) ⟨⟨?_, ?_, j2, ?_, ?_⟩, ⟨?_, ?_, ?_, ?_⟩, ?_, ?_, ?_⟩ ?_
        · intro k hk
          rw [j1 0 (by decide), pa_n _ _ _ (by decide)]; exact hs.1 k hk
        · intro k hk
          rw [j1 1 (by decide), pa_s]
          by_cases e : k = w
          · subst e; simp [upd, setG]
          · simp only [upd, if_neg e, setG]; exact hs.2.1 k hk
        · intro k hk
          rw [j1 3 (by decide), j1 4 (by decide), pa_n _ _ _ (by decide), pa_n _ _ _ (by decide)]
          exact hs.2.2.2.1 k hk
        · intro k hk
          rw [j1 5 (by decide), pa_n _ _ _ (by decide)]; exact hs.2.2.2.2 k hk
        · rw [pa_n _ _ _ (by decide)]; exact hy.1
        · intro k hk
          rw [pa_s]
          by_cases e : k = w
          · subst e; simp [upd, setG]
          · simp only [upd, if_neg e, setG]; exact hy.2.1 k hk
        · intro k hk
          rw [pa_n _ _ _ (by decide)]; exact hy.2.2.1 k hk
        · intro k hk
          rw [pa_n _ _ _ (by decide)]; exact hy.2.2.2 k hk
        · obtain ⟨o1, o2, o3, o4, o5, o6, o7, o8⟩ := ho
          refine ⟨o1, o2, o3, o4, o5, o6, o7, fun k hk => ?_⟩
          show 1 ≤ (if k = w then n else A.2.1 k) ∧ (if k = w then n else A.2.1 k) ≤ 9
          split
          · exact ⟨n1, n2⟩
          · exact o8 k hk
        · exact hsg
        · exact how
        · exact ⟨pa_n _ _ _ (by decide), pa_n _ _ _ (by decide), pa_n _ _ _ (by decide), by rw [pa_n _ _ _ (by decide)]⟩
    · unfold wpX10_gap
      refine sp10_isWindow_y hy.1.1 a2 hw (br_f (by decide) (sp10_in (b2_br (fun _ => hK _ _ _ A h (YQ.refl oY).k) (fun q => absurd hout q))))
