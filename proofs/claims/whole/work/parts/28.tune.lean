/-! tunes -/
theorem jrem_n {a d : Nat} (ha : a < 2 ^ 31) (h0 : 0 < d) (hd : d < 2 ^ 31) : jrem (nI a) (nI d) = nI (a % d) := by unfold jrem; exact pk_rem ha h0 hd
def tOk (P : PD) (k : Nat) : Prop := (k % 2 = 0 → 48 ≤ P.2 k ∧ P.2 k ≤ 50) ∧ (k % 2 = 1 → (if P.2 (k - 1) = 48 then 49 else 48) ≤ P.2 k ∧ P.2 k ≤ (if P.2 (k - 1) = 50 then 48 else 57))
noncomputable def tfl (P : PD) : Nat → Nat → Int32
  | 0, _ => if P.1 = 0 ∨ P.1 % 2 = 1 then nI P.1 else -6
  | d + 1, k => @ite _ (tOk P k) (Classical.propDecidable _) (tfl P d (k + 1)) (nI k)
theorem tfl_y {P : PD} {d k : Nat} (h : tOk P k) : tfl P (d + 1) k = tfl P d (k + 1) := by rw [tfl]; exact @if_pos _ (Classical.propDecidable _) h _ _ _
theorem tfl_n {P : PD} {d k : Nat} (h : ¬ tOk P k) : tfl P (d + 1) k = nI k := by rw [tfl]; exact @if_neg _ (Classical.propDecidable _) h _ _ _
def TuneOk (P : PD) : Prop := 0 < P.1 ∧ P.1 % 2 = 0 ∧ ∀ k, k < P.1 → tOk P k
theorem tfl_or {P : PD} (hP : P.1 ≤ 60) : ∀ d k, k + d = P.1 → (∀ j, j < k → tOk P j) → (TuneOk P ∧ tfl P d k = -6) ∨ ∃ j, j ≤ 60 ∧ tfl P d k = nI j
  | 0, k, h, hj => by
    by_cases e : P.1 = 0 ∨ P.1 % 2 = 1
    · right; exact ⟨P.1, hP, by rw [tfl, if_pos e]⟩
    · left
      refine ⟨⟨by omega, by omega, fun j hj' => hj j (by omega)⟩, by rw [tfl, if_neg e]⟩
  | d + 1, k, h, hj => by
    by_cases e : tOk P k
    · rw [tfl_y e]
      refine tfl_or hP d (k + 1) (by omega) (fun j hj' => ?_)
      by_cases ej : j = k
      · subst ej; exact e
      · exact hj j (by omega)
    · right; rw [tfl_n e]; exact ⟨k, by omega, rfl⟩
def tone (P : PD) (i : Nat) : Nat := (P.2 (2 * i) - 48) * 10 + (P.2 (2 * i + 1) - 48)
theorem tone_bd {P : PD} (h : TuneOk P) {i : Nat} (hi : i < P.1 / 2) : (48 ≤ P.2 (2 * i) ∧ P.2 (2 * i) ≤ 50) ∧ (48 ≤ P.2 (2 * i + 1) ∧ P.2 (2 * i + 1) ≤ 57) ∧ 1 ≤ tone P i ∧ tone P i ≤ 20 := by
  have h1 := (h.2.2 (2 * i) (by omega)).1 (by omega)
  have h2 := (h.2.2 (2 * i + 1) (by omega)).2 (by omega)
  rw [show 2 * i + 1 - 1 = 2 * i by omega] at h2
  unfold tone
  by_cases e1 : P.2 (2 * i) = 48
  · rw [if_pos e1, if_neg (by omega)] at h2
    omega
  · rw [if_neg e1] at h2
    by_cases e2 : P.2 (2 * i) = 50
    · rw [if_pos e2] at h2; omega
    · rw [if_neg e2] at h2; omega
theorem sp5_toneAt {p : Ob} {P : PD} {i : Nat} {post : Int32 → Prop} (hp : PS p P) (hok : POk P) (hi : 2 * i + 1 < P.1) (h1 : 48 ≤ P.2 (2 * i)) (h2 : 48 ≤ P.2 (2 * i + 1)) (hpo : post (nI (tone P i))) : wpX5_toneAt p (nI i) post := by
  have := hok.1
  unfold wpX5_toneAt
  have e2 : (2 : Int32) * nI i = nI (2 * i) := pk_mul 2 i
  rw [e2, nI_1]
  refine sp5_signAt hp hok (by omega) (sp5_signAt hp hok hi ?_)
  have q1 : nI (P.2 (2 * i)) - 48 = nI (P.2 (2 * i) - 48) := pk_sub h1
  have q2 : nI (P.2 (2 * i) - 48) * 10 = nI ((P.2 (2 * i) - 48) * 10) := pk_mul _ 10
  have q3 : nI ((P.2 (2 * i) - 48) * 10 + P.2 (2 * i + 1)) - 48 = nI ((P.2 (2 * i) - 48) * 10 + P.2 (2 * i + 1) - 48) := pk_sub (b := 48) (by omega)
  rw [q1, q2, nI_add, q3, Nat.add_sub_assoc h2]
  exact hpo
theorem sp5_isTuneSign {p : Ob} {P : PD} {k : Nat} {post : Int32 → Prop} (hp : PS p P) (hok : POk P) (hk : k < P.1) (hj : ∀ j, j < k → tOk P j) (hpo : post (b2 (tOk P k))) : wpX5_isTuneSign p (nI k) post := by
  have h60 := hok.1
  have hc := hok.2 k hk
  unfold wpX5_isTuneSign
  refine sp5_signAt hp hok hk ?_
  have ejr : jrem (nI k) 2 = nI (k % 2) := jrem_n (d := 2) (by omega) (by omega) (by omega)
  have edv : nI k / 2 = nI (k / 2) := pk_div (d := 2) (by omega) (by omega) (by omega)
  have e20 : (20 : Int32) = nI 20 := rfl
  rw [ejr, edv]
  by_cases hl : P.2 k < 48
  · have : nI (P.2 k) - 48 < 0 := pk_sneg (b := 48) (by omega) hl
    refine br_t this ?_
    have hn : ¬ tOk P k := by
      rintro ⟨q1, q2⟩
      rcases Nat.mod_two_eq_zero_or_one k with e | e
      · have := q1 e; omega
      · have := q2 e
        by_cases ee : P.2 (k - 1) = 48
        · rw [if_pos ee] at this; omega
        · rw [if_neg ee] at this; omega
    rw [b2_f hn] at hpo; exact hpo
  · have q1 : nI (P.2 k) - 48 = nI (P.2 k - 48) := pk_sub (b := 48) (by omega)
    rw [q1]
    refine br_f (nI_pos (by omega)) (pk_le (P.2 k - 48) 9 (fun h9 => ?_) (fun h9 => ?_))
    · refine pk_eq (k % 2) 0 (fun ev => ?_) (fun od => ?_)
      · have q2 : nI (P.2 k - 48) * 10 = nI ((P.2 k - 48) * 10) := pk_mul _ 10
        rw [q2]
        refine pk_lt 20 ((P.2 k - 48) * 10) (fun h => ?_) (fun h => ?_)
        · rw [b2_f (by rintro ⟨q, -⟩; have := q ev; omega)] at hpo; exact hpo
        · rw [b2_t ⟨fun _ => by omega, fun o => absurd o (by omega)⟩] at hpo; exact hpo
      · have hk1 := (hj (k - 1) (by omega)).1 (by omega)
        have ek : 2 * (k / 2) = k - 1 := by omega
        have ek1 : 2 * (k / 2) + 1 = k := by omega
        refine sp5_toneAt hp hok (by omega) (by rw [ek]; exact hk1.1) (by rw [ek1]; omega) ?_
        unfold jn0
        have et : tone P (k / 2) = (P.2 (k - 1) - 48) * 10 + (P.2 k - 48) := by unfold tone; rw [ek1, ek]
        rw [et]
        refine pk_lt ((P.2 (k - 1) - 48) * 10 + (P.2 k - 48)) 1 (fun h => ?_) (fun h1 => pk_lt 20 ((P.2 (k - 1) - 48) * 10 + (P.2 k - 48)) (fun h => ?_) (fun h2 => ?_))
        · rw [b2_f] at hpo
          · exact hpo
          · rintro ⟨-, q⟩
            have := q (by omega)
            rw [if_pos (by omega)] at this
            omega
        · rw [b2_f] at hpo
          · exact hpo
          · rintro ⟨-, q⟩
            have := q (by omega)
            by_cases e5 : P.2 (k - 1) = 50
            · rw [if_pos e5] at this; omega
            · rw [if_neg e5] at this; omega
        · rw [b2_t] at hpo
          · exact hpo
          · refine ⟨fun e => absurd e od, fun _ => ?_⟩
            by_cases e4 : P.2 (k - 1) = 48
            · rw [if_pos e4, if_neg (by omega)]; omega
            · rw [if_neg e4]
              by_cases e5 : P.2 (k - 1) = 50
              · rw [if_pos e5]; omega
              · rw [if_neg e5]; omega
    · rw [b2_f] at hpo
      · exact hpo
      · rintro ⟨q1, q2⟩
        rcases Nat.mod_two_eq_zero_or_one k with e | e
        · have := q1 e; omega
        · have := q2 e
          by_cases ee : P.2 (k - 1) = 50
          · rw [if_pos ee] at this; omega
          · rw [if_neg ee] at this; omega
theorem lp5_t2 {p : Ob} {P : PD} {post : Int32 → Prop} {K : Prop} (hp : PS p P) (hok : POk P) (hK : post (tfl P 0 P.1) → K) : ∀ d k, k + d = P.1 → (∀ j, j < k → tOk P j) → post (tfl P d k) → wpX5_tuneFault_L2 p post K (d + 1) (nI k)
  | 0, k, h, hj, hpo => by
    have := hok.1
    unfold wpX5_tuneFault_L2
    rw [hp.1]
    have e : k = P.1 := by omega
    subst e
    exact br_t (nI_le (by omega) (by omega)) (hK hpo)
  | d + 1, k, h, hj, hpo => by
    have := hok.1
    unfold wpX5_tuneFault_L2
    rw [hp.1]
    refine br_f (nI_ge (by omega) (by omega)) (sp5_isTuneSign hp hok (by omega) hj (b2_br (fun q => ?_) (fun q => ?_)))
    · rw [tfl_n q] at hpo; exact hpo
    · rw [tfl_y q] at hpo
      rw [nI_1]
      refine lp5_t2 hp hok hK d (k + 1) (by omega) (fun j hj' => ?_) hpo
      by_cases ej : j = k
      · subst ej; exact q
      · exact hj j (by omega)
theorem sp5_tuneFault {p : Ob} {P : PD} {post : Int32 → Prop} (hp : PS p P) (hok : POk P) (hpo : post (tfl P P.1 0)) : wpX5_tuneFault p post := by
  refine ⟨P.1 + 1, lp5_t2 hp hok (fun h => ?_) P.1 0 (by omega) (fun j hj => absurd hj (Nat.not_lt_zero _)) hpo⟩
  have h60 := hok.1
  unfold jn0
  rw [hp.1]
  have ejr : jrem (nI P.1) 2 = nI (P.1 % 2) := jrem_n (d := 2) (by omega) (by omega) (by omega)
  rw [ejr]
  rw [tfl] at h
  refine pk_eq P.1 0 (fun e => ?_) (fun e => pk_eq (P.1 % 2) 0 (fun e2 => ?_) (fun e2 => ?_))
  · rw [if_pos (Or.inl e)] at h; exact h
  · rw [if_neg (by omega)] at h; exact h
  · rw [if_pos (by omega)] at h; exact h
theorem lp10_t2 {y : Ob} {P : PD} {post : Int32 → Prop} {K : Prop} (hp : YP y P) (hok : POk P) (hK : post (tfl P 0 P.1) → K) : ∀ d k, k + d = P.1 → post (tfl P d k) → wpX10_tuneFault_L2 y post K (d + 1) (nI k)
  | 0, k, h, hpo => by
    have := hok.1
    unfold wpX10_tuneFault_L2
    rw [hp.1]
    have e : k = P.1 := by omega
    subst e
    exact br_t (nI_le (by omega) (by omega)) (hK hpo)
  | d + 1, k, h, hpo => by
    have h60 := hok.1
    have hc := hok.2 k (by omega)
    unfold wpX10_tuneFault_L2
    rw [hp.1]
    refine br_f (nI_ge (by omega) (by omega)) ?_
    have ejr : jrem (nI k) 2 = nI (k % 2) := jrem_n (d := 2) (by omega) (by omega) (by omega)
    rw [ejr]
    unfold jn1 jn2 jn3
    have fin : ∀ (r : Int32) (q : Prop), (q ↔ tOk P k) → r = b2 q → ((r = 0) → post (nI k)) ∧ (¬ (r = 0) → wpX10_tuneFault_L2 y post K (d + 1) (nI k + (1 : Int32))) := by
      intro r q hq hr
      rw [hr, b2_c hq]
      refine b2_br (fun q => ?_) (fun q => ?_)
      · rw [tfl_n q] at hpo; exact hpo
      · rw [tfl_y q] at hpo
        rw [nI_1]
        exact lp10_t2 hp hok hK d (k + 1) (by omega) hpo
    have inr : ∀ {a b : Nat} {x : Nat}, a < 2 ^ 31 → b < 2 ^ 31 → x < 2 ^ 31 → ((¬ (nI x < nI a ∨ nI b < nI x)) ↔ a ≤ x ∧ x ≤ b) := by
      intro a b x ha hb hx
      rw [nI_ltI hx ha, nI_ltI hb hx]; omega
    refine pk_eq (k % 2) 0 (fun ev => ?_) (fun od => ?_)
    · refine br_f (by decide) ⟨vp_in_nI (by omega) (by omega), ?_⟩
      rw [jld_n (by omega), hp.2 k (by omega)]
      refine sp10_in (fin _ _ ?_ rfl)
      refine (inr (a := 48) (b := 50) (by omega) (by omega) (by omega)).trans ?_
      constructor
      · exact fun q => ⟨fun _ => q, fun o => absurd o (by omega)⟩
      · exact fun q => q.1 ev
    · have hk1 : k - 1 < P.1 := by omega
      have hc1 := hok.2 (k - 1) hk1
      refine br_t rfl ⟨vp_in_nI (by omega) (by omega), ?_⟩
      rw [nI_sub1 (by omega)]
      refine ⟨vp_in_nI (by omega) (by omega), ?_⟩
      rw [jld_n (by omega), jld_n (by omega), hp.2 k (by omega), hp.2 (k - 1) hk1]
      have last : ∀ a b : Nat, a = (if P.2 (k - 1) = 48 then 49 else 48) → b = (if P.2 (k - 1) = 50 then 48 else 57) → wpX10_in (nI (P.2 k)) (nI a) (nI b) (fun (r88 : Int32) => ((r88 = 0) → post (nI k)) ∧ (¬ (r88 = 0) → wpX10_tuneFault_L2 y post K (d + 1) (nI k + (1 : Int32)))) := by
        intro a b ha hb
        have ha2 : a < 50 := by rw [ha]; split <;> omega
        have hb2 : b < 58 := by rw [hb]; split <;> omega
        refine sp10_in (fin _ _ ?_ rfl)
        refine (inr (by omega) (by omega) (by omega)).trans ?_
        rw [ha, hb]
        constructor
        · exact fun q => ⟨fun e => absurd e od, fun _ => q⟩
        · exact fun q => q.2 (by omega)
      refine pk_eq (P.2 (k - 1)) 48 (fun e4 => ⟨vp_in_nI (by omega) (by omega), ?_⟩) (fun e4 => ⟨vp_in_nI (by omega) (by omega), ?_⟩)
      · refine pk_eq (P.2 (k - 1)) 50 (fun e5 => absurd e5 (by omega)) (fun e5 => ?_)
        exact last 49 57 (by rw [if_pos e4]) (by rw [if_neg e5])
      · refine pk_eq (P.2 (k - 1)) 50 (fun e5 => ?_) (fun e5 => ?_)
        · exact last 48 48 (by rw [if_neg e4]) (by rw [if_pos e5])
        · exact last 48 57 (by rw [if_neg e4]) (by rw [if_neg e5])
theorem sp10_tuneFault {y : Ob} {P : PD} {post : Int32 → Prop} (hp : YP y P) (hok : POk P) (hpo : post (tfl P P.1 0)) : wpX10_tuneFault y post := by
  refine ⟨P.1 + 1, lp10_t2 hp hok (fun h => ?_) P.1 0 (by omega) hpo⟩
  have h60 := hok.1
  unfold jn0
  rw [hp.1]
  have ejr : jrem (nI P.1) 2 = nI (P.1 % 2) := jrem_n (d := 2) (by omega) (by omega) (by omega)
  rw [ejr]
  rw [tfl] at h
  refine pk_eq P.1 0 (fun e => ?_) (fun e => pk_eq (P.1 % 2) 1 (fun e2 => ?_) (fun e2 => ?_))
  · rw [if_pos (Or.inl e)] at h; exact h
  · rw [if_pos (Or.inr e2)] at h; exact h
  · rw [if_neg (by omega)] at h; exact h
theorem sp10_note {y : Ob} {P : PD} {i : Nat} {post : Int32 → Prop} (hp : YP y P) (hok : POk P) (ht : TuneOk P) (hi : i < P.1 / 2) (hpo : post (nI (tone P i))) : wpX10_note y (nI i) post := by
  have := hok.1
  obtain ⟨h1, h2, -, -⟩ := tone_bd ht hi
  unfold wpX10_note
  have e2 : (2 : Int32) * nI i = nI (2 * i) := pk_mul 2 i
  rw [e2, nI_1]
  refine ⟨vp_in_nI (by omega) (by omega), vp_in_nI (by omega) (by omega), ?_⟩
  rw [jld_n (by omega), jld_n (by omega), hp.2 _ (by omega), hp.2 _ (by omega)]
  have q1 : nI (P.2 (2 * i)) - 48 = nI (P.2 (2 * i) - 48) := pk_sub h1.1
  have q2 : (10 : Int32) * nI (P.2 (2 * i) - 48) = nI (10 * (P.2 (2 * i) - 48)) := pk_mul 10 _
  have q3 : nI (10 * (P.2 (2 * i) - 48) + P.2 (2 * i + 1)) - 48 = nI (10 * (P.2 (2 * i) - 48) + P.2 (2 * i + 1) - 48) := pk_sub (b := 48) (by omega)
  rw [q1, q2, nI_add, q3]
  have e : 10 * (P.2 (2 * i) - 48) + P.2 (2 * i + 1) - 48 = tone P i := by unfold tone; omega
  rw [e]; exact hpo
theorem sp5_tone {p : Ob} {P : PD} {i : Nat} {post : Int32 → Prop} (hp : PS p P) (hok : POk P) (ht : TuneOk P) (hi : i < P.1 / 2) (hpo : post (nI (tone P i))) : wpX5_toneAt p (nI i) post := by
  obtain ⟨h1, h2, -, -⟩ := tone_bd ht hi
  exact sp5_toneAt hp hok (by omega) h1.1 h2.1 hpo
theorem st_fault {oX oS oP oY : Ob} {A : AS} {P : PD} (h : Good oS oY A) (hP : GoodP oP oY P) (v1 : Int32) {K : Int32 → Int32 → Prop} (hK : ∀ r, K r r) : wpX9_fault oX oS oP v1 (fun r => wpX10_fault oY v1 (fun r2 => K r r2)) := by
  obtain ⟨hs, hy, ho, -⟩ := h
  obtain ⟨hp, hyp, hok⟩ := hP
  unfold wpX9_fault wpX10_fault
  refine sp9_out (b2_br (fun hin => ?_) (fun hout => ?_))
  · obtain ⟨n, n1, n2, rfl⟩ := in_rng (a := 0) (b := 1) (x := v1) (by omega) (fun q => hin (Or.inl q)) (fun q => hin (Or.inr q)) (by omega)
    rw [hs.1 0 (by omega)]
    refine pk_eq n 0 (fun e => ?_) (fun e => ?_)
    · subst e
      exact sp5_eveningFault hp hok ho.1.2 (br_t rfl (sp10_eveningFault hy.1.1 hyp hok ho.1 (hK _)))
    · have e1 : n = 1 := by omega
      subst e1
      exact sp5_tuneFault hp hok (br_f (by decide) (br_t rfl (sp10_tuneFault hyp hok (hK _))))
  · refine br_f ?_ (br_f ?_ (hK _))
    · rintro rfl
      exact absurd hout (by decide)
    · rintro rfl
      exact absurd hout (by decide)
