/-! the pad -/
abbrev PD : Type := Nat × (Nat → Nat)
def PS (p : Ob) (P : PD) : Prop := p 0 0 = nI P.1 ∧ ∀ k, k < P.1 → p 1 k = nI (P.2 k)
def YP (y : Ob) (P : PD) : Prop := y 0 10 = nI P.1 ∧ ∀ k, k < P.1 → y 4 k = nI (P.2 k)
def POk (P : PD) : Prop := P.1 ≤ 60 ∧ ∀ k, k < P.1 → 33 ≤ P.2 k ∧ P.2 k ≤ 126
def GoodP (p y : Ob) (P : PD) : Prop := PS p P ∧ YP y P ∧ POk P
theorem YQ.yp {y y' : Ob} {P : PD} (h : YQ y y') (hp : YP y P) : YP y' P := by
  unfold YP at *
  rw [h.2.2.2.1, h.2.2.2.2.2.2 10 (by omega)]; exact hp
theorem YK.yp {y y' : Ob} {P : PD} (h : YK y y') (hp : YP y P) : YP y' P := by
  unfold YP at *
  rw [h.1, h.2.2.2]; exact hp
/-- the state and the images stay -/
def YM (y y' : Ob) : Prop := y' 1 = y 1 ∧ y' 2 = y 2 ∧ y' 3 = y 3 ∧ y' 10 = y 10 ∧ y' 11 = y 11 ∧ ∀ k, k < 10 → y' 0 k = y 0 k
theorem YM.ys {y y' : Ob} {A : AS} (h : YM y y') (hy : YS y A) : YS y' A := by
  obtain ⟨h1, h2, h3, h5, h6, h7⟩ := h
  unfold YS at *
  rw [h1, h2, h3, h7 0 (by omega), h7 2 (by omega), h7 3 (by omega), h7 4 (by omega), h7 5 (by omega), h7 6 (by omega), h7 8 (by omega)]
  exact hy
theorem st_say {oX oP oY : Ob} {P : PD} (h : GoodP oP oY P) (v1 : Int32) {K : Int32 → Int32 → Ob → Ob → Prop} (hK : ∀ r p' y' P', GoodP p' y' P' → YM oY y' → K r r p' y') : wpX9_say oX oP v1 (fun r p' => wpX10_say oY v1 (fun r2 y' => K r r2 p' y')) := by
  obtain ⟨hp, hy, hok⟩ := id h
  obtain ⟨c, sg⟩ := P
  unfold wpX9_say
  have ym : YM oY oY := ⟨rfl, rfl, rfl, rfl, rfl, fun _ _ => rfl⟩
  have hc : c ≤ 60 := hok.1
  have p0 : oP 0 0 = nI c := hp.1
  have y0 : oY 0 10 = nI c := hy.1
  refine sp9_out (b2_br (fun hin => ?_) (fun hout => ?_))
  · obtain ⟨n, n1, n2, rfl⟩ := in_rng (a := 33) (b := 126) (x := v1) (by omega) (fun q => hin (Or.inl q)) (fun q => hin (Or.inr q)) (by omega)
    unfold wpX5_write
    rw [p0]
    refine br_f (nI_pos (by omega)) (pk_lt c 60 (fun hlt => ?_) (fun hge => ?_))
    · refine ⟨vp_in_nI hlt (by omega), ?_⟩
      intro p1 hp1
      refine br_f (by decide) ?_
      unfold wpX10_say
      refine sp10_in (b2_br (fun q => absurd hin q) (fun _ => ?_))
      rw [y0]
      refine pk_eq c 60 (fun e => absurd e (by omega)) (fun _ => ⟨vp_in_nI hlt (by omega), ?_⟩)
      intro y1 hy1
      rw [nI_1, pf_s]
      rw [nC_n (by omega)] at hp1 hy1
      refine hK _ _ _ (c + 1, fun k => if k = c then n else sg k) ⟨⟨pf_s _ _ _, fun k hk => ?_⟩, ⟨pf_s _ _ _, fun k hk => ?_⟩, by show c + 1 ≤ 60; omega, fun k hk => ?_⟩ ?_
      · rw [pf_r _ _ _ _ (by decide), hp1, pa_s]
        by_cases e : k = c
        · subst e; simp [upd]
        · simp only [upd, if_neg e]
          exact hp.2 k (by have : k < c + 1 := hk; show k < c; omega)
      · rw [pf_r _ _ _ _ (by decide), hy1, pa_s]
        by_cases e : k = c
        · subst e; simp [upd]
        · simp only [upd, if_neg e]
          exact hy.2 k (by have : k < c + 1 := hk; show k < c; omega)
      · show 33 ≤ (if k = c then n else sg k) ∧ (if k = c then n else sg k) ≤ 126
        split
        · exact ⟨n1, n2⟩
        · exact hok.2 k (by have : k < c + 1 := hk; show k < c; omega)
      · subst hy1
        refine ⟨?_, ?_, ?_, ?_, ?_, fun k hk => ?_⟩
        · rw [pf_r _ _ _ _ (by decide), pa_n _ _ _ (by decide)]
        · rw [pf_r _ _ _ _ (by decide), pa_n _ _ _ (by decide)]
        · rw [pf_r _ _ _ _ (by decide), pa_n _ _ _ (by decide)]
        · rw [pf_r _ _ _ _ (by decide), pa_n _ _ _ (by decide)]
        · rw [pf_r _ _ _ _ (by decide), pa_n _ _ _ (by decide)]
        · rw [pf_n _ _ (by omega), pa_n _ _ _ (by decide)]
    · refine br_t rfl ?_
      unfold wpX10_say
      refine sp10_in (b2_br (fun q => absurd hin q) (fun _ => ?_))
      rw [y0]
      exact pk_eq c 60 (fun _ => hK _ _ _ (c, sg) h ym) (fun e => absurd (by omega) e)
  · unfold wpX10_say
    exact sp10_in (b2_br (fun _ => hK _ _ _ (c, sg) h ym) (fun q => absurd hout q))
theorem st_wipe {oX oP oY : Ob} {P : PD} (h : GoodP oP oY P) {K : Int32 → Int32 → Ob → Ob → Prop} (hK : ∀ r p' y' P', GoodP p' y' P' → YM oY y' → K r r p' y') : wpX9_wipe oX oP (fun r p' => wpX10_wipe oY (fun r2 y' => K r r2 p' y')) := by
  obtain ⟨hp, hy, hok⟩ := h
  unfold wpX9_wipe wpX5_clear wpX10_wipe
  rw [hp.1, hy.1]
  refine hK _ _ _ (0, P.2) ⟨⟨pf_s _ _ _, fun k hk => absurd hk (Nat.not_lt_zero _)⟩, ⟨pf_s _ _ _, fun k hk => absurd hk (Nat.not_lt_zero _)⟩, Nat.zero_le _, fun k hk => absurd hk (Nat.not_lt_zero _)⟩ ?_
  refine ⟨pf_r _ _ _ _ (by decide), pf_r _ _ _ _ (by decide), pf_r _ _ _ _ (by decide), pf_r _ _ _ _ (by decide), pf_r _ _ _ _ (by decide), fun k hk => pf_n _ _ (by omega)⟩
/-! the fault of an evening: the first place whose sign is no act -/
def isAct (n c : Nat) : Prop := c = 43 ∨ c = 45 ∨ c = 46 ∨ (97 ≤ c ∧ c < 97 + n)
theorem sp5_signAt {p : Ob} {P : PD} {k : Nat} {post : Int32 → Prop} (hp : PS p P) (hok : POk P) (hk : k < P.1) (hpo : post (nI (P.2 k))) : wpX5_signAt p (nI k) post := by
  unfold wpX5_signAt jn0
  have := hok.1
  rw [hp.1]
  refine br_f (nI_pos (by omega)) (br_f (nI_ge hk (by omega)) (br_f (nI_ge (b := 60) (by omega) (by omega)) ⟨vp_in_nI (by omega) (by omega), ?_⟩))
  rw [jld_n (by omega), hp.2 k hk]; exact hpo
theorem sp5_isAct {n c : Nat} {post : Int32 → Prop} (hn : n ≤ 10) (hc : c ≤ 126) (hp : post (b2 (isAct n c))) : wpX5_isAct (nI c) (nI n) post := by
  unfold wpX5_isAct jn0
  have e97 : (97 : Int32) + nI n = nI (97 + n) := nI_add 97 n
  rw [e97]
  refine pk_eq c 43 (fun h => ?_) (fun h1 => pk_eq c 45 (fun h => ?_) (fun h2 => pk_eq c 46 (fun h => ?_) (fun h3 => pk_lt c 97 (fun h => ?_) (fun h4 => pk_le (97 + n) c (fun h => ?_) (fun h5 => ?_)))))
  · rw [b2_t (by unfold isAct; omega)] at hp; exact hp
  · rw [b2_t (by unfold isAct; omega)] at hp; exact hp
  · rw [b2_t (by unfold isAct; omega)] at hp; exact hp
  · rw [b2_f (by unfold isAct; omega)] at hp; exact hp
  · rw [b2_f (by unfold isAct; omega)] at hp; exact hp
  · rw [b2_t (by unfold isAct; omega)] at hp; exact hp
/-- the first place from k on; none: NONE -/
noncomputable def flt (n : Nat) (P : PD) : Nat → Nat → Int32
  | 0, _ => -6
  | d + 1, k => @ite _ (isAct n (P.2 k)) (Classical.propDecidable _) (flt n P d (k + 1)) (nI k)
theorem flt_y {n : Nat} {P : PD} {d k : Nat} (h : isAct n (P.2 k)) : flt n P (d + 1) k = flt n P d (k + 1) := by rw [flt]; exact @if_pos _ (Classical.propDecidable _) h _ _ _
theorem flt_n {n : Nat} {P : PD} {d k : Nat} (h : ¬ isAct n (P.2 k)) : flt n P (d + 1) k = nI k := by rw [flt]; exact @if_neg _ (Classical.propDecidable _) h _ _ _
theorem flt_all {n : Nat} {P : PD} : ∀ d k, (∀ j, k ≤ j → j < k + d → isAct n (P.2 j)) → flt n P d k = -6
  | 0, k, _ => rfl
  | d + 1, k, h => by rw [flt_y (h k (Nat.le_refl _) (by omega))]; exact flt_all d (k + 1) (fun j h1 h2 => h j (by omega) (by omega))
/-- either all are acts, or it is a place -/
theorem flt_or {n : Nat} {P : PD} : ∀ d k, k + d ≤ 60 → ((∀ j, k ≤ j → j < k + d → isAct n (P.2 j)) ∧ flt n P d k = -6) ∨ ∃ j, j < 60 ∧ flt n P d k = nI j
  | 0, k, _ => Or.inl ⟨fun j h1 h2 => absurd h2 (by omega), rfl⟩
  | d + 1, k, hk => by
    by_cases h : isAct n (P.2 k)
    · rw [flt_y h]
      rcases flt_or (n := n) (P := P) d (k + 1) (by omega) with ⟨q, e⟩ | q
      · refine Or.inl ⟨fun j h1 h2 => ?_, e⟩
        by_cases ej : j = k
        · subst ej; exact h
        · exact q j (by omega) (by omega)
      · exact Or.inr q
    · rw [flt_n h]; exact Or.inr ⟨k, by omega, rfl⟩
theorem lp5_e2 {p : Ob} {P : PD} {n : Nat} {post : Int32 → Prop} {K : Prop} (hp : PS p P) (hok : POk P) (hn : n ≤ 10) (hK : post (-6) → K) : ∀ d k, k + d = P.1 → post (flt n P d k) → wpX5_eveningFault_L2 (nI n) p post K (d + 1) (nI k)
  | 0, k, h, hpo => by
    have := hok.1
    unfold wpX5_eveningFault_L2
    rw [hp.1]
    exact br_t (nI_le (by omega) (by omega)) (hK hpo)
  | d + 1, k, h, hpo => by
    have := hok.1
    unfold wpX5_eveningFault_L2
    rw [hp.1]
    refine br_f (nI_ge (by omega) (by omega)) (sp5_signAt hp hok (by omega) (sp5_isAct hn (hok.2 k (by omega)).2 (b2_br (fun q => ?_) (fun q => ?_))))
    · rw [flt_n q] at hpo; exact hpo
    · rw [flt_y q] at hpo
      rw [nI_1]
      exact lp5_e2 hp hok hn hK d (k + 1) (by omega) hpo
theorem sp5_eveningFault {p : Ob} {P : PD} {n : Nat} {post : Int32 → Prop} (hp : PS p P) (hok : POk P) (hn : n ≤ 10) (hpo : post (flt n P P.1 0)) : wpX5_eveningFault p (nI n) post := ⟨P.1 + 1, lp5_e2 hp hok hn (fun h => h) P.1 0 (by omega) hpo⟩
theorem lp10_e2 {y : Ob} {P : PD} {n : Nat} {post : Int32 → Prop} {K : Prop} (h0 : y 0 0 = nI n) (hp : YP y P) (hok : POk P) (hn : 2 ≤ n ∧ n ≤ 10) (hK : post (-6) → K) : ∀ d k, k + d = P.1 → post (flt n P d k) → wpX10_eveningFault_L2 y post K (d + 1) (nI k)
  | 0, k, h, hpo => by
    have := hok.1
    unfold wpX10_eveningFault_L2
    rw [hp.1]
    exact br_t (nI_le (by omega) (by omega)) (hK hpo)
  | d + 1, k, h, hpo => by
    have h60 := hok.1
    have hk2 := hok.2 k (by omega)
    unfold wpX10_eveningFault_L2
    rw [hp.1]
    refine br_f (nI_ge (by omega) (by omega)) ⟨vp_in_nI (by omega) (by omega), ?_⟩
    rw [jld_n (by omega), hp.2 k (by omega)]
    have go : isAct n (P.2 k) → wpX10_eveningFault_L2 y post K (d + 1) (nI k + (1 : Int32)) := fun q => by
      rw [flt_y q] at hpo
      rw [nI_1]
      exact lp10_e2 h0 hp hok hn hK d (k + 1) (by omega) hpo
    by_cases hwin : 97 ≤ P.2 k ∧ P.2 k < 97 + n
    · have e : nI (P.2 k) - 97 = nI (P.2 k - 97) := pk_sub hwin.1
      rw [e]
      refine sp10_isWindow_y h0 hn.2 (by omega) ?_
      unfold jn0
      exact br_f (by decide) (go (Or.inr (Or.inr (Or.inr hwin))))
    · refine sp10_isWindow_n h0 (by omega) hn.2 ?_ ?_
      · have t1 := pk_sub_toInt (a := P.2 k) (b := 97) (by omega) (by omega)
        have e9 : (97 : Int32) = nI 97 := rfl
        rw [e9]
        have t2 := nI_toInt (n := n) (by omega)
        by_cases hl : P.2 k < 97
        · left
          exact pk_sneg (by omega) hl
        · right
          rw [Int32.le_iff_toInt_le, t1, t2]
          omega
      · unfold jn0
        refine br_t rfl (pk_eq (P.2 k) 43 (fun e => go (Or.inl e)) (fun e1 => pk_eq (P.2 k) 45 (fun e => go (Or.inr (Or.inl e))) (fun e2 => pk_eq (P.2 k) 46 (fun e => go (Or.inr (Or.inr (Or.inl e)))) (fun e3 => ?_))))
        have : ¬ isAct n (P.2 k) := by unfold isAct; omega
        rw [flt_n this] at hpo
        exact hpo
theorem sp10_eveningFault {y : Ob} {P : PD} {n : Nat} {post : Int32 → Prop} (h0 : y 0 0 = nI n) (hp : YP y P) (hok : POk P) (hn : 2 ≤ n ∧ n ≤ 10) (hpo : post (flt n P P.1 0)) : wpX10_eveningFault y post := ⟨P.1 + 1, lp10_e2 h0 hp hok hn (fun h => h) P.1 0 (by omega) hpo⟩
