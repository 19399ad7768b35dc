/-! fit -/
noncomputable def fl (A : AS) : Nat → List Nat
  | 0 => []
  | k + 1 => @ite _ (SF A k) (Classical.propDecidable _) (fl A k ++ [k]) (fl A k)
theorem fl_y {A : AS} {k : Nat} (h : SF A k) : fl A (k + 1) = fl A k ++ [k] := by rw [fl]; exact @if_pos _ (Classical.propDecidable _) h _ _ _
theorem fl_n {A : AS} {k : Nat} (h : ¬ SF A k) : fl A (k + 1) = fl A k := by rw [fl]; exact @if_neg _ (Classical.propDecidable _) h _ _ _
theorem fl_len (A : AS) : ∀ k, (fl A k).length ≤ k
  | 0 => Nat.le_refl _
  | k + 1 => by
    have := fl_len A k
    by_cases h : SF A k
    · rw [fl_y h, List.length_append]; simp; omega
    · rw [fl_n h]; omega
theorem fl_mem {A : AS} : ∀ {k x : Nat}, x ∈ fl A k → x < k ∧ SF A x
  | 0, x, h => by cases h
  | k + 1, x, h => by
    by_cases c : SF A k
    · rw [fl_y c, List.mem_append] at h
      rcases h with h | h
      · have := fl_mem h; exact ⟨by omega, this.2⟩
      · rw [List.mem_singleton] at h; subst h; exact ⟨by omega, c⟩
    · rw [fl_n c] at h
      have := fl_mem h; exact ⟨by omega, this.2⟩
def orL (l : List Nat) : Nat := l.foldl (fun a b => a ||| b) 0
def anL (b : Nat) (l : List Nat) : Nat := l.foldl (fun a b => a &&& b) b
theorem orL_app (l : List Nat) (x : Nat) : orL (l ++ [x]) = orL l ||| x := by simp [orL, List.foldl_append]
theorem anL_app (b : Nat) (l : List Nat) (x : Nat) : anL b (l ++ [x]) = anL b l &&& x := by simp [anL, List.foldl_append]
/-- the class's row of sets -/
def GL (g : Ob) (l : List Nat) : Prop := g 0 2 = nI l.length ∧ ∀ i x, l[i]? = some x → g 1 i = nI x
theorem lp3_20 {s : Ob} {A : AS} {K : Ob → Prop} (hs : StS s A) (ho : Own A) (hsg : Sig A) (hK : ∀ g, GL g (fl A (2 ^ A.1 0)) → K g) :
    ∀ d k g, k + d = 2 ^ A.1 0 → GL g (fl A k) → wpX3_gather_L20 (nI (2 ^ A.1 0)) s K (d + 1) (nI k) g := by
  obtain ⟨a1, a2⟩ := id ho.1
  have h2 := two_pow_le a2
  intro d
  induction d with
  | zero =>
    intro k g hk hg
    have e : k = 2 ^ A.1 0 := by omega
    subst e
    unfold wpX3_gather_L20
    exact br_t (nI_le (by omega) (by omega)) (hK g hg)
  | succ d ih =>
    intro k g hk hg
    have hl := fl_len A k
    unfold wpX3_gather_L20
    rw [hg.1, nI_1, nI_1]
    unfold jn1
    refine br_f (nI_ge (by omega) (by omega)) (br_f (nI_ge (b := 1024) (by omega) (by omega)) (sp8_allows (hs.1 0 (by omega)) a1 a2 (by omega) (b2_br (fun q => ?_) (fun q => ?_))))
    · have := ih (k + 1) g (by omega)
      rw [fl_n (fun z => q z.1)] at this
      exact this hg
    · refine sp8_agrees hs ho hsg (by omega) (b2_br (fun q2 => ?_) (fun q2 => ?_))
      · have := ih (k + 1) g (by omega)
        rw [fl_n (fun z => q2 z.2)] at this
        exact this hg
      · refine ⟨vp_in_nI (by omega) (by omega), ?_⟩
        intro g1 e1
        rw [nC_n (by omega)] at e1
        have := ih (k + 1) (pf g1 2 (nI ((fl A k).length + 1))) (by omega)
        rw [fl_y ⟨q, q2⟩] at this
        refine this ⟨?_, fun i x hx => ?_⟩
        · rw [pf_s, List.length_append]; rfl
        · rw [pf_r _ _ _ _ (by decide), e1, pa_s]
          by_cases ei : i = (fl A k).length
          · subst ei
            rw [List.getElem?_append_right (Nat.le_refl _), Nat.sub_self] at hx
            cases hx
            simp [upd]
          · have hi : i < (fl A k).length := by
              have : i < (fl A k ++ [k]).length := (List.getElem?_eq_some_iff.mp hx).1
              rw [List.length_append] at this
              simp at this
              omega
            rw [List.getElem?_append_left hi] at hx
            simp only [upd, if_neg ei]
            exact hg.2 i x hx
theorem sp3_gather {s g : Ob} {A : AS} {post : Ob → Prop} (hs : StS s A) (ho : Own A) (hsg : Sig A) (hp : ∀ g, GL g (fl A (2 ^ A.1 0)) → post g) : wpX3_gather s g post := by
  obtain ⟨a1, a2⟩ := id ho.1
  have h2 := two_pow_le a2
  unfold wpX3_gather
  intro y17 e
  have e0 : s 0 0 = nI (A.1 0) := hs.1 0 (by omega)
  have e17 : y17 = nI (2 ^ A.1 0) := by
    rw [e, e0, jshl_1 (by omega)]
    have := jmin_n (a := 2 ^ A.1 0) (b := 1024) (by omega) (by omega)
    rw [show (1024 : Int32) = nI 1024 from rfl, this]
    congr 1; omega
  rw [e17]
  exact ⟨_, lp3_20 (K := fun o => post o) hs ho hsg hp (2 ^ A.1 0) 0 _ (by omega) ⟨pf_s _ _ _, fun i x h => by cases h⟩⟩
theorem take_succ_get {l : List Nat} {i x : Nat} (h : l[i]? = some x) : l.take (i + 1) = l.take i ++ [x] := by
  rw [List.take_add_one, h]; rfl
theorem sp3_inSome {g : Ob} {l : List Nat} {post : Int32 → Prop} (hg : GL g l) (hl : l.length ≤ 1024) (hp : post (nI (orL l))) : wpX3_inSome g post := by
  have key : ∀ d k, k + d = l.length → wpX3_inSome_L4 g (fun v => post v) (d + 1) (nI (orL (l.take k))) (nI k) := by
    intro d
    induction d with
    | zero =>
      intro k hk
      unfold wpX3_inSome_L4
      rw [hg.1, List.take_of_length_le (by omega)]
      exact br_t (nI_le (by omega) (by omega)) hp
    | succ d ih =>
      intro k hk
      obtain ⟨x, hx⟩ : ∃ x, l[k]? = some x := ⟨_, List.getElem?_eq_getElem (by omega)⟩
      unfold wpX3_inSome_L4
      rw [hg.1]
      refine br_f (nI_ge (by omega) (by omega)) ⟨vp_in_nI (by omega) (by omega), ?_⟩
      rw [jld_n (by omega), hg.2 k x hx, nI_or, nI_1, ← orL_app, ← take_succ_get hx]
      exact ih (k + 1) (by omega)
  exact ⟨_, key l.length 0 (by omega)⟩
theorem sp3_inAll {g : Ob} {l : List Nat} {post : Int32 → Prop} (hg : GL g l) (hl : l.length ≤ 1024) (hp : post (nI (if l = [] then 0 else anL 1023 l))) : wpX3_inAll g post := by
  have key : post (nI (anL 1023 l)) → ∀ d k, k + d = l.length → wpX3_inAll_L15 g (fun v => post v) (d + 1) (nI (anL 1023 (l.take k))) (nI k) := by
    intro hp d
    induction d with
    | zero =>
      intro k hk
      unfold wpX3_inAll_L15
      rw [hg.1, List.take_of_length_le (by omega)]
      exact br_t (nI_le (by omega) (by omega)) hp
    | succ d ih =>
      intro k hk
      obtain ⟨x, hx⟩ : ∃ x, l[k]? = some x := ⟨_, List.getElem?_eq_getElem (by omega)⟩
      unfold wpX3_inAll_L15
      rw [hg.1]
      refine br_f (nI_ge (by omega) (by omega)) ⟨vp_in_nI (by omega) (by omega), ?_⟩
      rw [jld_n (by omega), hg.2 k x hx, nI_and, nI_1, ← anL_app, ← take_succ_get hx]
      exact ih (k + 1) (by omega)
  unfold wpX3_inAll
  rw [hg.1]
  refine pk_eq l.length 0 (fun e => ?_) (fun e => ?_)
  · rw [if_pos (List.length_eq_zero_iff.mp e)] at hp; exact hp
  · rw [if_neg (fun q => e (by rw [q]; rfl))] at hp
    exact ⟨_, key hp l.length 0 (by omega)⟩
theorem sp3_least {g : Ob} {l : List Nat} {post : Int32 → Prop} (hg : GL g l) (hl : l.length ≤ 1024) (hp : post (o2i l.head?)) : wpX3_least g post := by
  unfold wpX3_least
  rw [hg.1]
  cases l with
  | nil => exact br_t rfl hp
  | cons x r =>
    refine br_f (nI_ne0 (by simp) (by omega)) ?_
    have : jld (g 1) (0 : Int32) = nI x := by
      have := jld_n (f := g 1) (n := 0) (by omega)
      rw [show (0 : Int32) = nI 0 from rfl, this]
      exact hg.2 0 x rfl
    rw [this]; exact hp
theorem anL_eq {n : Nat} (hn : n ≤ 10) : ∀ {l : List Nat}, l ≠ [] → (∀ x ∈ l, x < 2 ^ n) → anL 1023 l = anL (2 ^ n - 1) l
  | [], h, _ => absurd rfl h
  | x :: r, _, hx => by
    have h1 := hx x List.mem_cons_self
    have h2 := set_lt hn h1
    have e1 : 1023 &&& x = x := by
      rw [Nat.and_comm, show (1023 : Nat) = 2 ^ 10 - 1 from rfl, Nat.and_two_pow_sub_one_eq_mod, Nat.mod_eq_of_lt h2]
    have e2 : (2 ^ n - 1) &&& x = x := by
      rw [Nat.and_comm, Nat.and_two_pow_sub_one_eq_mod, Nat.mod_eq_of_lt h1]
    simp only [anL, List.foldl_cons, e1, e2]
theorem lp10_fit {y : Ob} {A : AS} {K : Int32 → Int32 → Int32 → Int32 → Prop} (hy : YS y A) (ho : Own A) (hsg : Sig A) (hK : K (nI (fl A (2 ^ A.1 0)).length) (nI (orL (fl A (2 ^ A.1 0)))) (nI (anL (2 ^ A.1 0 - 1) (fl A (2 ^ A.1 0)))) (o2i (fl A (2 ^ A.1 0)).head?)) :
    ∀ d k, k + d = 2 ^ A.1 0 → wpX10_fit_L33 y K (d + 1) (nI (fl A k).length) (nI (orL (fl A k))) (nI (anL (2 ^ A.1 0 - 1) (fl A k))) (o2i (fl A k).head?) (nI k) := by
  obtain ⟨a1, a2⟩ := id ho.1
  have h2 := two_pow_le a2
  intro d
  induction d with
  | zero =>
    intro k hk
    have e : k = 2 ^ A.1 0 := by omega
    subst e
    unfold wpX10_fit_L33
    rw [hy.1.1, jshl_1 (by omega)]
    exact br_t (nI_le (by omega) (by omega)) hK
  | succ d ih =>
    intro k hk
    have hl := fl_len A k
    have ih1 := ih (k + 1) (by omega)
    unfold wpX10_fit_L33
    rw [hy.1.1, jshl_1 (by omega)]
    refine br_f (nI_ge (by omega) (by omega)) (sp10_fits hy ho hsg (by omega) ?_)
    unfold jn4 jn1
    rw [nI_1, nI_1, nI_or, nI_and]
    refine b2_br (fun q => ?_) (fun q => ?_)
    · rw [fl_n q] at ih1; exact ih1
    · rw [fl_y q, orL_app, anL_app, List.length_append] at ih1
      refine pk_eq (fl A k).length 0 (fun e => ?_) (fun e => ?_)
      · rw [List.length_eq_zero_iff] at e
        rw [e] at ih1 ⊢
        exact ih1
      · have : (fl A k ++ [k]).head? = (fl A k).head? := by
          cases hf : fl A k with
          | nil => rw [hf] at e; exact absurd rfl e
          | cons x r => rfl
        rw [this] at ih1
        exact ih1
theorem st_fit {oX oS oG oY : Ob} {A : AS} (h : Good oS oY A) (v1 : Int32) {K : Int32 → Int32 → Ob → Prop} (hK : ∀ r g', K r r g') : wpX9_fit oX oS oG v1 (fun r g' => wpX10_fit oY v1 (fun r2 => K r r2 g')) := by
  obtain ⟨hs, hy, ho, hsg, how⟩ := id h
  obtain ⟨a1, a2⟩ := id ho.1
  have h2 := two_pow_le a2
  unfold wpX9_fit
  refine sp9_out (b2_br (fun hin => ?_) (fun hout => ?_))
  · obtain ⟨w, w1, w2, rfl⟩ := in_rng (a := 0) (b := 3) (x := v1) (by omega) (fun q => hin (Or.inl q)) (fun q => hin (Or.inr q)) (by omega)
    refine sp3_gather hs ho hsg (fun g hg => ?_)
    have hl := fl_len A (2 ^ A.1 0)
    have mod : ∀ post : Int32 → Prop, (((nI w = 0) → post (nI (fl A (2 ^ A.1 0)).length)) ∧ (¬ (nI w = 0) → ((nI w = (1 : Int32)) → post (nI (orL (fl A (2 ^ A.1 0))))) ∧ (¬ (nI w = (1 : Int32)) → ((nI w = (2 : Int32)) → ((nI (fl A (2 ^ A.1 0)).length = 0) → post (0 : Int32)) ∧ (¬ (nI (fl A (2 ^ A.1 0)).length = 0) → post (nI (anL (2 ^ A.1 0 - 1) (fl A (2 ^ A.1 0)))))) ∧ (¬ (nI w = (2 : Int32)) → post (o2i (fl A (2 ^ A.1 0)).head?))))) → wpX10_fit oY (nI w) post := by
      intro post hq
      unfold wpX10_fit
      refine sp10_in (b2_br (fun q => absurd hin q) (fun _ => ?_))
      rw [hy.1.1, jshl_1 (by omega), nI_sub1 (Nat.two_pow_pos _)]
      exact ⟨_, lp10_fit hy ho hsg hq (2 ^ A.1 0) 0 (by omega)⟩
    refine ⟨fun e => ?_, fun e => ?_, fun e => ?_, fun e0 e1 e2 => ?_⟩
    · rw [hg.1]; exact mod _ (br_t e (hK _ _))
    · exact sp3_inSome hg (by omega) (mod _ (br_f (by rw [e]; decide) (br_t e (hK _ _))))
    · refine sp3_inAll hg (by omega) (mod _ (br_f (by rw [e]; decide) (br_f (by rw [e]; decide) (br_t e ?_))))
      refine pk_eq _ 0 (fun z => ?_) (fun z => ?_)
      · rw [if_pos (List.length_eq_zero_iff.mp z)]; exact hK _ _
      · have hne : fl A (2 ^ A.1 0) ≠ [] := fun q => z (by rw [q]; rfl)
        rw [if_neg hne, anL_eq a2 hne (fun x hx => (fl_mem hx).1)]; exact hK _ _
    · exact sp3_least hg (by omega) (mod _ (br_f e0 (br_f e1 (br_f e2 (hK _ _)))))
  · unfold wpX10_fit
    exact sp10_in (b2_br (fun _ => hK _ _) (fun q => absurd hout q))
