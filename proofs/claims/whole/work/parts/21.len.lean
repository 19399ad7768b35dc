/-! places, lengths -/
def pos (g : Nat → Nat) : Nat → Nat
  | 0 => g 0
  | k + 1 => pos g k + g (k + 1)
def abv (g : Nat → Nat) (S : Nat) : Nat → Nat
  | 0 => if S.testBit 0 then pos g 0 else 0
  | w + 1 => if S.testBit (w + 1) then pos g (w + 1) else abv g S w
/-- d windows from the bottom on upwards are looked at: from n - d on -/
def blw (g : Nat → Nat) (S n E : Nat) : Nat → Nat
  | 0 => pos g (n - 1) + E
  | d + 1 => if S.testBit (n - (d + 1)) then pos g (n - (d + 1)) else blw g S n E d
def len (g : Nat → Nat) (n E S w : Nat) : Nat := blw g S n E (n - (w + 1)) - abv g S w
def Gok (g : Nat → Nat) : Prop := ∀ k, k < 10 → 1 ≤ g k ∧ g k ≤ 9
theorem pos_le {g : Nat → Nat} (hg : Gok g) : ∀ k, k < 10 → pos g k ≤ 9 * (k + 1)
  | 0, _ => by have := hg 0 (by omega); simp only [pos]; omega
  | k + 1, h => by have := hg (k + 1) h; have := pos_le hg k (by omega); simp only [pos]; omega
theorem pos_lt {g : Nat → Nat} (hg : Gok g) : ∀ {i j : Nat}, i < j → j < 10 → pos g i < pos g j
  | i, 0, h, _ => absurd h (Nat.not_lt_zero _)
  | i, j + 1, h, hj => by
    have h1 := hg (j + 1) hj
    simp only [pos]
    by_cases e : i = j
    · subst e; omega
    · have := pos_lt hg (show i < j by omega) (by omega); omega
theorem pos_mono {g : Nat → Nat} (hg : Gok g) {i j : Nat} (h : i ≤ j) (hj : j < 10) : pos g i ≤ pos g j := by
  by_cases e : i = j
  · subst e; exact Nat.le_refl _
  · exact Nat.le_of_lt (pos_lt hg (by omega) hj)
theorem abv_le {g : Nat → Nat} (hg : Gok g) (S : Nat) : ∀ w, w < 10 → abv g S w ≤ pos g w
  | 0, _ => by simp only [abv]; split <;> omega
  | w + 1, h => by
    have := abv_le hg S w (by omega)
    have := pos_lt hg (show w < w + 1 by omega) h
    simp only [abv]; split <;> omega
theorem blw_gt {g : Nat → Nat} (hg : Gok g) {S n E : Nat} (hn : 1 ≤ n) (hn2 : n ≤ 10) (hE : 1 ≤ E) : ∀ d w, w + 1 + d = n → pos g w < blw g S n E d
  | 0, w, h => by
    have e : w = n - 1 := by omega
    subst e
    simp only [blw]; omega
  | d + 1, w, h => by
    have e : n - (d + 1) = w + 1 := by omega
    simp only [blw]
    rw [e]
    split
    · exact pos_lt hg (by omega) (by omega)
    · exact Nat.lt_trans (pos_lt hg (show w < w + 1 by omega) (by omega)) (blw_gt hg hn hn2 hE d (w + 1) (by omega))
theorem blw_le {g : Nat → Nat} (hg : Gok g) {S n E : Nat} (hn : 1 ≤ n) (hn2 : n ≤ 10) (hE : E ≤ 18) : ∀ d, d < n → blw g S n E d ≤ 108
  | 0, _ => by have := pos_le hg (n - 1) (by omega); simp only [blw]; omega
  | d + 1, h => by
    have := pos_le hg (n - (d + 1)) (by omega)
    have := blw_le hg hn hn2 hE d (by omega) (S := S)
    simp only [blw]; split <;> omega
theorem len_bd {g : Nat → Nat} (hg : Gok g) {S n E w : Nat} (hn2 : n ≤ 10) (hE1 : 1 ≤ E) (hE : E ≤ 18) (hw : w < n) : 1 ≤ len g n E S w ∧ len g n E S w ≤ 108 ∧ abv g S w ≤ 90 ∧ blw g S n E (n - (w + 1)) ≤ 108 ∧ abv g S w ≤ blw g S n E (n - (w + 1)) := by
  have h1 := abv_le hg S w (by omega)
  have h2 := blw_gt hg (S := S) (E := E) (by omega) hn2 hE1 (n - (w + 1)) w (by omega)
  have h3 := blw_le hg (S := S) (E := E) (by omega) hn2 hE (n - (w + 1)) (by omega)
  have h4 := pos_le hg w (by omega)
  unfold len
  omega
/-! the state, in naturals: scalars as in Street's slots (0 n, 1 end, 2 limit, 3 rent, 4 damp, 5 fingers, 6 sights), gaps, debts, sights -/
abbrev AS : Type := (Nat → Nat) × (Nat → Nat) × (Nat → Int32) × (Nat → Nat) × (Nat → Nat)
def may (n : Nat) : Nat := if n = 2 then 1 else n - 2
def pc10 (S : Nat) : Nat → Nat
  | 0 => 0
  | k + 1 => pc10 S k + (if S.testBit k then 1 else 0)
/-- how many bits -/
def popc (S : Nat) : Nat := pc10 S 17
def StS (s : Ob) (A : AS) : Prop := (∀ k, k < 7 → s 0 k = nI (A.1 k)) ∧ (∀ k, k < 10 → s 1 k = nI (A.2.1 k)) ∧ (∀ k, k < 10 → s 2 k = nI (pos A.2.1 k)) ∧ (∀ k, k < A.1 6 → s 3 k = nI (A.2.2.2.1 k) ∧ s 4 k = nI (A.2.2.2.2 k)) ∧ (∀ k, k < 10 → s 5 k = A.2.2.1 k)
def Own (A : AS) : Prop := (2 ≤ A.1 0 ∧ A.1 0 ≤ 10) ∧ (1 ≤ A.1 1 ∧ A.1 1 ≤ 9) ∧ (1 ≤ A.1 2 ∧ A.1 2 ≤ 99) ∧ A.1 3 ≤ 9 ∧ A.1 4 ≤ 9 ∧ (A.1 5 < 2 ^ A.1 0 ∧ popc (A.1 5) ≤ may (A.1 0)) ∧ A.1 6 ≤ 8 ∧ Gok A.2.1
def Sig (A : AS) : Prop := ∀ k, k < A.1 6 → A.2.2.2.1 k < A.1 0 ∧ 1 ≤ A.2.2.2.2 k ∧ A.2.2.2.2 k ≤ 200
theorem two_pow_le {n : Nat} (h : n ≤ 10) : 2 ^ n ≤ 1024 := Nat.pow_le_pow_right (n := 2) (by decide) h
theorem set_lt {S n : Nat} (hn : n ≤ 10) (h : S < 2 ^ n) : S < 1024 := Nat.lt_of_lt_of_le h (two_pow_le hn)
/-! the class: has, bottom, lengthAt -/
theorem sp8_has_y {s : Ob} {n w : Nat} {post : Int32 → Prop} (h0 : s 0 0 = nI n) (hn : n ≤ 10) (hw : w < n) (hp : post 1) : wpX8_has s (nI w) post := by
  unfold wpX8_has jn0
  rw [h0]
  exact br_f (nI_pos (by omega)) (br_f (nI_ge hw (by omega)) (br_f (nI_ge (b := 10) (by omega) (by omega)) hp))
theorem sp8_has_n {s : Ob} {n : Nat} {x : Int32} {post : Int32 → Prop} (h0 : s 0 0 = nI n) (hx : x < 0 ∨ nI n ≤ x) (hp : post 0) : wpX8_has s x post := by
  unfold wpX8_has jn0
  rw [h0]
  refine br_c (fun _ => hp) (fun h => br_c (fun _ => hp) (fun h2 => ?_))
  exact absurd hx (by intro q; rcases q with q | q; exact h q; exact h2 q)
theorem sp8_bottom {s : Ob} {A : AS} {post : Int32 → Prop} (hs : StS s A) (ho : Own A) (hp : post (nI (pos A.2.1 (A.1 0 - 1) + (A.1 1 + A.1 4)))) : wpX8_bottom s post := by
  unfold wpX8_bottom
  obtain ⟨hs0, hs1, hs2, -, -⟩ := hs
  obtain ⟨⟨a1, a2⟩, ⟨b1, b2⟩, -, -, d1, -, -, hg⟩ := ho
  rw [hs0 0 (by omega), hs0 1 (by omega), hs0 4 (by omega), nI_sub1 (by omega)]
  refine sp8_has_y (hs0 0 (by omega)) a2 (by omega) ?_
  refine br_f (by decide) ⟨vp_in_nI (by omega) (by omega), ?_⟩
  have := pos_le hg (A.1 0 - 1) (by omega)
  rw [jld_n (by omega), hs2 _ (by omega), nI_add, nI_add, Nat.add_assoc]
  exact hp
theorem lp8_15 {s : Ob} {g : Nat → Nat} {S : Nat} {K : Int32 → Prop} (h2 : ∀ k, k < 10 → s 2 k = nI (pos g k)) (hS : S < 2 ^ 31) : ∀ i, i < 10 → K (nI (abv g S i)) → wpX8_lengthAt_L15 (nI S) 0 s K (i + 2) (nI i)
  | 0, h, hk => by
    unfold wpX8_lengthAt_L15
    refine br_f (nI_pos (by omega)) (br_ush hS (by omega) (fun hb => ?_) (fun hb => ?_))
    · unfold wpX8_lengthAt_L15
      have e : abv g S 0 = 0 := by simp [abv, hb]
      rw [e] at hk
      exact br_t (by decide) hk
    · refine ⟨vp_in_nI (by omega) (by omega), ?_⟩
      have e : abv g S 0 = pos g 0 := by simp [abv, hb]
      rw [jld_n (by omega), h2 0 (by omega), ← e]
      exact hk
  | i + 1, h, hk => by
    unfold wpX8_lengthAt_L15
    refine br_f (nI_pos (by omega)) (br_ush hS (by omega) (fun hb => ?_) (fun hb => ?_))
    · have e : abv g S (i + 1) = abv g S i := by simp [abv, hb]
      rw [e] at hk
      rw [nI_m1 (by omega)]
      exact lp8_15 h2 hS i (by omega) hk
    · refine ⟨vp_in_nI (by omega) (by omega), ?_⟩
      have e : abv g S (i + 1) = pos g (i + 1) := by simp [abv, hb]
      rw [jld_n (by omega), h2 _ (by omega), ← e]
      exact hk
theorem lp8_51 {s : Ob} {g : Nat → Nat} {S n E a : Nat} {post : Int32 → Prop} {K : Prop} (h0 : s 0 0 = nI n) (hn : n ≤ 10) (h2 : ∀ k, k < 10 → s 2 k = nI (pos g k)) (hS : S < 2 ^ 31) (hK : post (nI (pos g (n - 1) + E) - nI a) → K) : ∀ d k, k + d = n → post (nI (blw g S n E d) - nI a) → wpX8_lengthAt_L51 (nI S) (nI a) s post K (d + 1) (nI k)
  | 0, k, h, hp => by
    unfold wpX8_lengthAt_L51
    rw [h0]
    exact br_t (nI_le (by omega) (by omega)) (hK hp)
  | d + 1, k, h, hp => by
    unfold wpX8_lengthAt_L51
    rw [h0]
    have e : n - (d + 1) = k := by omega
    refine br_f (nI_ge (by omega) (by omega)) (br_ush hS (by omega) (fun hb => ?_) (fun hb => ?_))
    · rw [nI_1]
      refine lp8_51 h0 hn h2 hS hK d (k + 1) (by omega) ?_
      have e2 : blw g S n E (d + 1) = blw g S n E d := by simp [blw, e, hb]
      rw [← e2]; exact hp
    · refine ⟨vp_in_nI (by omega) (by omega), ?_⟩
      have e2 : blw g S n E (d + 1) = pos g k := by simp [blw, e, hb]
      rw [jld_n (by omega), h2 _ (by omega), ← e2]
      exact hp
theorem sp8_lengthAt {s : Ob} {A : AS} {w S : Nat} {post : Int32 → Prop} (hs : StS s A) (ho : Own A) (hw : w < A.1 0) (hS : S < 2 ^ 31) (hp : post (nI (len A.2.1 (A.1 0) (A.1 1 + A.1 4) S w))) : wpX8_lengthAt s (nI w) (nI S) post := by
  unfold wpX8_lengthAt
  have hs' := hs
  obtain ⟨hs0, hs1, hs2, -, -⟩ := hs
  have ho' := ho
  obtain ⟨⟨a1, a2⟩, ⟨b1, b2⟩, -, -, d1, -, -, hg⟩ := ho
  refine sp8_has_y (hs0 0 (by omega)) a2 hw (br_f (by decide) ⟨w + 2, ?_⟩)
  refine lp8_15 hs2 hS w (by omega) ⟨A.1 0 - (w + 1) + 1, ?_⟩
  rw [nI_1]
  obtain ⟨l1, l2, l3, l4, l5⟩ := len_bd hg (S := S) a2 (show 1 ≤ A.1 1 + A.1 4 by omega) (by omega) hw
  refine lp8_51 (E := A.1 1 + A.1 4) (hs0 0 (by omega)) a2 hs2 hS (fun h => sp8_bottom hs' ho' h) _ _ (by omega) ?_
  rw [pk_sub l5]
  exact hp
theorem sp8_lengthAt0 {s : Ob} {n : Nat} {x y : Int32} {post : Int32 → Prop} (h0 : s 0 0 = nI n) (hx : x < 0 ∨ nI n ≤ x) (hp : post 0) : wpX8_lengthAt s x y post := by
  unfold wpX8_lengthAt
  exact sp8_has_n h0 hx (br_t rfl hp)
