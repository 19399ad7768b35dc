def tv (o : Option Nat) (w : Int32) : Int32 := match o with
  | none => -6
  | some s => if w = 0 then nI (popc s) else nI s
theorem tell9 {o : Option Nat} {w : Int32} {post : Int32 → Prop} (ho : ∀ s, o = some s → s < 1024) (hp : post (tv o w)) : wpX9_sizeOrSet (o2i o) w post := by
  unfold wpX9_sizeOrSet
  cases o with
  | none => exact br_t rfl hp
  | some s =>
    have h1024 := ho s rfl
    refine br_f (show ¬ nI s = (-6 : Int32) from nI_ne6 (by omega)) ?_
    have e : tv (some s) w = if w = 0 then nI (popc s) else nI s := rfl
    rw [e] at hp
    refine br_c (fun q => ?_) (fun q => ?_)
    · rw [if_pos q] at hp
      exact sp_bitCount h1024 hp
    · rw [if_neg q] at hp; exact hp
theorem tell10 {o : Option Nat} {w : Int32} {post : Int32 → Prop} (ho : ∀ s, o = some s → s < 2 ^ 31) (hw : w = 0 ∨ w = 1) (hp : post (tv o w)) : ((o2i o < 0) → post (o2i o)) ∧ (¬ (o2i o < 0) → ((w = (1 : Int32)) → post (o2i o)) ∧ (¬ (w = (1 : Int32)) → wpX10_bits (o2i o) (fun (r61 : Int32) => post r61))) := by
  cases o with
  | none => exact br_t (show o2i none < (0 : Int32) by decide) hp
  | some s =>
    have hs := ho s rfl
    refine br_f (show ¬ nI s < (0 : Int32) from nI_pos hs) ?_
    have e : tv (some s) w = if w = 0 then nI (popc s) else nI s := rfl
    rw [e] at hp
    rcases hw with rfl | rfl
    · rw [if_pos rfl] at hp
      exact br_f (by decide) (sp10_bits hs hp)
    · rw [if_neg (by decide)] at hp
      exact br_t rfl hp
theorem w01 {w : Nat} (h : w ≤ 1) : nI w = 0 ∨ nI w = 1 := by
  have : w = 0 ∨ w = 1 := by omega
  rcases this with rfl | rfl
  · exact Or.inl rfl
  · exact Or.inr rfl
theorem st_stopped {oX oS oY : Ob} {A : AS} (h : Good oS oY A) (v1 v2 v3 : Int32) {K : Int32 → Int32 → Prop} (hK : ∀ r, K r r) : wpX9_stopped oX oS v1 v2 v3 (fun r => wpX10_stopped oY v1 v2 v3 (fun r2 => K r r2)) := by
  obtain ⟨hs, hy, ho, hsg, how⟩ := id h
  obtain ⟨a1, a2⟩ := ho.1
  unfold wpX9_stopped
  rcases win_cases v1 a2 with q | ⟨a, ha, rfl⟩
  · refine sp8_has_n (hs.1 0 (by omega)) q (br_t rfl ?_)
    unfold wpX10_stopped
    exact sp10_isWindow_n hy.1.1 (by omega) a2 q (br_t rfl (hK _))
  · refine sp8_has_y (hs.1 0 (by omega)) a2 ha (br_f (by decide) ?_)
    refine sp9_out (b2_br (fun i1 => ?_) (fun o1 => ?_))
    · refine sp9_out (b2_br (fun i2 => ?_) (fun o2 => ?_))
      · obtain ⟨v, s1, s2, rfl⟩ := in_rng (a := 1) (b := 200) (x := v2) (by omega) (fun q => i1 (Or.inl q)) (fun q => i1 (Or.inr q)) (by omega)
        obtain ⟨w, w1, w2, rfl⟩ := in_rng (a := 0) (b := 1) (x := v3) (by omega) (fun q => i2 (Or.inl q)) (fun q => i2 (Or.inr q)) (by omega)
        refine sp7_fewest hs ho ha ha (by omega) (by omega) ?_
        rw [best_cong (Q' := fun S => len A.2.1 (A.1 0) (A.1 1 + A.1 4) S a = v) (fun S => ⟨fun q => q.1, fun q => ⟨q, q⟩⟩)]
        refine tell9 (fun s q => set_lt a2 (best_some q).1) ?_
        unfold wpX10_stopped
        refine sp10_isWindow_y hy.1.1 a2 ha (br_f (by decide) (sp10_in (b2_br (fun q => absurd i1 q) (fun _ => sp10_in (b2_br (fun q => absurd i2 q) (fun _ => ?_))))))
        refine sp10_fewest1 hy ho ha (by omega) ?_
        unfold jn0
        exact tell10 (fun s q => by have := set_lt a2 (best_some q).1; omega) (w01 w2) (hK _)
      · unfold wpX10_stopped
        exact sp10_isWindow_y hy.1.1 a2 ha (br_f (by decide) (sp10_in (b2_br (fun q => absurd i1 q) (fun _ => sp10_in (b2_br (fun _ => hK _) (fun q => absurd o2 q))))))
    · unfold wpX10_stopped
      exact sp10_isWindow_y hy.1.1 a2 ha (br_f (by decide) (sp10_in (b2_br (fun _ => hK _) (fun q => absurd o1 q))))
theorem st_friends {oX oS oY : Ob} {A : AS} (h : Good oS oY A) (v1 v2 v3 v4 v5 : Int32) {K : Int32 → Int32 → Prop} (hK : ∀ r, K r r) : wpX9_friends oX oS v1 v2 v3 v4 v5 (fun r => wpX10_friends oY v1 v2 v3 v4 v5 (fun r2 => K r r2)) := by
  obtain ⟨hs, hy, ho, hsg, how⟩ := id h
  obtain ⟨a1, a2⟩ := ho.1
  unfold wpX9_friends
  rcases two_cases v1 v3 a2 with q | ⟨a, b, ha, hb, hab, rfl, rfl⟩
  · refine two9_n (hs.1 0 (by omega)) a2 q (br_t rfl ?_)
    unfold wpX10_friends
    exact two10_n hy.1.1 (by omega) a2 q (br_t rfl (hK _))
  · refine two9_y (hs.1 0 (by omega)) a2 ha hb hab (br_f (by decide) ?_)
    refine sp9_out (b2_br (fun i1 => ?_) (fun o1 => ?_))
    · refine sp9_out (b2_br (fun i2 => ?_) (fun o2 => ?_))
      · refine sp9_out (b2_br (fun i3 => ?_) (fun o3 => ?_))
        · obtain ⟨v, s1, s2, rfl⟩ := in_rng (a := 1) (b := 200) (x := v2) (by omega) (fun q => i1 (Or.inl q)) (fun q => i1 (Or.inr q)) (by omega)
          obtain ⟨u, u1, u2, rfl⟩ := in_rng (a := 1) (b := 200) (x := v4) (by omega) (fun q => i2 (Or.inl q)) (fun q => i2 (Or.inr q)) (by omega)
          obtain ⟨w, w1, w2, rfl⟩ := in_rng (a := 0) (b := 1) (x := v5) (by omega) (fun q => i3 (Or.inl q)) (fun q => i3 (Or.inr q)) (by omega)
          refine sp7_fewest hs ho ha hb (by omega) (by omega) (tell9 (fun s q => set_lt a2 (best_some q).1) ?_)
          unfold wpX10_friends
          refine two10_y hy.1.1 a2 ha hb hab (br_f (by decide) (sp10_in (b2_br (fun q => absurd i1 q) (fun _ => sp10_in (b2_br (fun q => absurd i2 q) (fun _ => sp10_in (b2_br (fun q => absurd i3 q) (fun _ => ?_))))))))
          refine sp10_fewest2 hy ho ha hb (by omega) (by omega) ?_
          unfold jn0
          exact tell10 (fun s q => by have := set_lt a2 (best_some q).1; omega) (w01 w2) (hK _)
        · unfold wpX10_friends
          exact two10_y hy.1.1 a2 ha hb hab (br_f (by decide) (sp10_in (b2_br (fun q => absurd i1 q) (fun _ => sp10_in (b2_br (fun q => absurd i2 q) (fun _ => sp10_in (b2_br (fun _ => hK _) (fun q => absurd o3 q))))))))
      · unfold wpX10_friends
        exact two10_y hy.1.1 a2 ha hb hab (br_f (by decide) (sp10_in (b2_br (fun q => absurd i1 q) (fun _ => sp10_in (b2_br (fun _ => hK _) (fun q => absurd o2 q))))))
    · unfold wpX10_friends
      exact two10_y hy.1.1 a2 ha hb hab (br_f (by decide) (sp10_in (b2_br (fun _ => hK _) (fun q => absurd o1 q))))
/-! sights -/
def SF (A : AS) (S : Nat) : Prop := popc S ≤ may (A.1 0) ∧ ∀ k, k < A.1 6 → len A.2.1 (A.1 0) (A.1 1 + A.1 4) S (A.2.2.2.1 k) = A.2.2.2.2 k
theorem lp8_a2 {s : Ob} {A : AS} {S : Nat} {post : Int32 → Prop} {K : Prop} (hs : StS s A) (ho : Own A) (hsg : Sig A) (hS : S < 2 ^ 31) (hK : (∀ k, k < A.1 6 → len A.2.1 (A.1 0) (A.1 1 + A.1 4) S (A.2.2.2.1 k) = A.2.2.2.2 k) → K) (hno : (¬ ∀ k, k < A.1 6 → len A.2.1 (A.1 0) (A.1 1 + A.1 4) S (A.2.2.2.1 k) = A.2.2.2.2 k) → post 0) :
    ∀ d k, k + d = A.1 6 → (∀ i, i < k → len A.2.1 (A.1 0) (A.1 1 + A.1 4) S (A.2.2.2.1 i) = A.2.2.2.2 i) → wpX8_agreesWithSights_L2 (nI S) s post K (d + 1) (nI k) := by
  obtain ⟨⟨a1, a2⟩, b1, -, -, d1, -, h8, hg⟩ := id ho
  have s6 : s 0 6 = nI (A.1 6) := hs.1 6 (by omega)
  intro d
  induction d with
  | zero =>
    intro k hk hi
    unfold wpX8_agreesWithSights_L2
    rw [s6]
    exact br_t (nI_le (by omega) (by omega)) (hK (fun i h => hi i (by omega)))
  | succ d ih =>
    intro k hk hi
    have hsk := hsg k (by omega)
    have sk := hs.2.2.2.1 k (by omega)
    unfold wpX8_agreesWithSights_L2
    rw [s6]
    refine br_f (nI_ge (by omega) (by omega)) (br_f (nI_ge (b := 8) (by omega) (by omega)) ⟨vp_in_nI (by omega) (by omega), ?_⟩)
    rw [jld_n (by omega), sk.1]
    have hl := len_bd hg (S := S) a2 (show 1 ≤ A.1 1 + A.1 4 by omega) (by omega) hsk.1
    refine sp8_lengthAt hs ho hsk.1 hS ⟨vp_in_nI (by omega) (by omega), ?_⟩
    rw [jld_n (by omega), sk.2, nI_1]
    refine pk_eq _ (A.2.2.2.2 k) (fun e => ?_) (fun e => ?_)
    · refine ih (k + 1) (by omega) (fun i h => ?_)
      by_cases ei : i = k
      · subst ei; exact e
      · exact hi i (by omega)
    · exact hno (fun q => e (q k (by omega)))
theorem sp8_agrees {s : Ob} {A : AS} {S : Nat} {post : Int32 → Prop} (hs : StS s A) (ho : Own A) (hsg : Sig A) (hS : S < 2 ^ 31) (hp : post (b2 (∀ k, k < A.1 6 → len A.2.1 (A.1 0) (A.1 1 + A.1 4) S (A.2.2.2.1 k) = A.2.2.2.2 k))) : wpX8_agreesWithSights s (nI S) post := by
  refine ⟨A.1 6 + 1, lp8_a2 hs ho hsg hS (fun q => ?_) (fun q => ?_) (A.1 6) 0 (by omega) (fun i h => absurd h (Nat.not_lt_zero _))⟩
  · rw [b2_t q] at hp; exact hp
  · rw [b2_f q] at hp; exact hp
theorem lp10_fits8 {y : Ob} {A : AS} {S : Nat} {K : Int32 → Prop} (hy : YS y A) (ho : Own A) (hsg : Sig A) (hS : S < 2 ^ 31) :
    ∀ d k (Pp : Prop), k + d = A.1 6 → K (b2 (Pp ∧ ∀ i, k ≤ i → i < A.1 6 → len A.2.1 (A.1 0) (A.1 1 + A.1 4) S (A.2.2.2.1 i) = A.2.2.2.2 i)) → wpX10_fits_L8 (nI S) y K (d + 1) (b2 Pp) (nI k) := by
  obtain ⟨⟨a1, a2⟩, b1, -, -, d1, -, h8, hg⟩ := id ho
  have y8 : y 0 8 = nI (A.1 6) := hy.1.2.2.2.2.2.2
  intro d
  induction d with
  | zero =>
    intro k Pp hk hK
    unfold wpX10_fits_L8
    rw [y8]
    refine br_t (nI_le (by omega) (by omega)) ?_
    rw [b2_c (q := Pp)] at hK
    · exact hK
    · exact ⟨fun q => q.1, fun q => ⟨q, fun i h1 h2 => absurd h2 (by omega)⟩⟩
  | succ d ih =>
    intro k Pp hk hK
    have hsk := hsg k (by omega)
    have yk := hy.2.2.1 k (by omega)
    unfold wpX10_fits_L8
    have m2 : (2 : Int32) * nI k = nI (2 * k) := pk_mul 2 k
    rw [y8, m2, nI_1, nI_1]
    refine br_f (nI_ge (by omega) (by omega)) (b2_br (fun q => ?_) (fun q => ⟨vp_in_nI (by omega) (by omega), ?_⟩))
    · rw [b2_f (fun z => q z.1)] at hK
      rw [b2_f q]; exact hK
    · rw [jld_n (by omega), yk.1, jld_n (by omega), yk.2]
      have hl := len_bd hg (S := S) a2 (show 1 ≤ A.1 1 + A.1 4 by omega) (by omega) hsk.1
      refine sp10_len hy ho hsk.1 hS hy.1.2.2.2.2.1 ⟨vp_in_nI (by omega) (by omega), ?_⟩
      unfold jn1
      refine pk_eq _ (A.2.2.2.2 k) (fun e => ?_) (fun e => ?_)
      · have := ih (k + 1) True (by omega)
        rw [b2_t (p := True) trivial] at this
        refine this ?_
        rw [b2_c (q := Pp ∧ ∀ i, k ≤ i → i < A.1 6 → len A.2.1 (A.1 0) (A.1 1 + A.1 4) S (A.2.2.2.1 i) = A.2.2.2.2 i)]
        · exact hK
        · constructor
          · rintro ⟨-, z⟩
            refine ⟨q, fun i h1 h2 => ?_⟩
            by_cases ei : i = k
            · subst ei; exact e
            · exact z i (by omega) h2
          · rintro ⟨-, z⟩
            exact ⟨trivial, fun i h1 h2 => z i (by omega) h2⟩
      · have := ih (k + 1) False (by omega)
        rw [b2_f (p := False) (fun z => z)] at this
        refine this ?_
        rw [b2_f (fun z => z.1)]
        rw [b2_f (fun z => e (z.2 k (Nat.le_refl _) (by omega)))] at hK
        exact hK
theorem sp10_fits {y : Ob} {A : AS} {S : Nat} {post : Int32 → Prop} (hy : YS y A) (ho : Own A) (hsg : Sig A) (hS : S < 2 ^ 31) (hp : post (b2 (SF A S))) : wpX10_fits y (nI S) post := by
  obtain ⟨a1, a2⟩ := id ho.1
  unfold wpX10_fits
  refine sp10_canBe hy.1.1 a1 a2 hS ⟨A.1 6 + 1, ?_⟩
  refine lp10_fits8 (K := fun v => isB v ∧ post v) hy ho hsg hS (A.1 6) 0 _ (by omega) ?_
  rw [b2_c (q := SF A S)]
  · exact ⟨b2_B _, hp⟩
  · unfold SF
    exact ⟨fun q => ⟨q.1, fun k hk => q.2 k (Nat.zero_le _) hk⟩, fun q => ⟨q.1, fun k _ hk => q.2 k hk⟩⟩
