/-! teas -/
def isum (w : Nat → Int32) (S : Nat) : Nat → Int32
  | 0 => 0
  | k + 1 => if S.testBit k = true then isum w S k + w k else isum w S k
theorem isum_flip_le (w : Nat → Int32) (S v : Nat) : ∀ k, k ≤ v → isum w (S ^^^ 2 ^ v) k = isum w S k
  | 0, _ => rfl
  | k + 1, h => by
    have hb : (S ^^^ 2 ^ v).testBit k = S.testBit k := by
      rw [Nat.testBit_xor, Nat.testBit_two_pow]; simp [show ¬ v = k by omega]
    simp only [isum]
    rw [isum_flip_le w S v k (by omega), hb]
theorem flip_bit (S v : Nat) : (S ^^^ 2 ^ v).testBit v = !S.testBit v := by
  rw [Nat.testBit_xor, Nat.testBit_two_pow]; simp
theorem flip_oth {S v k : Nat} (h : v ≠ k) : (S ^^^ 2 ^ v).testBit k = S.testBit k := by
  rw [Nat.testBit_xor, Nat.testBit_two_pow]; simp [h]
theorem isum_flip {w : Nat → Int32} {S v : Nat} (hb : S.testBit v = true) : ∀ d, isum w S (v + 1 + d) = isum w (S ^^^ 2 ^ v) (v + 1 + d) + w v
  | 0 => by
    simp only [Nat.add_zero, isum]
    rw [isum_flip_le w S v v (Nat.le_refl _), flip_bit, hb]
    simp
  | d + 1 => by
    rw [← Nat.add_assoc]
    simp only [isum]
    rw [flip_oth (by omega), isum_flip hb d]
    by_cases c : S.testBit (v + 1 + d) = true
    · rw [if_pos c, if_pos c, Int32.add_assoc, Int32.add_assoc, Int32.add_comm (w v)]
    · rw [if_neg c, if_neg c]
theorem isum_wo {w : Nat → Int32} {S v n : Nat} (hb : S.testBit v = true) (hv : v < n) : isum w S n = isum w (S ^^^ 2 ^ v) n + w v := by
  have := isum_flip (w := w) hb (n - (v + 1))
  rw [show v + 1 + (n - (v + 1)) = n by omega] at this
  exact this
theorem isum_mask {w : Nat → Int32} {S M : Nat} : ∀ k, (∀ v, v < k → M.testBit v = false → w v = 0) → isum w S k = isum w (S &&& M) k
  | 0, _ => rfl
  | k + 1, h => by
    simp only [isum]
    rw [isum_mask k (fun v hv => h v (by omega)), Nat.testBit_and]
    cases c : S.testBit k with
    | false => simp
    | true =>
      cases c2 : M.testBit k with
      | true => simp
      | false => simp [h k (by omega) c2]
theorem isum_0 (w : Nat → Int32) : ∀ k, isum w 0 k = 0
  | 0 => rfl
  | k + 1 => by simp only [isum]; rw [isum_0 w k, Nat.zero_testBit]; rfl
def mx (g : Nat → Nat) (S : Nat) : Nat → Nat
  | 0 => 0
  | k + 1 => if S.testBit k = true then max (mx g S k) (g (S ^^^ 2 ^ k)) else mx g S k
theorem mx_le {g : Nat → Nat} {S B : Nat} : ∀ k, (∀ v, v < k → S.testBit v = true → g (S ^^^ 2 ^ v) ≤ B) → mx g S k ≤ B
  | 0, _ => Nat.zero_le _
  | k + 1, h => by
    have h1 := mx_le k (fun v hv => h v (by omega))
    simp only [mx]
    by_cases c : S.testBit k = true
    · rw [if_pos c]; have := h k (by omega) c; omega
    · rw [if_neg c]; exact h1
theorem le_mx {g : Nat → Nat} {S v : Nat} (hb : S.testBit v = true) : ∀ k, v < k → g (S ^^^ 2 ^ v) ≤ mx g S k
  | 0, h => absurd h (Nat.not_lt_zero _)
  | k + 1, h => by
    simp only [mx]
    by_cases e : v = k
    · subst e; rw [if_pos hb]; omega
    · have := le_mx (g := g) hb k (by omega)
      by_cases c : S.testBit k = true
      · rw [if_pos c]; omega
      · rw [if_neg c]; exact this
theorem mx_att {g : Nat → Nat} {S : Nat} : ∀ k, (∃ v, v < k ∧ S.testBit v = true) → ∃ v, v < k ∧ S.testBit v = true ∧ mx g S k = g (S ^^^ 2 ^ v)
  | 0, ⟨v, h, _⟩ => absurd h (Nat.not_lt_zero _)
  | k + 1, ⟨v, h, hb⟩ => by
    simp only [mx]
    by_cases c : S.testBit k = true
    · rw [if_pos c]
      by_cases ex : ∃ v, v < k ∧ S.testBit v = true
      · obtain ⟨u, h1, h2, h3⟩ := mx_att (g := g) k ex
        by_cases cc : mx g S k ≤ g (S ^^^ 2 ^ k)
        · exact ⟨k, by omega, c, by omega⟩
        · exact ⟨u, by omega, h2, by omega⟩
      · have : mx g S k ≤ 0 := mx_le k (fun u hu hbu => absurd ⟨u, hu, hbu⟩ ex)
        exact ⟨k, by omega, c, by omega⟩
    · rw [if_neg c]
      have hvk : v ≠ k := fun e => c (by rw [← e]; exact hb)
      obtain ⟨u, h1, h2, h3⟩ := mx_att (g := g) k ⟨v, by omega, hb⟩
      exact ⟨u, by omega, h2, h3⟩
theorem mx_cong {g g' : Nat → Nat} {S : Nat} : ∀ k, (∀ v, v < k → S.testBit v = true → g (S ^^^ 2 ^ v) = g' (S ^^^ 2 ^ v)) → mx g S k = mx g' S k
  | 0, _ => rfl
  | k + 1, h => by
    simp only [mx]
    rw [mx_cong k (fun v hv => h v (by omega))]
    by_cases c : S.testBit k = true
    · rw [if_pos c, if_pos c, h k (by omega) c]
    · rw [if_neg c, if_neg c]
theorem flip_less {S v : Nat} (hb : S.testBit v = true) : S ^^^ 2 ^ v < S := by
  have h1 := or_gt (S := S ^^^ 2 ^ v) (w := v) (by rw [flip_bit, hb]; rfl)
  have e : (S ^^^ 2 ^ v) ||| 2 ^ v = S := by
    apply Nat.eq_of_testBit_eq
    intro i
    rw [Nat.testBit_or, Nat.testBit_xor, Nat.testBit_two_pow]
    by_cases c : v = i
    · subst c; rw [hb]; simp
    · simp [c]
  rw [e] at h1; exact h1
noncomputable def one (p : Prop) : Nat := @ite _ p (Classical.propDecidable p) 1 0
theorem one_t {p : Prop} (h : p) : one p = 1 := by unfold one; exact @if_pos _ (Classical.propDecidable p) h _ _ _
theorem one_f {p : Prop} (h : ¬ p) : one p = 0 := by unfold one; exact @if_neg _ (Classical.propDecidable p) h _ _ _
theorem exG (n : Nat) (ok : Nat → Prop) : ∃ g : Nat → Nat, ∀ S, g S = mx g S n + one (ok S) := by
  have key : ∀ k, ∃ g : Nat → Nat, ∀ S, S < k → g S = mx g S n + one (ok S) := by
    intro k
    induction k with
    | zero => exact ⟨fun _ => 0, fun S h => absurd h (Nat.not_lt_zero _)⟩
    | succ k ih =>
      obtain ⟨g, hg⟩ := ih
      refine ⟨fun S => if S = k then mx g S n + one (ok S) else g S, fun S hS => ?_⟩
      have e : mx (fun S => if S = k then mx g S n + one (ok S) else g S) S n = mx g S n := mx_cong n (fun v hv hb => by
        have := flip_less hb
        show (if S ^^^ 2 ^ v = k then _ else g (S ^^^ 2 ^ v)) = _
        rw [if_neg (by omega)])
      rw [e]
      show (if S = k then mx g S n + one (ok S) else g S) = _
      by_cases c : S = k
      · rw [if_pos c]
      · rw [if_neg c]; exact hg S (by omega)
  -- one table for all
  refine ⟨fun S => Classical.choose (key (S + 1)) S, ?_⟩
  have uniq : ∀ S a b, S < a → S < b → Classical.choose (key a) S = Classical.choose (key b) S := by
    intro S
    induction S using Nat.strongRecOn with
    | _ S ih =>
      intro a b ha hb
      rw [Classical.choose_spec (key a) S ha, Classical.choose_spec (key b) S hb]
      congr 1
      exact mx_cong n (fun v hv h => by have := flip_less h; exact ih _ this a b (by omega) (by omega))
  intro S
  dsimp only
  rw [Classical.choose_spec (key (S + 1)) S (by omega)]
  congr 1
  exact mx_cong n (fun v hv h => by have := flip_less h; exact uniq _ _ _ (by omega) (by omega))
theorem g_le {n : Nat} {ok : Nat → Prop} {g : Nat → Nat} (hg : ∀ S, g S = mx g S n + one (ok S)) (h0 : ¬ ok 0) : ∀ S, g S ≤ S := by
  intro S
  induction S using Nat.strongRecOn with
  | _ S ih =>
    rw [hg S]
    by_cases e : S = 0
    · subst e
      rw [one_f h0]
      exact mx_le n (fun v hv hb => by rw [Nat.zero_testBit] at hb; exact absurd hb (by decide))
    · have h1 : mx g S n ≤ S - 1 := mx_le n (fun v hv hb => by
        have h1 := flip_less hb
        have := ih _ h1; omega)
      have h2 : one (ok S) ≤ 1 := by
        by_cases c : ok S
        · rw [one_t c]; exact Nat.le_refl _
        · rw [one_f c]; omega
      omega
theorem has_bit {S n : Nat} (hS : S < 2 ^ n) (h : S ≠ 0) : ∃ v, v < n ∧ S.testBit v = true := by
  apply Classical.byContradiction
  intro q
  apply h
  apply Nat.eq_of_testBit_eq
  intro i
  rw [Nat.zero_testBit]
  by_cases c : i < n
  · cases e : S.testBit i with
    | false => rfl
    | true => exact absurd ⟨i, c, e⟩ q
  · exact Nat.testBit_lt_two_pow (Nat.lt_of_lt_of_le hS (Nat.pow_le_pow_right (by decide) (by omega)))
theorem and_flip_in {S M v : Nat} (hm : M.testBit v = true) : (S ^^^ 2 ^ v) &&& M = (S &&& M) ^^^ 2 ^ v := by
  apply Nat.eq_of_testBit_eq
  intro i
  simp only [Nat.testBit_and, Nat.testBit_xor, Nat.testBit_two_pow]
  by_cases c : v = i
  · subst c; rw [hm]; simp
  · simp [c]
theorem and_flip_out {S M v : Nat} (hm : M.testBit v = false) : (S ^^^ 2 ^ v) &&& M = S &&& M := by
  apply Nat.eq_of_testBit_eq
  intro i
  simp only [Nat.testBit_and, Nat.testBit_xor, Nat.testBit_two_pow]
  by_cases c : v = i
  · subst c; rw [hm]; simp
  · simp [c]
/-- windows that owe nothing are groups of their own -/
theorem teas_eq {n M : Nat} {w : Nat → Int32} {gC gM : Nat → Nat} (hn : n ≤ 10) (hM : ∀ v, v < n → M.testBit v = false → w v = 0) (hC : ∀ S, gC S = mx gC S n + one (S ≠ 0 ∧ isum w S n = 0)) (hG : ∀ S, gM S = mx gM S n + one (S ≠ 0 ∧ S &&& M = S ∧ isum w S n = 0)) :
    ∀ S, S < 2 ^ n → gC S = gM (S &&& M) + popc (S ^^^ (S &&& M)) := by
  have hC0 := g_le hC (fun q => q.1 rfl)
  have hG0 := g_le hG (fun q => q.1 rfl)
  intro S
  induction S using Nat.strongRecOn with
  | _ S ih =>
    intro hS
    by_cases e0 : S = 0
    · subst e0
      have h1 := hC0 0
      have h2 := hG0 0
      rw [Nat.zero_and, Nat.xor_self, popc_0]
      omega
    · have hT : (S &&& M) &&& M = S &&& M := by rw [Nat.and_assoc, Nat.and_self]
      have hTlt : S &&& M < 2 ^ n := Nat.lt_of_le_of_lt Nat.and_le_left hS
      have hin : ∀ v, v < n → S.testBit v = true → M.testBit v = true → gC (S ^^^ 2 ^ v) = gM ((S &&& M) ^^^ 2 ^ v) + popc (S ^^^ (S &&& M)) := by
        intro v hv hb hm
        rw [ih _ (flip_less hb) (flip_lt hS hv), and_flip_in hm]
        congr 2
        rw [Nat.xor_assoc, ← Nat.xor_assoc (2 ^ v), Nat.xor_comm (2 ^ v), Nat.xor_assoc (S &&& M), Nat.xor_self, Nat.xor_zero]
      have hout : ∀ v, v < n → S.testBit v = true → M.testBit v = false → gC (S ^^^ 2 ^ v) + 1 = gM (S &&& M) + popc (S ^^^ (S &&& M)) := by
        intro v hv hb hm
        rw [ih _ (flip_less hb) (flip_lt hS hv), and_flip_out hm]
        have : popc ((S ^^^ (S &&& M)) ^^^ 2 ^ v) + 1 = popc (S ^^^ (S &&& M)) := popc_clr (by omega) (by rw [Nat.testBit_xor, Nat.testBit_and, hb, hm]; rfl)
        rw [show S ^^^ 2 ^ v ^^^ (S &&& M) = (S ^^^ (S &&& M)) ^^^ 2 ^ v by rw [Nat.xor_assoc, Nat.xor_comm (2 ^ v), ← Nat.xor_assoc]]
        omega
      have hs : isum w S n = isum w (S &&& M) n := isum_mask n hM
      by_cases eT : S &&& M = 0
      · have g0 : gM (S &&& M) = 0 := by rw [eT]; have := hG0 0; omega
        have out : ∀ v, v < n → S.testBit v = true → M.testBit v = false := by
          intro v hv hb
          cases c : M.testBit v with
          | false => rfl
          | true =>
            have : (S &&& M).testBit v = true := by rw [Nat.testBit_and, hb, c]; rfl
            rw [eT, Nat.zero_testBit] at this
            exact absurd this (by decide)
        obtain ⟨v, hv, hb⟩ := has_bit hS e0
        have h1 := hout v hv hb (out v hv hb)
        have h2 := le_mx (g := gC) hb n hv
        have h3 : mx gC S n ≤ gC (S ^^^ 2 ^ v) := mx_le n (fun u hu hbu => by have := hout u hu hbu (out u hu hbu); omega)
        rw [hC S, one_t ⟨e0, by rw [hs, eT, isum_0]⟩]
        omega
      · obtain ⟨v, hv, hb, ha⟩ := mx_att (g := gM) n (has_bit hTlt eT)
        have hb2 : S.testBit v = true ∧ M.testBit v = true := by
          rw [Nat.testBit_and, Bool.and_eq_true] at hb; exact hb
        have h1 := hin v hv hb2.1 hb2.2
        have h2 := le_mx (g := gC) hb2.1 n hv
        have e1 : one (S &&& M ≠ 0 ∧ (S &&& M) &&& M = S &&& M ∧ isum w (S &&& M) n = 0) = one (S ≠ 0 ∧ isum w S n = 0) := by
          by_cases c : isum w S n = 0
          · rw [one_t ⟨eT, hT, by rw [← hs]; exact c⟩, one_t ⟨e0, c⟩]
          · rw [one_f (fun q => c (by rw [hs]; exact q.2.2)), one_f (fun q => c q.2)]
        have e2 := hG (S &&& M)
        rw [e1] at e2
        have le1 : one (S ≠ 0 ∧ isum w S n = 0) ≤ 1 := by
          by_cases c : S ≠ 0 ∧ isum w S n = 0
          · rw [one_t c]; exact Nat.le_refl _
          · rw [one_f c]; omega
        have h3 : mx gC S n ≤ mx gM (S &&& M) n + popc (S ^^^ (S &&& M)) := mx_le n (fun u hu hbu => by
          cases c : M.testBit u with
          | true =>
            rw [hin u hu hbu c]
            have := le_mx (g := gM) (S := S &&& M) (v := u) (by rw [Nat.testBit_and, hbu, c]; rfl) n hu
            omega
          | false =>
            have := hout u hu hbu c
            omega)
        rw [hC S]
        omega
def mk (w : Nat → Int32) : Nat → Nat
  | 0 => 0
  | k + 1 => if w k = 0 then mk w k else mk w k ||| 2 ^ k
theorem mk_lt (w : Nat → Int32) : ∀ k, mk w k < 2 ^ k
  | 0 => show 0 < 1 by decide
  | k + 1 => by
    have h1 := mk_lt w k
    have h2 : (2 : Nat) ^ k < 2 ^ (k + 1) := Nat.pow_lt_pow_right (by decide) (by omega)
    simp only [mk]
    by_cases c : w k = 0
    · rw [if_pos c]; omega
    · rw [if_neg c]; exact Nat.or_lt_two_pow (by omega) h2
theorem mk_bit {w : Nat → Int32} : ∀ {k v : Nat}, v < k → (mk w k).testBit v = false → w v = 0
  | 0, v, h, _ => absurd h (Nat.not_lt_zero _)
  | k + 1, v, h, hb => by
    simp only [mk] at hb
    by_cases c : w k = 0
    · rw [if_pos c] at hb
      by_cases e : v = k
      · rw [e]; exact c
      · exact mk_bit (by omega) hb
    · rw [if_neg c, Nat.testBit_or, Nat.testBit_two_pow] at hb
      by_cases e : v = k
      · subst e; simp at hb
      · simp only [Bool.or_eq_false_iff] at hb
        exact mk_bit (by omega) hb.1

theorem wo_y {S v : Nat} (h : S.testBit v = true) : S ^^^ (S &&& 2 ^ v) = S ^^^ 2 ^ v := by
  congr 1
  apply Nat.eq_of_testBit_eq
  intro i
  rw [Nat.testBit_and, Nat.testBit_two_pow]
  by_cases c : v = i
  · subst c; rw [h]; simp
  · simp [c]
theorem wo_n {S v : Nat} (h : S.testBit v = false) : S ^^^ (S &&& 2 ^ v) = S := by
  have : S &&& 2 ^ v = 0 := by
    apply Nat.eq_of_testBit_eq
    intro i
    rw [Nat.testBit_and, Nat.testBit_two_pow, Nat.zero_testBit]
    by_cases c : v = i
    · subst c; rw [h]; rfl
    · simp [c]
  rw [this, Nat.xor_zero]
theorem lp4_17 {s : Ob} {A : AS} {g : Nat → Nat} {S : Nat} {K : Ob → Prop} (hs : StS s A) (ho : Own A) (hS : S < 2 ^ A.1 0) (hgl : ∀ T, g T ≤ T) (hK : ∀ l, (∀ T, T < S → l 1 T = isum A.2.2.1 T (A.1 0) ∧ l 2 T = nI (g T)) → l 1 S = isum A.2.2.1 S (A.1 0) → l 2 S = nI (mx g S (A.1 0)) → K l) :
    ∀ d k l, k + d = A.1 0 → (∀ T, T < S → l 1 T = isum A.2.2.1 T (A.1 0) ∧ l 2 T = nI (g T)) → (l 1 S = isum A.2.2.1 S (A.1 0) ∨ (l 1 S = 0 ∧ ∀ j, j < k → S.testBit j = false)) → l 2 S = nI (mx g S k) → wpX4_countGroups_L17 (nI (A.1 0)) (nI S) s K (d + 1) (nI k) l := by
  obtain ⟨a1, a2⟩ := id ho.1
  have h2 := two_pow_le a2
  intro d
  induction d with
  | zero =>
    intro k l hk hT h1 hl2
    have e : k = A.1 0 := by omega
    subst e
    unfold wpX4_countGroups_L17
    refine br_t (nI_le (by omega) (by omega)) (hK l hT ?_ hl2)
    rcases h1 with q | ⟨q1, q2⟩
    · exact q
    · rw [q1]
      have e0 : S = 0 := Classical.byContradiction (fun z => by
        obtain ⟨v, hv, hb⟩ := has_bit hS z
        rw [q2 v hv] at hb; exact absurd hb (by decide))
      rw [e0, isum_0]
  | succ d ih =>
    intro k l hk hT h1 hl2
    have ih1 := ih (k + 1)
    have hmx : mx g S k ≤ S := mx_le k (fun v hv hb => by have := flip_less hb; have := hgl (S ^^^ 2 ^ v); omega)
    unfold wpX4_countGroups_L17
    rw [jshl_1 (by omega), nI_andnot, nI_1 k]
    unfold jn1
    dsimp only
    refine br_f (nI_ge (by omega) (by omega)) ?_
    cases hb : S.testBit k with
    | false =>
      rw [wo_n hb]
      refine br_t rfl (ih1 l (by omega) hT ?_ ?_)
      · rcases h1 with q | ⟨q1, q2⟩
        · exact Or.inl q
        · refine Or.inr ⟨q1, fun j hj => ?_⟩
          by_cases e : j = k
          · rw [e]; exact hb
          · exact q2 j (by omega)
      · simp only [mx]; rw [hb]; exact hl2
    | true =>
      rw [wo_y hb]
      have hlt := flip_less hb
      have hT' := hT _ hlt
      have hgw := hgl (S ^^^ 2 ^ k)
      refine br_f (fun q => absurd ((nI_eq (by omega) (by omega)).mp q) (by omega)) ⟨vp_in_nI (by omega) (by omega), vp_in_nI (by omega) (by omega), vp_in_nI (by omega) (by omega), vp_in_nI (by omega) (by omega), vp_in_nI (by omega) (by omega), fun l1 e1 => ⟨vp_in_nI (by omega) (by omega), ?_⟩⟩
      rw [nC_n (by omega), jld_n (by omega), jld_n (by omega), hT'.1, hs.2.2.2.2 k (by omega), ← isum_wo hb (by omega)] at e1
      rw [nC_n (by omega), jld_n (by omega), jld_n (by omega), hl2, hT'.2, jmax_n (by omega) (by omega)]
      refine ih1 _ (by omega) (fun T hTS => ?_) (Or.inl ?_) ?_
      · rw [pa_n _ _ _ (by decide), pa_s, e1, pa_s, pa_n _ _ _ (by decide)]
        simp only [upd, if_neg (show ¬ T = S by omega)]
        exact hT T hTS
      · rw [pa_n _ _ _ (by decide), e1, pa_s]; simp [upd]
      · rw [pa_s]
        simp only [mx]
        rw [if_pos hb]
        simp [upd]
theorem lp4_23 {s : Ob} {A : AS} {g : Nat → Nat} {K : Ob → Prop} (hs : StS s A) (ho : Own A) (hg : ∀ S, g S = mx g S (A.1 0) + one (S ≠ 0 ∧ isum A.2.2.1 S (A.1 0) = 0)) (hK : ∀ l, (∀ T, T < 2 ^ A.1 0 → l 1 T = isum A.2.2.1 T (A.1 0) ∧ l 2 T = nI (g T)) → K l) :
    ∀ d k l, k + d = 2 ^ A.1 0 → (∀ T, T < k → l 1 T = isum A.2.2.1 T (A.1 0) ∧ l 2 T = nI (g T)) → wpX4_fewestPayments_L23 (nI (A.1 0)) (nI (2 ^ A.1 0)) s K (d + 1) (nI k) l := by
  obtain ⟨a1, a2⟩ := id ho.1
  have h2 := two_pow_le a2
  have hgl := g_le hg (fun q => q.1 rfl)
  intro d
  induction d with
  | zero =>
    intro k l hk hT
    have e : k = 2 ^ A.1 0 := by omega
    subst e
    unfold wpX4_fewestPayments_L23
    exact br_t (nI_le (by omega) (by omega)) (hK l hT)
  | succ d ih =>
    intro k l hk hT
    unfold wpX4_fewestPayments_L23 wpX4_countGroups
    rw [nI_1 k]
    refine br_f (nI_ge (by omega) (by omega)) ⟨vp_in_nI (by omega) (by omega), fun l1 e1 => ⟨vp_in_nI (by omega) (by omega), A.1 0 + 1, ?_⟩⟩
    rw [nC_n (by omega)] at e1 ⊢
    refine lp4_17 (g := g) hs ho (show k < 2 ^ A.1 0 by omega) hgl (fun l2 hl hl1 hl2 => ?_) (A.1 0) 0 _ (by omega) (fun T hTk => ?_) (Or.inr ⟨?_, fun j hj => absurd hj (Nat.not_lt_zero _)⟩) ?_
    · have next : l2 2 k = nI (g k) → wpX4_fewestPayments_L23 (nI (A.1 0)) (nI (2 ^ A.1 0)) s K (d + 1) (nI (k + 1)) l2 := fun q => ih (k + 1) l2 (by omega) (fun T hTk => by
        by_cases e : T = k
        · rw [e]; exact ⟨hl1, q⟩
        · exact hl T (by omega))
      have hgk := hg k
      refine pk_eq k 0 (fun e => next ?_) (fun e => ⟨vp_in_nI (by omega) (by omega), ?_⟩)
      · rw [hl2, hgk, one_f (fun q => q.1 e), Nat.add_zero]
      · rw [jld_n (by omega), hl1]
        refine br_c (fun z => ⟨vp_in_nI (by omega) (by omega), vp_in_nI (by omega) (by omega), ?_⟩) (fun z => next ?_)
        · rw [jld_n (by omega), hl2, nI_1]
          rw [one_t ⟨e, z⟩] at hgk
          refine ih (k + 1) _ (by omega) (fun T hTk => ?_)
          rw [pa_n _ _ _ (by decide), pa_s]
          by_cases eT : T = k
          · simp only [upd, if_pos eT]; rw [eT, hgk]; exact ⟨hl1, rfl⟩
          · simp only [upd, if_neg eT]; exact hl T (by omega)
        · rw [hl2, hgk, one_f (fun q => z q.2), Nat.add_zero]
    · rw [pa_n _ _ _ (by decide), pa_s, e1, pa_s, pa_n _ _ _ (by decide)]
      simp only [upd, if_neg (show ¬ T = k by omega)]
      exact hT T hTk
    · rw [pa_n _ _ _ (by decide), e1, pa_s]; simp [upd]
    · rw [pa_s]; simp [upd]; rfl
theorem lp10_t4 {y : Ob} {A : AS} {K : Int32 → Prop} (hy : YS y A) (ho : Own A) (hK : K (nI (mk A.2.2.1 (A.1 0)))) :
    ∀ d k, k + d = A.1 0 → wpX10_teas_L4 y K (d + 1) (nI (mk A.2.2.1 k)) (nI k) := by
  obtain ⟨a1, a2⟩ := id ho.1
  intro d
  induction d with
  | zero =>
    intro k hk
    have e : k = A.1 0 := by omega
    subst e
    unfold wpX10_teas_L4
    rw [hy.1.1]
    exact br_t (nI_le (by omega) (by omega)) hK
  | succ d ih =>
    intro k hk
    have ih1 := ih (k + 1) (by omega)
    simp only [mk] at ih1
    unfold wpX10_teas_L4
    rw [hy.1.1, jld_n (by omega), hy.2.2.2 k (by omega), nI_1 k, jshl_1 (by omega)]
    unfold jn2
    dsimp only
    refine br_f (nI_ge (by omega) (by omega)) ⟨vp_in_nI (by omega) (by omega), br_c (fun z => ?_) (fun z => ?_)⟩
    · rw [if_pos z] at ih1
      rw [show (0 : Int32) = nI 0 from rfl, nI_or, Nat.or_zero]; exact ih1
    · rw [if_neg z] at ih1
      rw [nI_or]; exact ih1
theorem lp10_t57 {y : Ob} {A : AS} {g : Nat → Nat} {S : Nat} {K : Int32 → Int32 → Prop} (hy : YS y A) (ho : Own A) (hS : S < 2 ^ A.1 0) (hgl : ∀ T, g T ≤ T) (hT : ∀ T, T < S → y 8 T = nI (g T)) (hK : K (nI (mx g S (A.1 0))) (isum A.2.2.1 S (A.1 0))) :
    ∀ d k, k + d = A.1 0 → wpX10_teas_L57 (nI S) y K (d + 1) (nI (mx g S k)) (isum A.2.2.1 S k) (nI k) := by
  obtain ⟨a1, a2⟩ := id ho.1
  have h2 := two_pow_le a2
  intro d
  induction d with
  | zero =>
    intro k hk
    have e : k = A.1 0 := by omega
    subst e
    unfold wpX10_teas_L57
    rw [hy.1.1]
    exact br_t (nI_le (by omega) (by omega)) hK
  | succ d ih =>
    intro k hk
    have ih1 := ih (k + 1) (by omega)
    have hmx : mx g S k ≤ S := mx_le k (fun v hv hb => by have := flip_less hb; have := hgl (S ^^^ 2 ^ v); omega)
    simp only [mx, isum] at ih1
    unfold wpX10_teas_L57
    rw [hy.1.1, nI_1 k, jshl_1 (by omega), nI_andnot]
    refine br_f (nI_ge (by omega) (by omega)) (sp10_has (by omega) (by omega) ?_)
    unfold jn2 jn1
    dsimp only
    refine b2_br (fun q => ?_) (fun q => ?_)
    · rw [if_neg q, if_neg q] at ih1; exact ih1
    · rw [if_pos q, if_pos q] at ih1
      rw [wo_y q]
      have hlt := flip_less q
      have hgw := hgl (S ^^^ 2 ^ k)
      refine ⟨vp_in_nI (by omega) (by omega), fun y88 e => ?_⟩
      rw [jld_n (by omega), hT _ hlt] at e
      rw [e, jld_n (by omega), hy.2.2.2 k (by omega)]
      refine pk_le (g (S ^^^ 2 ^ k)) (mx g S k) (fun c => ⟨vp_in_nI (by omega) (by omega), ?_⟩) (fun c => ⟨vp_in_nI (by omega) (by omega), ?_⟩)
      · rw [Nat.max_eq_left c] at ih1; exact ih1
      · rw [Nat.max_eq_right (by omega)] at ih1; exact ih1
theorem lp10_t39 {y0 : Ob} {A : AS} {g : Nat → Nat} {M : Nat} {K : Ob → Prop} (hy0 : YS y0 A) (ho : Own A) (hg : ∀ S, g S = mx g S (A.1 0) + one (S ≠ 0 ∧ S &&& M = S ∧ isum A.2.2.1 S (A.1 0) = 0)) (hK : ∀ y, YQ y0 y → (∀ T, T < 2 ^ A.1 0 → y 8 T = nI (g T)) → K y) :
    ∀ d k y, k + d = 2 ^ A.1 0 → YQ y0 y → (∀ T, T < k → y 8 T = nI (g T)) → wpX10_teas_L39 (nI M) K (d + 1) (nI k) y := by
  obtain ⟨a1, a2⟩ := id ho.1
  have h2 := two_pow_le a2
  have hgl := g_le hg (fun q => q.1 rfl)
  intro d
  induction d with
  | zero =>
    intro k y hk hq hT
    have hy := hq.ys hy0
    have e : k = 2 ^ A.1 0 := by omega
    subst e
    unfold wpX10_teas_L39
    rw [hy.1.1, jshl_1 (by omega)]
    exact br_t (nI_le (by omega) (by omega)) (hK y hq hT)
  | succ d ih =>
    intro k y hk hq hT
    have hy := hq.ys hy0
    unfold wpX10_teas_L39
    rw [hy.1.1, jshl_1 (by omega), nI_1 k]
    refine br_f (nI_ge (by omega) (by omega)) ⟨A.1 0 + 1, lp10_t57 (g := g) hy ho (show k < 2 ^ A.1 0 by omega) hgl hT ?_ (A.1 0) 0 (by omega)⟩
    have put : ∀ c : Int32, nI (mx g k (A.1 0)) + c = nI (g k) → (vp_in (nI k) 1024) ∧ wpX10_teas_L39 (nI M) K (d + 1) (nI (k + 1)) (pa y 8 (nC (nI k)) (nI (mx g k (A.1 0)) + c)) := by
      intro c hc
      rw [nC_n (by omega), hc]
      refine ⟨vp_in_nI (by omega) (by omega), ih (k + 1) _ (by omega) (hq.trans (YQ.pa _ _ _ (by omega))) (fun T hTk => ?_)⟩
      rw [pa_s]
      by_cases e : T = k
      · simp only [upd, if_pos e]; rw [e]
      · simp only [upd, if_neg e]; exact hT T (by omega)
    have hgk := hg k
    have p0 : ¬ (k ≠ 0 ∧ k &&& M = k ∧ isum A.2.2.1 k (A.1 0) = 0) → (vp_in (nI k) 1024) ∧ wpX10_teas_L39 (nI M) K (d + 1) (nI (k + 1)) (pa y 8 (nC (nI k)) (nI (mx g k (A.1 0)) + 0)) := fun q => put 0 (by
      rw [one_f q] at hgk
      rw [hgk, show (0 : Int32) = nI 0 from rfl, nI_add])
    have p1 : (k ≠ 0 ∧ k &&& M = k ∧ isum A.2.2.1 k (A.1 0) = 0) → (vp_in (nI k) 1024) ∧ wpX10_teas_L39 (nI M) K (d + 1) (nI (k + 1)) (pa y 8 (nC (nI k)) (nI (mx g k (A.1 0)) + 1)) := fun q => put 1 (by
      rw [one_t q] at hgk
      rw [hgk, show (1 : Int32) = nI 1 from rfl, nI_add])
    unfold jn3 jn2
    dsimp only
    refine pk_eq k 0 (fun e => p0 (fun q => q.1 e)) (fun e => part_br (by omega) (fun q => br_c (fun z => p1 ⟨e, q, z⟩) (fun z => p0 (fun w => z w.2.2))) (fun q => p0 (fun w => q w.2.1)))
theorem st_teas {oX oS oL oY : Ob} {A : AS} (h : Good oS oY A) {K : Int32 → Int32 → Ob → Ob → Prop} (hK : ∀ r l' y', YQ oY y' → K r r l' y') : wpX9_teas oX oS oL (fun r l' => wpX10_teas oY (fun r2 y' => K r r2 l' y')) := by
  obtain ⟨hs, hy, ho, hsg, how⟩ := id h
  obtain ⟨a1, a2⟩ := id ho.1
  have h2 := two_pow_le a2
  have hpos := Nat.two_pow_pos (A.1 0)
  have e0 : oS 0 0 = nI (A.1 0) := hs.1 0 (by omega)
  obtain ⟨gC, hC⟩ := exG (A.1 0) (fun S => S ≠ 0 ∧ isum A.2.2.1 S (A.1 0) = 0)
  obtain ⟨gM, hM⟩ := exG (A.1 0) (fun S => S ≠ 0 ∧ S &&& mk A.2.2.1 (A.1 0) = S ∧ isum A.2.2.1 S (A.1 0) = 0)
  have hmk := mk_lt A.2.2.1 (A.1 0)
  have all := teas_eq a2 (fun v hv hb => mk_bit hv hb) hC hM (2 ^ A.1 0 - 1) (by omega)
  have eall : (2 ^ A.1 0 - 1) &&& mk A.2.2.1 (A.1 0) = mk A.2.2.1 (A.1 0) := by
    rw [Nat.and_comm, Nat.and_two_pow_sub_one_eq_mod, Nat.mod_eq_of_lt hmk]
  rw [eall] at all
  -- how many owe nothing
  have hz : ∀ k M, M < 2 ^ A.1 0 → k ≤ A.1 0 → pc10 ((2 ^ A.1 0 - 1) ^^^ M) k + pc10 M k = k := by
    intro k M hM
    induction k with
    | zero => intro _; rfl
    | succ k ih =>
      intro hk
      have := ih (by omega)
      have hb : (2 ^ A.1 0 - 1).testBit k = true := by rw [Nat.testBit_two_pow_sub_one]; simp; omega
      simp only [pc10]
      rw [Nat.testBit_xor, hb]
      cases M.testBit k <;> simp <;> omega
  have hz1 := hz (A.1 0) _ hmk (Nat.le_refl _)
  have hxl : (2 ^ A.1 0 - 1) ^^^ mk A.2.2.1 (A.1 0) < 2 ^ A.1 0 := Nat.xor_lt_two_pow (by omega) hmk
  rw [← popc_n hxl a2, ← popc_n hmk a2] at hz1
  have hgM := g_le hM (fun q => q.1 rfl) (mk A.2.2.1 (A.1 0))
  unfold wpX9_teas wpX4_fewestPayments
  intro y9 e9 y19 e19
  have f9 : y9 = nI (A.1 0) := by
    rw [e9, e0]
    have := jmin_n (a := A.1 0) (b := 10) (by omega) (by omega)
    rw [show (10 : Int32) = nI 10 from rfl, this]
    congr 1; omega
  have f19 : y19 = nI (2 ^ A.1 0) := by
    rw [e19, f9, jshl_1 (by omega)]
    have := jmin_n (a := 2 ^ A.1 0) (b := 1024) (by omega) (by omega)
    rw [show (1024 : Int32) = nI 1024 from rfl, this]
    congr 1; omega
  rw [f9, f19, nI_sub1 hpos]
  refine ⟨2 ^ A.1 0 + 1, lp4_23 (g := gC) hs ho hC (fun l hl => ⟨vp_in_nI (by omega) (by omega), ?_⟩) (2 ^ A.1 0) 0 oL (by omega) (fun T hT => absurd hT (Nat.not_lt_zero _))⟩
  rw [jld_n (by omega), (hl _ (by omega)).2, all]
  refine ⟨A.1 0 + 1, lp10_t4 hy ho ⟨2 ^ A.1 0 + 1, ?_⟩ (A.1 0) 0 (by omega)⟩
  refine lp10_t39 (g := gM) (M := mk A.2.2.1 (A.1 0)) hy ho hM (fun y' q hT => ?_) (2 ^ A.1 0) 0 oY (by omega) (YQ.refl _) (fun T hT => absurd hT (Nat.not_lt_zero _))
  refine sp10_bits (by omega) ⟨vp_in_nI (by omega) (by omega), ?_⟩
  rw [jld_n (by omega), hT _ hmk]
  have e : nI (A.1 0) - nI (gM (mk A.2.2.1 (A.1 0)) + popc ((2 ^ A.1 0 - 1) ^^^ mk A.2.2.1 (A.1 0))) = nI (popc (mk A.2.2.1 (A.1 0))) - nI (gM (mk A.2.2.1 (A.1 0))) := by
    have h1 : nI (A.1 0) = nI (popc ((2 ^ A.1 0 - 1) ^^^ mk A.2.2.1 (A.1 0))) + nI (popc (mk A.2.2.1 (A.1 0))) := by rw [nI_add, hz1]
    rw [h1, ← nI_add]
    generalize nI (popc ((2 ^ A.1 0 - 1) ^^^ mk A.2.2.1 (A.1 0))) = a
    generalize nI (popc (mk A.2.2.1 (A.1 0))) = b
    generalize nI (gM (mk A.2.2.1 (A.1 0))) = c
    rw [Int32.sub_eq_add_neg, Int32.sub_eq_add_neg, Int32.neg_add, Int32.sub_eq_add_neg, Int32.add_comm a b, Int32.add_assoc, Int32.add_comm (-c), ← Int32.add_assoc a, Int32.add_right_neg, Int32.zero_add]
  rw [e]
  exact hK _ _ _ q
