/-! the class's clashesBy: pieces instead of windows -/
def Eq6 (s s' : Ob) : Prop := ∀ r, r ≠ 6 → s' r = s r
theorem Eq6.st {s s' : Ob} {A : AS} (h : Eq6 s s') (hs : StS s A) : StS s' A := by
  unfold StS at *
  rw [h 0 (by decide), h 1 (by decide), h 2 (by decide), h 3 (by decide), h 4 (by decide), h 5 (by decide)]
  exact hs
theorem Eq6.trans {a b c : Ob} (h : Eq6 a b) (h2 : Eq6 b c) : Eq6 a c := fun r hr => (h2 r hr).trans (h r hr)
theorem Eq6.refl (a : Ob) : Eq6 a a := fun _ _ => rfl
def pend (S n x : Nat) : Prop := x + 1 = n ∨ S.testBit (x + 1) = true
theorem len_next {g : Nat → Nat} {n E S x : Nat} (hx : x + 1 < n) (hb : S.testBit (x + 1) = false) : len g n E S x = len g n E S (x + 1) := by
  unfold len
  have e1 : abv g S (x + 1) = abv g S x := by simp [abv, hb]
  obtain ⟨d, hd⟩ : ∃ d, n - (x + 1) = d + 1 := ⟨n - (x + 1) - 1, by omega⟩
  have e2 : n - (d + 1) = x + 1 := by omega
  have e3 : n - (x + 1 + 1) = d := by omega
  rw [hd, e1, e3]
  simp [blw, e2, hb]
theorem pend_ex {g : Nat → Nat} {n E S : Nat} : ∀ d x, x + 1 + d = n → ∃ z, x ≤ z ∧ z < n ∧ pend S n z ∧ len g n E S x = len g n E S z
  | 0, x, h => ⟨x, Nat.le_refl _, by omega, Or.inl (by omega), rfl⟩
  | d + 1, x, h => by
    cases hb : S.testBit (x + 1) with
    | true => exact ⟨x, Nat.le_refl _, by omega, Or.inr hb, rfl⟩
    | false =>
      obtain ⟨z, h1, h2, h3, h4⟩ := pend_ex (g := g) (n := n) (E := E) (S := S) d (x + 1) (by omega)
      exact ⟨z, by omega, h2, h3, (len_next (by omega) hb).trans h4⟩
theorem lp8_83 {s : Ob} {li L a T kn : Nat} {t : Nat → Nat} {post : Int32 → Ob → Prop} {K : Prop} (h2 : s 0 2 = nI li) (hli : 1 ≤ li ∧ li ≤ 99) (hL : 1 ≤ L ∧ L ≤ 108) (haT : nI T - nI a = nI L) (hkn : kn ≤ 10) (ht : ∀ i, i < kn → s 6 i = nI (t i) ∧ 1 ≤ t i ∧ t i ≤ 108) :
    ∀ d k, k + d = kn → ((∀ i, k ≤ i → i < kn → ¬ cl li L (t i)) → K) → (∀ i, k ≤ i → i < kn → cl li L (t i) → post 1 s) → wpX8_clashesBy_L83 (nI a) (nI kn) (nI T) s post K (d + 1) (nI k)
  | 0, k, h, hK, _ => by
    unfold wpX8_clashesBy_L83
    exact br_t (nI_le (by omega) (by omega)) (hK (fun i h1 h2 => absurd h2 (by omega)))
  | d + 1, k, h, hK, hy => by
    unfold wpX8_clashesBy_L83
    refine br_f (nI_ge (by omega) (by omega)) ⟨vp_in_nI (by omega) (by omega), ?_⟩
    obtain ⟨q1, q2, q3⟩ := ht k (by omega)
    rw [haT, jld_n (by omega), q1]
    refine sp8_isClash h2 hli hL ⟨q2, q3⟩ (b2_br (fun hc => ?_) (fun hc => ?_))
    · rw [nI_1]
      refine lp8_83 h2 hli hL haT hkn ht d (k + 1) (by omega) (fun hn => hK (fun i h1 h2 => ?_)) (fun i h1 h2 hq => hy i (by omega) h2 hq)
      by_cases e : i = k
      · subst e; exact hc
      · exact hn i (by omega) h2
    · exact hy k (Nat.le_refl _) (by omega) hc
def cInv (g : Nat → Nat) (n E li S : Nat) (s s' : Ob) (w kn : Nat) : Prop :=
  Eq6 s s' ∧ kn + 1 ≤ w ∧ (∀ x, x + 1 < w → pend S n x → ∃ i, i < kn ∧ s' 6 i = nI (len g n E S x)) ∧ (∀ i, i < kn → ∃ x, x + 1 < w ∧ s' 6 i = nI (len g n E S x)) ∧ (∀ x z, x < z → z + 1 < w → pend S n x → pend S n z → ¬ cl li (len g n E S x) (len g n E S z))
theorem lp8_22 {s : Ob} {A : AS} {S : Nat} {post : Int32 → Ob → Prop} (hs : StS s A) (ho : Own A) (hS : S < 2 ^ 31) (hp : ∀ s', Eq6 s s' → post (b2 (Cl (A.1 2) (len A.2.1 (A.1 0) (A.1 1 + A.1 4) S) (A.1 0))) s') :
    ∀ d w kn a s', w + d = A.1 0 + 1 → 1 ≤ w → (w ≤ A.1 0 → a = abv A.2.1 S (w - 1)) → cInv A.2.1 (A.1 0) (A.1 1 + A.1 4) (A.1 2) S s s' w kn → wpX8_clashesBy_L22 (nI S) post (fun (oS_137 : Ob) => post (0 : Int32) oS_137) (d + 1) (nI a) (nI kn) (nI w) s' := by
  obtain ⟨⟨a1, a2⟩, b1, li1, -, d1, -, -, hg⟩ := id ho
  generalize hn : A.1 0 = n at *
  generalize hE : A.1 1 + A.1 4 = E at *
  generalize hl : A.1 2 = li at *
  have hE1 : 1 ≤ E ∧ E ≤ 18 := by omega
  have hlen := fun z (hz : z < n) => len_bd hg (S := S) a2 hE1.1 hE1.2 hz
  intro d
  induction d with
  | zero =>
    intro w kn a s' hw h1 ha hI
    obtain ⟨i1, i2, i3, i4, i5⟩ := hI
    have hs' := i1.st hs
    have h00 : s' 0 0 = nI n := by rw [hs'.1 0 (by omega), hn]
    unfold wpX8_clashesBy_L22
    rw [h00]
    refine br_t (nI_lt (by omega) (by omega)) ?_
    have hno : ¬ Cl li (len A.2.1 n E S) n := by
      rintro ⟨x, z, q1, q2, q3⟩
      obtain ⟨x', x1, x2, x3, x4⟩ := pend_ex (g := A.2.1) (n := n) (E := E) (S := S) (n - (x + 1)) x (by omega)
      obtain ⟨z', z1, z2, z3, z4⟩ := pend_ex (g := A.2.1) (n := n) (E := E) (S := S) (n - (z + 1)) z (by omega)
      rw [x4, z4] at q3
      rcases Nat.lt_trichotomy x' z' with q | q | q
      · exact i5 x' z' q (by omega) x3 z3 q3
      · subst q
        exact cl_self li1.1 (hlen x' x2).1 q3
      · exact i5 z' x' q (by omega) z3 x3 (cl_symm q3)
    have := hp s' i1
    rw [b2_f hno] at this
    exact this
  | succ d ih =>
    intro w kn a s' hw h1 ha hI
    have hI' := hI
    obtain ⟨i1, i2, i3, i4, i5⟩ := hI
    have hs' := i1.st hs
    have h00 : s' 0 0 = nI n := by rw [hs'.1 0 (by omega), hn]
    have h02 : s' 0 2 = nI li := by rw [hs'.1 2 (by omega), hl]
    have ea := ha (by omega)
    unfold wpX8_clashesBy_L22
    rw [h00]
    refine br_f (nI_nlt (by omega) (by omega)) (br_f (nI_ge (b := 10) (by omega) (by omega)) ?_)
    unfold jn3 jn0
    -- the piece that ends here
    have piece : pend S n (w - 1) → wpX8_has s' (nI w) (fun (r58 : Int32) => jn1 (fun (p0_78 : Int32) => ∃ fu83 : Nat, wpX8_clashesBy_L83 (nI a) (nI kn) p0_78 s' post ((vp_in (nI kn) 10) ∧ (wpX8_clashesBy_L22 (nI S) post (fun (oS_137 : Ob) => post (0 : Int32) oS_137) (d + 1) p0_78 (nI kn + (1 : Int32)) (nI w + (1 : Int32)) (pa s' 6 (nC (nI kn)) (p0_78 - nI a)))) fu83 (0 : Int32)) (fun J78 => ((r58 = 0) → wpX8_bottom s' (fun (r75 : Int32) => J78 r75)) ∧ (¬ (r58 = 0) → (vp_in (nI w) 10) ∧ (J78 (jld (s' 2) (nI w)))))) := by
      intro hpe
      have hw1 : w - 1 < n := by omega
      obtain ⟨l1, l2, l3, l4, l5⟩ := hlen (w - 1) hw1
      have ew : w - 1 + 1 = w := by omega
      rw [ew] at l4 l5
      have go : ∀ T, T = blw A.2.1 S n E (n - w) → (w < n → T = abv A.2.1 S w) → ∃ fu83 : Nat, wpX8_clashesBy_L83 (nI a) (nI kn) (nI T) s' post ((vp_in (nI kn) 10) ∧ (wpX8_clashesBy_L22 (nI S) post (fun (oS_137 : Ob) => post (0 : Int32) oS_137) (d + 1) (nI T) (nI kn + (1 : Int32)) (nI w + (1 : Int32)) (pa s' 6 (nC (nI kn)) (nI T - nI a)))) fu83 (0 : Int32) := by
        intro T hT hTa
        have eL : nI T - nI a = nI (len A.2.1 n E S (w - 1)) := by
          unfold len
          rw [ew, hT, ea, pk_sub l5]
        have hex : ∀ i, ∃ x, i < kn → x + 1 < w ∧ s' 6 i = nI (len A.2.1 n E S x) := fun i => by
          by_cases hi : i < kn
          · obtain ⟨x, hx⟩ := i4 i hi
            exact ⟨x, fun _ => hx⟩
          · exact ⟨0, fun h => absurd h hi⟩
        obtain ⟨xf, hxf⟩ : ∃ xf : Nat → Nat, ∀ i, i < kn → xf i + 1 < w ∧ s' 6 i = nI (len A.2.1 n E S (xf i)) := ⟨fun i => Classical.choose (hex i), fun i => Classical.choose_spec (hex i)⟩
        refine ⟨kn + 1, ?_⟩
        refine lp8_83 (t := fun i => len A.2.1 n E S (xf i)) h02 li1 ⟨l1, l2⟩ eL (by omega) (fun i hi => ?_) kn 0 (by omega) (fun hno => ?_) (fun i _ hi hc => ?_)
        · obtain ⟨x1, x2⟩ := hxf i hi
          have := hlen (xf i) (by omega)
          exact ⟨x2, this.1, this.2.1⟩
        · refine ⟨vp_in_nI (by omega) (by omega), ?_⟩
          rw [nI_1, nI_1, nC_n (by omega), eL]
          refine ih (w + 1) (kn + 1) T _ (by omega) (by omega) (fun hle => hTa (by omega)) ⟨?_, by omega, ?_, ?_, ?_⟩
          · intro r hr
            rw [pa_n _ _ _ hr]; exact i1 r hr
          · intro x hx hpx
            rw [pa_s]
            by_cases e : x = w - 1
            · subst e
              exact ⟨kn, by omega, by simp [upd]⟩
            · obtain ⟨i, hi, hi2⟩ := i3 x (by omega) hpx
              refine ⟨i, by omega, ?_⟩
              have : i ≠ kn := by omega
              simp [upd, this, hi2]
          · intro i hi
            rw [pa_s]
            by_cases e : i = kn
            · subst e
              exact ⟨w - 1, by omega, by simp [upd]⟩
            · obtain ⟨x, x1, x2⟩ := i4 i (by omega)
              refine ⟨x, by omega, ?_⟩
              simp [upd, e, x2]
          · intro x z hxz hz hpx hpz hc
            by_cases e : z = w - 1
            · subst e
              obtain ⟨i, hi, hi2⟩ := i3 x (by omega) hpx
              obtain ⟨y1, y2⟩ := hxf i hi
              rw [y2] at hi2
              have b1 := hlen (xf i) (by omega)
              have b2' := hlen x (by omega)
              have ee := (nI_eq (by omega) (by omega)).mp hi2
              refine hno i (Nat.zero_le _) hi ?_
              show cl li _ (len A.2.1 n E S (xf i))
              rw [ee]; exact cl_symm hc
            · exact i5 x z hxz (by omega) hpx hpz hc
        · obtain ⟨x1, x2⟩ := hxf i hi
          have := hp s' i1
          rw [b2_t ⟨xf i, w - 1, by omega, hw1, cl_symm hc⟩] at this
          exact this
      unfold jn1
      by_cases ewn : w = n
      · refine sp8_has_n h00 (Or.inr (nI_le (by omega) (by omega))) (br_t rfl ?_)
        refine sp8_bottom hs' ho ?_
        rw [hn, hE]
        refine go _ ?_ (fun h => absurd h (by omega))
        rw [show n - w = 0 by omega]; rfl
      · have hb : S.testBit w = true := by
          rcases hpe with q | q
          · omega
          · rw [ew] at q; exact q
        refine sp8_has_y h00 a2 (by omega) (br_f (by decide) ⟨vp_in_nI (by omega) (by omega), ?_⟩)
        rw [jld_n (by omega), hs'.2.2.1 w (by omega)]
        refine go _ ?_ (fun _ => ?_)
        · obtain ⟨d', hd'⟩ : ∃ d', n - w = d' + 1 := ⟨n - w - 1, by omega⟩
          have e2 : n - (d' + 1) = w := by omega
          rw [hd']
          simp [blw, e2, hb]
        · obtain ⟨v, rfl⟩ : ∃ v, w = v + 1 := ⟨w - 1, by omega⟩
          simp [abv, hb]
    refine pk_eq w n (fun e => piece (Or.inl (by omega))) (fun e => ?_)
    refine br_ush hS (by omega) (fun hb => ?_) (fun hb => piece (Or.inr (by rw [show w - 1 + 1 = w by omega]; exact hb)))
    rw [nI_1]
    have hnp : ¬ pend S n (w - 1) := by
      rintro (q | q)
      · omega
      · rw [show w - 1 + 1 = w by omega, hb] at q; cases q
    refine ih (w + 1) kn a s' (by omega) (by omega) (fun _ => ?_) ⟨i1, by omega, ?_, ?_, ?_⟩
    · rw [ea]
      obtain ⟨v, rfl⟩ : ∃ v, w = v + 1 := ⟨w - 1, by omega⟩
      simp [abv, hb]
    · intro x hx hpx
      by_cases ex : x = w - 1
      · subst ex; exact absurd hpx hnp
      · exact i3 x (by omega) hpx
    · intro i hi
      obtain ⟨x, x1, x2⟩ := i4 i hi
      exact ⟨x, by omega, x2⟩
    · intro x z hxz hz hpx hpz
      by_cases ex : z = w - 1
      · subst ex; exact absurd hpz hnp
      · exact i5 x z hxz (by omega) hpx hpz
theorem sp8_clashesBy {s : Ob} {A : AS} {S : Nat} {post : Int32 → Ob → Prop} (hs : StS s A) (ho : Own A) (hS : S < 2 ^ 31) (hp : ∀ s', Eq6 s s' → post (b2 (Cl (A.1 2) (len A.2.1 (A.1 0) (A.1 1 + A.1 4) S) (A.1 0))) s') : wpX8_clashesBy s (nI S) post := by
  unfold wpX8_clashesBy jn1
  have ho' := ho
  obtain ⟨⟨a1, a2⟩, -⟩ := ho
  have start : ∀ a, a = abv A.2.1 S 0 → ∃ fu22 : Nat, wpX8_clashesBy_L22 (nI S) post (fun (oS_137 : Ob) => post (0 : Int32) oS_137) fu22 (nI a) (0 : Int32) (1 : Int32) s := fun a ha => ⟨A.1 0 + 1, lp8_22 hs ho' hS hp (A.1 0) 1 0 a s (by omega) (by omega) (fun _ => ha) ⟨Eq6.refl s, by omega, fun x h => absurd h (by omega), fun i h => absurd h (by omega), fun x z h1 h2 => absurd h2 (by omega)⟩⟩
  have e : nI S &&& (1 : Int32) = nI (if S.testBit 0 then 1 else 0) := by
    show nI S &&& nI 1 = _
    rw [nI_and, Nat.and_one_is_mod, ← bit_mod, Nat.pow_zero, Nat.div_one]
  rw [e]
  cases hb : S.testBit 0 with
  | false => exact br_t rfl (start 0 (by simp [abv, hb]))
  | true =>
    refine br_f (by decide) ?_
    have : jld (s 2) (0 : Int32) = nI (pos A.2.1 0) := by
      have := jld_n (f := s 2) (n := 0) (by omega)
      rw [show (0 : Int32) = nI 0 from rfl, this, hs.2.2.1 0 (by omega)]
    rw [this]
    exact start _ (by simp [abv, hb])
