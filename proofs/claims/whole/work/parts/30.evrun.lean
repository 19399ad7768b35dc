/-! the whole evening, on both sides -/
/-- behind k acts: fingers f, damp d, b clashes, the first at fb -/
def VT (A : AS) (v t : Ob) (k f d : Nat) : Prop := v 0 1 = nI k ∧ v 0 2 = 0 ∧ StS t (setFD A f d)
def VL (v : Ob) (b : Nat) (fb : Int32) : Prop := v 0 4 = nI b ∧ v 0 3 = fb
def YE (A : AS) (P : PD) (y0 y : Ob) (k f d b : Nat) (fb : Int32) : Prop := YQ y0 y ∧ y 0 15 = nI k ∧ y 0 12 = nI f ∧ y 0 13 = nI d ∧ y 0 16 = nI b ∧ y 0 17 = fb
/-- an outcome: reason, acts, fingers, damp, clashes, the first -/
abbrev EO : Type := Nat × Nat × Nat × Nat × Nat × Int32
def VTo (A : AS) (v t : Ob) (r : EO) : Prop := v 0 2 = nI r.1 ∧ v 0 1 = nI r.2.1 ∧ StS t (setFD A r.2.2.1 r.2.2.2.1)
def YEo (y0 y : Ob) (r : EO) : Prop := YQ y0 y ∧ (r.1 ≠ 0 → y 0 14 = nI r.1) ∧ y 0 12 = nI r.2.2.1 ∧ y 0 13 = nI r.2.2.2.1 ∧ y 0 16 = nI r.2.2.2.2.1 ∧ y 0 17 = r.2.2.2.2.2 ∧ (r.1 = 0 → y 0 15 = nI r.2.1)
noncomputable def mark (c : Prop) (b k : Nat) (fb : Int32) : Nat × Int32 := @ite _ c (Classical.propDecidable c) (b + 1, if b = 0 then nI k else fb) (b, fb)
theorem mark_t {c : Prop} {b k : Nat} {fb : Int32} (h : c) : mark c b k fb = (b + 1, if b = 0 then nI k else fb) := @if_pos _ (Classical.propDecidable c) h _ _ _
theorem mark_f {c : Prop} {b k : Nat} {fb : Int32} (h : ¬ c) : mark c b k fb = (b, fb) := @if_neg _ (Classical.propDecidable c) h _ _ _
theorem sp1_listenAt {v t : Ob} {A : AS} {f d b k : Nat} {fb : Int32} {post : Ob → Ob → Prop} (ht : StS t (setFD A f d)) (ho : Own A) (hfd : FDok (A.1 0) f d) (hv : VL v b fb) (hb : b ≤ 99) (hp : ∀ v' t', (∀ j, j ≠ 3 → j ≠ 4 → v' 0 j = v 0 j) → VL v' (mark (Cl (A.1 2) (len A.2.1 (A.1 0) (A.1 1 + d) f) (A.1 0)) b k fb).1 (mark (Cl (A.1 2) (len A.2.1 (A.1 0) (A.1 1 + d) f) (A.1 0)) b k fb).2 → StS t' (setFD A f d) → post v' t') : wpX1_listenAt v t (nI k) post := by
  unfold wpX1_listenAt
  have ho' := setFD_own (f := f) (d := d) ho hfd.2.2 ⟨hfd.1, hfd.2.1⟩
  have e5 : t 0 5 = nI f := ht.1 5 (by omega)
  have hf31 : f < 2 ^ 31 := by have := set_lt ho.1.2 hfd.1; omega
  rw [e5]
  refine sp8_clashesBy ht ho' hf31 (fun t' h6 => ?_)
  have ec : Cl ((setFD A f d).1 2) (len (setFD A f d).2.1 ((setFD A f d).1 0) ((setFD A f d).1 1 + (setFD A f d).1 4) f) ((setFD A f d).1 0) = Cl (A.1 2) (len A.2.1 (A.1 0) (A.1 1 + d) f) (A.1 0) := rfl
  rw [ec]
  refine b2_br (fun q => ?_) (fun q => ?_)
  · rw [mark_f q] at hp
    exact hp v t' (fun _ _ _ => rfl) hv (h6.st ht)
  · rw [mark_t q] at hp
    unfold jn1
    rw [hv.1]
    refine pk_eq b 0 (fun e => ?_) (fun e => ?_)
    · rw [if_pos e] at hp
      refine hp _ t' (fun j h3 h4 => ?_) ⟨?_, ?_⟩ (h6.st ht)
      · rw [pf_n _ _ h4, pf_n _ _ h3]
      · rw [pf_s, pf_n _ _ (by decide), hv.1, nI_1]
      · rw [pf_n _ _ (by decide), pf_s]
    · rw [if_neg e] at hp
      refine hp _ t' (fun j h3 h4 => ?_) ⟨?_, ?_⟩ (h6.st ht)
      · rw [pf_n _ _ h4]
      · rw [pf_s, hv.1, nI_1]
      · rw [pf_n _ _ (by decide)]; exact hv.2
theorem ev_ex {A : AS} {P : PD} {p y0 : Ob} (ho : Own A) (hys : YS y0 A) (hp : PS p P) (hyp : YP y0 P) (hok : POk P) (hact : ∀ j, j < P.1 → isAct (A.1 0) (P.2 j)) :
    ∀ m k f d b (fb : Int32), k + m = P.1 → b ≤ k → FDok (A.1 0) f d → ∃ r : EO, (FDok (A.1 0) r.2.2.1 r.2.2.2.1 ∧ r.1 ≤ 3 ∧ r.2.1 ≤ 60 ∧ (r.1 = 0 → r.2.1 = P.1)) ∧
      (∀ v t (post : Ob → Ob → Prop), VT A v t k f d → (∀ v' t', VTo A v' t' r → post v' t') → wpX1_play_L8 0 p post (fun v t => post v t) (m + 1) (nI k) v t) ∧
      (∀ v t (post : Ob → Ob → Prop), VT A v t k f d → VL v b fb → (∀ v' t', VTo A v' t' r → VL v' r.2.2.2.2.1 r.2.2.2.2.2 → post v' t') → wpX1_play_L8 1 p post (fun v t => post v t) (m + 1) (nI k) v t) ∧
      (∀ y (post : Int32 → Ob → Prop), YE A P y0 y k f d b fb → (∀ y', YEo y0 y' r → post (if r.1 = 0 then -6 else nI r.2.1) y') → wpX10_goEvening_L32 post (fun y => post (-6) y) (m + 1) y) := by
  have h60 := hok.1
  intro m
  induction m with
  | zero =>
    intro k f d b fb hk hbk hfd
    refine ⟨(0, k, f, d, b, fb), ⟨hfd, Nat.zero_le _, by show k ≤ 60; omega, fun _ => by show k = P.1; omega⟩, ?_, ?_, ?_⟩
    · intro v t post hvt hpo
      unfold wpX1_play_L8
      rw [hp.1]
      exact br_t (nI_le (by omega) (by omega)) (hpo v t ⟨hvt.2.1, hvt.1, hvt.2.2⟩)
    · intro v t post hvt hvl hpo
      unfold wpX1_play_L8
      rw [hp.1]
      exact br_t (nI_le (by omega) (by omega)) (hpo v t ⟨hvt.2.1, hvt.1, hvt.2.2⟩ hvl)
    · intro y post hy hpo
      obtain ⟨q1, q2, q3, q4, q5, q6⟩ := hy
      unfold wpX10_goEvening_L32
      rw [(q1.yp hyp).1, q2]
      refine br_t (nI_le (by omega) (by omega)) ?_
      have := hpo y
      rw [if_pos rfl] at this
      exact this ⟨q1, fun q => absurd rfl q, q3, q4, q5, q6, fun _ => q2⟩
  | succ m ih =>
    intro k f d b fb hk hbk hfd
    have hkP : k < P.1 := by omega
    have hc := hact k hkP
    have hc2 := hok.2 k hkP
    -- heads
    have hcls : ∀ (li : Int32) v t (post : Ob → Ob → Prop), (((nI (P.2 k) = (46 : Int32)) → ((li = 0) → (((v 0 2) = 0) → wpX1_play_L8 li p post (fun v t => post v t) (m + 1) (nI k + (1 : Int32)) (pf v 1 ((v 0 1) + (1 : Int32))) t) ∧ (¬ ((v 0 2) = 0) → post v t)) ∧ (¬ (li = 0) → wpX1_listenAt v t (nI k) (fun (oV_52 : Ob) (oT_52 : Ob) => (((oV_52 0 2) = 0) → wpX1_play_L8 li p post (fun v t => post v t) (m + 1) (nI k + (1 : Int32)) (pf oV_52 1 ((oV_52 0 1) + (1 : Int32))) oT_52) ∧ (¬ ((oV_52 0 2) = 0) → post oV_52 oT_52)))) ∧ (¬ (nI (P.2 k) = (46 : Int32)) → wpX1_perform v t (nI (P.2 k)) (fun (r36 : Int32) (oT_36 : Ob) => ((((pf v 2 r36) 0 2) = 0) → wpX1_play_L8 li p post (fun v t => post v t) (m + 1) (nI k + (1 : Int32)) (pf (pf v 2 r36) 1 (((pf v 2 r36) 0 1) + (1 : Int32))) oT_36) ∧ (¬ (((pf v 2 r36) 0 2) = 0) → post (pf v 2 r36) oT_36)))) → wpX1_play_L8 li p post (fun v t => post v t) (m + 1 + 1) (nI k) v t := by
      intro li v t post hh
      unfold wpX1_play_L8
      rw [hp.1]
      exact br_f (nI_ge (by omega) (by omega)) (sp5_signAt hp hok hkP hh)
    have hys' := fun {y : Ob} (q : YQ y0 y) => q.ys hys
    by_cases e46 : P.2 k = 46
    · -- a minute
      obtain ⟨r, r1, r2, r3, r4⟩ := ih (k + 1) f d (mark (Cl (A.1 2) (len A.2.1 (A.1 0) (A.1 1 + d) f) (A.1 0)) b k fb).1 (mark (Cl (A.1 2) (len A.2.1 (A.1 0) (A.1 1 + d) f) (A.1 0)) b k fb).2 (by omega) (by
        by_cases q : Cl (A.1 2) (len A.2.1 (A.1 0) (A.1 1 + d) f) (A.1 0)
        · rw [mark_t q]; show b + 1 ≤ k + 1; omega
        · rw [mark_f q]; show b ≤ k + 1; omega) hfd
      refine ⟨r, r1, ?_, ?_, ?_⟩
      · intro v t post hvt hpo
        refine hcls 0 v t post ?_
        rw [e46]
        refine br_t rfl (br_t rfl (br_t hvt.2.1 ?_))
        rw [nI_1]
        refine r2 _ t post ⟨?_, ?_, hvt.2.2⟩ hpo
        · rw [pf_s, hvt.1, nI_1]
        · rw [pf_n _ _ (by decide)]; exact hvt.2.1
      · intro v t post hvt hvl hpo
        refine hcls 1 v t post ?_
        rw [e46]
        refine br_t rfl (br_f (by decide) (sp1_listenAt hvt.2.2 ho hfd hvl (by omega) (fun v' t' hj hvl' ht' => ?_)))
        refine br_t (by rw [hj 2 (by decide) (by decide)]; exact hvt.2.1) ?_
        rw [nI_1]
        refine r3 _ t' post ⟨?_, ?_, ht'⟩ ?_ hpo
        · rw [pf_s, hj 1 (by decide) (by decide), hvt.1, nI_1]
        · rw [pf_n _ _ (by decide), hj 2 (by decide) (by decide)]; exact hvt.2.1
        · exact ⟨by rw [pf_n _ _ (by decide)]; exact hvl'.1, by rw [pf_n _ _ (by decide)]; exact hvl'.2⟩
      · intro y post hy hpo
        obtain ⟨q1, q2, q3, q4, q5, q6⟩ := id hy
        have qy := hys' q1
        unfold wpX10_goEvening_L32
        rw [(q1.yp hyp).1, q2]
        refine br_f (nI_ge (by omega) (by omega)) ⟨vp_in_nI (by omega) (by omega), ?_⟩
        rw [jld_n (by omega), (q1.yp hyp).2 k hkP, e46]
        unfold jn1
        refine br_t rfl (br_t (by decide) (br_t rfl ?_))
        have goon : ∀ y2, YQ y0 y2 → y2 0 15 = nI k → y2 0 12 = nI f → y2 0 13 = nI d → VL (fun _ j => if j = 4 then y2 0 16 else y2 0 17) (mark (Cl (A.1 2) (len A.2.1 (A.1 0) (A.1 1 + d) f) (A.1 0)) b k fb).1 (mark (Cl (A.1 2) (len A.2.1 (A.1 0) (A.1 1 + d) f) (A.1 0)) b k fb).2 → wpX10_goEvening_L32 post (fun y => post (-6) y) (m + 1) (pf y2 15 ((y2 0 15) + (1 : Int32))) := by
          intro y2 z1 z2 z3 z4 z6
          refine r4 _ post ⟨z1.trans (YQ.pf 15 _ (by decide)), ?_, ?_, ?_, ?_, ?_⟩ hpo
          · rw [pf_s, z2, nI_1]
          · rw [pf_n _ _ (by decide)]; exact z3
          · rw [pf_n _ _ (by decide)]; exact z4
          · rw [pf_n _ _ (by decide)]; exact z6.1
          · rw [pf_n _ _ (by decide)]; exact z6.2
        obtain ⟨⟨a1, a2⟩, b1, li1, -, -, -, -, hg⟩ := id ho
        have hf31 : f < 2 ^ 31 := by have := set_lt a2 hfd.1; omega
        have eq0 : ∀ j, j ≠ 14 → (pf y 14 (0 : Int32)) 0 j = y 0 j := fun j hj => pf_n _ _ hj
        rw [q3, q4]
        refine sp10_clashes (n := A.1 0) (e := A.1 1) (x := d) (li := A.1 2) (g := A.2.1) (by rw [eq0 0 (by decide)]; exact qy.1.1) (by rw [eq0 2 (by decide)]; exact qy.1.2.1) (by rw [eq0 3 (by decide)]; exact qy.1.2.2.1) (fun j hj => by rw [pf_r _ _ _ _ (by decide)]; exact qy.2.1 j hj) hg a2 b1 hfd.2.2 li1.2 hf31 ?_
        refine b2_br (fun q => ?_) (fun q => ?_)
        · rw [mark_f q] at goon
          refine goon _ (q1.trans (YQ.pf 14 _ (by decide))) ?_ ?_ ?_ ⟨?_, ?_⟩
          · rw [eq0 15 (by decide)]; exact q2
          · rw [eq0 12 (by decide)]; exact q3
          · rw [eq0 13 (by decide)]; exact q4
          · show (pf y 14 (0 : Int32)) 0 16 = _
            rw [eq0 16 (by decide)]; exact q5
          · show (pf y 14 (0 : Int32)) 0 17 = _
            rw [eq0 17 (by decide)]; exact q6
        · rw [mark_t q] at goon
          rw [q5, q6]
          have fin : ∀ x : Int32, x = (if b = 0 then nI k else fb) → ∀ oY_132n : Ob, oY_132n = (pf y 14 (0 : Int32)) → (∀ oY_142n : Ob, oY_142n = (pf oY_132n 17 x) → (wpX10_goEvening_L32 post (fun y => post (-6) y) (m + 1) (pf (pf oY_142n 16 ((oY_132n 0 16) + (1 : Int32))) 15 (((pf oY_142n 16 ((oY_132n 0 16) + (1 : Int32))) 0 15) + (1 : Int32))))) := by
            intro x hx y1 e1 y2 e2
            subst e1; subst e2
            refine goon _ (q1.trans ((YQ.pf 14 _ (by decide)).trans ((YQ.pf 17 _ (by decide)).trans (YQ.pf 16 _ (by decide))))) ?_ ?_ ?_ ⟨?_, ?_⟩
            · rw [pf_n _ _ (by decide), pf_n _ _ (by decide), eq0 15 (by decide)]; exact q2
            · rw [pf_n _ _ (by decide), pf_n _ _ (by decide), eq0 12 (by decide)]; exact q3
            · rw [pf_n _ _ (by decide), pf_n _ _ (by decide), eq0 13 (by decide)]; exact q4
            · show (pf (pf (pf y 14 (0 : Int32)) 17 x) 16 _) 0 16 = _
              rw [pf_s, eq0 16 (by decide), q5, nI_1]
            · show (pf (pf (pf y 14 (0 : Int32)) 17 x) 16 _) 0 17 = _
              rw [pf_n _ _ (by decide), pf_s, hx]
          refine pk_eq b 0 (fun eb => ?_) (fun eb => ?_)
          · exact fin _ (by rw [if_pos eb])
          · exact fin _ (by rw [if_neg eb])
    · -- an act
      have hao := act1_ok hfd hc e46
      have h46' : ¬ nI (P.2 k) = (46 : Int32) := fun q => e46 ((nI_eq (b := 46) (by omega) (by omega)).mp q)
      obtain ⟨⟨a1, a2⟩, -⟩ := id ho
      generalize hres : act1 (A.1 0) f d (P.2 k) = res at hao
      obtain ⟨rs, f', d'⟩ := res
      obtain ⟨hfd', hrs⟩ := hao
      by_cases er : rs = 0
      · subst er
        obtain ⟨r, r1, r2, r3, r4⟩ := ih (k + 1) f' d' b fb (by omega) (by omega) hfd'
        refine ⟨r, r1, ?_, ?_, ?_⟩
        · intro v t post hvt hpo
          refine hcls 0 v t post (br_f h46' (sp1_perform hvt.2.2 ho hfd hc e46 ?_))
          rw [hres]
          intro t' ht'
          refine br_t (pf_s _ _ _) ?_
          rw [nI_1]
          refine r2 _ t' post ⟨?_, ?_, ht'⟩ hpo
          · rw [pf_s, pf_n _ _ (by decide), hvt.1, nI_1]
          · rw [pf_n _ _ (by decide), pf_s]; rfl
        · intro v t post hvt hvl hpo
          refine hcls 1 v t post (br_f h46' (sp1_perform hvt.2.2 ho hfd hc e46 ?_))
          rw [hres]
          intro t' ht'
          refine br_t (pf_s _ _ _) ?_
          rw [nI_1]
          refine r3 _ t' post ⟨?_, ?_, ht'⟩ ⟨?_, ?_⟩ hpo
          · rw [pf_s, pf_n _ _ (by decide), hvt.1, nI_1]
          · rw [pf_n _ _ (by decide), pf_s]; rfl
          · rw [pf_n _ _ (by decide), pf_n _ _ (by decide)]; exact hvl.1
          · rw [pf_n _ _ (by decide), pf_n _ _ (by decide)]; exact hvl.2
        · intro y post hy hpo
          obtain ⟨q1, q2, q3, q4, q5, q6⟩ := id hy
          have qy := hys' q1
          unfold wpX10_goEvening_L32
          rw [(q1.yp hyp).1, q2]
          refine br_f (nI_ge (by omega) (by omega)) ⟨vp_in_nI (by omega) (by omega), ?_⟩
          rw [jld_n (by omega), (q1.yp hyp).2 k hkP]
          unfold jn1
          refine br_f h46' (sp10_whyNot qy.1.1 q3 q4 ⟨a1, a2⟩ hfd hc e46 ?_)
          rw [hres]
          refine br_t (show nI 0 ≤ (0 : Int32) by decide) (br_f h46' ?_)
          refine sp10_act (n := A.1 0) (f := f) (d := d) (by rw [pf_n _ _ (by decide)]; exact q3) (by rw [pf_n _ _ (by decide)]; exact q4) a2 hfd hc e46 (by rw [hres]) ?_
          rw [hres]
          intro y2 w1 w2 w3 w4
          have hq2 : YQ y0 y2 := by
            refine (q1.trans (YQ.pf 14 (0 : Int32) (by decide))).trans ⟨w1 1 (by decide), w1 2 (by decide), w1 3 (by decide), w1 4 (by decide), w1 10 (by decide), w1 11 (by decide), fun j hj => w2 j (by omega) (by omega)⟩
          refine r4 _ post ⟨hq2.trans (YQ.pf 15 _ (by decide)), ?_, ?_, ?_, ?_, ?_⟩ hpo
          · rw [pf_s, w2 15 (by decide) (by decide), pf_n _ _ (by decide), q2, nI_1]
          · rw [pf_n _ _ (by decide)]; exact w3
          · rw [pf_n _ _ (by decide)]; exact w4
          · rw [pf_n _ _ (by decide), w2 16 (by decide) (by decide), pf_n _ _ (by decide)]; exact q5
          · rw [pf_n _ _ (by decide), w2 17 (by decide) (by decide), pf_n _ _ (by decide)]; exact q6
      · have hrs0 : ¬ nI rs = 0 := nI_ne0 (by omega) (by omega)
        have ff : f' = f ∧ d' = d := by
          unfold act1 at hres
          by_cases c1 : P.2 k = 43
          · rw [if_pos c1] at hres
            by_cases c2 : d < 9
            · rw [if_pos c2] at hres; simp only [Prod.mk.injEq] at hres; omega
            · rw [if_neg c2] at hres; simp only [Prod.mk.injEq] at hres; omega
          · rw [if_neg c1] at hres
            by_cases c2 : P.2 k = 45
            · rw [if_pos c2] at hres
              by_cases c3 : 0 < d
              · rw [if_pos c3] at hres; simp only [Prod.mk.injEq] at hres; omega
              · rw [if_neg c3] at hres; simp only [Prod.mk.injEq] at hres; omega
            · rw [if_neg c2] at hres
              by_cases c3 : popc (f ^^^ 2 ^ (P.2 k - 97)) ≤ may (A.1 0)
              · rw [if_pos c3] at hres; simp only [Prod.mk.injEq] at hres; omega
              · rw [if_neg c3] at hres; simp only [Prod.mk.injEq] at hres; omega
        obtain ⟨rfl, rfl⟩ := ff
        refine ⟨(rs, k, f', d', b, fb), ⟨hfd', hrs, by show k ≤ 60; omega, fun q => absurd q er⟩, ?_, ?_, ?_⟩
        · intro v t post hvt hpo
          refine hcls 0 v t post (br_f h46' (sp1_perform hvt.2.2 ho hfd hc e46 ?_))
          rw [hres]
          intro t' ht'
          refine br_f (by rw [pf_s]; exact hrs0) (hpo _ _ ⟨pf_s _ _ _, ?_, ht'⟩)
          rw [pf_n _ _ (by decide)]; exact hvt.1
        · intro v t post hvt hvl hpo
          refine hcls 1 v t post (br_f h46' (sp1_perform hvt.2.2 ho hfd hc e46 ?_))
          rw [hres]
          intro t' ht'
          refine br_f (by rw [pf_s]; exact hrs0) (hpo _ _ ⟨pf_s _ _ _, ?_, ht'⟩ ⟨?_, ?_⟩)
          · rw [pf_n _ _ (by decide)]; exact hvt.1
          · rw [pf_n _ _ (by decide)]; exact hvl.1
          · rw [pf_n _ _ (by decide)]; exact hvl.2
        · intro y post hy hpo
          obtain ⟨q1, q2, q3, q4, q5, q6⟩ := id hy
          have qy := hys' q1
          unfold wpX10_goEvening_L32
          rw [(q1.yp hyp).1, q2]
          refine br_f (nI_ge (by omega) (by omega)) ⟨vp_in_nI (by omega) (by omega), ?_⟩
          rw [jld_n (by omega), (q1.yp hyp).2 k hkP]
          unfold jn1
          refine br_f h46' (sp10_whyNot qy.1.1 q3 q4 ⟨a1, a2⟩ hfd hc e46 ?_)
          rw [hres]
          have hle : ¬ nI rs ≤ (0 : Int32) := nI_nle (by omega) (by omega)
          refine br_f hle ?_
          have := hpo (pf y 14 (nI rs)) ⟨q1.trans (YQ.pf 14 _ (by decide)), fun _ => pf_s _ _ _, ?_, ?_, ?_, ?_, fun q => absurd q er⟩
          · rw [if_neg er] at this; exact this
          · rw [pf_n _ _ (by decide)]; exact q3
          · rw [pf_n _ _ (by decide)]; exact q4
          · rw [pf_n _ _ (by decide)]; exact q5
          · rw [pf_n _ _ (by decide)]; exact q6
