/-! the law's loop: the relation is kept by every call -/
def NN (x s i j p _v _t _k _g _l _m y : Ob) : Prop := RR x s i j p y
theorem rr_sy {x s i j p y s' y' : Ob} {A' : AS} (h : RR x s i j p y) (hg : Good s' y' A') (hk : YK y y') : RR x s' i j p y' := by
  obtain ⟨-, ⟨P, h1, h2, h3⟩, h4, h5⟩ := h
  exact ⟨⟨A', hg⟩, ⟨P, h1, hk.yp h2, h3⟩, h4.y hk.2.1 hk.2.2.1, h5.y hk.2.1 hk.2.2.1⟩
theorem rr_py {x s i j p y p' y' : Ob} {P' : PD} (h : RR x s i j p y) (hg : GoodP p' y' P') (hm : YM y y') : RR x s i j p' y' := by
  obtain ⟨⟨A, h1, h2, h3⟩, -, h4, h5⟩ := h
  exact ⟨⟨A, h1, hm.ys h2, h3⟩, ⟨P', hg⟩, h4.y hm.2.2.2.1 hm.2.2.2.2.1, h5.y hm.2.2.2.1 hm.2.2.2.2.1⟩
theorem rr_q {x s i j p y y' : Ob} (h : RR x s i j p y) (hq : YQ y y') : RR x s i j p y' := by
  obtain ⟨A, h1, h2, h3⟩ := h.1
  have hm : YM y y' := ⟨hq.1, hq.2.1, hq.2.2.1, hq.2.2.2.2.1, hq.2.2.2.2.2.1, fun k hk => hq.2.2.2.2.2.2 k (by omega)⟩
  exact rr_sy h (A' := A) ⟨h1, hm.ys h2, h3⟩ hq.k
theorem rr_6 {x s i j p y s' : Ob} (h : RR x s i j p y) (he : Eq6 s s') : RR x s' i j p y := by
  obtain ⟨⟨A, h1, h2⟩, h3⟩ := h
  exact ⟨⟨A, he.st h1, h2⟩, h3⟩
theorem rr_done {x s i j p y s' p' y' : Ob} {A' : AS} {P' : PD} (h : RR x s i j p y) (hg : Good s' y' A') (hp : GoodP p' y' P') (h10 : y' 10 = y 10) (h11 : y' 11 = y 11) : RR x s' i j p' y' :=
  ⟨⟨A', hg⟩, ⟨P', hp⟩, h.2.2.1.y h10 h11, h.2.2.2.y h10 h11⟩
theorem ex6 {L i : Nat} (hL : L ≤ 384) (hi : i ≤ 390) : (Int32.ofNat L - (6 : Int32)) < nI i ↔ L < i + 6 := by
  rw [Int32.lt_iff_toInt_lt, nI_toInt (by omega), show Int32.ofNat L - (6 : Int32) = nI L - nI 6 from rfl, pk_sub_toInt (by omega) (by omega)]
  omega
theorem vin {L i : Nat} (k : Nat) (hL : L ≤ 384) (h : i + 6 ≤ L) (hk : k < 6) : vp_in (nI i + nI k) L := by
  rw [nI_add]; exact vp_in_nI (by omega) (by omega)
set_option maxHeartbeats 4000000 in
set_option maxRecDepth 100000 in
theorem law_loop {p : Program} {l : Launch} {e : Env} {s : State} {m : MethodId} {below : List Frame} {meth : Method} {c : Code} {D : va_G} {cI cZ : ClassId} {b L : Nat} {xs : Nat → Int32} (C : Cx p s m #[Value.ref b] meth c code 4 wsL_law RL D [(cI, .int), (cZ, .boolean)] (fun q : Nat => s.heap.size ≤ q) ret) (hX : va_X b L xs s s.heap) (hbl : b < s.heap.size) (hL : L ≤ 384) (qX qS qI qJ qP qV qT qK qG qL qM qY : Nat → Nat) : ∀ (n i : Nat) (oX oS oI oJ oP oV oT oK oG oL oM oY : Ob), L ≤ i + n → i ≤ 390 → RR oX oS oI oJ oP oY → SW p l e room_1 s m #[Value.ref b] below meth c (fun q : Nat => s.heap.size ≤ q) D 4 56 11255 (lw_Z below #[Value.ref b] s) (WL cI cZ qX qS qI qJ qP qV qT qK qG qL qM qY oX oS oI oJ oP oV oT oK oG oL oM oY) 18 [(0, .ref b), (1, .ref (qX 0)), (2, .ref (qY 0)), (3, .int (nI i))] [] := by
  have hbA : ¬ (fun q : Nat => s.heap.size ≤ q) b := Nat.not_le.mpr hbl
  intro n
  induction n with
  | zero =>
    intro i oX oS oI oJ oP oV oT oK oG oL oM oY hi hi2 hR
    refine SW.iload_n C dL_law_18 rfl 3 rfl ?_
    refine SW.aload_n C dL_law_19 rfl 0 rfl ?_
    refine SW.slen C hX hbl hbA dL_law_20 ?_
    refine SW.bipush (v := (6 : Int32)) C dL_law_21 (by decide) ?_
    refine SW.isub C dL_law_23 ?_
    refine SW.icmp_gt (tgt := 1101) C dL_law_24 (by decide) (fun hc => ?_) (fun hc => absurd ((ex6 hL hi2).mpr (by omega)) hc)
    refine SW.iconst (v := (1 : Int32)) C dL_law_1101 (by decide) ?_
    exact SW.lwret C dL_law_1102
  | succ n ih =>
    intro i oX oS oI oJ oP oV oT oK oG oL oM oY hi hi2 hR
    refine SW.iload_n C dL_law_18 rfl 3 rfl ?_
    refine SW.aload_n C dL_law_19 rfl 0 rfl ?_
    refine SW.slen C hX hbl hbA dL_law_20 ?_
    refine SW.bipush (v := (6 : Int32)) C dL_law_21 (by decide) ?_
    refine SW.isub C dL_law_23 ?_
    refine SW.icmp_gt (tgt := 1101) C dL_law_24 (by decide) (fun hc => ?_) (fun hc => ?_)
    · refine SW.iconst (v := (1 : Int32)) C dL_law_1101 (by decide) ?_
      exact SW.lwret C dL_law_1102
    have h6 : i + 6 ≤ L := by
      apply Classical.byContradiction
      intro q
      exact hc ((ex6 hL hi2).mpr (by omega))
    refine SW.aload_n C dL_law_27 rfl 0 rfl ?_
    refine SW.iload_n C dL_law_28 rfl 3 rfl ?_
    refine SW.sld C hX hbl hbA (vp_in_nI (by omega) (by omega)) dL_law_29 ?_
    refine SW.bipush (v := (31 : Int32)) C dL_law_30 (by decide) ?_
    refine SW.iand C dL_law_32 ?_
    obtain ⟨j, hj, ej⟩ := pk_andE (jld xs (nI i)) (m := (31 : Int32)) 5 (by decide)
    rw [ej]
    have i1 : vp_in (nI i + (1 : Int32)) L := vin 1 hL h6 (by decide)
    have i2 : vp_in (nI i + (2 : Int32)) L := vin 2 hL h6 (by decide)
    have i3 : vp_in (nI i + (3 : Int32)) L := vin 3 hL h6 (by decide)
    have i4 : vp_in (nI i + (4 : Int32)) L := vin 4 hL h6 (by decide)
    have i5 : vp_in (nI i + (5 : Int32)) L := vin 5 hL h6 (by decide)
    have kk : ∀ oX oS oI oJ oP oV oT oK oG oL oM oY : Ob, NN oX oS oI oJ oP oV oT oK oG oL oM oY → SW p l e room_1 s m #[Value.ref b] below meth c (fun q : Nat => s.heap.size ≤ q) D 4 56 11255 (lw_Z below #[Value.ref b] s) (WL cI cZ qX qS qI qJ qP qV qT qK qG qL qM qY oX oS oI oJ oP oV oT oK oG oL oM oY) 1095 [(0, .ref b), (1, .ref (qX 0)), (2, .ref (qY 0)), (3, .int (nI i))] [] := by
      intro oX oS oI oJ oP oV oT oK oG oL oM oY hN
      refine SW.iinc (q := 3) (v := nI (i + 6)) (lv' := [(3, .int (nI (i + 6))), (0, .ref b), (1, .ref (qX 0)), (2, .ref (qY 0))]) C dL_law_1095 rfl (nI_add i 6) (by decide) rfl ?_
      refine SW.goto (tgt := 18) C dL_law_1098 (by decide) ?_
      refine SW.sub [1, 2, 3, 0] rfl ?_
      exact ih (i + 6) oX oS oI oJ oP oV oT oK oG oL oM oY (by omega) (by omega) hN
    obtain ⟨A, hG⟩ := id hR.1
    obtain ⟨Pd, hGP⟩ := id hR.2.1
    have hj32 : j < 32 := hj
    rcases (show j = 0 ∨ j = 1 ∨ j = 2 ∨ j = 3 ∨ j = 4 ∨ j = 5 ∨ j = 6 ∨ j = 7 ∨ j = 8 ∨ j = 9 ∨ j = 10 ∨ j = 11 ∨ j = 12 ∨ j = 13 ∨ j = 14 ∨ j = 15 ∨ j = 16 ∨ j = 17 ∨ j = 18 ∨ j = 19 ∨ j = 20 ∨ j = 21 ∨ j = 22 ∨ j = 23 ∨ j = 24 ∨ j = 25 ∨ j = 26 ∨ j = 27 ∨ j = 28 ∨ j = 29 ∨ j = 30 ∨ j = 31 by omega) with rfl | rfl | rfl | rfl | rfl | rfl | rfl | rfl | rfl | rfl | rfl | rfl | rfl | rfl | rfl | rfl | rfl | rfl | rfl | rfl | rfl | rfl | rfl | rfl | rfl | rfl | rfl | rfl | rfl | rfl | rfl | rfl
    · refine SW.tableIn (tgt := 176) (off := 143) C dL_law_33 (by decide) (by decide) rfl (by decide) ?_
      exact lc_windows C hX hbl qX qS qI qJ qP qV qT qK qG qL qM qY oX oS oI oJ oP oV oT oK oG oL oM oY (nI i) NN kk i1 (st_windows hG _ (fun r s' y' A' h1 h2 => ⟨rfl, rr_sy hR h1 h2⟩))
    · refine SW.tableIn (tgt := 199) (off := 166) C dL_law_33 (by decide) (by decide) rfl (by decide) ?_
      exact lc_gap C hX hbl qX qS qI qJ qP qV qT qK qG qL qM qY oX oS oI oJ oP oV oT oK oG oL oM oY (nI i) NN kk i1 i2 (st_gap hG _ _ (fun r s' y' A' h1 h2 => ⟨rfl, rr_sy hR h1 h2⟩))
    · refine SW.tableIn (tgt := 232) (off := 199) C dL_law_33 (by decide) (by decide) rfl (by decide) ?_
      exact lc_set C hX hbl qX qS qI qJ qP qV qT qK qG qL qM qY oX oS oI oJ oP oV oT oK oG oL oM oY (nI i) NN kk i1 i2 (st_set hG _ _ (fun r s' y' A' h1 h2 => ⟨rfl, rr_sy hR h1 h2⟩))
    · refine SW.tableIn (tgt := 265) (off := 232) C dL_law_33 (by decide) (by decide) rfl (by decide) ?_
      exact lc_say C hX hbl qX qS qI qJ qP qV qT qK qG qL qM qY oX oS oI oJ oP oV oT oK oG oL oM oY (nI i) NN kk i1 (st_say hGP _ (fun r p' y' P' h1 h2 => ⟨rfl, rr_py hR h1 h2⟩))
    · refine SW.tableIn (tgt := 288) (off := 255) C dL_law_33 (by decide) (by decide) rfl (by decide) ?_
      exact lc_wipe C hX hbl qX qS qI qJ qP qV qT qK qG qL qM qY oX oS oI oJ oP oV oT oK oG oL oM oY (nI i) NN kk (st_wipe hGP (fun r p' y' P' h1 h2 => ⟨rfl, rr_py hR h1 h2⟩))
    · refine SW.tableIn (tgt := 301) (off := 268) C dL_law_33 (by decide) (by decide) rfl (by decide) ?_
      exact lc_fault C hX hbl qX qS qI qJ qP qV qT qK qG qL qM qY oX oS oI oJ oP oV oT oK oG oL oM oY (nI i) NN kk i1 (st_fault hG hGP _ (fun r => ⟨rfl, hR⟩))
    · refine SW.tableIn (tgt := 324) (off := 291) C dL_law_33 (by decide) (by decide) rfl (by decide) ?_
      exact lc_judge C hX hbl qX qS qI qJ qP qV qT qK qG qL qM qY oX oS oI oJ oP oV oT oK oG oL oM oY (nI i) NN kk i1 (st_judge hG hGP _ (fun r v' t' y' h1 => ⟨rfl, rr_q hR h1⟩))
    · refine SW.tableIn (tgt := 347) (off := 314) C dL_law_33 (by decide) (by decide) rfl (by decide) ?_
      exact lc_done C hX hbl qX qS qI qJ qP qV qT qK qG qL qM qY oX oS oI oJ oP oV oT oK oG oL oM oY (nI i) NN kk (st_done hG hGP (fun r s' p' v' t' y' A' P' h1 h2 h3 h4 => ⟨rfl, rr_done hR h1 h2 h3 h4⟩))
    · refine SW.tableIn (tgt := 360) (off := 327) C dL_law_33 (by decide) (by decide) rfl (by decide) ?_
      exact lc_hears C hX hbl qX qS qI qJ qP qV qT qK qG qL qM qY oX oS oI oJ oP oV oT oK oG oL oM oY (nI i) NN kk i1 (st_hears hG _ (fun r => ⟨rfl, hR⟩))
    · refine SW.tableIn (tgt := 383) (off := 350) C dL_law_33 (by decide) (by decide) rfl (by decide) ?_
      exact lc_behind C hX hbl qX qS qI qJ qP qV qT qK qG qL qM qY oX oS oI oJ oP oV oT oK oG oL oM oY (nI i) NN kk i1 (st_behind hG hGP _ (fun r v' t' y' h1 => ⟨rfl, rr_q hR h1⟩))
    · refine SW.tableIn (tgt := 406) (off := 373) C dL_law_33 (by decide) (by decide) rfl (by decide) ?_
      exact lc_clashed C hX hbl qX qS qI qJ qP qV qT qK qG qL qM qY oX oS oI oJ oP oV oT oK oG oL oM oY (nI i) NN kk i1 (st_clashed hG hGP _ (fun r v' t' y' h1 => ⟨rfl, rr_q hR h1⟩))
    · refine SW.tableIn (tgt := 429) (off := 396) C dL_law_33 (by decide) (by decide) rfl (by decide) ?_
      exact lc_interval C hX hbl qX qS qI qJ qP qV qT qK qG qL qM qY oX oS oI oJ oP oV oT oK oG oL oM oY (nI i) NN kk i1 i2 i3 (st_interval hG _ _ _ (fun r => ⟨rfl, hR⟩))
    · refine SW.tableIn (tgt := 473) (off := 440) C dL_law_33 (by decide) (by decide) rfl (by decide) ?_
      exact lc_heard C hX hbl qX qS qI qJ qP qV qT qK qG qL qM qY oX oS oI oJ oP oV oT oK oG oL oM oY (nI i) NN kk i1 (st_heard hG _ (fun r => ⟨rfl, hR⟩))
    · refine SW.tableIn (tgt := 496) (off := 463) C dL_law_33 (by decide) (by decide) rfl (by decide) ?_
      exact lc_stopped C hX hbl qX qS qI qJ qP qV qT qK qG qL qM qY oX oS oI oJ oP oV oT oK oG oL oM oY (nI i) NN kk i1 i2 i3 (st_stopped hG _ _ _ (fun r => ⟨rfl, hR⟩))
    · refine SW.tableIn (tgt := 539) (off := 506) C dL_law_33 (by decide) (by decide) rfl (by decide) ?_
      exact lc_friends C hX hbl qX qS qI qJ qP qV qT qK qG qL qM qY oX oS oI oJ oP oV oT oK oG oL oM oY (nI i) NN kk i1 i2 i3 i4 i5 (st_friends hG _ _ _ _ _ (fun r => ⟨rfl, hR⟩))
    · refine SW.tableIn (tgt := 602) (off := 569) C dL_law_33 (by decide) (by decide) rfl (by decide) ?_
      exact lc_changes C hX hbl qX qS qI qJ qP qV qT qK qG qL qM qY oX oS oI oJ oP oV oT oK oG oL oM oY (nI i) NN kk i1 i2 (st_changes hG hGP _ _ (fun r o' y' h1 => ⟨rfl, rr_q hR h1⟩))
    · refine SW.tableIn (tgt := 635) (off := 602) C dL_law_33 (by decide) (by decide) rfl (by decide) ?_
      exact lc_shifts C hX hbl qX qS qI qJ qP qV qT qK qG qL qM qY oX oS oI oJ oP oV oT oK oG oL oM oY (nI i) NN kk i1 i2 (st_shifts hG hGP _ _ (fun r o' => ⟨rfl, hR⟩))
    · refine SW.tableIn (tgt := 668) (off := 635) C dL_law_33 (by decide) (by decide) rfl (by decide) ?_
      exact lc_seen C hX hbl qX qS qI qJ qP qV qT qK qG qL qM qY oX oS oI oJ oP oV oT oK oG oL oM oY (nI i) NN kk i1 i2 (st_seen hG _ _ (fun r s' y' A' h1 h2 => ⟨rfl, rr_sy hR h1 h2⟩))
    · refine SW.tableIn (tgt := 701) (off := 668) C dL_law_33 (by decide) (by decide) rfl (by decide) ?_
      exact lc_forget C hX hbl qX qS qI qJ qP qV qT qK qG qL qM qY oX oS oI oJ oP oV oT oK oG oL oM oY (nI i) NN kk (st_forget hG (fun r s' y' A' h1 h2 => ⟨rfl, rr_sy hR h1 h2⟩))
    · refine SW.tableIn (tgt := 714) (off := 681) C dL_law_33 (by decide) (by decide) rfl (by decide) ?_
      exact lc_fit C hX hbl qX qS qI qJ qP qV qT qK qG qL qM qY oX oS oI oJ oP oV oT oK oG oL oM oY (nI i) NN kk i1 (st_fit hG _ (fun r o' => ⟨rfl, hR⟩))
    · refine SW.tableIn (tgt := 737) (off := 704) C dL_law_33 (by decide) (by decide) rfl (by decide) ?_
      exact lc_ask C hX hbl qX qS qI qJ qP qV qT qK qG qL qM qY oX oS oI oJ oP oV oT oK oG oL oM oY (nI i) NN kk i1 (st_ask hG _ (fun r o' y' h1 => ⟨rfl, rr_q hR h1⟩))
    · refine SW.tableIn (tgt := 760) (off := 727) C dL_law_33 (by decide) (by decide) rfl (by decide) ?_
      exact lc_borrow C hX hbl qX qS qI qJ qP qV qT qK qG qL qM qY oX oS oI oJ oP oV oT oK oG oL oM oY (nI i) NN kk i1 i2 i3 (st_borrow hG _ _ _ (fun r s' y' A' h1 h2 => ⟨rfl, rr_sy hR h1 h2⟩))
    · refine SW.tableIn (tgt := 803) (off := 770) C dL_law_33 (by decide) (by decide) rfl (by decide) ?_
      exact lc_teas C hX hbl qX qS qI qJ qP qV qT qK qG qL qM qY oX oS oI oJ oP oV oT oK oG oL oM oY (nI i) NN kk (st_teas hG (fun r o' y' h1 => ⟨rfl, rr_q hR h1⟩))
    · refine SW.tableIn (tgt := 816) (off := 783) C dL_law_33 (by decide) (by decide) rfl (by decide) ?_
      exact lc_feet C hX hbl qX qS qI qJ qP qV qT qK qG qL qM qY oX oS oI oJ oP oV oT oK oG oL oM oY (nI i) NN kk (st_feet hG (fun r => ⟨rfl, hR⟩))
    · refine SW.tableIn (tgt := 829) (off := 796) C dL_law_33 (by decide) (by decide) rfl (by decide) ?_
      exact lc_hooks C hX hbl qX qS qI qJ qP qV qT qK qG qL qM qY oX oS oI oJ oP oV oT oK oG oL oM oY (nI i) NN kk i1 i2 i3 (st_hooks _ _ _ (fun r => ⟨rfl, hR⟩))
    · refine SW.tableIn (tgt := 872) (off := 839) C dL_law_33 (by decide) (by decide) rfl (by decide) ?_
      exact lc_turns C hX hbl qX qS qI qJ qP qV qT qK qG qL qM qY oX oS oI oJ oP oV oT oK oG oL oM oY (nI i) NN kk i1 (st_turns hG _ (fun r s' m' y' h1 h2 => ⟨rfl, rr_q (rr_6 hR h1) h2⟩))
    · refine SW.tableIn (tgt := 895) (off := 862) C dL_law_33 (by decide) (by decide) rfl (by decide) ?_
      exact lc_slips C hX hbl qX qS qI qJ qP qV qT qK qG qL qM qY oX oS oI oJ oP oV oT oK oG oL oM oY (nI i) NN kk i1 i2 i3 i4 (st_slips hG _ _ _ _ (fun r => ⟨rfl, hR⟩))
    · refine SW.tableIn (tgt := 949) (off := 916) C dL_law_33 (by decide) (by decide) rfl (by decide) ?_
      exact lc_calm C hX hbl qX qS qI qJ qP qV qT qK qG qL qM qY oX oS oI oJ oP oV oT oK oG oL oM oY (nI i) NN kk i1 i2 (st_calm hG _ _ (fun r s' h1 => ⟨rfl, rr_6 hR h1⟩))
    · refine SW.tableIn (tgt := 983) (off := 950) C dL_law_33 (by decide) (by decide) rfl (by decide) ?_
      exact lc_year C hX hbl qX qS qI qJ qP qV qT qK qG qL qM qY oX oS oI oJ oP oV oT oK oG oL oM oY (nI i) NN kk i1 i2 i3 (st_year hG _ _ _ (fun r v' t' y' h1 => ⟨rfl, rr_q hR h1⟩))
    · refine SW.tableIn (tgt := 1026) (off := 993) C dL_law_33 (by decide) (by decide) rfl (by decide) ?_
      exact lc_image C hX hbl qX qS qI qJ qP qV qT qK qG qL qM qY oX oS oI oJ oP oV oT oK oG oL oM oY (nI i) NN kk i1 (st_image hR _ (fun r x' i' j' y' h1 => ⟨rfl, h1⟩))
    · refine SW.tableIn (tgt := 1049) (off := 1016) C dL_law_33 (by decide) (by decide) rfl (by decide) ?_
      exact lc_restore C hX hbl qX qS qI qJ qP qV qT qK qG qL qM qY oX oS oI oJ oP oV oT oK oG oL oM oY (nI i) NN kk i1 (st_restore hR _ (fun r s' y' h1 => ⟨rfl, h1⟩))
    · refine SW.tableIn (tgt := 1072) (off := 1039) C dL_law_33 (by decide) (by decide) rfl (by decide) ?_
      exact lc_told C hX hbl qX qS qI qJ qP qV qT qK qG qL qM qY oX oS oI oJ oP oV oT oK oG oL oM oY (nI i) NN kk i1 (st_told hG hGP _ (fun r => ⟨rfl, hR⟩))
