section
variable {sh : List (Nat × Nat × Nat)} {rm rm3 : Nat → Nat → Option Nat} {im im2 im3 im4 : Nat → Nat → Int} {R R' T X S S' S0 H P : Nat → Int} {L V : Int} {a t k q n : Nat} {sc : Nat × (Nat → Int)} {o : Nat × Nat} {Q : Option cs_A → cs_H → Prop}
theorem gAll_R (h : gAll R S H P T) (r3 : R' 3 = R 3) (r5 : R' 5 = R 5) (r7 : R' 7 = R 7) (r10 : R' 10 = R 10) (r11 : R' 11 = R 11) (hy : gWy (R' 16) (R' 17) (R' 18)) : gAll R' S H P T := by
  obtain ⟨a1, a3, a4, a5, a6, a7, a8, a9⟩ := h
  refine ⟨a1, ?_, ?_, ?_, ?_, ?_, ?_, hy⟩
  · rw [r3]; exact a3
  · rw [r3]; exact a4
  · rw [r5]; exact a5
  · rw [r5]; exact a6
  · rw [r7]; exact a7
  · rw [r10, r11]; exact a8
theorem h7_recI (h : kInv sh rm im R S H P T) (hA : gAll R S H P T) (hW' : gW S') (k1 : kAt im2 1 S') (k47 : kAt im2 47 S) (e2 : ∀ a, (139 ≤ a ∧ a < 371) ∨ a = 0 ∨ a = 372 → im2 a = im a) (e371 : im2 371 1 = im 371 1) (hV : cs_in V) (h0 : 0 ≤ V) :
    ∃ im3 rm3, cs_Det iX7_recorded [cs_R 0, .inl V] (sh, im2, rm) (some (.inl V)) (sh, im3, rm3) ∧ kInv sh rm3 im3 (cs_u1 R 3 (gRecN (R 3))) S' (gRecH H S (R 3)) P T ∧ ∀ a, 371 ≤ a → im3 a = im2 a := by
  obtain ⟨h1, ⟨Pm, h2, h3⟩, h4, h5, ⟨h185, h06, h07, h08, h371⟩, h7⟩ := h
  obtain ⟨⟨a1, a2⟩, a3, a4, a5, a6, a7, a8, a9⟩ := hA
  obtain ⟨n, hn⟩ : ∃ n : Nat, R 3 = n := ⟨(R 3).toNat, by omega⟩
  have hH2 : kHi im2 Pm H n := fun i hi => by
    have := (h2.1 i (by omega)).2
    exact kRel_cells (h3 i (by omega)) (a4 i (by omega)).1.1 (fun d hd => e2 _ (by omega))
  obtain ⟨im3, rm3, P3, c1, c2, c3, c4, c5, c6⟩ := h7_recorded (im := im2) h1 h2 (n := n) (by rw [e2 185 (by omega), h185, hn]) (by omega) hH2 (fun i hi => (a4 i (by omega)).1.1) k47 a1.1 V hV
  rw [if_pos h0, if_pos h0] at c3
  rw [if_pos h0] at c5
  have e : ∀ k, ¬ k = 3 → cs_u1 R 3 (gRecN (R 3)) k = R k := fun k hk => cs_u1_ne hk
  refine ⟨im3, rm3, c6, ⟨c1, ⟨P3, c2, ?_⟩, kRel_cells k1 hW' (fun d hd => c4 _ (by omega)), fun z => ?_, ?_, fun k hk => ?_⟩, fun a ha => c4 a (by omega)⟩
  · rw [cs_u1_at, hn]; exact c3
  · rw [e 5 (by decide)] at z
    exact kRel_cells (h5 z) (a6 z).1.1 (fun d hd => by
      show im3 (139 + d) = im (139 + d)
      rw [c4 _ (by omega), e2 _ (by omega)])
  · rw [c5, e 5 (by decide), e 7 (by decide), e 8 (by decide), e 9 (by decide), cs_u1_at, c4 0 (by omega), c4 371 (by omega), e2 0 (by omega), e371, hn]
    exact ⟨rfl, h06, h07, h08, h371⟩
  · rw [c4 372 (by omega), e2 372 (by omega)]; exact h7 k hk
/-- readAll from its start -/
theorem t6_all (hL : cs_LB sh rm) (hx : gTx T L) {e f g : Int} {N : (Nat → Int) × Int × (Nat → Int)} (hl : im 371 1 = L) (hT : ∀ j, j < 60 → im 372 j = T j) (hN : gRd false R T L 61 0 0 e f g S = N) :
    ∃ im', (∀ a, a < 371 ∨ a = 372 ∨ a = 373 ∨ 394 ≤ a → im' a = im a) ∧ (∀ j, ¬ j = 3 → ¬ j = 4 → im' 371 j = im 371 j) ∧ (¬ N.1 13 = 0 → im' 371 4 = N.1 12) ∧
      (N.1 13 = 0 → ∃ r : Nat, N.2.1 = (r : Int) ∧ im' 371 3 = (r : Int) ∧ r ≤ 20 ∧ kPs T L (fun j => im' (374 + j)) r 0 0) ∧
      cs_Det iX6_readAll [cs_R 371] (sh, im, rm) (some (.inl (if N.1 13 = 0 then 1 else 0))) (sh, im', rm) := by
  have hx1 := hx.1
  obtain ⟨⟨hs0, hs185, hs186, hs371, hs372, hs373⟩, -⟩ := id hL
  have ob6 : ∀ {im rm k}, k < 5 → cs_ob (sh, im, rm) 371 6 k = True := fun hk => cs_ob_of hs371 hk
  obtain ⟨im0, him0⟩ : ∃ r, cs_us im 371 (cs_u1 (cs_u1 (im 371) 4 0) 3 0) = r := ⟨_, rfl⟩
  have e371 : im0 371 = cs_u1 (cs_u1 (im 371) 4 0) 3 0 := by rw [← him0, cs_us_at]
  have eo : ∀ a, ¬ a = 371 → im0 a = im a := fun a ha => by rw [← him0, cs_us_ne ha]
  obtain ⟨im', b1, b2, b3, b4, b5, b6⟩ := l6_all (N := N) hL hx 61 0 0 e f g im0 (by rw [e371, cs_u1_ne (by decide), cs_u1_ne (by decide)]; exact hl) (fun j hj => by rw [eo 372 (by decide)]; exact hT j hj) (by rw [e371, cs_u1_at]; rfl) (by rw [e371, cs_u1_ne (by decide), cs_u1_at]) hN (by omega) (by omega) (by omega)
  refine ⟨im', fun a ha => by rw [b1 a ha, eo a (by omega)], fun j h1 h2 => by rw [b2 j h1 h2, e371, cs_u1_ne h1, cs_u1_ne h2], b4, fun y => ?_, ?_⟩
  · obtain ⟨r, d1, d2, d3, d4⟩ := b5 y
    rw [Nat.zero_add] at d1 d2 d3
    exact ⟨r, d1, d2, d3, d4⟩
  · refine cs_run0 mX6_readAll kX6_readAll zX6_readAll rfl rfl 12 (fun sc o => ?_)
    try simp (disch := omega) only [↓cs_pad0, ↓cs_pad1, ↓cs_pad2, ↓cs_q_iconst, ↓cs_q_bipush, ↓cs_q_sipush, ↓cs_q_ldc, ↓cs_q_fall, ↓cs_q_stop, ↓cs_q_iload_n0, ↓cs_q_aload_n0, ↓cs_q_istore_n0, ↓cs_q_astore_n0, ↓cs_q_iinc0, ↓cs_q_iload_n1, ↓cs_q_aload_n1, ↓cs_q_istore_n1, ↓cs_q_astore_n1, ↓cs_q_iinc1, ↓cs_q_iload_n2, ↓cs_q_aload_n2, ↓cs_q_istore_n2, ↓cs_q_astore_n2, ↓cs_q_iinc2, ↓cs_q_iload_n3, ↓cs_q_aload_n3, ↓cs_q_istore_n3, ↓cs_q_astore_n3, ↓cs_q_iinc3, ↓cs_q_iload4, ↓cs_q_aload4, ↓cs_q_istore4, ↓cs_q_astore4, ↓cs_q_iinc4, ↓cs_q_iload5, ↓cs_q_aload5, ↓cs_q_istore5, ↓cs_q_astore5, ↓cs_q_iinc5, ↓cs_q_iload6, ↓cs_q_aload6, ↓cs_q_istore6, ↓cs_q_astore6, ↓cs_q_iinc6, ↓cs_q_iload7, ↓cs_q_aload7, ↓cs_q_istore7, ↓cs_q_astore7, ↓cs_q_iinc7, ↓cs_q_aload_nT, ↓cs_q_iadd, ↓cs_q_isub, ↓cs_q_imul, ↓cs_q_iand, ↓cs_q_ior, ↓cs_q_ishl, ↓cs_q_i2c, ↓cs_q_dup, ↓cs_q_pop, ↓cs_q_dup2, ↓cs_q_goto, ↓cs_q_if_eq, ↓cs_q_if_ne, ↓cs_q_if_lt, ↓cs_q_if_ge, ↓cs_q_if_gt, ↓cs_q_if_le, ↓cs_q_icmp_eq, ↓cs_q_icmp_ne, ↓cs_q_icmp_lt, ↓cs_q_icmp_ge, ↓cs_q_icmp_gt, ↓cs_q_icmp_le, ↓cs_q_table, ↓cs_q_lookup, ↓cs_q_getI, ↓cs_q_getR, ↓cs_q_putI, ↓cs_q_putZ, ↓cs_q_putR, ↓cs_q_gets, ↓cs_q_iald, ↓cs_q_taload, ↓cs_q_cald, ↓cs_q_iast, ↓cs_q_cast, ↓cs_q_aald, ↓cs_q_aast, ↓cs_q_tlen, ↓cs_q_alen, ↓cs_q_new, ↓cs_q_newa, ↓cs_q_anew, ↓cs_q_virt0, ↓cs_q_stat00, ↓cs_q_stat10, ↓cs_q_virt1, ↓cs_q_stat01, ↓cs_q_stat11, ↓cs_q_virt2, ↓cs_q_stat02, ↓cs_q_stat12, ↓cs_q_virt3, ↓cs_q_stat03, ↓cs_q_stat13, ↓cs_q_virt4, ↓cs_q_stat04, ↓cs_q_stat14, ↓cs_q_oinit, ↓cs_q_spec, ↓cs_q_max, ↓cs_q_min, ↓cs_q_copy, ↓cs_q_iret, ↓cs_q_zret, ↓cs_q_aret, ↓cs_q_vret, ↓cs_q_J, ↓cs_q_l8_0, ↓cs_q_l8_1, ↓cs_q_l8_2, ↓cs_q_l8_3, ↓cs_q_l8_4, ↓cs_q_l8_5, ↓cs_q_l8_6, rX6_readAll, qX6_readAll_0, qX6_readAll_1, qX6_readAll_2, qX6_readAll_3, qX6_readAll_4, qX6_readAll_5, true_and, and_true, true_or, or_true, Option.isSome_some, Option.getD_some, cs_bz, cs_bn, cs_bi, cs_bo, not_false_eq_true, not_true_eq_false, true_implies, false_implies, implies_true, Decidable.not_not, cs_em, cs_sw_c, cs_sw_n, false_or, or_false, false_and, and_false, cs_inT, Int.toNat_natCast, cs_tn0, cs_tn01, cs_tn1, cs_tn6, cs_tn11, cs_tn16, cs_tn21, cs_tn154, Int.reduceToNat, Int.reduceAdd, Int.reduceSub, Int.reduceNeg, Int.reduceLT, Int.reduceLE, Int.reduceEq, Nat.reduceAdd, ob6, cs_u2_us, cs_us_us, cs_us_at, him0]
    exact b6 sc o _ ⟨rfl, rfl⟩
/-- the reference's row behind perform: what stays -/
theorem gRd_keep {D : Bool} {e f g : Int} {N : (Nat → Int) × Int × (Nat → Int)} (hx : gTx T L) (hN : gRd D R T L 61 0 0 e f g S = N) (hy : gWy e f g) (hV : D = true → gV S) : (∀ k, k < 12 → N.1 k = R k) ∧ gWy (N.1 16) (N.1 17) (N.1 18) := by
  have hx1 := hx.1
  obtain ⟨r1, r2, r3, r4, r5, r6, r7, r8, r9⟩ := gRd_ok D hx 61 hN (by omega) ⟨by decide, hx1.1⟩ hy hV
  refine ⟨fun k hk => ?_, r4⟩
  rw [r1]
  unfold cs_8
  rw [if_neg (by omega), if_neg (by omega), if_neg (by omega), if_neg (by omega), if_neg (by omega), if_neg (by omega), if_neg (by omega), if_neg (by omega)]
theorem s_perform (h : kLI sh rm im) : kStep sh rm im iX7_perform iX8_perform [] := by
  have h' := h
  obtain ⟨hi, hA⟩ := h
  have hA' := hA
  have hi' := hi
  obtain ⟨⟨a1, a2⟩, a3, a4, a5, a6, a7, a8, a9⟩ := hA
  obtain ⟨hL, ⟨Pm, hP, hH⟩, h4, h5, ⟨i1, i2, i3, i4, i5⟩, i6⟩ := hi
  have hL' := hL
  obtain ⟨⟨hs0, hs185, hs186, hs371, hs372, hs373⟩, ⟨r00, r01, r02, r03, r04, r05, r185, r371, r3712⟩, ⟨c1, c2, c3, c4, c5⟩, hth, hm⟩ := hL
  have ob : ∀ {im rm k}, k < 9 → cs_ob (sh, im, rm) 0 7 k = True := fun hk => cs_ob_of hs0 hk
  have ob6 : ∀ {im rm k}, k < 5 → cs_ob (sh, im, rm) 371 6 k = True := fun hk => cs_ob_of hs371 hk
  have rc6 : ∀ {im rm}, cs_rc (sh, im, rm) 371 6 = True := cs_rc_of hs371
  have rc1 : ∀ {im rm}, cs_rc (sh, im, rm) 1 1 = True := cs_rc_of c1.1.1
  have rc47 : ∀ {im rm}, cs_rc (sh, im, rm) 47 1 = True := cs_rc_of c2.1.1
  obtain ⟨R, hR⟩ : ∃ R, im 394 = R := ⟨_, rfl⟩
  obtain ⟨S, hS⟩ : ∃ S, im 395 = S := ⟨_, rfl⟩
  obtain ⟨T, hT⟩ : ∃ T, im 399 = T := ⟨_, rfl⟩
  rw [hR, hS, hT] at hi' hA'
  rw [hR] at a3 a4 a5 a6 a7 a8 a9 i1 i2 i3 i4 i5 hH h5
  rw [hS] at a1 a2 h4
  rw [hT] at a7 i6
  have hself : ∀ im1 : Nat → Nat → Int, (∀ a, 394 ≤ a → im1 a = im a) → cs_3 im1 394 (cs_8 R (R 12) (R 13) (R 14) (R 15) (R 16) (R 17) (R 18) (R 19)) S (im1 (394 + 2)) = im1 := fun im1 e => by
    have := cs_3_self (im := im1) (m := 394)
    rw [e 394 (by decide), e (394 + 1) (by decide), hR, show im (394 + 1) = S from hS] at this
    rw [cs_8_self]
    exact this
  obtain ⟨N, hN⟩ : ∃ N, gRd false R T (R 7) 61 0 0 (R 16) (R 17) (R 18) S = N := ⟨_, rfl⟩
  obtain ⟨n1, n2⟩ := gRd_keep a7 hN a9 (fun q => by cases q)
  obtain ⟨im1, b1, b2, b3, b4, b5⟩ := t6_all (rm := rm) hL' a7 i5 i6 hN
  have hx3 : (N.1 13 = 0 ∨ N.1 13 = 1) := (gRd_ok false a7 61 hN (by have := a7.1; omega) ⟨by decide, a7.1.1⟩ a9 (fun q => by cases q)).2.2.1
  by_cases hb : N.1 13 = 0
  · rw [if_pos hb] at b5
    obtain ⟨r, d1, d2, d3, d4⟩ := b4 hb
    have h41 : kAt im1 1 S := kRel_cells h4 a1.1 (fun d hd => b1 _ (by omega))
    obtain ⟨im2, g1, g2, g3⟩ := h1_copy (rm := rm) c2 c1 (by omega) h41 a1.1
    have h42 : kAt im2 1 S := kAt_fr h41 a1.1 g2 (by omega)
    obtain ⟨N', hN'⟩ : ∃ N', gRd true R T (R 7) 61 0 0 (N.1 16) (N.1 17) (N.1 18) S = N' := ⟨_, rfl⟩
    obtain ⟨m1, m2⟩ := gRd_keep a7 hN' n2 (fun _ => a1)
    have hgV := (gRd_ok true a7 61 hN' (by have := a7.1; omega) ⟨by decide, a7.1.1⟩ n2 (fun _ => a1)).2.2.2.2.2.2.1 rfl
    obtain ⟨p1, p2⟩ := l7_perf (n := r) (S0 := S) hL' a7 d3 a1.1 r 61 0 0 (N.1 16) (N.1 17) (N.1 18) S im2 (kPs_cong r 0 0 (fun j hj => by
      show im2 (374 + j) = im1 (374 + j)
      exact g2 _ (by omega)) d4) (by omega) (by rw [g2 371 (by omega)]; exact d2) h42 a1 a2 g1 hN' (by have := a7.1; omega) ⟨by decide, a7.1.1⟩ n2
    by_cases hs : N'.1 19 = 0
    · obtain ⟨q1, q2, im3, q3, q4, q5⟩ := p1 hs
      have e3 : ∀ a, (139 ≤ a ∧ a < 371) ∨ a = 0 ∨ a = 372 ∨ 394 ≤ a → im3 a = im a := fun a ha => by rw [q4 a (by omega), g2 a (by omega), b1 a (by omega)]
      obtain ⟨im4, rm4, t1, t2, t3⟩ := h7_recI (V := (r : Int)) hi' hA' hgV.1 q3 (kAt_fr g1 a1.1 q4 (by omega)) (fun a ha => e3 a (by omega)) (by rw [q4 371 (by omega), g2 371 (by omega), b2 1 (by decide) (by decide)]) ⟨by omega, by omega⟩ (by omega)
      have e4 : ∀ a, 394 ≤ a → im4 a = im a := fun a ha => by rw [t3 a (by omega), e3 a (by omega)]
      have hm4 := t2.1.2.2.2.2
      have hr := t8_perform3 (im := im4) (rm := rm4) (m := 394) (Y := im4 (394 + 2)) (S := S) (a := R 12) (b := R 13) (c := R 14) (d := R 15) (h := R 19) hm4 (by rw [e4 (394 + 5) (by omega)]; exact hT) rfl a7 a9 a8.1 a8.2 a3 a1 hN hb hN' hs
      rw [hself im4 e4, q1] at hr
      refine ⟨_, im4, rm4, _, ?_, hr, ?_⟩
      · refine cs_run0 mX7_perform kX7_perform zX7_perform rfl rfl 12 (fun sc o => ?_)
        try simp (disch := omega) only [↓cs_pad0, ↓cs_pad1, ↓cs_pad2, ↓cs_q_iconst, ↓cs_q_bipush, ↓cs_q_sipush, ↓cs_q_ldc, ↓cs_q_fall, ↓cs_q_stop, ↓cs_q_iload_n0, ↓cs_q_aload_n0, ↓cs_q_istore_n0, ↓cs_q_astore_n0, ↓cs_q_iinc0, ↓cs_q_iload_n1, ↓cs_q_aload_n1, ↓cs_q_istore_n1, ↓cs_q_astore_n1, ↓cs_q_iinc1, ↓cs_q_iload_n2, ↓cs_q_aload_n2, ↓cs_q_istore_n2, ↓cs_q_astore_n2, ↓cs_q_iinc2, ↓cs_q_iload_n3, ↓cs_q_aload_n3, ↓cs_q_istore_n3, ↓cs_q_astore_n3, ↓cs_q_iinc3, ↓cs_q_iload4, ↓cs_q_aload4, ↓cs_q_istore4, ↓cs_q_astore4, ↓cs_q_iinc4, ↓cs_q_iload5, ↓cs_q_aload5, ↓cs_q_istore5, ↓cs_q_astore5, ↓cs_q_iinc5, ↓cs_q_iload6, ↓cs_q_aload6, ↓cs_q_istore6, ↓cs_q_astore6, ↓cs_q_iinc6, ↓cs_q_iload7, ↓cs_q_aload7, ↓cs_q_istore7, ↓cs_q_astore7, ↓cs_q_iinc7, ↓cs_q_aload_nT, ↓cs_q_iadd, ↓cs_q_isub, ↓cs_q_imul, ↓cs_q_iand, ↓cs_q_ior, ↓cs_q_ishl, ↓cs_q_i2c, ↓cs_q_dup, ↓cs_q_pop, ↓cs_q_dup2, ↓cs_q_goto, ↓cs_q_if_eq, ↓cs_q_if_ne, ↓cs_q_if_lt, ↓cs_q_if_ge, ↓cs_q_if_gt, ↓cs_q_if_le, ↓cs_q_icmp_eq, ↓cs_q_icmp_ne, ↓cs_q_icmp_lt, ↓cs_q_icmp_ge, ↓cs_q_icmp_gt, ↓cs_q_icmp_le, ↓cs_q_table, ↓cs_q_lookup, ↓cs_q_getI, ↓cs_q_getR, ↓cs_q_putI, ↓cs_q_putZ, ↓cs_q_putR, ↓cs_q_gets, ↓cs_q_iald, ↓cs_q_taload, ↓cs_q_cald, ↓cs_q_iast, ↓cs_q_cast, ↓cs_q_aald, ↓cs_q_aast, ↓cs_q_tlen, ↓cs_q_alen, ↓cs_q_new, ↓cs_q_newa, ↓cs_q_anew, ↓cs_q_virt0, ↓cs_q_stat00, ↓cs_q_stat10, ↓cs_q_virt1, ↓cs_q_stat01, ↓cs_q_stat11, ↓cs_q_virt2, ↓cs_q_stat02, ↓cs_q_stat12, ↓cs_q_virt3, ↓cs_q_stat03, ↓cs_q_stat13, ↓cs_q_virt4, ↓cs_q_stat04, ↓cs_q_stat14, ↓cs_q_oinit, ↓cs_q_spec, ↓cs_q_max, ↓cs_q_min, ↓cs_q_copy, ↓cs_q_iret, ↓cs_q_zret, ↓cs_q_aret, ↓cs_q_vret, ↓cs_q_J, ↓cs_q_l8_0, ↓cs_q_l8_1, ↓cs_q_l8_2, ↓cs_q_l8_3, ↓cs_q_l8_4, ↓cs_q_l8_5, ↓cs_q_l8_6, rX7_perform, qX7_perform_0, qX7_perform_1, qX7_perform_2, qX7_perform_3, qX7_perform_4, qX7_perform_5, true_and, and_true, true_or, or_true, Option.isSome_some, Option.getD_some, cs_bz, cs_bn, cs_bi, cs_bo, not_false_eq_true, not_true_eq_false, true_implies, false_implies, implies_true, Decidable.not_not, cs_em, cs_sw_c, cs_sw_n, false_or, or_false, false_and, and_false, cs_inT, Int.toNat_natCast, cs_tn0, cs_tn01, cs_tn1, cs_tn6, cs_tn11, cs_tn16, cs_tn21, cs_tn154, Int.reduceToNat, Int.reduceAdd, Int.reduceSub, Int.reduceNeg, Int.reduceLT, Int.reduceLE, Int.reduceEq, Nat.reduceAdd, ob, ob6, rc6, r05]
        refine cs_goI b5 ?_
        try simp (disch := omega) only [↓cs_pad0, ↓cs_pad1, ↓cs_pad2, ↓cs_q_iconst, ↓cs_q_bipush, ↓cs_q_sipush, ↓cs_q_ldc, ↓cs_q_fall, ↓cs_q_stop, ↓cs_q_iload_n0, ↓cs_q_aload_n0, ↓cs_q_istore_n0, ↓cs_q_astore_n0, ↓cs_q_iinc0, ↓cs_q_iload_n1, ↓cs_q_aload_n1, ↓cs_q_istore_n1, ↓cs_q_astore_n1, ↓cs_q_iinc1, ↓cs_q_iload_n2, ↓cs_q_aload_n2, ↓cs_q_istore_n2, ↓cs_q_astore_n2, ↓cs_q_iinc2, ↓cs_q_iload_n3, ↓cs_q_aload_n3, ↓cs_q_istore_n3, ↓cs_q_astore_n3, ↓cs_q_iinc3, ↓cs_q_iload4, ↓cs_q_aload4, ↓cs_q_istore4, ↓cs_q_astore4, ↓cs_q_iinc4, ↓cs_q_iload5, ↓cs_q_aload5, ↓cs_q_istore5, ↓cs_q_astore5, ↓cs_q_iinc5, ↓cs_q_iload6, ↓cs_q_aload6, ↓cs_q_istore6, ↓cs_q_astore6, ↓cs_q_iinc6, ↓cs_q_iload7, ↓cs_q_aload7, ↓cs_q_istore7, ↓cs_q_astore7, ↓cs_q_iinc7, ↓cs_q_aload_nT, ↓cs_q_iadd, ↓cs_q_isub, ↓cs_q_imul, ↓cs_q_iand, ↓cs_q_ior, ↓cs_q_ishl, ↓cs_q_i2c, ↓cs_q_dup, ↓cs_q_pop, ↓cs_q_dup2, ↓cs_q_goto, ↓cs_q_if_eq, ↓cs_q_if_ne, ↓cs_q_if_lt, ↓cs_q_if_ge, ↓cs_q_if_gt, ↓cs_q_if_le, ↓cs_q_icmp_eq, ↓cs_q_icmp_ne, ↓cs_q_icmp_lt, ↓cs_q_icmp_ge, ↓cs_q_icmp_gt, ↓cs_q_icmp_le, ↓cs_q_table, ↓cs_q_lookup, ↓cs_q_getI, ↓cs_q_getR, ↓cs_q_putI, ↓cs_q_putZ, ↓cs_q_putR, ↓cs_q_gets, ↓cs_q_iald, ↓cs_q_taload, ↓cs_q_cald, ↓cs_q_iast, ↓cs_q_cast, ↓cs_q_aald, ↓cs_q_aast, ↓cs_q_tlen, ↓cs_q_alen, ↓cs_q_new, ↓cs_q_newa, ↓cs_q_anew, ↓cs_q_virt0, ↓cs_q_stat00, ↓cs_q_stat10, ↓cs_q_virt1, ↓cs_q_stat01, ↓cs_q_stat11, ↓cs_q_virt2, ↓cs_q_stat02, ↓cs_q_stat12, ↓cs_q_virt3, ↓cs_q_stat03, ↓cs_q_stat13, ↓cs_q_virt4, ↓cs_q_stat04, ↓cs_q_stat14, ↓cs_q_oinit, ↓cs_q_spec, ↓cs_q_max, ↓cs_q_min, ↓cs_q_copy, ↓cs_q_iret, ↓cs_q_zret, ↓cs_q_aret, ↓cs_q_vret, ↓cs_q_J, ↓cs_q_l8_0, ↓cs_q_l8_1, ↓cs_q_l8_2, ↓cs_q_l8_3, ↓cs_q_l8_4, ↓cs_q_l8_5, ↓cs_q_l8_6, rX7_perform, qX7_perform_0, qX7_perform_1, qX7_perform_2, qX7_perform_3, qX7_perform_4, qX7_perform_5, true_and, and_true, true_or, or_true, Option.isSome_some, Option.getD_some, cs_bz, cs_bn, cs_bi, cs_bo, not_false_eq_true, not_true_eq_false, true_implies, false_implies, implies_true, Decidable.not_not, cs_em, cs_sw_c, cs_sw_n, false_or, or_false, false_and, and_false, cs_inT, Int.toNat_natCast, cs_tn0, cs_tn01, cs_tn1, cs_tn6, cs_tn11, cs_tn16, cs_tn21, cs_tn154, Int.reduceToNat, Int.reduceAdd, Int.reduceSub, Int.reduceNeg, Int.reduceLT, Int.reduceLE, Int.reduceEq, Nat.reduceAdd, ob, rc1, rc47, r00, r01]
        refine cs_goV g3 ?_
        try simp (disch := omega) only [↓cs_pad0, ↓cs_pad1, ↓cs_pad2, ↓cs_q_iconst, ↓cs_q_bipush, ↓cs_q_sipush, ↓cs_q_ldc, ↓cs_q_fall, ↓cs_q_stop, ↓cs_q_iload_n0, ↓cs_q_aload_n0, ↓cs_q_istore_n0, ↓cs_q_astore_n0, ↓cs_q_iinc0, ↓cs_q_iload_n1, ↓cs_q_aload_n1, ↓cs_q_istore_n1, ↓cs_q_astore_n1, ↓cs_q_iinc1, ↓cs_q_iload_n2, ↓cs_q_aload_n2, ↓cs_q_istore_n2, ↓cs_q_astore_n2, ↓cs_q_iinc2, ↓cs_q_iload_n3, ↓cs_q_aload_n3, ↓cs_q_istore_n3, ↓cs_q_astore_n3, ↓cs_q_iinc3, ↓cs_q_iload4, ↓cs_q_aload4, ↓cs_q_istore4, ↓cs_q_astore4, ↓cs_q_iinc4, ↓cs_q_iload5, ↓cs_q_aload5, ↓cs_q_istore5, ↓cs_q_astore5, ↓cs_q_iinc5, ↓cs_q_iload6, ↓cs_q_aload6, ↓cs_q_istore6, ↓cs_q_astore6, ↓cs_q_iinc6, ↓cs_q_iload7, ↓cs_q_aload7, ↓cs_q_istore7, ↓cs_q_astore7, ↓cs_q_iinc7, ↓cs_q_aload_nT, ↓cs_q_iadd, ↓cs_q_isub, ↓cs_q_imul, ↓cs_q_iand, ↓cs_q_ior, ↓cs_q_ishl, ↓cs_q_i2c, ↓cs_q_dup, ↓cs_q_pop, ↓cs_q_dup2, ↓cs_q_goto, ↓cs_q_if_eq, ↓cs_q_if_ne, ↓cs_q_if_lt, ↓cs_q_if_ge, ↓cs_q_if_gt, ↓cs_q_if_le, ↓cs_q_icmp_eq, ↓cs_q_icmp_ne, ↓cs_q_icmp_lt, ↓cs_q_icmp_ge, ↓cs_q_icmp_gt, ↓cs_q_icmp_le, ↓cs_q_table, ↓cs_q_lookup, ↓cs_q_getI, ↓cs_q_getR, ↓cs_q_putI, ↓cs_q_putZ, ↓cs_q_putR, ↓cs_q_gets, ↓cs_q_iald, ↓cs_q_taload, ↓cs_q_cald, ↓cs_q_iast, ↓cs_q_cast, ↓cs_q_aald, ↓cs_q_aast, ↓cs_q_tlen, ↓cs_q_alen, ↓cs_q_new, ↓cs_q_newa, ↓cs_q_anew, ↓cs_q_virt0, ↓cs_q_stat00, ↓cs_q_stat10, ↓cs_q_virt1, ↓cs_q_stat01, ↓cs_q_stat11, ↓cs_q_virt2, ↓cs_q_stat02, ↓cs_q_stat12, ↓cs_q_virt3, ↓cs_q_stat03, ↓cs_q_stat13, ↓cs_q_virt4, ↓cs_q_stat04, ↓cs_q_stat14, ↓cs_q_oinit, ↓cs_q_spec, ↓cs_q_max, ↓cs_q_min, ↓cs_q_copy, ↓cs_q_iret, ↓cs_q_zret, ↓cs_q_aret, ↓cs_q_vret, ↓cs_q_J, ↓cs_q_l8_0, ↓cs_q_l8_1, ↓cs_q_l8_2, ↓cs_q_l8_3, ↓cs_q_l8_4, ↓cs_q_l8_5, ↓cs_q_l8_6, rX7_perform, qX7_perform_0, qX7_perform_1, qX7_perform_2, qX7_perform_3, qX7_perform_4, qX7_perform_5, true_and, and_true, true_or, or_true, Option.isSome_some, Option.getD_some, cs_bz, cs_bn, cs_bi, cs_bo, not_false_eq_true, not_true_eq_false, true_implies, false_implies, implies_true, Decidable.not_not, cs_em, cs_sw_c, cs_sw_n, false_or, or_false, false_and, and_false, cs_inT, Int.toNat_natCast, cs_tn0, cs_tn01, cs_tn1, cs_tn6, cs_tn11, cs_tn16, cs_tn21, cs_tn154, Int.reduceToNat, Int.reduceAdd, Int.reduceSub, Int.reduceNeg, Int.reduceLT, Int.reduceLE, Int.reduceEq, Nat.reduceAdd]
        exact q5 sc o _ im4 rm4 cs_N t1 ⟨rfl, rfl⟩
      · obtain ⟨im5, him5⟩ : ∃ x, cs_3 (cs_us im4 (394 + 3) (gRecH (im4 (394 + 3)) S (R 3))) 394 (cs_u1 N'.1 3 (gRecN (R 3))) N'.2.2 (gMix S (im4 (394 + 2))) = x := ⟨_, rfl⟩
        rw [him5]
        have f394 : im5 394 = cs_u1 N'.1 3 (gRecN (R 3)) := by rw [← him5]; exact cs_3_0
        have f395 : im5 395 = N'.2.2 := by rw [← him5]; exact cs_3_1
        have f397 : im5 397 = gRecH (im 397) S (R 3) := by
          rw [← him5, cs_3_o (by decide) (by decide) (by decide), show (397 : Nat) = 394 + 3 from rfl, cs_us_at, e4 (394 + 3) (by decide)]
        have fo : ∀ a, ¬ a = 394 → ¬ a = 395 → ¬ a = 396 → ¬ a = 397 → im5 a = im4 a := fun a h1 h2 h3 h4 => by rw [← him5, cs_3_o h1 h2 h3, cs_us_ne h4]
        have hA2 := gAll_rec hA' hgV q2
        have ek : ∀ k, ¬ k = 3 → k < 12 → cs_u1 N'.1 3 (gRecN (R 3)) k = cs_u1 R 3 (gRecN (R 3)) k := fun k h1 h2 => by rw [cs_u1_ne h1, cs_u1_ne h1]; exact m1 k h2
        have e33 : cs_u1 N'.1 3 (gRecN (R 3)) 3 = cs_u1 R 3 (gRecN (R 3)) 3 := by rw [cs_u1_at, cs_u1_at]
        unfold kLI
        rw [f394, f395, f397, fo 398 (by decide) (by decide) (by decide) (by decide), fo 399 (by decide) (by decide) (by decide) (by decide), e4 398 (by decide), e4 399 (by decide), hT]
        refine ⟨kInv_rows (kInv_fr t2 hA2 (fun a ha => fo a (by omega) (by omega) (by omega) (by omega))) hA2 e33 (ek 5 (by decide) (by decide)) (ek 7 (by decide) (by decide)) (ek 8 (by decide) (by decide)) (ek 9 (by decide) (by decide)) (fun _ _ => rfl), gAll_R hA2 e33 (ek 5 (by decide) (by decide)) (ek 7 (by decide) (by decide)) (ek 10 (by decide) (by decide)) (ek 11 (by decide) (by decide)) ?_⟩
        rw [cs_u1_ne (by decide), cs_u1_ne (by decide), cs_u1_ne (by decide)]
        exact m2
    · obtain ⟨im3, q1, q2, q3, q4⟩ := p2 hs
      have e3 : ∀ a, (93 ≤ a ∧ a < 371) ∨ a = 372 ∨ 394 ≤ a → im3 a = im a := fun a ha => by rw [q2 a (by omega), g2 a (by omega), b1 a (by omega)]
      have e30 : im3 0 = cs_u1 (cs_u1 (im 0) 7 N'.2.1) 8 (N'.1 19) := by rw [q3, g2 0 (by omega), b1 0 (by omega)]
      have e371 : im3 371 1 = im 371 1 := by rw [q2 371 (by omega), g2 371 (by omega), b2 1 (by decide) (by decide)]
      have hr := t8_perform2 (im := im3) (rm := rm) (m := 394) (Y := im3 (394 + 2)) (S := S) (a := R 12) (b := R 13) (c := R 14) (d := R 15) (h := R 19) hm (by rw [e3 (394 + 5) (by omega)]; exact hT) rfl a7 a9 a8.1 a8.2 a1 hN hb hN' hs
      rw [hself im3 (fun a ha => e3 a (by omega))] at hr
      refine ⟨_, im3, rm, _, ?_, hr, ?_⟩
      · refine cs_run0 mX7_perform kX7_perform zX7_perform rfl rfl 12 (fun sc o => ?_)
        try simp (disch := omega) only [↓cs_pad0, ↓cs_pad1, ↓cs_pad2, ↓cs_q_iconst, ↓cs_q_bipush, ↓cs_q_sipush, ↓cs_q_ldc, ↓cs_q_fall, ↓cs_q_stop, ↓cs_q_iload_n0, ↓cs_q_aload_n0, ↓cs_q_istore_n0, ↓cs_q_astore_n0, ↓cs_q_iinc0, ↓cs_q_iload_n1, ↓cs_q_aload_n1, ↓cs_q_istore_n1, ↓cs_q_astore_n1, ↓cs_q_iinc1, ↓cs_q_iload_n2, ↓cs_q_aload_n2, ↓cs_q_istore_n2, ↓cs_q_astore_n2, ↓cs_q_iinc2, ↓cs_q_iload_n3, ↓cs_q_aload_n3, ↓cs_q_istore_n3, ↓cs_q_astore_n3, ↓cs_q_iinc3, ↓cs_q_iload4, ↓cs_q_aload4, ↓cs_q_istore4, ↓cs_q_astore4, ↓cs_q_iinc4, ↓cs_q_iload5, ↓cs_q_aload5, ↓cs_q_istore5, ↓cs_q_astore5, ↓cs_q_iinc5, ↓cs_q_iload6, ↓cs_q_aload6, ↓cs_q_istore6, ↓cs_q_astore6, ↓cs_q_iinc6, ↓cs_q_iload7, ↓cs_q_aload7, ↓cs_q_istore7, ↓cs_q_astore7, ↓cs_q_iinc7, ↓cs_q_aload_nT, ↓cs_q_iadd, ↓cs_q_isub, ↓cs_q_imul, ↓cs_q_iand, ↓cs_q_ior, ↓cs_q_ishl, ↓cs_q_i2c, ↓cs_q_dup, ↓cs_q_pop, ↓cs_q_dup2, ↓cs_q_goto, ↓cs_q_if_eq, ↓cs_q_if_ne, ↓cs_q_if_lt, ↓cs_q_if_ge, ↓cs_q_if_gt, ↓cs_q_if_le, ↓cs_q_icmp_eq, ↓cs_q_icmp_ne, ↓cs_q_icmp_lt, ↓cs_q_icmp_ge, ↓cs_q_icmp_gt, ↓cs_q_icmp_le, ↓cs_q_table, ↓cs_q_lookup, ↓cs_q_getI, ↓cs_q_getR, ↓cs_q_putI, ↓cs_q_putZ, ↓cs_q_putR, ↓cs_q_gets, ↓cs_q_iald, ↓cs_q_taload, ↓cs_q_cald, ↓cs_q_iast, ↓cs_q_cast, ↓cs_q_aald, ↓cs_q_aast, ↓cs_q_tlen, ↓cs_q_alen, ↓cs_q_new, ↓cs_q_newa, ↓cs_q_anew, ↓cs_q_virt0, ↓cs_q_stat00, ↓cs_q_stat10, ↓cs_q_virt1, ↓cs_q_stat01, ↓cs_q_stat11, ↓cs_q_virt2, ↓cs_q_stat02, ↓cs_q_stat12, ↓cs_q_virt3, ↓cs_q_stat03, ↓cs_q_stat13, ↓cs_q_virt4, ↓cs_q_stat04, ↓cs_q_stat14, ↓cs_q_oinit, ↓cs_q_spec, ↓cs_q_max, ↓cs_q_min, ↓cs_q_copy, ↓cs_q_iret, ↓cs_q_zret, ↓cs_q_aret, ↓cs_q_vret, ↓cs_q_J, ↓cs_q_l8_0, ↓cs_q_l8_1, ↓cs_q_l8_2, ↓cs_q_l8_3, ↓cs_q_l8_4, ↓cs_q_l8_5, ↓cs_q_l8_6, rX7_perform, qX7_perform_0, qX7_perform_1, qX7_perform_2, qX7_perform_3, qX7_perform_4, qX7_perform_5, true_and, and_true, true_or, or_true, Option.isSome_some, Option.getD_some, cs_bz, cs_bn, cs_bi, cs_bo, not_false_eq_true, not_true_eq_false, true_implies, false_implies, implies_true, Decidable.not_not, cs_em, cs_sw_c, cs_sw_n, false_or, or_false, false_and, and_false, cs_inT, Int.toNat_natCast, cs_tn0, cs_tn01, cs_tn1, cs_tn6, cs_tn11, cs_tn16, cs_tn21, cs_tn154, Int.reduceToNat, Int.reduceAdd, Int.reduceSub, Int.reduceNeg, Int.reduceLT, Int.reduceLE, Int.reduceEq, Nat.reduceAdd, ob, ob6, rc6, r05]
        refine cs_goI b5 ?_
        try simp (disch := omega) only [↓cs_pad0, ↓cs_pad1, ↓cs_pad2, ↓cs_q_iconst, ↓cs_q_bipush, ↓cs_q_sipush, ↓cs_q_ldc, ↓cs_q_fall, ↓cs_q_stop, ↓cs_q_iload_n0, ↓cs_q_aload_n0, ↓cs_q_istore_n0, ↓cs_q_astore_n0, ↓cs_q_iinc0, ↓cs_q_iload_n1, ↓cs_q_aload_n1, ↓cs_q_istore_n1, ↓cs_q_astore_n1, ↓cs_q_iinc1, ↓cs_q_iload_n2, ↓cs_q_aload_n2, ↓cs_q_istore_n2, ↓cs_q_astore_n2, ↓cs_q_iinc2, ↓cs_q_iload_n3, ↓cs_q_aload_n3, ↓cs_q_istore_n3, ↓cs_q_astore_n3, ↓cs_q_iinc3, ↓cs_q_iload4, ↓cs_q_aload4, ↓cs_q_istore4, ↓cs_q_astore4, ↓cs_q_iinc4, ↓cs_q_iload5, ↓cs_q_aload5, ↓cs_q_istore5, ↓cs_q_astore5, ↓cs_q_iinc5, ↓cs_q_iload6, ↓cs_q_aload6, ↓cs_q_istore6, ↓cs_q_astore6, ↓cs_q_iinc6, ↓cs_q_iload7, ↓cs_q_aload7, ↓cs_q_istore7, ↓cs_q_astore7, ↓cs_q_iinc7, ↓cs_q_aload_nT, ↓cs_q_iadd, ↓cs_q_isub, ↓cs_q_imul, ↓cs_q_iand, ↓cs_q_ior, ↓cs_q_ishl, ↓cs_q_i2c, ↓cs_q_dup, ↓cs_q_pop, ↓cs_q_dup2, ↓cs_q_goto, ↓cs_q_if_eq, ↓cs_q_if_ne, ↓cs_q_if_lt, ↓cs_q_if_ge, ↓cs_q_if_gt, ↓cs_q_if_le, ↓cs_q_icmp_eq, ↓cs_q_icmp_ne, ↓cs_q_icmp_lt, ↓cs_q_icmp_ge, ↓cs_q_icmp_gt, ↓cs_q_icmp_le, ↓cs_q_table, ↓cs_q_lookup, ↓cs_q_getI, ↓cs_q_getR, ↓cs_q_putI, ↓cs_q_putZ, ↓cs_q_putR, ↓cs_q_gets, ↓cs_q_iald, ↓cs_q_taload, ↓cs_q_cald, ↓cs_q_iast, ↓cs_q_cast, ↓cs_q_aald, ↓cs_q_aast, ↓cs_q_tlen, ↓cs_q_alen, ↓cs_q_new, ↓cs_q_newa, ↓cs_q_anew, ↓cs_q_virt0, ↓cs_q_stat00, ↓cs_q_stat10, ↓cs_q_virt1, ↓cs_q_stat01, ↓cs_q_stat11, ↓cs_q_virt2, ↓cs_q_stat02, ↓cs_q_stat12, ↓cs_q_virt3, ↓cs_q_stat03, ↓cs_q_stat13, ↓cs_q_virt4, ↓cs_q_stat04, ↓cs_q_stat14, ↓cs_q_oinit, ↓cs_q_spec, ↓cs_q_max, ↓cs_q_min, ↓cs_q_copy, ↓cs_q_iret, ↓cs_q_zret, ↓cs_q_aret, ↓cs_q_vret, ↓cs_q_J, ↓cs_q_l8_0, ↓cs_q_l8_1, ↓cs_q_l8_2, ↓cs_q_l8_3, ↓cs_q_l8_4, ↓cs_q_l8_5, ↓cs_q_l8_6, rX7_perform, qX7_perform_0, qX7_perform_1, qX7_perform_2, qX7_perform_3, qX7_perform_4, qX7_perform_5, true_and, and_true, true_or, or_true, Option.isSome_some, Option.getD_some, cs_bz, cs_bn, cs_bi, cs_bo, not_false_eq_true, not_true_eq_false, true_implies, false_implies, implies_true, Decidable.not_not, cs_em, cs_sw_c, cs_sw_n, false_or, or_false, false_and, and_false, cs_inT, Int.toNat_natCast, cs_tn0, cs_tn01, cs_tn1, cs_tn6, cs_tn11, cs_tn16, cs_tn21, cs_tn154, Int.reduceToNat, Int.reduceAdd, Int.reduceSub, Int.reduceNeg, Int.reduceLT, Int.reduceLE, Int.reduceEq, Nat.reduceAdd, ob, rc1, rc47, r00, r01]
        refine cs_goV g3 ?_
        try simp (disch := omega) only [↓cs_pad0, ↓cs_pad1, ↓cs_pad2, ↓cs_q_iconst, ↓cs_q_bipush, ↓cs_q_sipush, ↓cs_q_ldc, ↓cs_q_fall, ↓cs_q_stop, ↓cs_q_iload_n0, ↓cs_q_aload_n0, ↓cs_q_istore_n0, ↓cs_q_astore_n0, ↓cs_q_iinc0, ↓cs_q_iload_n1, ↓cs_q_aload_n1, ↓cs_q_istore_n1, ↓cs_q_astore_n1, ↓cs_q_iinc1, ↓cs_q_iload_n2, ↓cs_q_aload_n2, ↓cs_q_istore_n2, ↓cs_q_astore_n2, ↓cs_q_iinc2, ↓cs_q_iload_n3, ↓cs_q_aload_n3, ↓cs_q_istore_n3, ↓cs_q_astore_n3, ↓cs_q_iinc3, ↓cs_q_iload4, ↓cs_q_aload4, ↓cs_q_istore4, ↓cs_q_astore4, ↓cs_q_iinc4, ↓cs_q_iload5, ↓cs_q_aload5, ↓cs_q_istore5, ↓cs_q_astore5, ↓cs_q_iinc5, ↓cs_q_iload6, ↓cs_q_aload6, ↓cs_q_istore6, ↓cs_q_astore6, ↓cs_q_iinc6, ↓cs_q_iload7, ↓cs_q_aload7, ↓cs_q_istore7, ↓cs_q_astore7, ↓cs_q_iinc7, ↓cs_q_aload_nT, ↓cs_q_iadd, ↓cs_q_isub, ↓cs_q_imul, ↓cs_q_iand, ↓cs_q_ior, ↓cs_q_ishl, ↓cs_q_i2c, ↓cs_q_dup, ↓cs_q_pop, ↓cs_q_dup2, ↓cs_q_goto, ↓cs_q_if_eq, ↓cs_q_if_ne, ↓cs_q_if_lt, ↓cs_q_if_ge, ↓cs_q_if_gt, ↓cs_q_if_le, ↓cs_q_icmp_eq, ↓cs_q_icmp_ne, ↓cs_q_icmp_lt, ↓cs_q_icmp_ge, ↓cs_q_icmp_gt, ↓cs_q_icmp_le, ↓cs_q_table, ↓cs_q_lookup, ↓cs_q_getI, ↓cs_q_getR, ↓cs_q_putI, ↓cs_q_putZ, ↓cs_q_putR, ↓cs_q_gets, ↓cs_q_iald, ↓cs_q_taload, ↓cs_q_cald, ↓cs_q_iast, ↓cs_q_cast, ↓cs_q_aald, ↓cs_q_aast, ↓cs_q_tlen, ↓cs_q_alen, ↓cs_q_new, ↓cs_q_newa, ↓cs_q_anew, ↓cs_q_virt0, ↓cs_q_stat00, ↓cs_q_stat10, ↓cs_q_virt1, ↓cs_q_stat01, ↓cs_q_stat11, ↓cs_q_virt2, ↓cs_q_stat02, ↓cs_q_stat12, ↓cs_q_virt3, ↓cs_q_stat03, ↓cs_q_stat13, ↓cs_q_virt4, ↓cs_q_stat04, ↓cs_q_stat14, ↓cs_q_oinit, ↓cs_q_spec, ↓cs_q_max, ↓cs_q_min, ↓cs_q_copy, ↓cs_q_iret, ↓cs_q_zret, ↓cs_q_aret, ↓cs_q_vret, ↓cs_q_J, ↓cs_q_l8_0, ↓cs_q_l8_1, ↓cs_q_l8_2, ↓cs_q_l8_3, ↓cs_q_l8_4, ↓cs_q_l8_5, ↓cs_q_l8_6, rX7_perform, qX7_perform_0, qX7_perform_1, qX7_perform_2, qX7_perform_3, qX7_perform_4, qX7_perform_5, true_and, and_true, true_or, or_true, Option.isSome_some, Option.getD_some, cs_bz, cs_bn, cs_bi, cs_bo, not_false_eq_true, not_true_eq_false, true_implies, false_implies, implies_true, Decidable.not_not, cs_em, cs_sw_c, cs_sw_n, false_or, or_false, false_and, and_false, cs_inT, Int.toNat_natCast, cs_tn0, cs_tn01, cs_tn1, cs_tn6, cs_tn11, cs_tn16, cs_tn21, cs_tn154, Int.reduceToNat, Int.reduceAdd, Int.reduceSub, Int.reduceNeg, Int.reduceLT, Int.reduceLE, Int.reduceEq, Nat.reduceAdd]
        exact q4 sc o _ cs_N ⟨rfl, rfl⟩
      · obtain ⟨R2, hR2⟩ : ∃ x, cs_u1 (cs_u1 N'.1 8 N'.2.1) 9 (N'.1 19) = x := ⟨_, rfl⟩
        have ek : ∀ k, ¬ k = 8 → ¬ k = 9 → k < 12 → R2 k = R k := fun k h1 h2 h3 => by rw [← hR2, cs_u1_ne h2, cs_u1_ne h1]; exact m1 k h3
        have ek2 : ∀ k, 12 ≤ k → R2 k = N'.1 k := fun k h1 => by rw [← hR2, cs_u1_ne (by omega), cs_u1_ne (by omega)]
        have e8 : R2 8 = N'.2.1 := by rw [← hR2, cs_u1_ne (by decide), cs_u1_at]
        have e9 : R2 9 = N'.1 19 := by rw [← hR2, cs_u1_at]
        rw [hR2]
        obtain ⟨im5, him5⟩ : ∃ x, cs_3 im3 394 R2 S (gMix N'.2.2 (im3 (394 + 2))) = x := ⟨_, rfl⟩
        rw [him5]
        have f394 : im5 394 = R2 := by rw [← him5]; exact cs_3_0
        have f395 : im5 395 = S := by rw [← him5]; exact cs_3_1
        have fo : ∀ a, ¬ a = 394 → ¬ a = 395 → ¬ a = 396 → im5 a = im3 a := fun a h1 h2 h3 => by rw [← him5, cs_3_o h1 h2 h3]
        have hA2 : gAll R2 S (im 397) (im 398) T := gAll_R hA' (ek 3 (by decide) (by decide) (by decide)) (ek 5 (by decide) (by decide) (by decide)) (ek 7 (by decide) (by decide) (by decide)) (ek 10 (by decide) (by decide) (by decide)) (ek 11 (by decide) (by decide) (by decide)) (by rw [ek2 16 (by decide), ek2 17 (by decide), ek2 18 (by decide)]; exact m2)
        unfold kLI
        rw [f394, f395, fo 397 (by decide) (by decide) (by decide), fo 398 (by decide) (by decide) (by decide), fo 399 (by decide) (by decide) (by decide), e3 397 (by omega), e3 398 (by omega), e3 399 (by omega), hT]
        refine ⟨⟨hL', ⟨Pm, hP, fun i hi => ?_⟩, kRel_cells q1 a1.1 (fun d hd => fo _ (by omega) (by omega) (by omega)), fun z => ?_, ?_, fun k hk => ?_⟩, hA2⟩
        · rw [ek 3 (by decide) (by decide) (by decide)] at hi
          have := (hP.1 i (by omega)).2
          exact kRel_cells (hH i (by omega)) (a4 i (by omega)).1.1 (fun d hd => by
            show im5 (187 + 46 * Pm i + d) = im (187 + 46 * Pm i + d)
            rw [fo _ (by omega) (by omega) (by omega), e3 _ (by omega)])
        · rw [ek 5 (by decide) (by decide) (by decide)] at z
          exact kRel_cells (h5 z) (a6 z).1.1 (fun d hd => by
            show im5 (139 + d) = im (139 + d)
            rw [fo _ (by omega) (by omega) (by omega), e3 _ (by omega)])
        · rw [ek 3 (by decide) (by decide) (by decide), ek 5 (by decide) (by decide) (by decide), ek 7 (by decide) (by decide) (by decide), e8, e9, fo 185 (by decide) (by decide) (by decide), fo 0 (by decide) (by decide) (by decide), fo 371 (by decide) (by decide) (by decide), e3 185 (by omega), e30, e371, cs_u1_ne (by decide), cs_u1_ne (by decide), cs_u1_ne (by decide), cs_u1_at, cs_u1_at]
          exact ⟨i1, i2, rfl, rfl, i5⟩
        · rw [fo 372 (by decide) (by decide) (by decide), e3 372 (by omega)]; exact i6 k hk
  · have hb1 : N.1 13 = 1 := hx3.resolve_left hb
    rw [if_neg hb] at b5
    have hr := t8_perform1 (im := im1) (rm := rm) (m := 394) (Y := im1 (394 + 2)) (S := S) (a := R 12) (b := R 13) (c := R 14) (d := R 15) (h := R 19) hm (by rw [b1 (394 + 5) (by omega)]; exact hT) rfl a7 a9 hN hb1
    rw [hself im1 (fun a ha => b1 a (by omega))] at hr
    have b3' := b3 hb
    refine ⟨_, im1, rm, _, ?_, hr, ?_⟩
    · refine cs_run0 mX7_perform kX7_perform zX7_perform rfl rfl 12 (fun sc o => ?_)
      try simp (disch := omega) only [↓cs_pad0, ↓cs_pad1, ↓cs_pad2, ↓cs_q_iconst, ↓cs_q_bipush, ↓cs_q_sipush, ↓cs_q_ldc, ↓cs_q_fall, ↓cs_q_stop, ↓cs_q_iload_n0, ↓cs_q_aload_n0, ↓cs_q_istore_n0, ↓cs_q_astore_n0, ↓cs_q_iinc0, ↓cs_q_iload_n1, ↓cs_q_aload_n1, ↓cs_q_istore_n1, ↓cs_q_astore_n1, ↓cs_q_iinc1, ↓cs_q_iload_n2, ↓cs_q_aload_n2, ↓cs_q_istore_n2, ↓cs_q_astore_n2, ↓cs_q_iinc2, ↓cs_q_iload_n3, ↓cs_q_aload_n3, ↓cs_q_istore_n3, ↓cs_q_astore_n3, ↓cs_q_iinc3, ↓cs_q_iload4, ↓cs_q_aload4, ↓cs_q_istore4, ↓cs_q_astore4, ↓cs_q_iinc4, ↓cs_q_iload5, ↓cs_q_aload5, ↓cs_q_istore5, ↓cs_q_astore5, ↓cs_q_iinc5, ↓cs_q_iload6, ↓cs_q_aload6, ↓cs_q_istore6, ↓cs_q_astore6, ↓cs_q_iinc6, ↓cs_q_iload7, ↓cs_q_aload7, ↓cs_q_istore7, ↓cs_q_astore7, ↓cs_q_iinc7, ↓cs_q_aload_nT, ↓cs_q_iadd, ↓cs_q_isub, ↓cs_q_imul, ↓cs_q_iand, ↓cs_q_ior, ↓cs_q_ishl, ↓cs_q_i2c, ↓cs_q_dup, ↓cs_q_pop, ↓cs_q_dup2, ↓cs_q_goto, ↓cs_q_if_eq, ↓cs_q_if_ne, ↓cs_q_if_lt, ↓cs_q_if_ge, ↓cs_q_if_gt, ↓cs_q_if_le, ↓cs_q_icmp_eq, ↓cs_q_icmp_ne, ↓cs_q_icmp_lt, ↓cs_q_icmp_ge, ↓cs_q_icmp_gt, ↓cs_q_icmp_le, ↓cs_q_table, ↓cs_q_lookup, ↓cs_q_getI, ↓cs_q_getR, ↓cs_q_putI, ↓cs_q_putZ, ↓cs_q_putR, ↓cs_q_gets, ↓cs_q_iald, ↓cs_q_taload, ↓cs_q_cald, ↓cs_q_iast, ↓cs_q_cast, ↓cs_q_aald, ↓cs_q_aast, ↓cs_q_tlen, ↓cs_q_alen, ↓cs_q_new, ↓cs_q_newa, ↓cs_q_anew, ↓cs_q_virt0, ↓cs_q_stat00, ↓cs_q_stat10, ↓cs_q_virt1, ↓cs_q_stat01, ↓cs_q_stat11, ↓cs_q_virt2, ↓cs_q_stat02, ↓cs_q_stat12, ↓cs_q_virt3, ↓cs_q_stat03, ↓cs_q_stat13, ↓cs_q_virt4, ↓cs_q_stat04, ↓cs_q_stat14, ↓cs_q_oinit, ↓cs_q_spec, ↓cs_q_max, ↓cs_q_min, ↓cs_q_copy, ↓cs_q_iret, ↓cs_q_zret, ↓cs_q_aret, ↓cs_q_vret, ↓cs_q_J, ↓cs_q_l8_0, ↓cs_q_l8_1, ↓cs_q_l8_2, ↓cs_q_l8_3, ↓cs_q_l8_4, ↓cs_q_l8_5, ↓cs_q_l8_6, rX7_perform, qX7_perform_0, qX7_perform_1, qX7_perform_2, qX7_perform_3, qX7_perform_4, qX7_perform_5, true_and, and_true, true_or, or_true, Option.isSome_some, Option.getD_some, cs_bz, cs_bn, cs_bi, cs_bo, not_false_eq_true, not_true_eq_false, true_implies, false_implies, implies_true, Decidable.not_not, cs_em, cs_sw_c, cs_sw_n, false_or, or_false, false_and, and_false, cs_inT, Int.toNat_natCast, cs_tn0, cs_tn01, cs_tn1, cs_tn6, cs_tn11, cs_tn16, cs_tn21, cs_tn154, Int.reduceToNat, Int.reduceAdd, Int.reduceSub, Int.reduceNeg, Int.reduceLT, Int.reduceLE, Int.reduceEq, Nat.reduceAdd, ob, ob6, rc6, r05]
      refine cs_goI b5 ?_
      try simp (disch := omega) only [↓cs_pad0, ↓cs_pad1, ↓cs_pad2, ↓cs_q_iconst, ↓cs_q_bipush, ↓cs_q_sipush, ↓cs_q_ldc, ↓cs_q_fall, ↓cs_q_stop, ↓cs_q_iload_n0, ↓cs_q_aload_n0, ↓cs_q_istore_n0, ↓cs_q_astore_n0, ↓cs_q_iinc0, ↓cs_q_iload_n1, ↓cs_q_aload_n1, ↓cs_q_istore_n1, ↓cs_q_astore_n1, ↓cs_q_iinc1, ↓cs_q_iload_n2, ↓cs_q_aload_n2, ↓cs_q_istore_n2, ↓cs_q_astore_n2, ↓cs_q_iinc2, ↓cs_q_iload_n3, ↓cs_q_aload_n3, ↓cs_q_istore_n3, ↓cs_q_astore_n3, ↓cs_q_iinc3, ↓cs_q_iload4, ↓cs_q_aload4, ↓cs_q_istore4, ↓cs_q_astore4, ↓cs_q_iinc4, ↓cs_q_iload5, ↓cs_q_aload5, ↓cs_q_istore5, ↓cs_q_astore5, ↓cs_q_iinc5, ↓cs_q_iload6, ↓cs_q_aload6, ↓cs_q_istore6, ↓cs_q_astore6, ↓cs_q_iinc6, ↓cs_q_iload7, ↓cs_q_aload7, ↓cs_q_istore7, ↓cs_q_astore7, ↓cs_q_iinc7, ↓cs_q_aload_nT, ↓cs_q_iadd, ↓cs_q_isub, ↓cs_q_imul, ↓cs_q_iand, ↓cs_q_ior, ↓cs_q_ishl, ↓cs_q_i2c, ↓cs_q_dup, ↓cs_q_pop, ↓cs_q_dup2, ↓cs_q_goto, ↓cs_q_if_eq, ↓cs_q_if_ne, ↓cs_q_if_lt, ↓cs_q_if_ge, ↓cs_q_if_gt, ↓cs_q_if_le, ↓cs_q_icmp_eq, ↓cs_q_icmp_ne, ↓cs_q_icmp_lt, ↓cs_q_icmp_ge, ↓cs_q_icmp_gt, ↓cs_q_icmp_le, ↓cs_q_table, ↓cs_q_lookup, ↓cs_q_getI, ↓cs_q_getR, ↓cs_q_putI, ↓cs_q_putZ, ↓cs_q_putR, ↓cs_q_gets, ↓cs_q_iald, ↓cs_q_taload, ↓cs_q_cald, ↓cs_q_iast, ↓cs_q_cast, ↓cs_q_aald, ↓cs_q_aast, ↓cs_q_tlen, ↓cs_q_alen, ↓cs_q_new, ↓cs_q_newa, ↓cs_q_anew, ↓cs_q_virt0, ↓cs_q_stat00, ↓cs_q_stat10, ↓cs_q_virt1, ↓cs_q_stat01, ↓cs_q_stat11, ↓cs_q_virt2, ↓cs_q_stat02, ↓cs_q_stat12, ↓cs_q_virt3, ↓cs_q_stat03, ↓cs_q_stat13, ↓cs_q_virt4, ↓cs_q_stat04, ↓cs_q_stat14, ↓cs_q_oinit, ↓cs_q_spec, ↓cs_q_max, ↓cs_q_min, ↓cs_q_copy, ↓cs_q_iret, ↓cs_q_zret, ↓cs_q_aret, ↓cs_q_vret, ↓cs_q_J, ↓cs_q_l8_0, ↓cs_q_l8_1, ↓cs_q_l8_2, ↓cs_q_l8_3, ↓cs_q_l8_4, ↓cs_q_l8_5, ↓cs_q_l8_6, rX7_perform, qX7_perform_0, qX7_perform_1, qX7_perform_2, qX7_perform_3, qX7_perform_4, qX7_perform_5, true_and, and_true, true_or, or_true, Option.isSome_some, Option.getD_some, cs_bz, cs_bn, cs_bi, cs_bo, not_false_eq_true, not_true_eq_false, true_implies, false_implies, implies_true, Decidable.not_not, cs_em, cs_sw_c, cs_sw_n, false_or, or_false, false_and, and_false, cs_inT, Int.toNat_natCast, cs_tn0, cs_tn01, cs_tn1, cs_tn6, cs_tn11, cs_tn16, cs_tn21, cs_tn154, Int.reduceToNat, Int.reduceAdd, Int.reduceSub, Int.reduceNeg, Int.reduceLT, Int.reduceLE, Int.reduceEq, Nat.reduceAdd, ob, ob6, rc6, r05, b3']
    · have e394 : cs_3 im1 394 N.1 S (im1 (394 + 2)) 394 = N.1 := cs_3_0
      have e395 : cs_3 im1 394 N.1 S (im1 (394 + 2)) 395 = S := cs_3_1
      have eo : ∀ a, ¬ a = 394 → ¬ a = 395 → ¬ a = 396 → cs_3 im1 394 N.1 S (im1 (394 + 2)) a = im1 a := fun a h1 h2 h3 => cs_3_o h1 h2 h3
      unfold kLI
      rw [e394, e395, eo 397 (by decide) (by decide) (by decide), eo 398 (by decide) (by decide) (by decide), eo 399 (by decide) (by decide) (by decide), b1 397 (by omega), b1 398 (by omega), b1 399 (by omega), hT]
      refine ⟨kInv_chg hi' hA' (fun a ha => by rw [eo a (by omega) (by omega) (by omega), b1 a (by omega)]) (n1 3 (by decide)) (n1 5 (by decide)) ?_ (fun k hk => by rw [eo 372 (by decide) (by decide) (by decide), b1 372 (by omega)]; exact i6 k hk), gAll_R hA' (n1 3 (by decide)) (n1 5 (by decide)) (n1 7 (by decide)) (n1 10 (by decide)) (n1 11 (by decide)) n2⟩
      rw [eo 185 (by decide) (by decide) (by decide), eo 0 (by decide) (by decide) (by decide), eo 371 (by decide) (by decide) (by decide), b1 185 (by omega), b1 0 (by omega), b2 1 (by decide) (by decide), n1 3 (by decide), n1 5 (by decide), n1 7 (by decide), n1 8 (by decide), n1 9 (by decide)]
      exact ⟨i1, i2, i3, i4, i5⟩
end
