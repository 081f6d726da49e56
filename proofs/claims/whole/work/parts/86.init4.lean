/-! CONSTRUCTORS: history, traffic -/
section
variable {h h' g : cs_H} {s : Nat × Nat × Nat} {a c n k p : Nat} {sc : Nat × (Nat → Int)} {o : Nat × Nat} {Q : Option cs_A → cs_H → Prop} {sh : List (Nat × Nat × Nat)} {rm : Nat → Nat → Option Nat} {im : Nat → Nat → Int}
theorem cs_CA_cg {sh' : List (Nat × Nat × Nat)} {rm' : Nat → Nat → Option Nat} (hc : cs_CA sh rm c) (hs : ∀ a, c ≤ a → a < c + 46 → sh'[a]? = sh[a]? ∧ rm' a = rm a) : cs_CA sh' rm' c := by
  obtain ⟨⟨x1, x2, x3, x4, x5⟩, h2, h3, h4, h5⟩ := hc
  refine ⟨⟨?_, ?_, ?_, ?_, ?_⟩, ?_, fun k hk => ?_, fun k hk => ?_, fun i hi => ?_⟩
  · rw [(hs c (by omega) (by omega)).1]; exact x1
  · rw [(hs (c + 1) (by omega) (by omega)).1]; exact x2
  · rw [(hs (c + 2) (by omega) (by omega)).1]; exact x3
  · rw [(hs (c + 3) (by omega) (by omega)).1]; exact x4
  · rw [(hs (c + 4) (by omega) (by omega)).1]; exact x5
  · rw [(hs c (by omega) (by omega)).2]; exact h2
  · rw [(hs (c + (5 + 5 * k)) (by omega) (by omega)).1, (hs (c + (6 + 5 * k)) (by omega) (by omega)).1, (hs (c + (7 + 5 * k)) (by omega) (by omega)).1, (hs (c + (8 + 5 * k)) (by omega) (by omega)).1, (hs (c + (9 + 5 * k)) (by omega) (by omega)).1]
    exact h3 k hk
  · rw [(hs (c + 3) (by omega) (by omega)).2, (hs (c + (5 + 5 * k)) (by omega) (by omega)).2, (hs (c + (6 + 5 * k)) (by omega) (by omega)).2, (hs (c + (8 + 5 * k)) (by omega) (by omega)).2]
    exact h4 k hk
  · rw [(hs (c + (30 + i)) (by omega) (by omega)).1, (hs (c + 4) (by omega) (by omega)).2]
    exact h5 i hi
theorem gW_0 : gW cS0 := by
  have e : ∀ k, 6 ≤ k → k < 154 → cS0 k = 0 := fun k h1 h2 => by
    unfold cS0
    rw [if_neg (by omega), if_neg (by omega), if_neg (by omega), if_neg (by omega)]
  have e0 : ∀ k, k < 6 → cS0 k = 40 := fun k h1 => if_pos h1
  have e4 : cS0 154 = 6 := rfl
  have e5 : cS0 155 = 2 := rfl
  have e6 : cS0 156 = 4 := rfl
  refine ⟨by rw [e 150 (by decide) (by decide)]; decide, fun k hk => by rw [e0 k hk]; decide, fun k hk => by rw [e _ (by omega) (by omega)]; decide, by rw [e4, e5, e6]; decide, by rw [e 149 (by decide) (by decide)]; decide, by rw [e 151 (by decide) (by decide)]; decide, fun b hb => ?_⟩
  rw [e 150 (by decide) (by decide)] at hb
  omega
theorem gV_0 : gV cS0 := ⟨gW_0, by decide, by decide⟩
theorem kI_0 : kI cS0 := fun i hi => absurd hi (by show ¬ (i : Int) < 0; omega)
theorem cCan_ext {q : Nat} (hc : cCan h c) (hx : cExt h h' q) (hl : c + 46 ≤ h.1.length) (hq : q < c ∨ c + 46 ≤ q) : cCan h' c :=
  ⟨cs_CA_cg hc.1 (fun a h1 h2 => ⟨hx.2.1 a (by omega), (hx.2.2 a (by omega) (by omega)).2⟩), kRel_cells hc.2 gW_0 (fun d hd => (hx.2.2 (c + d) (by omega) (by omega)).1)⟩
theorem l2_canals (p z : Nat) : ∀ (n i : Nat), i + n = 4 → ∀ h : cs_H, h.1.length = p + 2 + 46 * i → cs_sz h.1 = z + 4 + 358 * i → h.1[p]? = some (0, 2, 2) → h.2.2 p 0 = some (p + 1) → h.1[p + 1]? = some (2, 3, 4) →
    ∃ h', cExt h h' (p + 1) ∧ (∀ j, j < i → h'.2.2 (p + 1) j = h.2.2 (p + 1) j) ∧ h'.1.length = p + 186 ∧ cs_sz h'.1 = z + 1436 ∧ (∀ k, i ≤ k → k < 4 → cCan h' (p + 2 + 46 * k) ∧ h'.2.2 (p + 1) k = some (p + 2 + 46 * k)) ∧
      ∀ (sc : Nat × (Nat → Int)) (Q : Option cs_A → cs_H → Prop), Q none h' → cs_VP sc iX2_init 14 [cs_R p, .inl (i : Int)] [] h (p + 1, z) Q
  | 0, i, hi, h, hl, hz, h1, h2, h3 => by
    have : i = 4 := by omega
    subst this
    refine ⟨h, ⟨Nat.le_refl _, fun _ _ => rfl, fun _ _ _ => ⟨rfl, rfl⟩⟩, fun _ _ => rfl, by omega, by omega, fun k a b => absurd a (by omega), fun sc Q hQ => ?_⟩
    refine cs_enter kX2_init 3 (by decide) rfl 12 ?_
    try simp (disch := omega) only [↓cs_pad0, ↓cs_pad1, ↓cs_pad2, ↓cs_q_iconst, ↓cs_q_bipush, ↓cs_q_sipush, ↓cs_q_ldc, ↓cs_q_fall, ↓cs_q_stop, ↓cs_q_iload_n0, ↓cs_q_aload_n0, ↓cs_q_istore_n0, ↓cs_q_astore_n0, ↓cs_q_iinc0, ↓cs_q_iload_n1, ↓cs_q_aload_n1, ↓cs_q_istore_n1, ↓cs_q_astore_n1, ↓cs_q_iinc1, ↓cs_q_iload_n2, ↓cs_q_aload_n2, ↓cs_q_istore_n2, ↓cs_q_astore_n2, ↓cs_q_iinc2, ↓cs_q_iload_n3, ↓cs_q_aload_n3, ↓cs_q_istore_n3, ↓cs_q_astore_n3, ↓cs_q_iinc3, ↓cs_q_iload4, ↓cs_q_aload4, ↓cs_q_istore4, ↓cs_q_astore4, ↓cs_q_iinc4, ↓cs_q_iload5, ↓cs_q_aload5, ↓cs_q_istore5, ↓cs_q_astore5, ↓cs_q_iinc5, ↓cs_q_iload6, ↓cs_q_aload6, ↓cs_q_istore6, ↓cs_q_astore6, ↓cs_q_iinc6, ↓cs_q_iload7, ↓cs_q_aload7, ↓cs_q_istore7, ↓cs_q_astore7, ↓cs_q_iinc7, ↓cs_q_aload_nT, ↓cs_q_iadd, ↓cs_q_isub, ↓cs_q_imul, ↓cs_q_iand, ↓cs_q_ior, ↓cs_q_ishl, ↓cs_q_i2c, ↓cs_q_dup, ↓cs_q_pop, ↓cs_q_dup2, ↓cs_q_goto, ↓cs_q_if_eq, ↓cs_q_if_ne, ↓cs_q_if_lt, ↓cs_q_if_ge, ↓cs_q_if_gt, ↓cs_q_if_le, ↓cs_q_icmp_eq, ↓cs_q_icmp_ne, ↓cs_q_icmp_lt, ↓cs_q_icmp_ge, ↓cs_q_icmp_gt, ↓cs_q_icmp_le, ↓cs_q_table, ↓cs_q_lookup, ↓cs_q_getI, ↓cs_q_getR, ↓cs_q_putI, ↓cs_q_putZ, ↓cs_q_putR, ↓cs_q_gets, ↓cs_q_iald, ↓cs_q_taload, ↓cs_q_cald, ↓cs_q_iast, ↓cs_q_cast, ↓cs_q_aald, ↓cs_q_aast, ↓cs_q_tlen, ↓cs_q_alen, ↓cs_q_new, ↓cs_q_newa, ↓cs_q_anew, ↓cs_q_virt0, ↓cs_q_stat00, ↓cs_q_stat10, ↓cs_q_virt1, ↓cs_q_stat01, ↓cs_q_stat11, ↓cs_q_virt2, ↓cs_q_stat02, ↓cs_q_stat12, ↓cs_q_virt3, ↓cs_q_stat03, ↓cs_q_stat13, ↓cs_q_virt4, ↓cs_q_stat04, ↓cs_q_stat14, ↓cs_q_oinit, ↓cs_q_spec, ↓cs_q_max, ↓cs_q_min, ↓cs_q_copy, ↓cs_q_iret, ↓cs_q_zret, ↓cs_q_aret, ↓cs_q_vret, ↓cs_q_J, ↓cs_q_l8_0, ↓cs_q_l8_1, ↓cs_q_l8_2, ↓cs_q_l8_3, ↓cs_q_l8_4, ↓cs_q_l8_5, ↓cs_q_l8_6, rX2_init, qX2_init_0, qX2_init_1, qX2_init_2, qX2_init_3, true_and, and_true, true_or, or_true, Option.isSome_some, Option.getD_some, cs_bz, cs_bn, cs_bi, cs_bo, not_false_eq_true, not_true_eq_false, true_implies, false_implies, implies_true, Decidable.not_not, cs_em, cs_sw_c, cs_sw_n, false_or, or_false, false_and, and_false, cs_inT, Int.toNat_natCast, cs_tn0, cs_tn01, cs_tn1, cs_tn6, cs_tn11, cs_tn16, cs_tn21, cs_tn154, Int.reduceToNat, Int.reduceAdd, Int.reduceSub, Int.reduceNeg, Int.reduceLT, Int.reduceLE, Int.reduceEq, Nat.reduceAdd]
    exact ⟨fun _ => hQ, fun z => absurd (by decide) z⟩
  | n + 1, i, hi, h, hl, hz, h1, h2, h3 => by
    obtain ⟨g, hg, g1, g2, g3, g4, g5, g6, g7, g8⟩ := cN h 0 1 11
    have x1 := cExt_new (p + 1) h (0, 1, 11)
    rw [hg] at x1
    obtain ⟨k1, kd, kx, ka, kb, kc⟩ := i1_init g1 g3 g5
    have x1' := cExt_trans x1 kx (Or.inr (Nat.le_refl _))
    obtain ⟨e, he⟩ : ∃ e : cs_H, (k1.1, k1.2.1, cs_u2 k1.2.2 (p + 1) i (some h.1.length)) = e := ⟨_, rfl⟩
    have e1 : e.1 = k1.1 := by rw [← he]
    have e3 : e.2.2 = cs_u2 k1.2.2 (p + 1) i (some h.1.length) := by rw [← he]
    have xp : cExt k1 e (p + 1) := by rw [← he]; exact cExt_put k1
    have x2 : cExt h e (p + 1) := cExt_trans x1' xp (Or.inl rfl)
    have ke : cCan e h.1.length := cCan_ext kc xp (by omega) (by omega)
    have obh : cs_ob h p 2 0 = True := eq_true ⟨2, h1, by decide⟩
    have ix : cs_ix k1 (p + 1) 2 3 (i : Int) = True := eq_true ⟨4, by rw [x1'.2.1 _ (by omega)]; exact h3, by decide, by omega, by omega⟩
    have rc : cs_rc k1 h.1.length 1 = True := eq_true ⟨11, kc.1.1.1⟩
    have e1l : e.1.length = k1.1.length := by rw [e1]
    have e1z : cs_sz e.1 = cs_sz k1.1 := by rw [e1]
    have hel : e.1.length = p + 2 + 46 * (i + 1) := by omega
    have hez : cs_sz e.1 = z + 4 + 358 * (i + 1) := by omega
    obtain ⟨h', b1, b2, b3, b4, b5, b6⟩ := l2_canals p z n (i + 1) (by omega) e hel hez (by rw [x2.2.1 p (by omega)]; exact h1) (by rw [(x2.2.2 p (by omega) (by omega)).2]; exact h2) (by rw [x2.2.1 (p + 1) (by omega)]; exact h3)
    simp only [Int.natCast_add, Int.natCast_one] at b6
    have hkr : k1.2.2 (p + 1) = h.2.2 (p + 1) := by rw [(kx.2.2 _ (by omega) (by omega)).2, g8 _ (by omega)]
    refine ⟨h', cExt_trans x2 b1 (Or.inl rfl), fun j hj => ?_, b3, b4, fun k hk1 hk2 => ?_, fun sc Q hQ => ?_⟩
    · rw [b2 j (by omega), e3, cs_u2_col (by omega), hkr]
    · by_cases hki : k = i
      · subst hki
        have hpl : p + 2 + 46 * k = h.1.length := by omega
        refine ⟨by rw [hpl]; exact cCan_ext ke b1 (by omega) (by omega), by rw [b2 k (by omega), e3, cs_u2_hit, hpl]⟩
      · exact b5 k (by omega) hk2
    · have := b6 sc Q hQ
      refine cs_enter kX2_init 3 (by decide) rfl 12 ?_
      try simp (disch := omega) only [↓cs_pad0, ↓cs_pad1, ↓cs_pad2, ↓cs_q_iconst, ↓cs_q_bipush, ↓cs_q_sipush, ↓cs_q_ldc, ↓cs_q_fall, ↓cs_q_stop, ↓cs_q_iload_n0, ↓cs_q_aload_n0, ↓cs_q_istore_n0, ↓cs_q_astore_n0, ↓cs_q_iinc0, ↓cs_q_iload_n1, ↓cs_q_aload_n1, ↓cs_q_istore_n1, ↓cs_q_astore_n1, ↓cs_q_iinc1, ↓cs_q_iload_n2, ↓cs_q_aload_n2, ↓cs_q_istore_n2, ↓cs_q_astore_n2, ↓cs_q_iinc2, ↓cs_q_iload_n3, ↓cs_q_aload_n3, ↓cs_q_istore_n3, ↓cs_q_astore_n3, ↓cs_q_iinc3, ↓cs_q_iload4, ↓cs_q_aload4, ↓cs_q_istore4, ↓cs_q_astore4, ↓cs_q_iinc4, ↓cs_q_iload5, ↓cs_q_aload5, ↓cs_q_istore5, ↓cs_q_astore5, ↓cs_q_iinc5, ↓cs_q_iload6, ↓cs_q_aload6, ↓cs_q_istore6, ↓cs_q_astore6, ↓cs_q_iinc6, ↓cs_q_iload7, ↓cs_q_aload7, ↓cs_q_istore7, ↓cs_q_astore7, ↓cs_q_iinc7, ↓cs_q_aload_nT, ↓cs_q_iadd, ↓cs_q_isub, ↓cs_q_imul, ↓cs_q_iand, ↓cs_q_ior, ↓cs_q_ishl, ↓cs_q_i2c, ↓cs_q_dup, ↓cs_q_pop, ↓cs_q_dup2, ↓cs_q_goto, ↓cs_q_if_eq, ↓cs_q_if_ne, ↓cs_q_if_lt, ↓cs_q_if_ge, ↓cs_q_if_gt, ↓cs_q_if_le, ↓cs_q_icmp_eq, ↓cs_q_icmp_ne, ↓cs_q_icmp_lt, ↓cs_q_icmp_ge, ↓cs_q_icmp_gt, ↓cs_q_icmp_le, ↓cs_q_table, ↓cs_q_lookup, ↓cs_q_getI, ↓cs_q_getR, ↓cs_q_putI, ↓cs_q_putZ, ↓cs_q_putR, ↓cs_q_gets, ↓cs_q_iald, ↓cs_q_taload, ↓cs_q_cald, ↓cs_q_iast, ↓cs_q_cast, ↓cs_q_aald, ↓cs_q_aast, ↓cs_q_tlen, ↓cs_q_alen, ↓cs_q_new, ↓cs_q_newa, ↓cs_q_anew, ↓cs_q_virt0, ↓cs_q_stat00, ↓cs_q_stat10, ↓cs_q_virt1, ↓cs_q_stat01, ↓cs_q_stat11, ↓cs_q_virt2, ↓cs_q_stat02, ↓cs_q_stat12, ↓cs_q_virt3, ↓cs_q_stat03, ↓cs_q_stat13, ↓cs_q_virt4, ↓cs_q_stat04, ↓cs_q_stat14, ↓cs_q_oinit, ↓cs_q_spec, ↓cs_q_max, ↓cs_q_min, ↓cs_q_copy, ↓cs_q_iret, ↓cs_q_zret, ↓cs_q_aret, ↓cs_q_vret, ↓cs_q_J, ↓cs_q_l8_0, ↓cs_q_l8_1, ↓cs_q_l8_2, ↓cs_q_l8_3, ↓cs_q_l8_4, ↓cs_q_l8_5, ↓cs_q_l8_6, rX2_init, qX2_init_0, qX2_init_1, qX2_init_2, qX2_init_3, true_and, and_true, true_or, or_true, Option.isSome_some, Option.getD_some, cs_bz, cs_bn, cs_bi, cs_bo, not_false_eq_true, not_true_eq_false, true_implies, false_implies, implies_true, Decidable.not_not, cs_em, cs_sw_c, cs_sw_n, false_or, or_false, false_and, and_false, cs_inT, Int.toNat_natCast, cs_tn0, cs_tn01, cs_tn1, cs_tn6, cs_tn11, cs_tn16, cs_tn21, cs_tn154, Int.reduceToNat, Int.reduceAdd, Int.reduceSub, Int.reduceNeg, Int.reduceLT, Int.reduceLE, Int.reduceEq, Nat.reduceAdd, obh, h2, hg]
      refine ⟨fun z => absurd z (by omega), fun _ => ⟨?_, ?_, cs_goV kd ?_⟩⟩
      · rw [show cs_mc iX2_init = 185 by decide +kernel, show cs_sl iX2_init = 1436 by decide +kernel]; omega
      · rw [show cs_mc iX2_init = 185 by decide +kernel, show cs_sl iX2_init = 1436 by decide +kernel]; omega
      try simp (disch := omega) only [↓cs_pad0, ↓cs_pad1, ↓cs_pad2, ↓cs_q_iconst, ↓cs_q_bipush, ↓cs_q_sipush, ↓cs_q_ldc, ↓cs_q_fall, ↓cs_q_stop, ↓cs_q_iload_n0, ↓cs_q_aload_n0, ↓cs_q_istore_n0, ↓cs_q_astore_n0, ↓cs_q_iinc0, ↓cs_q_iload_n1, ↓cs_q_aload_n1, ↓cs_q_istore_n1, ↓cs_q_astore_n1, ↓cs_q_iinc1, ↓cs_q_iload_n2, ↓cs_q_aload_n2, ↓cs_q_istore_n2, ↓cs_q_astore_n2, ↓cs_q_iinc2, ↓cs_q_iload_n3, ↓cs_q_aload_n3, ↓cs_q_istore_n3, ↓cs_q_astore_n3, ↓cs_q_iinc3, ↓cs_q_iload4, ↓cs_q_aload4, ↓cs_q_istore4, ↓cs_q_astore4, ↓cs_q_iinc4, ↓cs_q_iload5, ↓cs_q_aload5, ↓cs_q_istore5, ↓cs_q_astore5, ↓cs_q_iinc5, ↓cs_q_iload6, ↓cs_q_aload6, ↓cs_q_istore6, ↓cs_q_astore6, ↓cs_q_iinc6, ↓cs_q_iload7, ↓cs_q_aload7, ↓cs_q_istore7, ↓cs_q_astore7, ↓cs_q_iinc7, ↓cs_q_aload_nT, ↓cs_q_iadd, ↓cs_q_isub, ↓cs_q_imul, ↓cs_q_iand, ↓cs_q_ior, ↓cs_q_ishl, ↓cs_q_i2c, ↓cs_q_dup, ↓cs_q_pop, ↓cs_q_dup2, ↓cs_q_goto, ↓cs_q_if_eq, ↓cs_q_if_ne, ↓cs_q_if_lt, ↓cs_q_if_ge, ↓cs_q_if_gt, ↓cs_q_if_le, ↓cs_q_icmp_eq, ↓cs_q_icmp_ne, ↓cs_q_icmp_lt, ↓cs_q_icmp_ge, ↓cs_q_icmp_gt, ↓cs_q_icmp_le, ↓cs_q_table, ↓cs_q_lookup, ↓cs_q_getI, ↓cs_q_getR, ↓cs_q_putI, ↓cs_q_putZ, ↓cs_q_putR, ↓cs_q_gets, ↓cs_q_iald, ↓cs_q_taload, ↓cs_q_cald, ↓cs_q_iast, ↓cs_q_cast, ↓cs_q_aald, ↓cs_q_aast, ↓cs_q_tlen, ↓cs_q_alen, ↓cs_q_new, ↓cs_q_newa, ↓cs_q_anew, ↓cs_q_virt0, ↓cs_q_stat00, ↓cs_q_stat10, ↓cs_q_virt1, ↓cs_q_stat01, ↓cs_q_stat11, ↓cs_q_virt2, ↓cs_q_stat02, ↓cs_q_stat12, ↓cs_q_virt3, ↓cs_q_stat03, ↓cs_q_stat13, ↓cs_q_virt4, ↓cs_q_stat04, ↓cs_q_stat14, ↓cs_q_oinit, ↓cs_q_spec, ↓cs_q_max, ↓cs_q_min, ↓cs_q_copy, ↓cs_q_iret, ↓cs_q_zret, ↓cs_q_aret, ↓cs_q_vret, ↓cs_q_J, ↓cs_q_l8_0, ↓cs_q_l8_1, ↓cs_q_l8_2, ↓cs_q_l8_3, ↓cs_q_l8_4, ↓cs_q_l8_5, ↓cs_q_l8_6, rX2_init, qX2_init_0, qX2_init_1, qX2_init_2, qX2_init_3, true_and, and_true, true_or, or_true, Option.isSome_some, Option.getD_some, cs_bz, cs_bn, cs_bi, cs_bo, not_false_eq_true, not_true_eq_false, true_implies, false_implies, implies_true, Decidable.not_not, cs_em, cs_sw_c, cs_sw_n, false_or, or_false, false_and, and_false, cs_inT, Int.toNat_natCast, cs_tn0, cs_tn01, cs_tn1, cs_tn6, cs_tn11, cs_tn16, cs_tn21, cs_tn154, Int.reduceToNat, Int.reduceAdd, Int.reduceSub, Int.reduceNeg, Int.reduceLT, Int.reduceLE, Int.reduceEq, Nat.reduceAdd, ix, rc, he]
      exact this
theorem i2_init (hl : h.1.length = p + 1) (h1 : h.1[p]? = some (0, 2, 2)) (h0 : h.2.1 p = fun _ => 0) : ∃ h', cs_Det iX2_init [cs_R p] h none h' ∧ cExt h h' p ∧ h'.1.length = p + 186 ∧ cs_sz h'.1 = cs_sz h.1 + 1436 ∧ h'.1[p + 1]? = some (2, 3, 4) ∧ h'.2.2 p 0 = some (p + 1) ∧ h'.2.1 p = (fun _ => 0) ∧ (∀ k, k < 4 → cCan h' (p + 2 + 46 * k) ∧ h'.2.2 (p + 1) k = some (p + 2 + 46 * k)) := by
  obtain ⟨ga, ea, a1, a2, a3, a4, a5, a6, a7, a8, a9, a10, a11, a12⟩ := cAP h p 0 2 3 4 (by omega)
  have la : ea.1.length = p + 2 := by omega
  rw [hl] at a2 a7 a8 a10
  have obh : cs_ob ga p 2 0 = True := eq_true ⟨2, by rw [a12]; exact h1, by decide⟩
  have pa : ea.1[p]? = some (0, 2, 2) := by rw [a4.2.1 p (by omega)]; exact h1
  obtain ⟨h', b1, b2, b3, b4, b5, b6⟩ := l2_canals p (cs_sz h.1) 4 0 rfl ea (by omega) (by omega) pa a10 a7
  refine ⟨h', ?_, ⟨by omega, fun a ha => by rw [b1.2.1 a (by omega)]; exact a4.2.1 a ha, fun a ha hap => ?_⟩, b3, b4, by rw [b1.2.1 _ (by omega)]; exact a7, by rw [(b1.2.2 p (by omega) (by omega)).2]; exact a10, by rw [(b1.2.2 p (by omega) (by omega)).1, a9]; exact h0, fun k hk => b5 k (Nat.zero_le _) hk⟩
  · refine cs_runA mX2_init kX2_init zX2_init rfl rfl ⟨by omega, b4⟩ 9 (fun sc => ?_)
    have hb := b6 sc (fun v' h'' => v' = none ∧ h'' = h') ⟨rfl, rfl⟩
    rw [← hl] at hb
    try simp (disch := omega) only [↓cs_pad0, ↓cs_pad1, ↓cs_pad2, ↓cs_q_iconst, ↓cs_q_bipush, ↓cs_q_sipush, ↓cs_q_ldc, ↓cs_q_fall, ↓cs_q_stop, ↓cs_q_iload_n0, ↓cs_q_aload_n0, ↓cs_q_istore_n0, ↓cs_q_astore_n0, ↓cs_q_iinc0, ↓cs_q_iload_n1, ↓cs_q_aload_n1, ↓cs_q_istore_n1, ↓cs_q_astore_n1, ↓cs_q_iinc1, ↓cs_q_iload_n2, ↓cs_q_aload_n2, ↓cs_q_istore_n2, ↓cs_q_astore_n2, ↓cs_q_iinc2, ↓cs_q_iload_n3, ↓cs_q_aload_n3, ↓cs_q_istore_n3, ↓cs_q_astore_n3, ↓cs_q_iinc3, ↓cs_q_iload4, ↓cs_q_aload4, ↓cs_q_istore4, ↓cs_q_astore4, ↓cs_q_iinc4, ↓cs_q_iload5, ↓cs_q_aload5, ↓cs_q_istore5, ↓cs_q_astore5, ↓cs_q_iinc5, ↓cs_q_iload6, ↓cs_q_aload6, ↓cs_q_istore6, ↓cs_q_astore6, ↓cs_q_iinc6, ↓cs_q_iload7, ↓cs_q_aload7, ↓cs_q_istore7, ↓cs_q_astore7, ↓cs_q_iinc7, ↓cs_q_aload_nT, ↓cs_q_iadd, ↓cs_q_isub, ↓cs_q_imul, ↓cs_q_iand, ↓cs_q_ior, ↓cs_q_ishl, ↓cs_q_i2c, ↓cs_q_dup, ↓cs_q_pop, ↓cs_q_dup2, ↓cs_q_goto, ↓cs_q_if_eq, ↓cs_q_if_ne, ↓cs_q_if_lt, ↓cs_q_if_ge, ↓cs_q_if_gt, ↓cs_q_if_le, ↓cs_q_icmp_eq, ↓cs_q_icmp_ne, ↓cs_q_icmp_lt, ↓cs_q_icmp_ge, ↓cs_q_icmp_gt, ↓cs_q_icmp_le, ↓cs_q_table, ↓cs_q_lookup, ↓cs_q_getI, ↓cs_q_getR, ↓cs_q_putI, ↓cs_q_putZ, ↓cs_q_putR, ↓cs_q_gets, ↓cs_q_iald, ↓cs_q_taload, ↓cs_q_cald, ↓cs_q_iast, ↓cs_q_cast, ↓cs_q_aald, ↓cs_q_aast, ↓cs_q_tlen, ↓cs_q_alen, ↓cs_q_new, ↓cs_q_newa, ↓cs_q_anew, ↓cs_q_virt0, ↓cs_q_stat00, ↓cs_q_stat10, ↓cs_q_virt1, ↓cs_q_stat01, ↓cs_q_stat11, ↓cs_q_virt2, ↓cs_q_stat02, ↓cs_q_stat12, ↓cs_q_virt3, ↓cs_q_stat03, ↓cs_q_stat13, ↓cs_q_virt4, ↓cs_q_stat04, ↓cs_q_stat14, ↓cs_q_oinit, ↓cs_q_spec, ↓cs_q_max, ↓cs_q_min, ↓cs_q_copy, ↓cs_q_iret, ↓cs_q_zret, ↓cs_q_aret, ↓cs_q_vret, ↓cs_q_J, ↓cs_q_l8_0, ↓cs_q_l8_1, ↓cs_q_l8_2, ↓cs_q_l8_3, ↓cs_q_l8_4, ↓cs_q_l8_5, ↓cs_q_l8_6, rX2_init, qX2_init_0, qX2_init_1, qX2_init_2, qX2_init_3, true_and, and_true, true_or, or_true, Option.isSome_some, Option.getD_some, cs_bz, cs_bn, cs_bi, cs_bo, not_false_eq_true, not_true_eq_false, true_implies, false_implies, implies_true, Decidable.not_not, cs_em, cs_sw_c, cs_sw_n, false_or, or_false, false_and, and_false, cs_inT, Int.toNat_natCast, cs_tn0, cs_tn01, cs_tn1, cs_tn6, cs_tn11, cs_tn16, cs_tn21, cs_tn154, Int.reduceToNat, Int.reduceAdd, Int.reduceSub, Int.reduceNeg, Int.reduceLT, Int.reduceLE, Int.reduceEq, Nat.reduceAdd, a1, a2, obh, hl]
    refine ⟨?_, ?_⟩
    · rw [show cs_mc iX2_init = 185 by decide +kernel, show cs_sl iX2_init = 1436 by decide +kernel]; omega
    · rw [hl] at hb; exact hb
  · have h1' := b1.2.2 a (by omega) (by omega)
    have h2' := a4.2.2 a ha hap
    exact ⟨h1'.1.trans h2'.1, h1'.2.trans h2'.2⟩
theorem i5_init : cs_Det iX5_init [cs_R p] h none h := by
  refine cs_runA mX5_init kX5_init zX5_init rfl rfl ⟨rfl, rfl⟩ 9 (fun sc => ?_)
  try simp (disch := omega) only [↓cs_pad0, ↓cs_pad1, ↓cs_pad2, ↓cs_q_iconst, ↓cs_q_bipush, ↓cs_q_sipush, ↓cs_q_ldc, ↓cs_q_fall, ↓cs_q_stop, ↓cs_q_iload_n0, ↓cs_q_aload_n0, ↓cs_q_istore_n0, ↓cs_q_astore_n0, ↓cs_q_iinc0, ↓cs_q_iload_n1, ↓cs_q_aload_n1, ↓cs_q_istore_n1, ↓cs_q_astore_n1, ↓cs_q_iinc1, ↓cs_q_iload_n2, ↓cs_q_aload_n2, ↓cs_q_istore_n2, ↓cs_q_astore_n2, ↓cs_q_iinc2, ↓cs_q_iload_n3, ↓cs_q_aload_n3, ↓cs_q_istore_n3, ↓cs_q_astore_n3, ↓cs_q_iinc3, ↓cs_q_iload4, ↓cs_q_aload4, ↓cs_q_istore4, ↓cs_q_astore4, ↓cs_q_iinc4, ↓cs_q_iload5, ↓cs_q_aload5, ↓cs_q_istore5, ↓cs_q_astore5, ↓cs_q_iinc5, ↓cs_q_iload6, ↓cs_q_aload6, ↓cs_q_istore6, ↓cs_q_astore6, ↓cs_q_iinc6, ↓cs_q_iload7, ↓cs_q_aload7, ↓cs_q_istore7, ↓cs_q_astore7, ↓cs_q_iinc7, ↓cs_q_aload_nT, ↓cs_q_iadd, ↓cs_q_isub, ↓cs_q_imul, ↓cs_q_iand, ↓cs_q_ior, ↓cs_q_ishl, ↓cs_q_i2c, ↓cs_q_dup, ↓cs_q_pop, ↓cs_q_dup2, ↓cs_q_goto, ↓cs_q_if_eq, ↓cs_q_if_ne, ↓cs_q_if_lt, ↓cs_q_if_ge, ↓cs_q_if_gt, ↓cs_q_if_le, ↓cs_q_icmp_eq, ↓cs_q_icmp_ne, ↓cs_q_icmp_lt, ↓cs_q_icmp_ge, ↓cs_q_icmp_gt, ↓cs_q_icmp_le, ↓cs_q_table, ↓cs_q_lookup, ↓cs_q_getI, ↓cs_q_getR, ↓cs_q_putI, ↓cs_q_putZ, ↓cs_q_putR, ↓cs_q_gets, ↓cs_q_iald, ↓cs_q_taload, ↓cs_q_cald, ↓cs_q_iast, ↓cs_q_cast, ↓cs_q_aald, ↓cs_q_aast, ↓cs_q_tlen, ↓cs_q_alen, ↓cs_q_new, ↓cs_q_newa, ↓cs_q_anew, ↓cs_q_virt0, ↓cs_q_stat00, ↓cs_q_stat10, ↓cs_q_virt1, ↓cs_q_stat01, ↓cs_q_stat11, ↓cs_q_virt2, ↓cs_q_stat02, ↓cs_q_stat12, ↓cs_q_virt3, ↓cs_q_stat03, ↓cs_q_stat13, ↓cs_q_virt4, ↓cs_q_stat04, ↓cs_q_stat14, ↓cs_q_oinit, ↓cs_q_spec, ↓cs_q_max, ↓cs_q_min, ↓cs_q_copy, ↓cs_q_iret, ↓cs_q_zret, ↓cs_q_aret, ↓cs_q_vret, ↓cs_q_J, ↓cs_q_l8_0, ↓cs_q_l8_1, ↓cs_q_l8_2, ↓cs_q_l8_3, ↓cs_q_l8_4, ↓cs_q_l8_5, ↓cs_q_l8_6, rX5_init, qX5_init_0, true_and, and_true, true_or, or_true, Option.isSome_some, Option.getD_some, cs_bz, cs_bn, cs_bi, cs_bo, not_false_eq_true, not_true_eq_false, true_implies, false_implies, implies_true, Decidable.not_not, cs_em, cs_sw_c, cs_sw_n, false_or, or_false, false_and, and_false, cs_inT, Int.toNat_natCast, cs_tn0, cs_tn01, cs_tn1, cs_tn6, cs_tn11, cs_tn16, cs_tn21, cs_tn154, Int.reduceToNat, Int.reduceAdd, Int.reduceSub, Int.reduceNeg, Int.reduceLT, Int.reduceLE, Int.reduceEq, Nat.reduceAdd]
theorem l6_things (p z : Nat) : ∀ (n i : Nat), i + n = 20 → ∀ h : cs_H, h.1.length = p + 3 + i → cs_sz h.1 = z + 80 + 7 * i → h.1[p]? = some (0, 6, 5) → h.2.2 p 2 = some (p + 2) → h.1[p + 2]? = some (2, 5, 20) →
    ∃ h', cExt h h' (p + 2) ∧ (∀ j, j < i → h'.2.2 (p + 2) j = h.2.2 (p + 2) j) ∧ h'.1.length = p + 23 ∧ cs_sz h'.1 = z + 220 ∧ (∀ k, i ≤ k → k < 20 → h'.1[p + 3 + k]? = some (0, 5, 7) ∧ h'.2.2 (p + 2) k = some (p + 3 + k)) ∧
      ∀ (sc : Nat × (Nat → Int)) (Q : Option cs_A → cs_H → Prop), Q none h' → cs_VP sc iX6_init 23 [cs_R p, .inl (i : Int)] [] h (p + 1, z) Q
  | 0, i, hi, h, hl, hz, h1, h2, h3 => by
    have : i = 20 := by omega
    subst this
    refine ⟨h, ⟨Nat.le_refl _, fun _ _ => rfl, fun _ _ _ => ⟨rfl, rfl⟩⟩, fun _ _ => rfl, by omega, by omega, fun k a b => absurd a (by omega), fun sc Q hQ => ?_⟩
    refine cs_enter kX6_init 3 (by decide) rfl 12 ?_
    try simp (disch := omega) only [↓cs_pad0, ↓cs_pad1, ↓cs_pad2, ↓cs_q_iconst, ↓cs_q_bipush, ↓cs_q_sipush, ↓cs_q_ldc, ↓cs_q_fall, ↓cs_q_stop, ↓cs_q_iload_n0, ↓cs_q_aload_n0, ↓cs_q_istore_n0, ↓cs_q_astore_n0, ↓cs_q_iinc0, ↓cs_q_iload_n1, ↓cs_q_aload_n1, ↓cs_q_istore_n1, ↓cs_q_astore_n1, ↓cs_q_iinc1, ↓cs_q_iload_n2, ↓cs_q_aload_n2, ↓cs_q_istore_n2, ↓cs_q_astore_n2, ↓cs_q_iinc2, ↓cs_q_iload_n3, ↓cs_q_aload_n3, ↓cs_q_istore_n3, ↓cs_q_astore_n3, ↓cs_q_iinc3, ↓cs_q_iload4, ↓cs_q_aload4, ↓cs_q_istore4, ↓cs_q_astore4, ↓cs_q_iinc4, ↓cs_q_iload5, ↓cs_q_aload5, ↓cs_q_istore5, ↓cs_q_astore5, ↓cs_q_iinc5, ↓cs_q_iload6, ↓cs_q_aload6, ↓cs_q_istore6, ↓cs_q_astore6, ↓cs_q_iinc6, ↓cs_q_iload7, ↓cs_q_aload7, ↓cs_q_istore7, ↓cs_q_astore7, ↓cs_q_iinc7, ↓cs_q_aload_nT, ↓cs_q_iadd, ↓cs_q_isub, ↓cs_q_imul, ↓cs_q_iand, ↓cs_q_ior, ↓cs_q_ishl, ↓cs_q_i2c, ↓cs_q_dup, ↓cs_q_pop, ↓cs_q_dup2, ↓cs_q_goto, ↓cs_q_if_eq, ↓cs_q_if_ne, ↓cs_q_if_lt, ↓cs_q_if_ge, ↓cs_q_if_gt, ↓cs_q_if_le, ↓cs_q_icmp_eq, ↓cs_q_icmp_ne, ↓cs_q_icmp_lt, ↓cs_q_icmp_ge, ↓cs_q_icmp_gt, ↓cs_q_icmp_le, ↓cs_q_table, ↓cs_q_lookup, ↓cs_q_getI, ↓cs_q_getR, ↓cs_q_putI, ↓cs_q_putZ, ↓cs_q_putR, ↓cs_q_gets, ↓cs_q_iald, ↓cs_q_taload, ↓cs_q_cald, ↓cs_q_iast, ↓cs_q_cast, ↓cs_q_aald, ↓cs_q_aast, ↓cs_q_tlen, ↓cs_q_alen, ↓cs_q_new, ↓cs_q_newa, ↓cs_q_anew, ↓cs_q_virt0, ↓cs_q_stat00, ↓cs_q_stat10, ↓cs_q_virt1, ↓cs_q_stat01, ↓cs_q_stat11, ↓cs_q_virt2, ↓cs_q_stat02, ↓cs_q_stat12, ↓cs_q_virt3, ↓cs_q_stat03, ↓cs_q_stat13, ↓cs_q_virt4, ↓cs_q_stat04, ↓cs_q_stat14, ↓cs_q_oinit, ↓cs_q_spec, ↓cs_q_max, ↓cs_q_min, ↓cs_q_copy, ↓cs_q_iret, ↓cs_q_zret, ↓cs_q_aret, ↓cs_q_vret, ↓cs_q_J, ↓cs_q_l8_0, ↓cs_q_l8_1, ↓cs_q_l8_2, ↓cs_q_l8_3, ↓cs_q_l8_4, ↓cs_q_l8_5, ↓cs_q_l8_6, rX6_init, qX6_init_0, qX6_init_1, qX6_init_2, qX6_init_3, true_and, and_true, true_or, or_true, Option.isSome_some, Option.getD_some, cs_bz, cs_bn, cs_bi, cs_bo, not_false_eq_true, not_true_eq_false, true_implies, false_implies, implies_true, Decidable.not_not, cs_em, cs_sw_c, cs_sw_n, false_or, or_false, false_and, and_false, cs_inT, Int.toNat_natCast, cs_tn0, cs_tn01, cs_tn1, cs_tn6, cs_tn11, cs_tn16, cs_tn21, cs_tn154, Int.reduceToNat, Int.reduceAdd, Int.reduceSub, Int.reduceNeg, Int.reduceLT, Int.reduceLE, Int.reduceEq, Nat.reduceAdd]
    exact ⟨fun _ => hQ, fun z => absurd (by decide) z⟩
  | n + 1, i, hi, h, hl, hz, h1, h2, h3 => by
    obtain ⟨g, hg, g1, g2, g3, g4, g5, g6, g7, g8⟩ := cN h 0 5 7
    have x1 := cExt_new (p + 2) h (0, 5, 7)
    rw [hg] at x1
    have kd := i5_init (h := g) (p := h.1.length)
    obtain ⟨e, he⟩ : ∃ e : cs_H, (g.1, g.2.1, cs_u2 g.2.2 (p + 2) i (some h.1.length)) = e := ⟨_, rfl⟩
    have e1 : e.1 = g.1 := by rw [← he]
    have e3 : e.2.2 = cs_u2 g.2.2 (p + 2) i (some h.1.length) := by rw [← he]
    have x2 : cExt h e (p + 2) := by rw [← he]; exact cExt_trans x1 (cExt_put g) (Or.inl rfl)
    have obh : cs_ob h p 6 2 = True := eq_true ⟨5, h1, by decide⟩
    have ix : cs_ix g (p + 2) 2 5 (i : Int) = True := eq_true ⟨20, by rw [x1.2.1 _ (by omega)]; exact h3, by decide, by omega, by omega⟩
    have rc : cs_rc g h.1.length 5 = True := eq_true ⟨7, g3⟩
    obtain ⟨h', b1, b2, b3, b4, b5, b6⟩ := l6_things p z n (i + 1) (by omega) e (by rw [e1]; omega) (by rw [e1]; omega) (by rw [x2.2.1 p (by omega)]; exact h1) (by rw [(x2.2.2 p (by omega) (by omega)).2]; exact h2) (by rw [x2.2.1 (p + 2) (by omega)]; exact h3)
    simp only [Int.natCast_add, Int.natCast_one] at b6
    have hel : e.1.length = p + 3 + (i + 1) := by rw [e1]; omega
    refine ⟨h', cExt_trans x2 b1 (Or.inl rfl), fun j hj => ?_, b3, b4, fun k hk1 hk2 => ?_, fun sc Q hQ => ?_⟩
    · rw [b2 j (by omega), e3, cs_u2_col (by omega), g8 _ (by omega)]
    · by_cases hki : k = i
      · subst hki
        have hpl : p + 3 + k = h.1.length := by omega
        refine ⟨by rw [b1.2.1 _ (by omega), e1, hpl]; exact g3, by rw [b2 k (by omega), e3, cs_u2_hit, hpl]⟩
      · exact b5 k (by omega) hk2
    · have := b6 sc Q hQ
      refine cs_enter kX6_init 3 (by decide) rfl 12 ?_
      try simp (disch := omega) only [↓cs_pad0, ↓cs_pad1, ↓cs_pad2, ↓cs_q_iconst, ↓cs_q_bipush, ↓cs_q_sipush, ↓cs_q_ldc, ↓cs_q_fall, ↓cs_q_stop, ↓cs_q_iload_n0, ↓cs_q_aload_n0, ↓cs_q_istore_n0, ↓cs_q_astore_n0, ↓cs_q_iinc0, ↓cs_q_iload_n1, ↓cs_q_aload_n1, ↓cs_q_istore_n1, ↓cs_q_astore_n1, ↓cs_q_iinc1, ↓cs_q_iload_n2, ↓cs_q_aload_n2, ↓cs_q_istore_n2, ↓cs_q_astore_n2, ↓cs_q_iinc2, ↓cs_q_iload_n3, ↓cs_q_aload_n3, ↓cs_q_istore_n3, ↓cs_q_astore_n3, ↓cs_q_iinc3, ↓cs_q_iload4, ↓cs_q_aload4, ↓cs_q_istore4, ↓cs_q_astore4, ↓cs_q_iinc4, ↓cs_q_iload5, ↓cs_q_aload5, ↓cs_q_istore5, ↓cs_q_astore5, ↓cs_q_iinc5, ↓cs_q_iload6, ↓cs_q_aload6, ↓cs_q_istore6, ↓cs_q_astore6, ↓cs_q_iinc6, ↓cs_q_iload7, ↓cs_q_aload7, ↓cs_q_istore7, ↓cs_q_astore7, ↓cs_q_iinc7, ↓cs_q_aload_nT, ↓cs_q_iadd, ↓cs_q_isub, ↓cs_q_imul, ↓cs_q_iand, ↓cs_q_ior, ↓cs_q_ishl, ↓cs_q_i2c, ↓cs_q_dup, ↓cs_q_pop, ↓cs_q_dup2, ↓cs_q_goto, ↓cs_q_if_eq, ↓cs_q_if_ne, ↓cs_q_if_lt, ↓cs_q_if_ge, ↓cs_q_if_gt, ↓cs_q_if_le, ↓cs_q_icmp_eq, ↓cs_q_icmp_ne, ↓cs_q_icmp_lt, ↓cs_q_icmp_ge, ↓cs_q_icmp_gt, ↓cs_q_icmp_le, ↓cs_q_table, ↓cs_q_lookup, ↓cs_q_getI, ↓cs_q_getR, ↓cs_q_putI, ↓cs_q_putZ, ↓cs_q_putR, ↓cs_q_gets, ↓cs_q_iald, ↓cs_q_taload, ↓cs_q_cald, ↓cs_q_iast, ↓cs_q_cast, ↓cs_q_aald, ↓cs_q_aast, ↓cs_q_tlen, ↓cs_q_alen, ↓cs_q_new, ↓cs_q_newa, ↓cs_q_anew, ↓cs_q_virt0, ↓cs_q_stat00, ↓cs_q_stat10, ↓cs_q_virt1, ↓cs_q_stat01, ↓cs_q_stat11, ↓cs_q_virt2, ↓cs_q_stat02, ↓cs_q_stat12, ↓cs_q_virt3, ↓cs_q_stat03, ↓cs_q_stat13, ↓cs_q_virt4, ↓cs_q_stat04, ↓cs_q_stat14, ↓cs_q_oinit, ↓cs_q_spec, ↓cs_q_max, ↓cs_q_min, ↓cs_q_copy, ↓cs_q_iret, ↓cs_q_zret, ↓cs_q_aret, ↓cs_q_vret, ↓cs_q_J, ↓cs_q_l8_0, ↓cs_q_l8_1, ↓cs_q_l8_2, ↓cs_q_l8_3, ↓cs_q_l8_4, ↓cs_q_l8_5, ↓cs_q_l8_6, rX6_init, qX6_init_0, qX6_init_1, qX6_init_2, qX6_init_3, true_and, and_true, true_or, or_true, Option.isSome_some, Option.getD_some, cs_bz, cs_bn, cs_bi, cs_bo, not_false_eq_true, not_true_eq_false, true_implies, false_implies, implies_true, Decidable.not_not, cs_em, cs_sw_c, cs_sw_n, false_or, or_false, false_and, and_false, cs_inT, Int.toNat_natCast, cs_tn0, cs_tn01, cs_tn1, cs_tn6, cs_tn11, cs_tn16, cs_tn21, cs_tn154, Int.reduceToNat, Int.reduceAdd, Int.reduceSub, Int.reduceNeg, Int.reduceLT, Int.reduceLE, Int.reduceEq, Nat.reduceAdd, obh, h2, hg]
      refine ⟨fun z => absurd z (by omega), fun _ => ⟨?_, cs_goV kd ?_⟩⟩
      · rw [show cs_mc iX6_init = 22 by decide +kernel, show cs_sl iX6_init = 220 by decide +kernel]; omega
      try simp (disch := omega) only [↓cs_pad0, ↓cs_pad1, ↓cs_pad2, ↓cs_q_iconst, ↓cs_q_bipush, ↓cs_q_sipush, ↓cs_q_ldc, ↓cs_q_fall, ↓cs_q_stop, ↓cs_q_iload_n0, ↓cs_q_aload_n0, ↓cs_q_istore_n0, ↓cs_q_astore_n0, ↓cs_q_iinc0, ↓cs_q_iload_n1, ↓cs_q_aload_n1, ↓cs_q_istore_n1, ↓cs_q_astore_n1, ↓cs_q_iinc1, ↓cs_q_iload_n2, ↓cs_q_aload_n2, ↓cs_q_istore_n2, ↓cs_q_astore_n2, ↓cs_q_iinc2, ↓cs_q_iload_n3, ↓cs_q_aload_n3, ↓cs_q_istore_n3, ↓cs_q_astore_n3, ↓cs_q_iinc3, ↓cs_q_iload4, ↓cs_q_aload4, ↓cs_q_istore4, ↓cs_q_astore4, ↓cs_q_iinc4, ↓cs_q_iload5, ↓cs_q_aload5, ↓cs_q_istore5, ↓cs_q_astore5, ↓cs_q_iinc5, ↓cs_q_iload6, ↓cs_q_aload6, ↓cs_q_istore6, ↓cs_q_astore6, ↓cs_q_iinc6, ↓cs_q_iload7, ↓cs_q_aload7, ↓cs_q_istore7, ↓cs_q_astore7, ↓cs_q_iinc7, ↓cs_q_aload_nT, ↓cs_q_iadd, ↓cs_q_isub, ↓cs_q_imul, ↓cs_q_iand, ↓cs_q_ior, ↓cs_q_ishl, ↓cs_q_i2c, ↓cs_q_dup, ↓cs_q_pop, ↓cs_q_dup2, ↓cs_q_goto, ↓cs_q_if_eq, ↓cs_q_if_ne, ↓cs_q_if_lt, ↓cs_q_if_ge, ↓cs_q_if_gt, ↓cs_q_if_le, ↓cs_q_icmp_eq, ↓cs_q_icmp_ne, ↓cs_q_icmp_lt, ↓cs_q_icmp_ge, ↓cs_q_icmp_gt, ↓cs_q_icmp_le, ↓cs_q_table, ↓cs_q_lookup, ↓cs_q_getI, ↓cs_q_getR, ↓cs_q_putI, ↓cs_q_putZ, ↓cs_q_putR, ↓cs_q_gets, ↓cs_q_iald, ↓cs_q_taload, ↓cs_q_cald, ↓cs_q_iast, ↓cs_q_cast, ↓cs_q_aald, ↓cs_q_aast, ↓cs_q_tlen, ↓cs_q_alen, ↓cs_q_new, ↓cs_q_newa, ↓cs_q_anew, ↓cs_q_virt0, ↓cs_q_stat00, ↓cs_q_stat10, ↓cs_q_virt1, ↓cs_q_stat01, ↓cs_q_stat11, ↓cs_q_virt2, ↓cs_q_stat02, ↓cs_q_stat12, ↓cs_q_virt3, ↓cs_q_stat03, ↓cs_q_stat13, ↓cs_q_virt4, ↓cs_q_stat04, ↓cs_q_stat14, ↓cs_q_oinit, ↓cs_q_spec, ↓cs_q_max, ↓cs_q_min, ↓cs_q_copy, ↓cs_q_iret, ↓cs_q_zret, ↓cs_q_aret, ↓cs_q_vret, ↓cs_q_J, ↓cs_q_l8_0, ↓cs_q_l8_1, ↓cs_q_l8_2, ↓cs_q_l8_3, ↓cs_q_l8_4, ↓cs_q_l8_5, ↓cs_q_l8_6, rX6_init, qX6_init_0, qX6_init_1, qX6_init_2, qX6_init_3, true_and, and_true, true_or, or_true, Option.isSome_some, Option.getD_some, cs_bz, cs_bn, cs_bi, cs_bo, not_false_eq_true, not_true_eq_false, true_implies, false_implies, implies_true, Decidable.not_not, cs_em, cs_sw_c, cs_sw_n, false_or, or_false, false_and, and_false, cs_inT, Int.toNat_natCast, cs_tn0, cs_tn01, cs_tn1, cs_tn6, cs_tn11, cs_tn16, cs_tn21, cs_tn154, Int.reduceToNat, Int.reduceAdd, Int.reduceSub, Int.reduceNeg, Int.reduceLT, Int.reduceLE, Int.reduceEq, Nat.reduceAdd, ix, rc, he]
      exact this
theorem i6_init (hl : h.1.length = p + 1) (h1 : h.1[p]? = some (0, 6, 5)) (h0 : h.2.1 p = fun _ => 0) : ∃ h', cs_Det iX6_init [cs_R p] h none h' ∧ cExt h h' p ∧ h'.1.length = p + 23 ∧ cs_sz h'.1 = cs_sz h.1 + 220 ∧ (h'.1[p + 1]? = some (1, 1, 60) ∧ h'.1[p + 2]? = some (2, 5, 20)) ∧ (h'.2.2 p 0 = some (p + 1) ∧ h'.2.2 p 2 = some (p + 2)) ∧ (h'.2.1 p = (fun _ => 0) ∧ h'.2.1 (p + 1) = fun _ => 0) ∧ (∀ k, k < 20 → h'.1[p + 3 + k]? = some (0, 5, 7) ∧ h'.2.2 (p + 2) k = some (p + 3 + k)) := by
  obtain ⟨ga, ea, a1, a2, a3, a4, a5, a6, a7, a8, a9, a10, a11, a12⟩ := cAP h p 0 1 1 60 (by omega)
  obtain ⟨gb, eb, b1, b2, b3, b4, b5, b6, b7, b8, b9, b10, b11, b12⟩ := cAP ea p 2 2 5 20 (by omega)
  have la : ea.1.length = p + 2 := by omega
  have lb : eb.1.length = p + 3 := by omega
  have la' : ga.1.length = p + 2 := by rw [← a3]; exact la
  have za : cs_sz ga.1 = cs_sz h.1 + 60 := by rw [← a3]; exact a6
  rw [hl] at a2 a7 a8 a10
  rw [la] at b2 b7 b8 b10
  have oba : cs_ob ga p 6 0 = True := eq_true ⟨5, by rw [a12]; exact h1, by decide⟩
  have pa : ea.1[p]? = some (0, 6, 5) := by rw [a4.2.1 p (by omega)]; exact h1
  have obb : cs_ob gb p 6 2 = True := eq_true ⟨5, by rw [b12]; exact pa, by decide⟩
  have pb : eb.1[p]? = some (0, 6, 5) := by rw [b4.2.1 p (by omega)]; exact pa
  have xb := cExt_trans a4 b4 (Or.inl rfl)
  obtain ⟨h', c1, c2, c3, c4, c5, c6⟩ := l6_things p (cs_sz h.1) 20 0 rfl eb (by omega) (by omega) pb b10 b7
  refine ⟨h', ?_, ⟨by omega, fun a ha => by rw [c1.2.1 a (by omega)]; exact xb.2.1 a ha, fun a ha hap => ?_⟩, c3, c4, ⟨by rw [c1.2.1 _ (by omega), b4.2.1 _ (by omega)]; exact a7, by rw [c1.2.1 _ (by omega)]; exact b7⟩, ⟨?_, ?_⟩, ⟨?_, ?_⟩, fun k hk => c5 k (Nat.zero_le _) hk⟩
  · refine cs_runA mX6_init kX6_init zX6_init rfl rfl ⟨by omega, c4⟩ 9 (fun sc => ?_)
    have hb := c6 sc (fun v' h'' => v' = none ∧ h'' = h') ⟨rfl, rfl⟩
    rw [← hl] at hb
    try simp (disch := omega) only [↓cs_pad0, ↓cs_pad1, ↓cs_pad2, ↓cs_q_iconst, ↓cs_q_bipush, ↓cs_q_sipush, ↓cs_q_ldc, ↓cs_q_fall, ↓cs_q_stop, ↓cs_q_iload_n0, ↓cs_q_aload_n0, ↓cs_q_istore_n0, ↓cs_q_astore_n0, ↓cs_q_iinc0, ↓cs_q_iload_n1, ↓cs_q_aload_n1, ↓cs_q_istore_n1, ↓cs_q_astore_n1, ↓cs_q_iinc1, ↓cs_q_iload_n2, ↓cs_q_aload_n2, ↓cs_q_istore_n2, ↓cs_q_astore_n2, ↓cs_q_iinc2, ↓cs_q_iload_n3, ↓cs_q_aload_n3, ↓cs_q_istore_n3, ↓cs_q_astore_n3, ↓cs_q_iinc3, ↓cs_q_iload4, ↓cs_q_aload4, ↓cs_q_istore4, ↓cs_q_astore4, ↓cs_q_iinc4, ↓cs_q_iload5, ↓cs_q_aload5, ↓cs_q_istore5, ↓cs_q_astore5, ↓cs_q_iinc5, ↓cs_q_iload6, ↓cs_q_aload6, ↓cs_q_istore6, ↓cs_q_astore6, ↓cs_q_iinc6, ↓cs_q_iload7, ↓cs_q_aload7, ↓cs_q_istore7, ↓cs_q_astore7, ↓cs_q_iinc7, ↓cs_q_aload_nT, ↓cs_q_iadd, ↓cs_q_isub, ↓cs_q_imul, ↓cs_q_iand, ↓cs_q_ior, ↓cs_q_ishl, ↓cs_q_i2c, ↓cs_q_dup, ↓cs_q_pop, ↓cs_q_dup2, ↓cs_q_goto, ↓cs_q_if_eq, ↓cs_q_if_ne, ↓cs_q_if_lt, ↓cs_q_if_ge, ↓cs_q_if_gt, ↓cs_q_if_le, ↓cs_q_icmp_eq, ↓cs_q_icmp_ne, ↓cs_q_icmp_lt, ↓cs_q_icmp_ge, ↓cs_q_icmp_gt, ↓cs_q_icmp_le, ↓cs_q_table, ↓cs_q_lookup, ↓cs_q_getI, ↓cs_q_getR, ↓cs_q_putI, ↓cs_q_putZ, ↓cs_q_putR, ↓cs_q_gets, ↓cs_q_iald, ↓cs_q_taload, ↓cs_q_cald, ↓cs_q_iast, ↓cs_q_cast, ↓cs_q_aald, ↓cs_q_aast, ↓cs_q_tlen, ↓cs_q_alen, ↓cs_q_new, ↓cs_q_newa, ↓cs_q_anew, ↓cs_q_virt0, ↓cs_q_stat00, ↓cs_q_stat10, ↓cs_q_virt1, ↓cs_q_stat01, ↓cs_q_stat11, ↓cs_q_virt2, ↓cs_q_stat02, ↓cs_q_stat12, ↓cs_q_virt3, ↓cs_q_stat03, ↓cs_q_stat13, ↓cs_q_virt4, ↓cs_q_stat04, ↓cs_q_stat14, ↓cs_q_oinit, ↓cs_q_spec, ↓cs_q_max, ↓cs_q_min, ↓cs_q_copy, ↓cs_q_iret, ↓cs_q_zret, ↓cs_q_aret, ↓cs_q_vret, ↓cs_q_J, ↓cs_q_l8_0, ↓cs_q_l8_1, ↓cs_q_l8_2, ↓cs_q_l8_3, ↓cs_q_l8_4, ↓cs_q_l8_5, ↓cs_q_l8_6, rX6_init, qX6_init_0, qX6_init_1, qX6_init_2, qX6_init_3, true_and, and_true, true_or, or_true, Option.isSome_some, Option.getD_some, cs_bz, cs_bn, cs_bi, cs_bo, not_false_eq_true, not_true_eq_false, true_implies, false_implies, implies_true, Decidable.not_not, cs_em, cs_sw_c, cs_sw_n, false_or, or_false, false_and, and_false, cs_inT, Int.toNat_natCast, cs_tn0, cs_tn01, cs_tn1, cs_tn6, cs_tn11, cs_tn16, cs_tn21, cs_tn154, Int.reduceToNat, Int.reduceAdd, Int.reduceSub, Int.reduceNeg, Int.reduceLT, Int.reduceLE, Int.reduceEq, Nat.reduceAdd, a1, a2, b1, b2, oba, obb, hl, la', za]
    rw [hl] at hb
    rw [show cs_mc iX6_init = 22 by decide +kernel, show cs_sl iX6_init = 220 by decide +kernel]
    refine ⟨by omega, by omega, hb⟩
  · have h1' := c1.2.2 a (by omega) (by omega)
    have h2' := xb.2.2 a ha hap
    exact ⟨h1'.1.trans h2'.1, h1'.2.trans h2'.2⟩
  · rw [(c1.2.2 p (by omega) (by omega)).2, b11 0 (by decide)]; exact a10
  · rw [(c1.2.2 p (by omega) (by omega)).2]; exact b10
  · rw [(c1.2.2 p (by omega) (by omega)).1, b9, a9]; exact h0
  · rw [(c1.2.2 _ (by omega) (by omega)).1, (b4.2.2 _ (by omega) (by omega)).1]; exact a8
end
