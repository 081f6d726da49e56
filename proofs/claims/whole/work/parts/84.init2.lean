/-! CONSTRUCTORS: a canal -/
section
variable {h h' g : cs_H} {s : Nat × Nat × Nat} {a c n k : Nat} {sc : Nat × (Nat → Int)} {o : Nat × Nat} {Q : Option cs_A → cs_H → Prop}
theorem cs_tn_0 {sc : Nat × (Nat → Int)} : cs_tn sc 0 = 3 := rfl
theorem cs_tv_00 {sc : Nat × (Nat → Int)} : cs_tv sc 0 0 = 6 := rfl
theorem cs_tv_01 {sc : Nat × (Nat → Int)} : cs_tv sc 0 1 = 2 := rfl
theorem cs_tv_02 {sc : Nat × (Nat → Int)} : cs_tv sc 0 2 = 4 := rfl
theorem l1_boats (p z : Nat) : ∀ (n i : Nat), i + n = 16 → ∀ h : cs_H, h.1.length = p + 30 + i → cs_sz h.1 = z + 235 + 7 * i → h.1[p]? = some (0, 1, 11) → h.2.2 p 3 = some (p + 4) → h.1[p + 4]? = some (2, 2, 16) →
    ∃ h', cExt h h' (p + 4) ∧ (∀ j, j < i → h'.2.2 (p + 4) j = h.2.2 (p + 4) j) ∧ h'.1.length = p + 46 ∧ cs_sz h'.1 = z + 347 ∧ (∀ k, i ≤ k → k < 16 → h'.1[p + (30 + k)]? = some (0, 0, 7) ∧ h'.2.2 (p + 4) k = some (p + (30 + k))) ∧
      ∀ (sc : Nat × (Nat → Int)) (Q : Option cs_A → cs_H → Prop), Q none h' → cs_VP sc iX1_init 117 [cs_R p, .inl (i : Int)] [] h (p + 1, z) Q
  | 0, i, hi, h, hl, hz, h1, h2, h3 => by
    have : i = 16 := by omega
    subst this
    refine ⟨h, ⟨Nat.le_refl _, fun _ _ => rfl, fun _ _ _ => ⟨rfl, rfl⟩⟩, fun _ _ => rfl, by omega, by omega, fun k a b => absurd a (by omega), fun sc Q hQ => ?_⟩
    refine cs_enter kX1_init 12 (by decide) rfl 12 ?_
    try simp (disch := omega) only [↓cs_pad0, ↓cs_pad1, ↓cs_pad2, ↓cs_q_iconst, ↓cs_q_bipush, ↓cs_q_sipush, ↓cs_q_ldc, ↓cs_q_fall, ↓cs_q_stop, ↓cs_q_iload_n0, ↓cs_q_aload_n0, ↓cs_q_istore_n0, ↓cs_q_astore_n0, ↓cs_q_iinc0, ↓cs_q_iload_n1, ↓cs_q_aload_n1, ↓cs_q_istore_n1, ↓cs_q_astore_n1, ↓cs_q_iinc1, ↓cs_q_iload_n2, ↓cs_q_aload_n2, ↓cs_q_istore_n2, ↓cs_q_astore_n2, ↓cs_q_iinc2, ↓cs_q_iload_n3, ↓cs_q_aload_n3, ↓cs_q_istore_n3, ↓cs_q_astore_n3, ↓cs_q_iinc3, ↓cs_q_iload4, ↓cs_q_aload4, ↓cs_q_istore4, ↓cs_q_astore4, ↓cs_q_iinc4, ↓cs_q_iload5, ↓cs_q_aload5, ↓cs_q_istore5, ↓cs_q_astore5, ↓cs_q_iinc5, ↓cs_q_iload6, ↓cs_q_aload6, ↓cs_q_istore6, ↓cs_q_astore6, ↓cs_q_iinc6, ↓cs_q_iload7, ↓cs_q_aload7, ↓cs_q_istore7, ↓cs_q_astore7, ↓cs_q_iinc7, ↓cs_q_aload_nT, ↓cs_q_iadd, ↓cs_q_isub, ↓cs_q_imul, ↓cs_q_iand, ↓cs_q_ior, ↓cs_q_ishl, ↓cs_q_i2c, ↓cs_q_dup, ↓cs_q_pop, ↓cs_q_dup2, ↓cs_q_goto, ↓cs_q_if_eq, ↓cs_q_if_ne, ↓cs_q_if_lt, ↓cs_q_if_ge, ↓cs_q_if_gt, ↓cs_q_if_le, ↓cs_q_icmp_eq, ↓cs_q_icmp_ne, ↓cs_q_icmp_lt, ↓cs_q_icmp_ge, ↓cs_q_icmp_gt, ↓cs_q_icmp_le, ↓cs_q_table, ↓cs_q_lookup, ↓cs_q_getI, ↓cs_q_getR, ↓cs_q_putI, ↓cs_q_putZ, ↓cs_q_putR, ↓cs_q_gets, ↓cs_q_iald, ↓cs_q_taload, ↓cs_q_cald, ↓cs_q_iast, ↓cs_q_cast, ↓cs_q_aald, ↓cs_q_aast, ↓cs_q_tlen, ↓cs_q_alen, ↓cs_q_new, ↓cs_q_newa, ↓cs_q_anew, ↓cs_q_virt0, ↓cs_q_stat00, ↓cs_q_stat10, ↓cs_q_virt1, ↓cs_q_stat01, ↓cs_q_stat11, ↓cs_q_virt2, ↓cs_q_stat02, ↓cs_q_stat12, ↓cs_q_virt3, ↓cs_q_stat03, ↓cs_q_stat13, ↓cs_q_virt4, ↓cs_q_stat04, ↓cs_q_stat14, ↓cs_q_oinit, ↓cs_q_spec, ↓cs_q_max, ↓cs_q_min, ↓cs_q_copy, ↓cs_q_iret, ↓cs_q_zret, ↓cs_q_aret, ↓cs_q_vret, ↓cs_q_J, ↓cs_q_l8_0, ↓cs_q_l8_1, ↓cs_q_l8_2, ↓cs_q_l8_3, ↓cs_q_l8_4, ↓cs_q_l8_5, ↓cs_q_l8_6, rX1_init, qX1_init_0, qX1_init_1, qX1_init_2, qX1_init_3, qX1_init_4, qX1_init_5, qX1_init_6, qX1_init_7, qX1_init_8, qX1_init_9, qX1_init_10, qX1_init_11, qX1_init_12, true_and, and_true, true_or, or_true, Option.isSome_some, Option.getD_some, cs_bz, cs_bn, cs_bi, cs_bo, not_false_eq_true, not_true_eq_false, true_implies, false_implies, implies_true, Decidable.not_not, cs_em, cs_sw_c, cs_sw_n, false_or, or_false, false_and, and_false, cs_inT, Int.toNat_natCast, cs_tn0, cs_tn01, cs_tn1, cs_tn6, cs_tn11, cs_tn16, cs_tn21, cs_tn154, Int.reduceToNat, Int.reduceAdd, Int.reduceSub, Int.reduceNeg, Int.reduceLT, Int.reduceLE, Int.reduceEq, Nat.reduceAdd]
    exact ⟨fun _ => hQ, fun z => absurd (by decide) z⟩
  | n + 1, i, hi, h, hl, hz, h1, h2, h3 => by
    obtain ⟨g, hg, g1, g2, g3, g4, g5, g6, g7, g8⟩ := cN h 0 0 7
    have x1 := cExt_new (p + 4) h (0, 0, 7)
    rw [hg] at x1
    have kd := i0_init g3
    obtain ⟨e, he⟩ : ∃ e : cs_H, (g.1, cs_u2 g.2.1 h.1.length 6 (-5), cs_u2 g.2.2 (p + 4) i (some h.1.length)) = e := ⟨_, rfl⟩
    have e1 : e.1 = g.1 := by rw [← he]
    have e2 : e.2.1 = cs_u2 g.2.1 h.1.length 6 (-5) := by rw [← he]
    have e3 : e.2.2 = cs_u2 g.2.2 (p + 4) i (some h.1.length) := by rw [← he]
    have x2 : cExt h e (p + 4) := by
      refine ⟨by rw [e1]; exact x1.1, fun a ha => by rw [e1]; exact x1.2.1 a ha, fun a ha hap => ⟨?_, ?_⟩⟩
      · rw [e2, cs_u2_us, cs_us_ne (by omega)]; exact g6 a (by omega)
      · funext j; rw [e3, cs_u2_row hap, g8 a (by omega)]
    have ob : cs_ob g p 1 3 = True := eq_true ⟨11, by rw [g4 p (by omega)]; exact h1, by decide⟩
    have obh : cs_ob h p 1 3 = True := eq_true ⟨11, h1, by decide⟩
    have ix : cs_ix (g.1, cs_u2 g.2.1 h.1.length 6 (-5), g.2.2) (p + 4) 2 2 (i : Int) = True := eq_true ⟨16, by show g.1[p + 4]? = _; rw [g4 _ (by omega)]; exact h3, by decide, by omega, by omega⟩
    have rc : cs_rc (g.1, cs_u2 g.2.1 h.1.length 6 (-5), g.2.2) h.1.length 0 = True := eq_true ⟨7, g3⟩
    obtain ⟨h', b1, b2, b3, b4, b5, b6⟩ := l1_boats p z n (i + 1) (by omega) e (by rw [e1]; omega) (by rw [e1]; omega) (by rw [x2.2.1 p (by omega)]; exact h1) (by rw [(x2.2.2 p (by omega) (by omega)).2]; exact h2) (by rw [x2.2.1 (p + 4) (by omega)]; exact h3)
    simp only [Int.natCast_add, Int.natCast_one] at b6
    have hel : e.1.length = p + 30 + (i + 1) := by rw [e1]; omega
    refine ⟨h', cExt_trans x2 b1 (Or.inl rfl), fun j hj => ?_, b3, b4, fun k hk1 hk2 => ?_, fun sc Q hQ => ?_⟩
    · rw [b2 j (by omega), e3, cs_u2_col (by omega), g8 _ (by omega)]
    · by_cases hki : k = i
      · subst hki
        refine ⟨?_, ?_⟩
        · rw [b1.2.1 _ (by omega), e1, show p + (30 + k) = h.1.length by omega]; exact g3
        · rw [b2 k (by omega), e3, cs_u2_hit, show p + (30 + k) = h.1.length by omega]
      · exact b5 k (by omega) hk2
    · have := b6 sc Q hQ
      refine cs_enter kX1_init 12 (by decide) rfl 12 ?_
      try simp (disch := omega) only [↓cs_pad0, ↓cs_pad1, ↓cs_pad2, ↓cs_q_iconst, ↓cs_q_bipush, ↓cs_q_sipush, ↓cs_q_ldc, ↓cs_q_fall, ↓cs_q_stop, ↓cs_q_iload_n0, ↓cs_q_aload_n0, ↓cs_q_istore_n0, ↓cs_q_astore_n0, ↓cs_q_iinc0, ↓cs_q_iload_n1, ↓cs_q_aload_n1, ↓cs_q_istore_n1, ↓cs_q_astore_n1, ↓cs_q_iinc1, ↓cs_q_iload_n2, ↓cs_q_aload_n2, ↓cs_q_istore_n2, ↓cs_q_astore_n2, ↓cs_q_iinc2, ↓cs_q_iload_n3, ↓cs_q_aload_n3, ↓cs_q_istore_n3, ↓cs_q_astore_n3, ↓cs_q_iinc3, ↓cs_q_iload4, ↓cs_q_aload4, ↓cs_q_istore4, ↓cs_q_astore4, ↓cs_q_iinc4, ↓cs_q_iload5, ↓cs_q_aload5, ↓cs_q_istore5, ↓cs_q_astore5, ↓cs_q_iinc5, ↓cs_q_iload6, ↓cs_q_aload6, ↓cs_q_istore6, ↓cs_q_astore6, ↓cs_q_iinc6, ↓cs_q_iload7, ↓cs_q_aload7, ↓cs_q_istore7, ↓cs_q_astore7, ↓cs_q_iinc7, ↓cs_q_aload_nT, ↓cs_q_iadd, ↓cs_q_isub, ↓cs_q_imul, ↓cs_q_iand, ↓cs_q_ior, ↓cs_q_ishl, ↓cs_q_i2c, ↓cs_q_dup, ↓cs_q_pop, ↓cs_q_dup2, ↓cs_q_goto, ↓cs_q_if_eq, ↓cs_q_if_ne, ↓cs_q_if_lt, ↓cs_q_if_ge, ↓cs_q_if_gt, ↓cs_q_if_le, ↓cs_q_icmp_eq, ↓cs_q_icmp_ne, ↓cs_q_icmp_lt, ↓cs_q_icmp_ge, ↓cs_q_icmp_gt, ↓cs_q_icmp_le, ↓cs_q_table, ↓cs_q_lookup, ↓cs_q_getI, ↓cs_q_getR, ↓cs_q_putI, ↓cs_q_putZ, ↓cs_q_putR, ↓cs_q_gets, ↓cs_q_iald, ↓cs_q_taload, ↓cs_q_cald, ↓cs_q_iast, ↓cs_q_cast, ↓cs_q_aald, ↓cs_q_aast, ↓cs_q_tlen, ↓cs_q_alen, ↓cs_q_new, ↓cs_q_newa, ↓cs_q_anew, ↓cs_q_virt0, ↓cs_q_stat00, ↓cs_q_stat10, ↓cs_q_virt1, ↓cs_q_stat01, ↓cs_q_stat11, ↓cs_q_virt2, ↓cs_q_stat02, ↓cs_q_stat12, ↓cs_q_virt3, ↓cs_q_stat03, ↓cs_q_stat13, ↓cs_q_virt4, ↓cs_q_stat04, ↓cs_q_stat14, ↓cs_q_oinit, ↓cs_q_spec, ↓cs_q_max, ↓cs_q_min, ↓cs_q_copy, ↓cs_q_iret, ↓cs_q_zret, ↓cs_q_aret, ↓cs_q_vret, ↓cs_q_J, ↓cs_q_l8_0, ↓cs_q_l8_1, ↓cs_q_l8_2, ↓cs_q_l8_3, ↓cs_q_l8_4, ↓cs_q_l8_5, ↓cs_q_l8_6, rX1_init, qX1_init_0, qX1_init_1, qX1_init_2, qX1_init_3, qX1_init_4, qX1_init_5, qX1_init_6, qX1_init_7, qX1_init_8, qX1_init_9, qX1_init_10, qX1_init_11, qX1_init_12, true_and, and_true, true_or, or_true, Option.isSome_some, Option.getD_some, cs_bz, cs_bn, cs_bi, cs_bo, not_false_eq_true, not_true_eq_false, true_implies, false_implies, implies_true, Decidable.not_not, cs_em, cs_sw_c, cs_sw_n, false_or, or_false, false_and, and_false, cs_inT, Int.toNat_natCast, cs_tn0, cs_tn01, cs_tn1, cs_tn6, cs_tn11, cs_tn16, cs_tn21, cs_tn154, Int.reduceToNat, Int.reduceAdd, Int.reduceSub, Int.reduceNeg, Int.reduceLT, Int.reduceLE, Int.reduceEq, Nat.reduceAdd, obh, h2, hg]
      refine ⟨fun z => absurd z (by omega), fun _ => ⟨?_, cs_goV kd ?_⟩⟩
      · rw [mX1_init.2.2.1, mX1_init.2.2.2]; omega
      try simp (disch := omega) only [↓cs_pad0, ↓cs_pad1, ↓cs_pad2, ↓cs_q_iconst, ↓cs_q_bipush, ↓cs_q_sipush, ↓cs_q_ldc, ↓cs_q_fall, ↓cs_q_stop, ↓cs_q_iload_n0, ↓cs_q_aload_n0, ↓cs_q_istore_n0, ↓cs_q_astore_n0, ↓cs_q_iinc0, ↓cs_q_iload_n1, ↓cs_q_aload_n1, ↓cs_q_istore_n1, ↓cs_q_astore_n1, ↓cs_q_iinc1, ↓cs_q_iload_n2, ↓cs_q_aload_n2, ↓cs_q_istore_n2, ↓cs_q_astore_n2, ↓cs_q_iinc2, ↓cs_q_iload_n3, ↓cs_q_aload_n3, ↓cs_q_istore_n3, ↓cs_q_astore_n3, ↓cs_q_iinc3, ↓cs_q_iload4, ↓cs_q_aload4, ↓cs_q_istore4, ↓cs_q_astore4, ↓cs_q_iinc4, ↓cs_q_iload5, ↓cs_q_aload5, ↓cs_q_istore5, ↓cs_q_astore5, ↓cs_q_iinc5, ↓cs_q_iload6, ↓cs_q_aload6, ↓cs_q_istore6, ↓cs_q_astore6, ↓cs_q_iinc6, ↓cs_q_iload7, ↓cs_q_aload7, ↓cs_q_istore7, ↓cs_q_astore7, ↓cs_q_iinc7, ↓cs_q_aload_nT, ↓cs_q_iadd, ↓cs_q_isub, ↓cs_q_imul, ↓cs_q_iand, ↓cs_q_ior, ↓cs_q_ishl, ↓cs_q_i2c, ↓cs_q_dup, ↓cs_q_pop, ↓cs_q_dup2, ↓cs_q_goto, ↓cs_q_if_eq, ↓cs_q_if_ne, ↓cs_q_if_lt, ↓cs_q_if_ge, ↓cs_q_if_gt, ↓cs_q_if_le, ↓cs_q_icmp_eq, ↓cs_q_icmp_ne, ↓cs_q_icmp_lt, ↓cs_q_icmp_ge, ↓cs_q_icmp_gt, ↓cs_q_icmp_le, ↓cs_q_table, ↓cs_q_lookup, ↓cs_q_getI, ↓cs_q_getR, ↓cs_q_putI, ↓cs_q_putZ, ↓cs_q_putR, ↓cs_q_gets, ↓cs_q_iald, ↓cs_q_taload, ↓cs_q_cald, ↓cs_q_iast, ↓cs_q_cast, ↓cs_q_aald, ↓cs_q_aast, ↓cs_q_tlen, ↓cs_q_alen, ↓cs_q_new, ↓cs_q_newa, ↓cs_q_anew, ↓cs_q_virt0, ↓cs_q_stat00, ↓cs_q_stat10, ↓cs_q_virt1, ↓cs_q_stat01, ↓cs_q_stat11, ↓cs_q_virt2, ↓cs_q_stat02, ↓cs_q_stat12, ↓cs_q_virt3, ↓cs_q_stat03, ↓cs_q_stat13, ↓cs_q_virt4, ↓cs_q_stat04, ↓cs_q_stat14, ↓cs_q_oinit, ↓cs_q_spec, ↓cs_q_max, ↓cs_q_min, ↓cs_q_copy, ↓cs_q_iret, ↓cs_q_zret, ↓cs_q_aret, ↓cs_q_vret, ↓cs_q_J, ↓cs_q_l8_0, ↓cs_q_l8_1, ↓cs_q_l8_2, ↓cs_q_l8_3, ↓cs_q_l8_4, ↓cs_q_l8_5, ↓cs_q_l8_6, rX1_init, qX1_init_0, qX1_init_1, qX1_init_2, qX1_init_3, qX1_init_4, qX1_init_5, qX1_init_6, qX1_init_7, qX1_init_8, qX1_init_9, qX1_init_10, qX1_init_11, qX1_init_12, true_and, and_true, true_or, or_true, Option.isSome_some, Option.getD_some, cs_bz, cs_bn, cs_bi, cs_bo, not_false_eq_true, not_true_eq_false, true_implies, false_implies, implies_true, Decidable.not_not, cs_em, cs_sw_c, cs_sw_n, false_or, or_false, false_and, and_false, cs_inT, Int.toNat_natCast, cs_tn0, cs_tn01, cs_tn1, cs_tn6, cs_tn11, cs_tn16, cs_tn21, cs_tn154, Int.reduceToNat, Int.reduceAdd, Int.reduceSub, Int.reduceNeg, Int.reduceLT, Int.reduceLE, Int.reduceEq, Nat.reduceAdd, ix, rc, he]
      exact this
theorem l1_locks (p z : Nat) : ∀ (n i : Nat), i + n = 5 → ∀ h : cs_H, h.1.length = p + 5 + 5 * i → cs_sz h.1 = z + 30 + 41 * i → h.1[p]? = some (0, 1, 11) → h.2.2 p 2 = some (p + 3) → h.1[p + 3]? = some (2, 4, 5) →
    ∃ h', cExt h h' (p + 3) ∧ (∀ j, j < i → h'.2.2 (p + 3) j = h.2.2 (p + 3) j) ∧ h'.1.length = p + 30 ∧ cs_sz h'.1 = z + 235 ∧ (∀ k, i ≤ k → k < 5 → cLk h' (p + (5 + 5 * k)) (p + (6 + 5 * k)) ∧ h'.2.1 (p + (5 + 5 * k)) = (fun _ => 0) ∧ h'.2.2 (p + 3) k = some (p + (5 + 5 * k))) ∧
      ∀ (sc : Nat × (Nat → Int)) (Q : Option cs_A → cs_H → Prop), cs_VP sc iX1_init 117 [cs_R p, .inl 0] [] h' (p + 1, z) Q → cs_VP sc iX1_init 91 [cs_R p, .inl (i : Int)] [] h (p + 1, z) Q
  | 0, i, hi, h, hl, hz, h1, h2, h3 => by
    have : i = 5 := by omega
    subst this
    refine ⟨h, ⟨Nat.le_refl _, fun _ _ => rfl, fun _ _ _ => ⟨rfl, rfl⟩⟩, fun _ _ => rfl, by omega, by omega, fun k a b => absurd a (by omega), fun sc Q hQ => ?_⟩
    refine cs_enter kX1_init 11 (by decide) rfl 12 ?_
    try simp (disch := omega) only [↓cs_pad0, ↓cs_pad1, ↓cs_pad2, ↓cs_q_iconst, ↓cs_q_bipush, ↓cs_q_sipush, ↓cs_q_ldc, ↓cs_q_fall, ↓cs_q_stop, ↓cs_q_iload_n0, ↓cs_q_aload_n0, ↓cs_q_istore_n0, ↓cs_q_astore_n0, ↓cs_q_iinc0, ↓cs_q_iload_n1, ↓cs_q_aload_n1, ↓cs_q_istore_n1, ↓cs_q_astore_n1, ↓cs_q_iinc1, ↓cs_q_iload_n2, ↓cs_q_aload_n2, ↓cs_q_istore_n2, ↓cs_q_astore_n2, ↓cs_q_iinc2, ↓cs_q_iload_n3, ↓cs_q_aload_n3, ↓cs_q_istore_n3, ↓cs_q_astore_n3, ↓cs_q_iinc3, ↓cs_q_iload4, ↓cs_q_aload4, ↓cs_q_istore4, ↓cs_q_astore4, ↓cs_q_iinc4, ↓cs_q_iload5, ↓cs_q_aload5, ↓cs_q_istore5, ↓cs_q_astore5, ↓cs_q_iinc5, ↓cs_q_iload6, ↓cs_q_aload6, ↓cs_q_istore6, ↓cs_q_astore6, ↓cs_q_iinc6, ↓cs_q_iload7, ↓cs_q_aload7, ↓cs_q_istore7, ↓cs_q_astore7, ↓cs_q_iinc7, ↓cs_q_aload_nT, ↓cs_q_iadd, ↓cs_q_isub, ↓cs_q_imul, ↓cs_q_iand, ↓cs_q_ior, ↓cs_q_ishl, ↓cs_q_i2c, ↓cs_q_dup, ↓cs_q_pop, ↓cs_q_dup2, ↓cs_q_goto, ↓cs_q_if_eq, ↓cs_q_if_ne, ↓cs_q_if_lt, ↓cs_q_if_ge, ↓cs_q_if_gt, ↓cs_q_if_le, ↓cs_q_icmp_eq, ↓cs_q_icmp_ne, ↓cs_q_icmp_lt, ↓cs_q_icmp_ge, ↓cs_q_icmp_gt, ↓cs_q_icmp_le, ↓cs_q_table, ↓cs_q_lookup, ↓cs_q_getI, ↓cs_q_getR, ↓cs_q_putI, ↓cs_q_putZ, ↓cs_q_putR, ↓cs_q_gets, ↓cs_q_iald, ↓cs_q_taload, ↓cs_q_cald, ↓cs_q_iast, ↓cs_q_cast, ↓cs_q_aald, ↓cs_q_aast, ↓cs_q_tlen, ↓cs_q_alen, ↓cs_q_new, ↓cs_q_newa, ↓cs_q_anew, ↓cs_q_virt0, ↓cs_q_stat00, ↓cs_q_stat10, ↓cs_q_virt1, ↓cs_q_stat01, ↓cs_q_stat11, ↓cs_q_virt2, ↓cs_q_stat02, ↓cs_q_stat12, ↓cs_q_virt3, ↓cs_q_stat03, ↓cs_q_stat13, ↓cs_q_virt4, ↓cs_q_stat04, ↓cs_q_stat14, ↓cs_q_oinit, ↓cs_q_spec, ↓cs_q_max, ↓cs_q_min, ↓cs_q_copy, ↓cs_q_iret, ↓cs_q_zret, ↓cs_q_aret, ↓cs_q_vret, ↓cs_q_J, ↓cs_q_l8_0, ↓cs_q_l8_1, ↓cs_q_l8_2, ↓cs_q_l8_3, ↓cs_q_l8_4, ↓cs_q_l8_5, ↓cs_q_l8_6, rX1_init, qX1_init_0, qX1_init_1, qX1_init_2, qX1_init_3, qX1_init_4, qX1_init_5, qX1_init_6, qX1_init_7, qX1_init_8, qX1_init_9, qX1_init_10, qX1_init_11, qX1_init_12, true_and, and_true, true_or, or_true, Option.isSome_some, Option.getD_some, cs_bz, cs_bn, cs_bi, cs_bo, not_false_eq_true, not_true_eq_false, true_implies, false_implies, implies_true, Decidable.not_not, cs_em, cs_sw_c, cs_sw_n, false_or, or_false, false_and, and_false, cs_inT, Int.toNat_natCast, cs_tn0, cs_tn01, cs_tn1, cs_tn6, cs_tn11, cs_tn16, cs_tn21, cs_tn154, Int.reduceToNat, Int.reduceAdd, Int.reduceSub, Int.reduceNeg, Int.reduceLT, Int.reduceLE, Int.reduceEq, Nat.reduceAdd]
    exact ⟨fun _ => hQ, fun z => absurd (by decide) z⟩
  | n + 1, i, hi, h, hl, hz, h1, h2, h3 => by
    obtain ⟨g, hg, g1, g2, g3, g4, g5, g6, g7, g8⟩ := cN h 0 3 5
    have x1 := cExt_new (p + 3) h (0, 3, 5)
    rw [hg] at x1
    obtain ⟨k3, kd, kx, k1, k2, kl, kz⟩ := i3_init g3
    have x1' := cExt_trans x1 kx (Or.inr (Nat.le_refl _))
    obtain ⟨e, he⟩ : ∃ e : cs_H, (k3.1, k3.2.1, cs_u2 k3.2.2 (p + 3) i (some h.1.length)) = e := ⟨_, rfl⟩
    have e1 : e.1 = k3.1 := by rw [← he]
    have e2 : e.2.1 = k3.2.1 := by rw [← he]
    have e3 : e.2.2 = cs_u2 k3.2.2 (p + 3) i (some h.1.length) := by rw [← he]
    have x2 : cExt h e (p + 3) := by rw [← he]; exact cExt_trans x1' (cExt_put k3) (Or.inl rfl)
    have obh : cs_ob h p 1 2 = True := eq_true ⟨11, h1, by decide⟩
    have ix : cs_ix k3 (p + 3) 2 4 (i : Int) = True := eq_true ⟨5, by rw [x1'.2.1 _ (by omega)]; exact h3, by decide, by omega, by omega⟩
    have rc : cs_rc k3 h.1.length 3 = True := eq_true ⟨5, kl.1.1⟩
    obtain ⟨h', b1, b2, b3, b4, b5, b6⟩ := l1_locks p z n (i + 1) (by omega) e (by rw [e1]; omega) (by rw [e1]; omega) (by rw [x2.2.1 p (by omega)]; exact h1) (by rw [(x2.2.2 p (by omega) (by omega)).2]; exact h2) (by rw [x2.2.1 (p + 3) (by omega)]; exact h3)
    simp only [Int.natCast_add, Int.natCast_one] at b6
    have hel : e.1.length = p + 5 + 5 * (i + 1) := by rw [e1]; omega
    have hkr : k3.2.2 (p + 3) = h.2.2 (p + 3) := by rw [(kx.2.2 _ (by omega) (by omega)).2, g8 _ (by omega)]
    refine ⟨h', cExt_trans x2 b1 (Or.inl rfl), fun j hj => ?_, b3, b4, fun k hk1 hk2 => ?_, fun sc Q hQ => ?_⟩
    · rw [b2 j (by omega), e3, cs_u2_col (by omega), hkr]
    · by_cases hki : k = i
      · subst hki
        have hp5 : p + (5 + 5 * k) = h.1.length := by omega
        have hp6 : p + (6 + 5 * k) = g.1.length := by omega
        rw [hp5, hp6]
        obtain ⟨⟨l1, l2, l3, l4, l5⟩, ⟨l6, l7, l8, l9⟩, l10, l11⟩ := kl
        have em : ∀ a, p + 5 ≤ a → a < e.1.length → h'.1[a]? = k3.1[a]? ∧ h'.2.1 a = k3.2.1 a ∧ h'.2.2 a = k3.2.2 a := fun a ha1 ha2 => by
          refine ⟨by rw [b1.2.1 a ha2, e1], by rw [(b1.2.2 a ha2 (by omega)).1, e2], ?_⟩
          rw [(b1.2.2 a ha2 (by omega)).2, e3]
          funext j; exact cs_u2_row (by omega)
        have hh := em h.1.length (by omega) (by omega)
        have h0 := em g.1.length (by omega) (by omega)
        have ha := em (g.1.length + 1) (by omega) (by omega)
        have hb := em (g.1.length + 2) (by omega) (by omega)
        have hc := em (g.1.length + 3) (by omega) (by omega)
        refine ⟨⟨⟨?_, ?_, ?_, ?_, ?_⟩, ⟨?_, ?_, ?_, ?_⟩, ?_, ?_⟩, ?_, ?_⟩
        · rw [hh.1]; exact l1
        · rw [h0.1]; exact l2
        · rw [ha.1]; exact l3
        · rw [hb.1]; exact l4
        · rw [hc.1]; exact l5
        · rw [hh.2.2]; exact l6
        · rw [hh.2.2]; exact l7
        · rw [h0.2.2]; exact l8
        · rw [hb.2.2]; exact l9
        · rw [h0.2.1]; exact l10
        · rw [hb.2.1]; exact l11
        · rw [hh.2.1, kz]; exact g5
        · rw [b2 k (by omega), e3, cs_u2_hit]
      · exact b5 k (by omega) hk2
    · have := b6 sc Q hQ
      refine cs_enter kX1_init 11 (by decide) rfl 12 ?_
      try simp (disch := omega) only [↓cs_pad0, ↓cs_pad1, ↓cs_pad2, ↓cs_q_iconst, ↓cs_q_bipush, ↓cs_q_sipush, ↓cs_q_ldc, ↓cs_q_fall, ↓cs_q_stop, ↓cs_q_iload_n0, ↓cs_q_aload_n0, ↓cs_q_istore_n0, ↓cs_q_astore_n0, ↓cs_q_iinc0, ↓cs_q_iload_n1, ↓cs_q_aload_n1, ↓cs_q_istore_n1, ↓cs_q_astore_n1, ↓cs_q_iinc1, ↓cs_q_iload_n2, ↓cs_q_aload_n2, ↓cs_q_istore_n2, ↓cs_q_astore_n2, ↓cs_q_iinc2, ↓cs_q_iload_n3, ↓cs_q_aload_n3, ↓cs_q_istore_n3, ↓cs_q_astore_n3, ↓cs_q_iinc3, ↓cs_q_iload4, ↓cs_q_aload4, ↓cs_q_istore4, ↓cs_q_astore4, ↓cs_q_iinc4, ↓cs_q_iload5, ↓cs_q_aload5, ↓cs_q_istore5, ↓cs_q_astore5, ↓cs_q_iinc5, ↓cs_q_iload6, ↓cs_q_aload6, ↓cs_q_istore6, ↓cs_q_astore6, ↓cs_q_iinc6, ↓cs_q_iload7, ↓cs_q_aload7, ↓cs_q_istore7, ↓cs_q_astore7, ↓cs_q_iinc7, ↓cs_q_aload_nT, ↓cs_q_iadd, ↓cs_q_isub, ↓cs_q_imul, ↓cs_q_iand, ↓cs_q_ior, ↓cs_q_ishl, ↓cs_q_i2c, ↓cs_q_dup, ↓cs_q_pop, ↓cs_q_dup2, ↓cs_q_goto, ↓cs_q_if_eq, ↓cs_q_if_ne, ↓cs_q_if_lt, ↓cs_q_if_ge, ↓cs_q_if_gt, ↓cs_q_if_le, ↓cs_q_icmp_eq, ↓cs_q_icmp_ne, ↓cs_q_icmp_lt, ↓cs_q_icmp_ge, ↓cs_q_icmp_gt, ↓cs_q_icmp_le, ↓cs_q_table, ↓cs_q_lookup, ↓cs_q_getI, ↓cs_q_getR, ↓cs_q_putI, ↓cs_q_putZ, ↓cs_q_putR, ↓cs_q_gets, ↓cs_q_iald, ↓cs_q_taload, ↓cs_q_cald, ↓cs_q_iast, ↓cs_q_cast, ↓cs_q_aald, ↓cs_q_aast, ↓cs_q_tlen, ↓cs_q_alen, ↓cs_q_new, ↓cs_q_newa, ↓cs_q_anew, ↓cs_q_virt0, ↓cs_q_stat00, ↓cs_q_stat10, ↓cs_q_virt1, ↓cs_q_stat01, ↓cs_q_stat11, ↓cs_q_virt2, ↓cs_q_stat02, ↓cs_q_stat12, ↓cs_q_virt3, ↓cs_q_stat03, ↓cs_q_stat13, ↓cs_q_virt4, ↓cs_q_stat04, ↓cs_q_stat14, ↓cs_q_oinit, ↓cs_q_spec, ↓cs_q_max, ↓cs_q_min, ↓cs_q_copy, ↓cs_q_iret, ↓cs_q_zret, ↓cs_q_aret, ↓cs_q_vret, ↓cs_q_J, ↓cs_q_l8_0, ↓cs_q_l8_1, ↓cs_q_l8_2, ↓cs_q_l8_3, ↓cs_q_l8_4, ↓cs_q_l8_5, ↓cs_q_l8_6, rX1_init, qX1_init_0, qX1_init_1, qX1_init_2, qX1_init_3, qX1_init_4, qX1_init_5, qX1_init_6, qX1_init_7, qX1_init_8, qX1_init_9, qX1_init_10, qX1_init_11, qX1_init_12, true_and, and_true, true_or, or_true, Option.isSome_some, Option.getD_some, cs_bz, cs_bn, cs_bi, cs_bo, not_false_eq_true, not_true_eq_false, true_implies, false_implies, implies_true, Decidable.not_not, cs_em, cs_sw_c, cs_sw_n, false_or, or_false, false_and, and_false, cs_inT, Int.toNat_natCast, cs_tn0, cs_tn01, cs_tn1, cs_tn6, cs_tn11, cs_tn16, cs_tn21, cs_tn154, Int.reduceToNat, Int.reduceAdd, Int.reduceSub, Int.reduceNeg, Int.reduceLT, Int.reduceLE, Int.reduceEq, Nat.reduceAdd, obh, h2, hg]
      refine ⟨fun z => absurd z (by omega), fun _ => ⟨?_, ?_, cs_goV kd ?_⟩⟩
      · rw [mX1_init.2.2.1, mX1_init.2.2.2]; omega
      · rw [mX1_init.2.2.1, mX1_init.2.2.2]; omega
      try simp (disch := omega) only [↓cs_pad0, ↓cs_pad1, ↓cs_pad2, ↓cs_q_iconst, ↓cs_q_bipush, ↓cs_q_sipush, ↓cs_q_ldc, ↓cs_q_fall, ↓cs_q_stop, ↓cs_q_iload_n0, ↓cs_q_aload_n0, ↓cs_q_istore_n0, ↓cs_q_astore_n0, ↓cs_q_iinc0, ↓cs_q_iload_n1, ↓cs_q_aload_n1, ↓cs_q_istore_n1, ↓cs_q_astore_n1, ↓cs_q_iinc1, ↓cs_q_iload_n2, ↓cs_q_aload_n2, ↓cs_q_istore_n2, ↓cs_q_astore_n2, ↓cs_q_iinc2, ↓cs_q_iload_n3, ↓cs_q_aload_n3, ↓cs_q_istore_n3, ↓cs_q_astore_n3, ↓cs_q_iinc3, ↓cs_q_iload4, ↓cs_q_aload4, ↓cs_q_istore4, ↓cs_q_astore4, ↓cs_q_iinc4, ↓cs_q_iload5, ↓cs_q_aload5, ↓cs_q_istore5, ↓cs_q_astore5, ↓cs_q_iinc5, ↓cs_q_iload6, ↓cs_q_aload6, ↓cs_q_istore6, ↓cs_q_astore6, ↓cs_q_iinc6, ↓cs_q_iload7, ↓cs_q_aload7, ↓cs_q_istore7, ↓cs_q_astore7, ↓cs_q_iinc7, ↓cs_q_aload_nT, ↓cs_q_iadd, ↓cs_q_isub, ↓cs_q_imul, ↓cs_q_iand, ↓cs_q_ior, ↓cs_q_ishl, ↓cs_q_i2c, ↓cs_q_dup, ↓cs_q_pop, ↓cs_q_dup2, ↓cs_q_goto, ↓cs_q_if_eq, ↓cs_q_if_ne, ↓cs_q_if_lt, ↓cs_q_if_ge, ↓cs_q_if_gt, ↓cs_q_if_le, ↓cs_q_icmp_eq, ↓cs_q_icmp_ne, ↓cs_q_icmp_lt, ↓cs_q_icmp_ge, ↓cs_q_icmp_gt, ↓cs_q_icmp_le, ↓cs_q_table, ↓cs_q_lookup, ↓cs_q_getI, ↓cs_q_getR, ↓cs_q_putI, ↓cs_q_putZ, ↓cs_q_putR, ↓cs_q_gets, ↓cs_q_iald, ↓cs_q_taload, ↓cs_q_cald, ↓cs_q_iast, ↓cs_q_cast, ↓cs_q_aald, ↓cs_q_aast, ↓cs_q_tlen, ↓cs_q_alen, ↓cs_q_new, ↓cs_q_newa, ↓cs_q_anew, ↓cs_q_virt0, ↓cs_q_stat00, ↓cs_q_stat10, ↓cs_q_virt1, ↓cs_q_stat01, ↓cs_q_stat11, ↓cs_q_virt2, ↓cs_q_stat02, ↓cs_q_stat12, ↓cs_q_virt3, ↓cs_q_stat03, ↓cs_q_stat13, ↓cs_q_virt4, ↓cs_q_stat04, ↓cs_q_stat14, ↓cs_q_oinit, ↓cs_q_spec, ↓cs_q_max, ↓cs_q_min, ↓cs_q_copy, ↓cs_q_iret, ↓cs_q_zret, ↓cs_q_aret, ↓cs_q_vret, ↓cs_q_J, ↓cs_q_l8_0, ↓cs_q_l8_1, ↓cs_q_l8_2, ↓cs_q_l8_3, ↓cs_q_l8_4, ↓cs_q_l8_5, ↓cs_q_l8_6, rX1_init, qX1_init_0, qX1_init_1, qX1_init_2, qX1_init_3, qX1_init_4, qX1_init_5, qX1_init_6, qX1_init_7, qX1_init_8, qX1_init_9, qX1_init_10, qX1_init_11, qX1_init_12, true_and, and_true, true_or, or_true, Option.isSome_some, Option.getD_some, cs_bz, cs_bn, cs_bi, cs_bo, not_false_eq_true, not_true_eq_false, true_implies, false_implies, implies_true, Decidable.not_not, cs_em, cs_sw_c, cs_sw_n, false_or, or_false, false_and, and_false, cs_inT, Int.toNat_natCast, cs_tn0, cs_tn01, cs_tn1, cs_tn6, cs_tn11, cs_tn16, cs_tn21, cs_tn154, Int.reduceToNat, Int.reduceAdd, Int.reduceSub, Int.reduceNeg, Int.reduceLT, Int.reduceLE, Int.reduceEq, Nat.reduceAdd, ix, rc, he]
      exact this
end
