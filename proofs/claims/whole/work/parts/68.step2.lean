/-! BOTH SIDES: load, setDepth, set -/
section
variable {sh : List (Nat × Nat × Nat)} {rm rm' : Nat → Nat → Option Nat} {im im' : Nat → Nat → Int} {R S S' H P T : Nat → Int} {c e k s i q n N M mi op : Nat} {args : List cs_A} {V : Int} {sc : Nat × (Nat → Int)} {o : Nat × Nat} {Q : Option cs_A → cs_H → Prop}
theorem s_load (h : kLI sh rm im) (b d : Int) (hb : cs_in b) (hd : cs_in d) : kStep sh rm im iX7_load iX8_load [.inl b, .inl d] := by
  have h' := h
  obtain ⟨hi, hA⟩ := h
  obtain ⟨⟨a1, a2⟩, a3, a4, a5, a6, a7, a8, a9⟩ := hA
  obtain ⟨hW, hj, h9⟩ := id a1
  have h150 := hW.1
  have h149 := hW.2.2.2.2.1
  obtain ⟨S, hS⟩ : ∃ S, im 395 = S := ⟨_, rfl⟩
  rw [hS] at a1 a2 hW hj h9 h150 h149
  obtain ⟨V, hV⟩ : ∃ V, V = if ¬ (0 ≤ b ∧ b ≤ S 150 - 1) then -1 else if ¬ (1 ≤ d ∧ d ≤ 60) then -2 else if gArr S b.toNat then -4 else if gF S b.toNat 1 = d then -5 else gF S b.toNat 1 := ⟨_, rfl⟩
  obtain ⟨S', hS'⟩ : ∃ S', S' = if (0 ≤ b ∧ b ≤ S 150 - 1) ∧ (1 ≤ d ∧ d ≤ 60) ∧ ¬ gArr S b.toNat ∧ ¬ gF S b.toNat 1 = d then cs_u1 S (21 + 8 * b.toNat + 1) d else S := ⟨_, rfl⟩
  have hiff : (0 ≤ V ↔ (0 ≤ b ∧ b ≤ S 150 - 1) ∧ (1 ≤ d ∧ d ≤ 60) ∧ ¬ gArr S b.toNat ∧ ¬ gF S b.toNat 1 = d) ∧ cs_in V := by
    by_cases z1 : 0 ≤ b ∧ b ≤ S 150 - 1
    · have hB := hW.2.2.2.2.2.2 b.toNat (by omega)
      unfold gB at hB
      rw [if_neg (fun y => y z1)] at hV
      by_cases z2 : 1 ≤ d ∧ d ≤ 60
      · rw [if_neg (fun y => y z2)] at hV
        by_cases z3 : gArr S b.toNat
        · rw [if_pos z3] at hV
          exact ⟨⟨fun y => by omega, fun y => absurd z3 y.2.2.1⟩, by rw [hV]; decide⟩
        · rw [if_neg z3] at hV
          by_cases z4 : gF S b.toNat 1 = d
          · rw [if_pos z4] at hV
            exact ⟨⟨fun y => by omega, fun y => absurd z4 y.2.2.2⟩, by rw [hV]; decide⟩
          · rw [if_neg z4] at hV
            exact ⟨⟨fun y => ⟨z1, z2, z3, z4⟩, fun y => by omega⟩, by rw [hV]; exact ⟨by omega, by omega⟩⟩
      · rw [if_pos z2] at hV
        exact ⟨⟨fun y => by omega, fun y => absurd y.2.1 z2⟩, by rw [hV]; decide⟩
    · rw [if_pos z1] at hV
      exact ⟨⟨fun y => by omega, fun y => absurd y.1 z1⟩, by rw [hV]; decide⟩
  have hVS : gV S' ∧ kI S' := by
    rw [hS']
    split
    · rename_i z
      have hb16 : b.toNat < 16 := by omega
      have hbS : (b.toNat : Int) < S 150 := by omega
      refine ⟨⟨?_, ?_, ?_⟩, kI_load a2 hW hbS⟩
      · refine gW_blk (b := b.toNat) hW hb16 (fun i hi => cs_u1_ne (by omega)) ?_
        have hB := hW.2.2.2.2.2.2 b.toNat hbS
        unfold gB at hB ⊢
        simp (disch := omega) only [gF_ne, gF_at]
        have z2 := z.2.1
        exact ⟨hB.1, z2, hB.2.2⟩
      · rw [cs_u1_ne (by omega), cs_u1_ne (by omega), cs_u1_ne (by omega)]; exact hj
      · rw [cs_u1_ne (by omega)]; exact h9
    · exact ⟨a1, a2⟩
  have hc1 := hi.1.2.2.1.1
  obtain ⟨im1, im2, im3, rm3, d1, d2, d3, hk, hf, hk2⟩ := h7_act (w := some (.inl V)) (V := V) (S' := S') (op := iX1_loadBoat) (args := [.inl b, .inl d]) hi h'.2 hVS.1.1 hiff.2 (fun im1 h1 _ => by
    rw [hS] at h1
    exact cs_lift hVS.1.1 (t1_loadBoat (im := im1) (K := fun d => im1 (1 + d)) hc1 h1 hW a2 b d hb hd hV hS'))
  obtain ⟨⟨hs0, hs185, hs186, hs371, hs372, hs373⟩, ⟨r00, r01, r02, r03, r04, r05, r185, r371, r3712⟩, ⟨c1, c2, c3, c4, c5⟩, -⟩ := hi.1
  have ob : ∀ {im rm k}, k < 9 → cs_ob (sh, im, rm) 0 7 k = True := fun hk => cs_ob_of hs0 hk
  have rc0 : ∀ {im rm}, cs_rc (sh, im, rm) 0 7 = True := cs_rc_of hs0
  have rc1 : ∀ {im rm}, cs_rc (sh, im, rm) 1 1 = True := cs_rc_of c1.1.1
  have rc47 : ∀ {im rm}, cs_rc (sh, im, rm) 47 1 = True := cs_rc_of c2.1.1
  have hm3 := hk.1.2.2.2.2
  have hS3 : im3 (394 + 1) = S := by rw [hf _ (by decide)]; exact hS
  have href := t8_load (im := im3) (rm := rm3) hm3 hS3 b d hb hd hW (by rw [hf 394 (by decide)]; exact a3)
  rw [← hV] at href
  have hno : ¬ 0 ≤ V → S' = im 395 := by
    rw [hS, hS']
    intro z
    rw [if_neg (fun y => z (hiff.1.mpr y))]
  refine ⟨V, im3, rm3, _, ?_, href, ?_⟩
  · refine cs_run0 mX7_load kX7_load zX7_load rfl rfl 20 (fun sc o => ?_)
    try simp (disch := omega) only [↓cs_pad0, ↓cs_pad1, ↓cs_pad2, ↓cs_q_iconst, ↓cs_q_bipush, ↓cs_q_sipush, ↓cs_q_ldc, ↓cs_q_fall, ↓cs_q_stop, ↓cs_q_iload_n0, ↓cs_q_aload_n0, ↓cs_q_istore_n0, ↓cs_q_astore_n0, ↓cs_q_iinc0, ↓cs_q_iload_n1, ↓cs_q_aload_n1, ↓cs_q_istore_n1, ↓cs_q_astore_n1, ↓cs_q_iinc1, ↓cs_q_iload_n2, ↓cs_q_aload_n2, ↓cs_q_istore_n2, ↓cs_q_astore_n2, ↓cs_q_iinc2, ↓cs_q_iload_n3, ↓cs_q_aload_n3, ↓cs_q_istore_n3, ↓cs_q_astore_n3, ↓cs_q_iinc3, ↓cs_q_iload4, ↓cs_q_aload4, ↓cs_q_istore4, ↓cs_q_astore4, ↓cs_q_iinc4, ↓cs_q_iload5, ↓cs_q_aload5, ↓cs_q_istore5, ↓cs_q_astore5, ↓cs_q_iinc5, ↓cs_q_iload6, ↓cs_q_aload6, ↓cs_q_istore6, ↓cs_q_astore6, ↓cs_q_iinc6, ↓cs_q_iload7, ↓cs_q_aload7, ↓cs_q_istore7, ↓cs_q_astore7, ↓cs_q_iinc7, ↓cs_q_aload_nT, ↓cs_q_iadd, ↓cs_q_isub, ↓cs_q_imul, ↓cs_q_iand, ↓cs_q_ior, ↓cs_q_ishl, ↓cs_q_i2c, ↓cs_q_dup, ↓cs_q_pop, ↓cs_q_dup2, ↓cs_q_goto, ↓cs_q_if_eq, ↓cs_q_if_ne, ↓cs_q_if_lt, ↓cs_q_if_ge, ↓cs_q_if_gt, ↓cs_q_if_le, ↓cs_q_icmp_eq, ↓cs_q_icmp_ne, ↓cs_q_icmp_lt, ↓cs_q_icmp_ge, ↓cs_q_icmp_gt, ↓cs_q_icmp_le, ↓cs_q_table, ↓cs_q_lookup, ↓cs_q_getI, ↓cs_q_getR, ↓cs_q_putI, ↓cs_q_putZ, ↓cs_q_putR, ↓cs_q_gets, ↓cs_q_iald, ↓cs_q_taload, ↓cs_q_cald, ↓cs_q_iast, ↓cs_q_cast, ↓cs_q_aald, ↓cs_q_aast, ↓cs_q_tlen, ↓cs_q_alen, ↓cs_q_new, ↓cs_q_newa, ↓cs_q_anew, ↓cs_q_virt0, ↓cs_q_stat00, ↓cs_q_stat10, ↓cs_q_virt1, ↓cs_q_stat01, ↓cs_q_stat11, ↓cs_q_virt2, ↓cs_q_stat02, ↓cs_q_stat12, ↓cs_q_virt3, ↓cs_q_stat03, ↓cs_q_stat13, ↓cs_q_virt4, ↓cs_q_stat04, ↓cs_q_stat14, ↓cs_q_oinit, ↓cs_q_spec, ↓cs_q_max, ↓cs_q_min, ↓cs_q_copy, ↓cs_q_iret, ↓cs_q_zret, ↓cs_q_aret, ↓cs_q_vret, ↓cs_q_J, ↓cs_q_l8_0, ↓cs_q_l8_1, ↓cs_q_l8_2, ↓cs_q_l8_3, ↓cs_q_l8_4, ↓cs_q_l8_5, ↓cs_q_l8_6, rX7_load, qX7_load_0, true_and, and_true, true_or, or_true, Option.isSome_some, Option.getD_some, cs_bz, cs_bn, cs_bi, cs_bo, not_false_eq_true, not_true_eq_false, true_implies, false_implies, implies_true, Decidable.not_not, cs_em, cs_sw_c, cs_sw_n, false_or, or_false, false_and, and_false, cs_inT, Int.toNat_natCast, cs_tn0, cs_tn01, cs_tn1, cs_tn6, cs_tn11, cs_tn16, cs_tn21, cs_tn154, Int.reduceToNat, Int.reduceAdd, Int.reduceSub, Int.reduceNeg, Int.reduceLT, Int.reduceLE, Int.reduceEq, Nat.reduceAdd, ob, rc0, rc1, rc47, r00, r01]
    refine cs_goV d1 ?_
    try simp (disch := omega) only [↓cs_pad0, ↓cs_pad1, ↓cs_pad2, ↓cs_q_iconst, ↓cs_q_bipush, ↓cs_q_sipush, ↓cs_q_ldc, ↓cs_q_fall, ↓cs_q_stop, ↓cs_q_iload_n0, ↓cs_q_aload_n0, ↓cs_q_istore_n0, ↓cs_q_astore_n0, ↓cs_q_iinc0, ↓cs_q_iload_n1, ↓cs_q_aload_n1, ↓cs_q_istore_n1, ↓cs_q_astore_n1, ↓cs_q_iinc1, ↓cs_q_iload_n2, ↓cs_q_aload_n2, ↓cs_q_istore_n2, ↓cs_q_astore_n2, ↓cs_q_iinc2, ↓cs_q_iload_n3, ↓cs_q_aload_n3, ↓cs_q_istore_n3, ↓cs_q_astore_n3, ↓cs_q_iinc3, ↓cs_q_iload4, ↓cs_q_aload4, ↓cs_q_istore4, ↓cs_q_astore4, ↓cs_q_iinc4, ↓cs_q_iload5, ↓cs_q_aload5, ↓cs_q_istore5, ↓cs_q_astore5, ↓cs_q_iinc5, ↓cs_q_iload6, ↓cs_q_aload6, ↓cs_q_istore6, ↓cs_q_astore6, ↓cs_q_iinc6, ↓cs_q_iload7, ↓cs_q_aload7, ↓cs_q_istore7, ↓cs_q_astore7, ↓cs_q_iinc7, ↓cs_q_aload_nT, ↓cs_q_iadd, ↓cs_q_isub, ↓cs_q_imul, ↓cs_q_iand, ↓cs_q_ior, ↓cs_q_ishl, ↓cs_q_i2c, ↓cs_q_dup, ↓cs_q_pop, ↓cs_q_dup2, ↓cs_q_goto, ↓cs_q_if_eq, ↓cs_q_if_ne, ↓cs_q_if_lt, ↓cs_q_if_ge, ↓cs_q_if_gt, ↓cs_q_if_le, ↓cs_q_icmp_eq, ↓cs_q_icmp_ne, ↓cs_q_icmp_lt, ↓cs_q_icmp_ge, ↓cs_q_icmp_gt, ↓cs_q_icmp_le, ↓cs_q_table, ↓cs_q_lookup, ↓cs_q_getI, ↓cs_q_getR, ↓cs_q_putI, ↓cs_q_putZ, ↓cs_q_putR, ↓cs_q_gets, ↓cs_q_iald, ↓cs_q_taload, ↓cs_q_cald, ↓cs_q_iast, ↓cs_q_cast, ↓cs_q_aald, ↓cs_q_aast, ↓cs_q_tlen, ↓cs_q_alen, ↓cs_q_new, ↓cs_q_newa, ↓cs_q_anew, ↓cs_q_virt0, ↓cs_q_stat00, ↓cs_q_stat10, ↓cs_q_virt1, ↓cs_q_stat01, ↓cs_q_stat11, ↓cs_q_virt2, ↓cs_q_stat02, ↓cs_q_stat12, ↓cs_q_virt3, ↓cs_q_stat03, ↓cs_q_stat13, ↓cs_q_virt4, ↓cs_q_stat04, ↓cs_q_stat14, ↓cs_q_oinit, ↓cs_q_spec, ↓cs_q_max, ↓cs_q_min, ↓cs_q_copy, ↓cs_q_iret, ↓cs_q_zret, ↓cs_q_aret, ↓cs_q_vret, ↓cs_q_J, ↓cs_q_l8_0, ↓cs_q_l8_1, ↓cs_q_l8_2, ↓cs_q_l8_3, ↓cs_q_l8_4, ↓cs_q_l8_5, ↓cs_q_l8_6, rX7_load, qX7_load_0, true_and, and_true, true_or, or_true, Option.isSome_some, Option.getD_some, cs_bz, cs_bn, cs_bi, cs_bo, not_false_eq_true, not_true_eq_false, true_implies, false_implies, implies_true, Decidable.not_not, cs_em, cs_sw_c, cs_sw_n, false_or, or_false, false_and, and_false, cs_inT, Int.toNat_natCast, cs_tn0, cs_tn01, cs_tn1, cs_tn6, cs_tn11, cs_tn16, cs_tn21, cs_tn154, Int.reduceToNat, Int.reduceAdd, Int.reduceSub, Int.reduceNeg, Int.reduceLT, Int.reduceLE, Int.reduceEq, Nat.reduceAdd, ob, rc0, rc1, rc47, r00, r01]
    refine cs_goI d2 ?_
    try simp (disch := omega) only [↓cs_pad0, ↓cs_pad1, ↓cs_pad2, ↓cs_q_iconst, ↓cs_q_bipush, ↓cs_q_sipush, ↓cs_q_ldc, ↓cs_q_fall, ↓cs_q_stop, ↓cs_q_iload_n0, ↓cs_q_aload_n0, ↓cs_q_istore_n0, ↓cs_q_astore_n0, ↓cs_q_iinc0, ↓cs_q_iload_n1, ↓cs_q_aload_n1, ↓cs_q_istore_n1, ↓cs_q_astore_n1, ↓cs_q_iinc1, ↓cs_q_iload_n2, ↓cs_q_aload_n2, ↓cs_q_istore_n2, ↓cs_q_astore_n2, ↓cs_q_iinc2, ↓cs_q_iload_n3, ↓cs_q_aload_n3, ↓cs_q_istore_n3, ↓cs_q_astore_n3, ↓cs_q_iinc3, ↓cs_q_iload4, ↓cs_q_aload4, ↓cs_q_istore4, ↓cs_q_astore4, ↓cs_q_iinc4, ↓cs_q_iload5, ↓cs_q_aload5, ↓cs_q_istore5, ↓cs_q_astore5, ↓cs_q_iinc5, ↓cs_q_iload6, ↓cs_q_aload6, ↓cs_q_istore6, ↓cs_q_astore6, ↓cs_q_iinc6, ↓cs_q_iload7, ↓cs_q_aload7, ↓cs_q_istore7, ↓cs_q_astore7, ↓cs_q_iinc7, ↓cs_q_aload_nT, ↓cs_q_iadd, ↓cs_q_isub, ↓cs_q_imul, ↓cs_q_iand, ↓cs_q_ior, ↓cs_q_ishl, ↓cs_q_i2c, ↓cs_q_dup, ↓cs_q_pop, ↓cs_q_dup2, ↓cs_q_goto, ↓cs_q_if_eq, ↓cs_q_if_ne, ↓cs_q_if_lt, ↓cs_q_if_ge, ↓cs_q_if_gt, ↓cs_q_if_le, ↓cs_q_icmp_eq, ↓cs_q_icmp_ne, ↓cs_q_icmp_lt, ↓cs_q_icmp_ge, ↓cs_q_icmp_gt, ↓cs_q_icmp_le, ↓cs_q_table, ↓cs_q_lookup, ↓cs_q_getI, ↓cs_q_getR, ↓cs_q_putI, ↓cs_q_putZ, ↓cs_q_putR, ↓cs_q_gets, ↓cs_q_iald, ↓cs_q_taload, ↓cs_q_cald, ↓cs_q_iast, ↓cs_q_cast, ↓cs_q_aald, ↓cs_q_aast, ↓cs_q_tlen, ↓cs_q_alen, ↓cs_q_new, ↓cs_q_newa, ↓cs_q_anew, ↓cs_q_virt0, ↓cs_q_stat00, ↓cs_q_stat10, ↓cs_q_virt1, ↓cs_q_stat01, ↓cs_q_stat11, ↓cs_q_virt2, ↓cs_q_stat02, ↓cs_q_stat12, ↓cs_q_virt3, ↓cs_q_stat03, ↓cs_q_stat13, ↓cs_q_virt4, ↓cs_q_stat04, ↓cs_q_stat14, ↓cs_q_oinit, ↓cs_q_spec, ↓cs_q_max, ↓cs_q_min, ↓cs_q_copy, ↓cs_q_iret, ↓cs_q_zret, ↓cs_q_aret, ↓cs_q_vret, ↓cs_q_J, ↓cs_q_l8_0, ↓cs_q_l8_1, ↓cs_q_l8_2, ↓cs_q_l8_3, ↓cs_q_l8_4, ↓cs_q_l8_5, ↓cs_q_l8_6, rX7_load, qX7_load_0, true_and, and_true, true_or, or_true, Option.isSome_some, Option.getD_some, cs_bz, cs_bn, cs_bi, cs_bo, not_false_eq_true, not_true_eq_false, true_implies, false_implies, implies_true, Decidable.not_not, cs_em, cs_sw_c, cs_sw_n, false_or, or_false, false_and, and_false, cs_inT, Int.toNat_natCast, cs_tn0, cs_tn01, cs_tn1, cs_tn6, cs_tn11, cs_tn16, cs_tn21, cs_tn154, Int.reduceToNat, Int.reduceAdd, Int.reduceSub, Int.reduceNeg, Int.reduceLT, Int.reduceLE, Int.reduceEq, Nat.reduceAdd, ob, rc0, rc1, rc47, r00, r01]
    refine cs_goI d3 ?_
    try simp (disch := omega) only [↓cs_pad0, ↓cs_pad1, ↓cs_pad2, ↓cs_q_iconst, ↓cs_q_bipush, ↓cs_q_sipush, ↓cs_q_ldc, ↓cs_q_fall, ↓cs_q_stop, ↓cs_q_iload_n0, ↓cs_q_aload_n0, ↓cs_q_istore_n0, ↓cs_q_astore_n0, ↓cs_q_iinc0, ↓cs_q_iload_n1, ↓cs_q_aload_n1, ↓cs_q_istore_n1, ↓cs_q_astore_n1, ↓cs_q_iinc1, ↓cs_q_iload_n2, ↓cs_q_aload_n2, ↓cs_q_istore_n2, ↓cs_q_astore_n2, ↓cs_q_iinc2, ↓cs_q_iload_n3, ↓cs_q_aload_n3, ↓cs_q_istore_n3, ↓cs_q_astore_n3, ↓cs_q_iinc3, ↓cs_q_iload4, ↓cs_q_aload4, ↓cs_q_istore4, ↓cs_q_astore4, ↓cs_q_iinc4, ↓cs_q_iload5, ↓cs_q_aload5, ↓cs_q_istore5, ↓cs_q_astore5, ↓cs_q_iinc5, ↓cs_q_iload6, ↓cs_q_aload6, ↓cs_q_istore6, ↓cs_q_astore6, ↓cs_q_iinc6, ↓cs_q_iload7, ↓cs_q_aload7, ↓cs_q_istore7, ↓cs_q_astore7, ↓cs_q_iinc7, ↓cs_q_aload_nT, ↓cs_q_iadd, ↓cs_q_isub, ↓cs_q_imul, ↓cs_q_iand, ↓cs_q_ior, ↓cs_q_ishl, ↓cs_q_i2c, ↓cs_q_dup, ↓cs_q_pop, ↓cs_q_dup2, ↓cs_q_goto, ↓cs_q_if_eq, ↓cs_q_if_ne, ↓cs_q_if_lt, ↓cs_q_if_ge, ↓cs_q_if_gt, ↓cs_q_if_le, ↓cs_q_icmp_eq, ↓cs_q_icmp_ne, ↓cs_q_icmp_lt, ↓cs_q_icmp_ge, ↓cs_q_icmp_gt, ↓cs_q_icmp_le, ↓cs_q_table, ↓cs_q_lookup, ↓cs_q_getI, ↓cs_q_getR, ↓cs_q_putI, ↓cs_q_putZ, ↓cs_q_putR, ↓cs_q_gets, ↓cs_q_iald, ↓cs_q_taload, ↓cs_q_cald, ↓cs_q_iast, ↓cs_q_cast, ↓cs_q_aald, ↓cs_q_aast, ↓cs_q_tlen, ↓cs_q_alen, ↓cs_q_new, ↓cs_q_newa, ↓cs_q_anew, ↓cs_q_virt0, ↓cs_q_stat00, ↓cs_q_stat10, ↓cs_q_virt1, ↓cs_q_stat01, ↓cs_q_stat11, ↓cs_q_virt2, ↓cs_q_stat02, ↓cs_q_stat12, ↓cs_q_virt3, ↓cs_q_stat03, ↓cs_q_stat13, ↓cs_q_virt4, ↓cs_q_stat04, ↓cs_q_stat14, ↓cs_q_oinit, ↓cs_q_spec, ↓cs_q_max, ↓cs_q_min, ↓cs_q_copy, ↓cs_q_iret, ↓cs_q_zret, ↓cs_q_aret, ↓cs_q_vret, ↓cs_q_J, ↓cs_q_l8_0, ↓cs_q_l8_1, ↓cs_q_l8_2, ↓cs_q_l8_3, ↓cs_q_l8_4, ↓cs_q_l8_5, ↓cs_q_l8_6, rX7_load, qX7_load_0, true_and, and_true, true_or, or_true, Option.isSome_some, Option.getD_some, cs_bz, cs_bn, cs_bi, cs_bo, not_false_eq_true, not_true_eq_false, true_implies, false_implies, implies_true, Decidable.not_not, cs_em, cs_sw_c, cs_sw_n, false_or, or_false, false_and, and_false, cs_inT, Int.toNat_natCast, cs_tn0, cs_tn01, cs_tn1, cs_tn6, cs_tn11, cs_tn16, cs_tn21, cs_tn154, Int.reduceToNat, Int.reduceAdd, Int.reduceSub, Int.reduceNeg, Int.reduceLT, Int.reduceLE, Int.reduceEq, Nat.reduceAdd, ob, rc0, rc1, rc47, r00, r01]
  · have hl := kLI_act h' hVS.1 hVS.2 hk hf hno
    have e : (if 0 ≤ V then cs_us (gRecI im3 394) (394 + 1) S' else im3) = (if (0 ≤ b ∧ b ≤ S 150 - 1) ∧ (1 ≤ d ∧ d ≤ 60) ∧ ¬ gArr S b.toNat ∧ ¬ gF S b.toNat 1 = d then cs_us (gRecI im3 394) (394 + 1) (cs_u1 S (21 + 8 * b.toNat + 1) d) else im3) := by
      by_cases y : (0 ≤ b ∧ b ≤ S 150 - 1) ∧ (1 ≤ d ∧ d ≤ 60) ∧ ¬ gArr S b.toNat ∧ ¬ gF S b.toNat 1 = d
      · rw [if_pos y, if_pos (hiff.1.mpr y), hS', if_pos y]
      · rw [if_neg y, if_neg (fun z => y (hiff.1.mp z))]
    rw [e] at hl
    exact hl
theorem s_setDepth (h : kLI sh rm im) (k v : Int) (hk_ : cs_in k) (hv : cs_in v) : kStep sh rm im iX7_setDepth iX8_setDepth [.inl k, .inl v] := by
  have h' := h
  obtain ⟨hi, hA⟩ := h
  obtain ⟨⟨a1, a2⟩, a3, a4, a5, a6, a7, a8, a9⟩ := hA
  obtain ⟨hW, hj, h9⟩ := id a1
  have h150 := hW.1
  have h149 := hW.2.2.2.2.1
  obtain ⟨S, hS⟩ : ∃ S, im 395 = S := ⟨_, rfl⟩
  rw [hS] at a1 a2 hW hj h9 h150 h149
  obtain ⟨V, hV⟩ : ∃ V, V = if ¬ (0 ≤ k ∧ k ≤ 5) then -1 else if ¬ (0 ≤ v ∧ v ≤ 90) then -2 else if S k.toNat = v then -5 else S k.toNat := ⟨_, rfl⟩
  obtain ⟨S', hS'⟩ : ∃ S', S' = if (0 ≤ k ∧ k ≤ 5) ∧ (0 ≤ v ∧ v ≤ 90) ∧ ¬ S k.toNat = v then cs_u1 S k.toNat v else S := ⟨_, rfl⟩
  have hiff : (0 ≤ V ↔ (0 ≤ k ∧ k ≤ 5) ∧ (0 ≤ v ∧ v ≤ 90) ∧ ¬ S k.toNat = v) ∧ cs_in V := by
    by_cases z1 : 0 ≤ k ∧ k ≤ 5
    · have hB := hW.2.1 k.toNat (by omega)
      rw [if_neg (fun y => y z1)] at hV
      by_cases z2 : 0 ≤ v ∧ v ≤ 90
      · rw [if_neg (fun y => y z2)] at hV
        by_cases z4 : S k.toNat = v
        · rw [if_pos z4] at hV
          exact ⟨⟨fun y => by omega, fun y => absurd z4 y.2.2⟩, by rw [hV]; decide⟩
        · rw [if_neg z4] at hV
          exact ⟨⟨fun y => ⟨z1, z2, z4⟩, fun y => by omega⟩, by rw [hV]; exact ⟨by omega, by omega⟩⟩
      · rw [if_pos z2] at hV
        exact ⟨⟨fun y => by omega, fun y => absurd y.2.1 z2⟩, by rw [hV]; decide⟩
    · rw [if_pos z1] at hV
      exact ⟨⟨fun y => by omega, fun y => absurd y.1 z1⟩, by rw [hV]; decide⟩
  have hVS : gV S' ∧ kI S' := by
    rw [hS']
    split
    · rename_i z
      refine ⟨⟨gW_dep hW (by omega) z.2.1, ?_, ?_⟩, kI_low a2 h150.2 (fun i h1 h2 h3 h4 h5 h6 h7 => cs_u1_ne (by omega))⟩
      · rw [cs_u1_ne (by omega), cs_u1_ne (by omega), cs_u1_ne (by omega)]; exact hj
      · rw [cs_u1_ne (by omega)]; exact h9
    · exact ⟨a1, a2⟩
  have hc1 := hi.1.2.2.1.1
  obtain ⟨im1, im2, im3, rm3, d1, d2, d3, hk, hf, hk2⟩ := h7_act (w := some (.inl V)) (V := V) (S' := S') (op := iX1_changeDepth) (args := [.inl k, .inl v]) hi h'.2 hVS.1.1 hiff.2 (fun im1 h1 _ => by
    rw [hS] at h1
    exact cs_lift hVS.1.1 (t1_changeDepth (im := im1) (K := fun d => im1 (1 + d)) hc1 h1 hW k v hk_ hv hV hS'))
  obtain ⟨⟨hs0, hs185, hs186, hs371, hs372, hs373⟩, ⟨r00, r01, r02, r03, r04, r05, r185, r371, r3712⟩, ⟨c1, c2, c3, c4, c5⟩, -⟩ := hi.1
  have ob : ∀ {im rm k}, k < 9 → cs_ob (sh, im, rm) 0 7 k = True := fun hk => cs_ob_of hs0 hk
  have rc0 : ∀ {im rm}, cs_rc (sh, im, rm) 0 7 = True := cs_rc_of hs0
  have rc1 : ∀ {im rm}, cs_rc (sh, im, rm) 1 1 = True := cs_rc_of c1.1.1
  have rc47 : ∀ {im rm}, cs_rc (sh, im, rm) 47 1 = True := cs_rc_of c2.1.1
  have hm3 := hk.1.2.2.2.2
  have hS3 : im3 (394 + 1) = S := by rw [hf _ (by decide)]; exact hS
  have href := t8_setDepth (im := im3) (rm := rm3) hm3 hS3 k v hk_ hv hW (by rw [hf 394 (by decide)]; exact a3)
  rw [← hV] at href
  have hno : ¬ 0 ≤ V → S' = im 395 := by
    rw [hS, hS']
    intro z
    rw [if_neg (fun y => z (hiff.1.mpr y))]
  refine ⟨V, im3, rm3, _, ?_, href, ?_⟩
  · refine cs_run0 mX7_setDepth kX7_setDepth zX7_setDepth rfl rfl 20 (fun sc o => ?_)
    try simp (disch := omega) only [↓cs_pad0, ↓cs_pad1, ↓cs_pad2, ↓cs_q_iconst, ↓cs_q_bipush, ↓cs_q_sipush, ↓cs_q_ldc, ↓cs_q_fall, ↓cs_q_stop, ↓cs_q_iload_n0, ↓cs_q_aload_n0, ↓cs_q_istore_n0, ↓cs_q_astore_n0, ↓cs_q_iinc0, ↓cs_q_iload_n1, ↓cs_q_aload_n1, ↓cs_q_istore_n1, ↓cs_q_astore_n1, ↓cs_q_iinc1, ↓cs_q_iload_n2, ↓cs_q_aload_n2, ↓cs_q_istore_n2, ↓cs_q_astore_n2, ↓cs_q_iinc2, ↓cs_q_iload_n3, ↓cs_q_aload_n3, ↓cs_q_istore_n3, ↓cs_q_astore_n3, ↓cs_q_iinc3, ↓cs_q_iload4, ↓cs_q_aload4, ↓cs_q_istore4, ↓cs_q_astore4, ↓cs_q_iinc4, ↓cs_q_iload5, ↓cs_q_aload5, ↓cs_q_istore5, ↓cs_q_astore5, ↓cs_q_iinc5, ↓cs_q_iload6, ↓cs_q_aload6, ↓cs_q_istore6, ↓cs_q_astore6, ↓cs_q_iinc6, ↓cs_q_iload7, ↓cs_q_aload7, ↓cs_q_istore7, ↓cs_q_astore7, ↓cs_q_iinc7, ↓cs_q_aload_nT, ↓cs_q_iadd, ↓cs_q_isub, ↓cs_q_imul, ↓cs_q_iand, ↓cs_q_ior, ↓cs_q_ishl, ↓cs_q_i2c, ↓cs_q_dup, ↓cs_q_pop, ↓cs_q_dup2, ↓cs_q_goto, ↓cs_q_if_eq, ↓cs_q_if_ne, ↓cs_q_if_lt, ↓cs_q_if_ge, ↓cs_q_if_gt, ↓cs_q_if_le, ↓cs_q_icmp_eq, ↓cs_q_icmp_ne, ↓cs_q_icmp_lt, ↓cs_q_icmp_ge, ↓cs_q_icmp_gt, ↓cs_q_icmp_le, ↓cs_q_table, ↓cs_q_lookup, ↓cs_q_getI, ↓cs_q_getR, ↓cs_q_putI, ↓cs_q_putZ, ↓cs_q_putR, ↓cs_q_gets, ↓cs_q_iald, ↓cs_q_taload, ↓cs_q_cald, ↓cs_q_iast, ↓cs_q_cast, ↓cs_q_aald, ↓cs_q_aast, ↓cs_q_tlen, ↓cs_q_alen, ↓cs_q_new, ↓cs_q_newa, ↓cs_q_anew, ↓cs_q_virt0, ↓cs_q_stat00, ↓cs_q_stat10, ↓cs_q_virt1, ↓cs_q_stat01, ↓cs_q_stat11, ↓cs_q_virt2, ↓cs_q_stat02, ↓cs_q_stat12, ↓cs_q_virt3, ↓cs_q_stat03, ↓cs_q_stat13, ↓cs_q_virt4, ↓cs_q_stat04, ↓cs_q_stat14, ↓cs_q_oinit, ↓cs_q_spec, ↓cs_q_max, ↓cs_q_min, ↓cs_q_copy, ↓cs_q_iret, ↓cs_q_zret, ↓cs_q_aret, ↓cs_q_vret, ↓cs_q_J, ↓cs_q_l8_0, ↓cs_q_l8_1, ↓cs_q_l8_2, ↓cs_q_l8_3, ↓cs_q_l8_4, ↓cs_q_l8_5, ↓cs_q_l8_6, rX7_setDepth, qX7_setDepth_0, true_and, and_true, true_or, or_true, Option.isSome_some, Option.getD_some, cs_bz, cs_bn, cs_bi, cs_bo, not_false_eq_true, not_true_eq_false, true_implies, false_implies, implies_true, Decidable.not_not, cs_em, cs_sw_c, cs_sw_n, false_or, or_false, false_and, and_false, cs_inT, Int.toNat_natCast, cs_tn0, cs_tn01, cs_tn1, cs_tn6, cs_tn11, cs_tn16, cs_tn21, cs_tn154, Int.reduceToNat, Int.reduceAdd, Int.reduceSub, Int.reduceNeg, Int.reduceLT, Int.reduceLE, Int.reduceEq, Nat.reduceAdd, ob, rc0, rc1, rc47, r00, r01]
    refine cs_goV d1 ?_
    try simp (disch := omega) only [↓cs_pad0, ↓cs_pad1, ↓cs_pad2, ↓cs_q_iconst, ↓cs_q_bipush, ↓cs_q_sipush, ↓cs_q_ldc, ↓cs_q_fall, ↓cs_q_stop, ↓cs_q_iload_n0, ↓cs_q_aload_n0, ↓cs_q_istore_n0, ↓cs_q_astore_n0, ↓cs_q_iinc0, ↓cs_q_iload_n1, ↓cs_q_aload_n1, ↓cs_q_istore_n1, ↓cs_q_astore_n1, ↓cs_q_iinc1, ↓cs_q_iload_n2, ↓cs_q_aload_n2, ↓cs_q_istore_n2, ↓cs_q_astore_n2, ↓cs_q_iinc2, ↓cs_q_iload_n3, ↓cs_q_aload_n3, ↓cs_q_istore_n3, ↓cs_q_astore_n3, ↓cs_q_iinc3, ↓cs_q_iload4, ↓cs_q_aload4, ↓cs_q_istore4, ↓cs_q_astore4, ↓cs_q_iinc4, ↓cs_q_iload5, ↓cs_q_aload5, ↓cs_q_istore5, ↓cs_q_astore5, ↓cs_q_iinc5, ↓cs_q_iload6, ↓cs_q_aload6, ↓cs_q_istore6, ↓cs_q_astore6, ↓cs_q_iinc6, ↓cs_q_iload7, ↓cs_q_aload7, ↓cs_q_istore7, ↓cs_q_astore7, ↓cs_q_iinc7, ↓cs_q_aload_nT, ↓cs_q_iadd, ↓cs_q_isub, ↓cs_q_imul, ↓cs_q_iand, ↓cs_q_ior, ↓cs_q_ishl, ↓cs_q_i2c, ↓cs_q_dup, ↓cs_q_pop, ↓cs_q_dup2, ↓cs_q_goto, ↓cs_q_if_eq, ↓cs_q_if_ne, ↓cs_q_if_lt, ↓cs_q_if_ge, ↓cs_q_if_gt, ↓cs_q_if_le, ↓cs_q_icmp_eq, ↓cs_q_icmp_ne, ↓cs_q_icmp_lt, ↓cs_q_icmp_ge, ↓cs_q_icmp_gt, ↓cs_q_icmp_le, ↓cs_q_table, ↓cs_q_lookup, ↓cs_q_getI, ↓cs_q_getR, ↓cs_q_putI, ↓cs_q_putZ, ↓cs_q_putR, ↓cs_q_gets, ↓cs_q_iald, ↓cs_q_taload, ↓cs_q_cald, ↓cs_q_iast, ↓cs_q_cast, ↓cs_q_aald, ↓cs_q_aast, ↓cs_q_tlen, ↓cs_q_alen, ↓cs_q_new, ↓cs_q_newa, ↓cs_q_anew, ↓cs_q_virt0, ↓cs_q_stat00, ↓cs_q_stat10, ↓cs_q_virt1, ↓cs_q_stat01, ↓cs_q_stat11, ↓cs_q_virt2, ↓cs_q_stat02, ↓cs_q_stat12, ↓cs_q_virt3, ↓cs_q_stat03, ↓cs_q_stat13, ↓cs_q_virt4, ↓cs_q_stat04, ↓cs_q_stat14, ↓cs_q_oinit, ↓cs_q_spec, ↓cs_q_max, ↓cs_q_min, ↓cs_q_copy, ↓cs_q_iret, ↓cs_q_zret, ↓cs_q_aret, ↓cs_q_vret, ↓cs_q_J, ↓cs_q_l8_0, ↓cs_q_l8_1, ↓cs_q_l8_2, ↓cs_q_l8_3, ↓cs_q_l8_4, ↓cs_q_l8_5, ↓cs_q_l8_6, rX7_setDepth, qX7_setDepth_0, true_and, and_true, true_or, or_true, Option.isSome_some, Option.getD_some, cs_bz, cs_bn, cs_bi, cs_bo, not_false_eq_true, not_true_eq_false, true_implies, false_implies, implies_true, Decidable.not_not, cs_em, cs_sw_c, cs_sw_n, false_or, or_false, false_and, and_false, cs_inT, Int.toNat_natCast, cs_tn0, cs_tn01, cs_tn1, cs_tn6, cs_tn11, cs_tn16, cs_tn21, cs_tn154, Int.reduceToNat, Int.reduceAdd, Int.reduceSub, Int.reduceNeg, Int.reduceLT, Int.reduceLE, Int.reduceEq, Nat.reduceAdd, ob, rc0, rc1, rc47, r00, r01]
    refine cs_goI d2 ?_
    try simp (disch := omega) only [↓cs_pad0, ↓cs_pad1, ↓cs_pad2, ↓cs_q_iconst, ↓cs_q_bipush, ↓cs_q_sipush, ↓cs_q_ldc, ↓cs_q_fall, ↓cs_q_stop, ↓cs_q_iload_n0, ↓cs_q_aload_n0, ↓cs_q_istore_n0, ↓cs_q_astore_n0, ↓cs_q_iinc0, ↓cs_q_iload_n1, ↓cs_q_aload_n1, ↓cs_q_istore_n1, ↓cs_q_astore_n1, ↓cs_q_iinc1, ↓cs_q_iload_n2, ↓cs_q_aload_n2, ↓cs_q_istore_n2, ↓cs_q_astore_n2, ↓cs_q_iinc2, ↓cs_q_iload_n3, ↓cs_q_aload_n3, ↓cs_q_istore_n3, ↓cs_q_astore_n3, ↓cs_q_iinc3, ↓cs_q_iload4, ↓cs_q_aload4, ↓cs_q_istore4, ↓cs_q_astore4, ↓cs_q_iinc4, ↓cs_q_iload5, ↓cs_q_aload5, ↓cs_q_istore5, ↓cs_q_astore5, ↓cs_q_iinc5, ↓cs_q_iload6, ↓cs_q_aload6, ↓cs_q_istore6, ↓cs_q_astore6, ↓cs_q_iinc6, ↓cs_q_iload7, ↓cs_q_aload7, ↓cs_q_istore7, ↓cs_q_astore7, ↓cs_q_iinc7, ↓cs_q_aload_nT, ↓cs_q_iadd, ↓cs_q_isub, ↓cs_q_imul, ↓cs_q_iand, ↓cs_q_ior, ↓cs_q_ishl, ↓cs_q_i2c, ↓cs_q_dup, ↓cs_q_pop, ↓cs_q_dup2, ↓cs_q_goto, ↓cs_q_if_eq, ↓cs_q_if_ne, ↓cs_q_if_lt, ↓cs_q_if_ge, ↓cs_q_if_gt, ↓cs_q_if_le, ↓cs_q_icmp_eq, ↓cs_q_icmp_ne, ↓cs_q_icmp_lt, ↓cs_q_icmp_ge, ↓cs_q_icmp_gt, ↓cs_q_icmp_le, ↓cs_q_table, ↓cs_q_lookup, ↓cs_q_getI, ↓cs_q_getR, ↓cs_q_putI, ↓cs_q_putZ, ↓cs_q_putR, ↓cs_q_gets, ↓cs_q_iald, ↓cs_q_taload, ↓cs_q_cald, ↓cs_q_iast, ↓cs_q_cast, ↓cs_q_aald, ↓cs_q_aast, ↓cs_q_tlen, ↓cs_q_alen, ↓cs_q_new, ↓cs_q_newa, ↓cs_q_anew, ↓cs_q_virt0, ↓cs_q_stat00, ↓cs_q_stat10, ↓cs_q_virt1, ↓cs_q_stat01, ↓cs_q_stat11, ↓cs_q_virt2, ↓cs_q_stat02, ↓cs_q_stat12, ↓cs_q_virt3, ↓cs_q_stat03, ↓cs_q_stat13, ↓cs_q_virt4, ↓cs_q_stat04, ↓cs_q_stat14, ↓cs_q_oinit, ↓cs_q_spec, ↓cs_q_max, ↓cs_q_min, ↓cs_q_copy, ↓cs_q_iret, ↓cs_q_zret, ↓cs_q_aret, ↓cs_q_vret, ↓cs_q_J, ↓cs_q_l8_0, ↓cs_q_l8_1, ↓cs_q_l8_2, ↓cs_q_l8_3, ↓cs_q_l8_4, ↓cs_q_l8_5, ↓cs_q_l8_6, rX7_setDepth, qX7_setDepth_0, true_and, and_true, true_or, or_true, Option.isSome_some, Option.getD_some, cs_bz, cs_bn, cs_bi, cs_bo, not_false_eq_true, not_true_eq_false, true_implies, false_implies, implies_true, Decidable.not_not, cs_em, cs_sw_c, cs_sw_n, false_or, or_false, false_and, and_false, cs_inT, Int.toNat_natCast, cs_tn0, cs_tn01, cs_tn1, cs_tn6, cs_tn11, cs_tn16, cs_tn21, cs_tn154, Int.reduceToNat, Int.reduceAdd, Int.reduceSub, Int.reduceNeg, Int.reduceLT, Int.reduceLE, Int.reduceEq, Nat.reduceAdd, ob, rc0, rc1, rc47, r00, r01]
    refine cs_goI d3 ?_
    try simp (disch := omega) only [↓cs_pad0, ↓cs_pad1, ↓cs_pad2, ↓cs_q_iconst, ↓cs_q_bipush, ↓cs_q_sipush, ↓cs_q_ldc, ↓cs_q_fall, ↓cs_q_stop, ↓cs_q_iload_n0, ↓cs_q_aload_n0, ↓cs_q_istore_n0, ↓cs_q_astore_n0, ↓cs_q_iinc0, ↓cs_q_iload_n1, ↓cs_q_aload_n1, ↓cs_q_istore_n1, ↓cs_q_astore_n1, ↓cs_q_iinc1, ↓cs_q_iload_n2, ↓cs_q_aload_n2, ↓cs_q_istore_n2, ↓cs_q_astore_n2, ↓cs_q_iinc2, ↓cs_q_iload_n3, ↓cs_q_aload_n3, ↓cs_q_istore_n3, ↓cs_q_astore_n3, ↓cs_q_iinc3, ↓cs_q_iload4, ↓cs_q_aload4, ↓cs_q_istore4, ↓cs_q_astore4, ↓cs_q_iinc4, ↓cs_q_iload5, ↓cs_q_aload5, ↓cs_q_istore5, ↓cs_q_astore5, ↓cs_q_iinc5, ↓cs_q_iload6, ↓cs_q_aload6, ↓cs_q_istore6, ↓cs_q_astore6, ↓cs_q_iinc6, ↓cs_q_iload7, ↓cs_q_aload7, ↓cs_q_istore7, ↓cs_q_astore7, ↓cs_q_iinc7, ↓cs_q_aload_nT, ↓cs_q_iadd, ↓cs_q_isub, ↓cs_q_imul, ↓cs_q_iand, ↓cs_q_ior, ↓cs_q_ishl, ↓cs_q_i2c, ↓cs_q_dup, ↓cs_q_pop, ↓cs_q_dup2, ↓cs_q_goto, ↓cs_q_if_eq, ↓cs_q_if_ne, ↓cs_q_if_lt, ↓cs_q_if_ge, ↓cs_q_if_gt, ↓cs_q_if_le, ↓cs_q_icmp_eq, ↓cs_q_icmp_ne, ↓cs_q_icmp_lt, ↓cs_q_icmp_ge, ↓cs_q_icmp_gt, ↓cs_q_icmp_le, ↓cs_q_table, ↓cs_q_lookup, ↓cs_q_getI, ↓cs_q_getR, ↓cs_q_putI, ↓cs_q_putZ, ↓cs_q_putR, ↓cs_q_gets, ↓cs_q_iald, ↓cs_q_taload, ↓cs_q_cald, ↓cs_q_iast, ↓cs_q_cast, ↓cs_q_aald, ↓cs_q_aast, ↓cs_q_tlen, ↓cs_q_alen, ↓cs_q_new, ↓cs_q_newa, ↓cs_q_anew, ↓cs_q_virt0, ↓cs_q_stat00, ↓cs_q_stat10, ↓cs_q_virt1, ↓cs_q_stat01, ↓cs_q_stat11, ↓cs_q_virt2, ↓cs_q_stat02, ↓cs_q_stat12, ↓cs_q_virt3, ↓cs_q_stat03, ↓cs_q_stat13, ↓cs_q_virt4, ↓cs_q_stat04, ↓cs_q_stat14, ↓cs_q_oinit, ↓cs_q_spec, ↓cs_q_max, ↓cs_q_min, ↓cs_q_copy, ↓cs_q_iret, ↓cs_q_zret, ↓cs_q_aret, ↓cs_q_vret, ↓cs_q_J, ↓cs_q_l8_0, ↓cs_q_l8_1, ↓cs_q_l8_2, ↓cs_q_l8_3, ↓cs_q_l8_4, ↓cs_q_l8_5, ↓cs_q_l8_6, rX7_setDepth, qX7_setDepth_0, true_and, and_true, true_or, or_true, Option.isSome_some, Option.getD_some, cs_bz, cs_bn, cs_bi, cs_bo, not_false_eq_true, not_true_eq_false, true_implies, false_implies, implies_true, Decidable.not_not, cs_em, cs_sw_c, cs_sw_n, false_or, or_false, false_and, and_false, cs_inT, Int.toNat_natCast, cs_tn0, cs_tn01, cs_tn1, cs_tn6, cs_tn11, cs_tn16, cs_tn21, cs_tn154, Int.reduceToNat, Int.reduceAdd, Int.reduceSub, Int.reduceNeg, Int.reduceLT, Int.reduceLE, Int.reduceEq, Nat.reduceAdd, ob, rc0, rc1, rc47, r00, r01]
  · have hl := kLI_act h' hVS.1 hVS.2 hk hf hno
    have e : (if 0 ≤ V then cs_us (gRecI im3 394) (394 + 1) S' else im3) = (if (0 ≤ k ∧ k ≤ 5) ∧ (0 ≤ v ∧ v ≤ 90) ∧ ¬ S k.toNat = v then cs_us (gRecI im3 394) (394 + 1) (cs_u1 S k.toNat v) else im3) := by
      by_cases y : (0 ≤ k ∧ k ≤ 5) ∧ (0 ≤ v ∧ v ≤ 90) ∧ ¬ S k.toNat = v
      · rw [if_pos y, if_pos (hiff.1.mpr y), hS', if_pos y]
      · rw [if_neg y, if_neg (fun z => y (hiff.1.mp z))]
    rw [e] at hl
    exact hl
theorem gW_set {w : Nat} {v : Int} (hW : gW S) (hw : w ≤ 2) (hok : gSetOk w v) : gW (cs_u1 S (154 + w) v) := by
  obtain ⟨h1, h2, h3, h4, h5, h6, h7⟩ := hW
  have e : ∀ j, ¬ j = 154 + w → cs_u1 S (154 + w) v j = S j := fun j hj => cs_u1_ne hj
  unfold gSetOk at hok
  refine ⟨by rw [e _ (by omega)]; exact h1, fun j hj => by rw [e _ (by omega)]; exact h2 j hj, fun j hj => by rw [e _ (by omega)]; exact h3 j hj, ?_, by rw [e _ (by omega)]; exact h5, by rw [e _ (by omega)]; exact h6, fun b hb => ?_⟩
  · rcases (show w = 0 ∨ w = 1 ∨ w = 2 by omega) with h | h | h <;> subst h
    · rw [show cs_u1 S (154 + 0) v 154 = v from cs_u1_at, e 155 (by decide), e 156 (by decide)]
      rw [if_neg (by decide), if_pos (by decide)] at hok
      omega
    · rw [show cs_u1 S (154 + 1) v 155 = v from cs_u1_at, e 154 (by decide), e 156 (by decide)]
      rw [if_pos (by decide)] at hok
      omega
    · rw [show cs_u1 S (154 + 2) v 156 = v from cs_u1_at, e 154 (by decide), e 155 (by decide)]
      rw [if_neg (by decide), if_neg (by decide)] at hok
      omega
  · rw [e _ (by omega)] at hb
    rw [gB_out (by omega) (by omega)]; exact h7 b hb
theorem s_set (h : kLI sh rm im) (w v : Int) (hw : cs_in w) (hv : cs_in v) : kStep sh rm im iX7_set iX8_set [.inl w, .inl v] := by
  have h' := h
  obtain ⟨hi, hA⟩ := h
  obtain ⟨⟨a1, a2⟩, a3, a4, a5, a6, a7, a8, a9⟩ := hA
  obtain ⟨hW, hj, h9⟩ := id a1
  have h150 := hW.1
  have h149 := hW.2.2.2.2.1
  obtain ⟨S, hS⟩ : ∃ S, im 395 = S := ⟨_, rfl⟩
  rw [hS] at a1 a2 hW hj h9 h150 h149
  have hc1 := hi.1.2.2.1.1
  have w3 := hW.2.2.2.1
  obtain ⟨⟨hs0, hs185, hs186, hs371, hs372, hs373⟩, ⟨r00, r01, r02, r03, r04, r05, r185, r371, r3712⟩, ⟨c1, c2, c3, c4, c5⟩, -⟩ := hi.1
  have ob : ∀ {im rm k}, k < 9 → cs_ob (sh, im, rm) 0 7 k = True := fun hk => cs_ob_of hs0 hk
  have rc0 : ∀ {im rm}, cs_rc (sh, im, rm) 0 7 = True := cs_rc_of hs0
  have rc1 : ∀ {im rm}, cs_rc (sh, im, rm) 1 1 = True := cs_rc_of c1.1.1
  have rc47 : ∀ {im rm}, cs_rc (sh, im, rm) 47 1 = True := cs_rc_of c2.1.1
  by_cases hok : (0 ≤ w ∧ w ≤ 2) ∧ gSetOk w v
  · obtain ⟨z1, z2⟩ := hok
    obtain ⟨W, rfl⟩ : ∃ W : Nat, w = W := ⟨w.toNat, by omega⟩
    have hin : 0 ≤ S (154 + W) ∧ S (154 + W) ≤ 20 := by
      rcases (show W = 0 ∨ W = 1 ∨ W = 2 by omega) with h | h | h <;> subst h
      · exact (⟨by omega, by omega⟩ : 0 ≤ S 154 ∧ S 154 ≤ 20)
      · exact (⟨by omega, by omega⟩ : 0 ≤ S 155 ∧ S 155 ≤ 20)
      · exact (⟨by omega, by omega⟩ : 0 ≤ S 156 ∧ S 156 ≤ 20)
    obtain ⟨V, hV⟩ : ∃ V, V = if S (154 + W) = v then -5 else S (154 + W) := ⟨_, rfl⟩
    obtain ⟨S', hS'⟩ : ∃ S', S' = if S (154 + W) = v then S else cs_u1 S (154 + W) v := ⟨_, rfl⟩
    have hiff : (0 ≤ V ↔ ¬ S (154 + W) = v) ∧ cs_in V := by
      by_cases z4 : S (154 + W) = v
      · rw [if_pos z4] at hV
        exact ⟨⟨fun y => by omega, fun y => absurd z4 y⟩, by rw [hV]; decide⟩
      · rw [if_neg z4] at hV
        exact ⟨⟨fun _ => z4, fun y => by omega⟩, by rw [hV]; exact ⟨by omega, by omega⟩⟩
    have hVS : gV S' ∧ kI S' := by
      rw [hS']
      split
      · exact ⟨a1, a2⟩
      · refine ⟨⟨gW_set hW (by omega) z2, ?_, ?_⟩, kI_low a2 h150.2 (fun i h1 h2 h3 h4 h5 h6 h7 => cs_u1_ne (by omega))⟩
        · rw [cs_u1_ne (by omega), cs_u1_ne (by omega), cs_u1_ne (by omega)]; exact hj
        · rw [cs_u1_ne (by omega)]; exact h9
    obtain ⟨im1, im2, im3, rm3, d1, d2, d3, hk, hf, hk2⟩ := h7_act (w := some (.inl V)) (V := V) (S' := S') (op := iX1_changeSetting) (args := [.inl (W : Int), .inl v]) hi h'.2 hVS.1.1 hiff.2 (fun im1 h1 _ => by
      rw [hS] at h1
      exact cs_lift hVS.1.1 (t1_changeSetting (im := im1) (K := fun d => im1 (1 + d)) hc1 h1 hW (W : Int) v hw hv (fun z => absurd z1 z) (fun _ z => absurd z2 z) (fun _ _ => ⟨hV, hS'⟩)))
    have hm3 := hk.1.2.2.2.2
    have hS3 : im3 (394 + 1) = S := by rw [hf _ (by decide)]; exact hS
    have href := t8_set1 (im := im3) (rm := rm3) hm3 hS3 W v (by omega) hv hW (by rw [hf 394 (by decide)]; exact a3) z2
    rw [← hV] at href
    have hno : ¬ 0 ≤ V → S' = im 395 := by
      rw [hS, hS']
      intro z
      by_cases y : S (154 + W) = v
      · rw [if_pos y]
      · exact absurd (hiff.1.mpr y) z
    refine ⟨V, im3, rm3, _, ?_, href, ?_⟩
    · refine cs_run0 mX7_set kX7_set zX7_set rfl rfl 20 (fun sc o => ?_)
      try simp (disch := omega) only [↓cs_pad0, ↓cs_pad1, ↓cs_pad2, ↓cs_q_iconst, ↓cs_q_bipush, ↓cs_q_sipush, ↓cs_q_ldc, ↓cs_q_fall, ↓cs_q_stop, ↓cs_q_iload_n0, ↓cs_q_aload_n0, ↓cs_q_istore_n0, ↓cs_q_astore_n0, ↓cs_q_iinc0, ↓cs_q_iload_n1, ↓cs_q_aload_n1, ↓cs_q_istore_n1, ↓cs_q_astore_n1, ↓cs_q_iinc1, ↓cs_q_iload_n2, ↓cs_q_aload_n2, ↓cs_q_istore_n2, ↓cs_q_astore_n2, ↓cs_q_iinc2, ↓cs_q_iload_n3, ↓cs_q_aload_n3, ↓cs_q_istore_n3, ↓cs_q_astore_n3, ↓cs_q_iinc3, ↓cs_q_iload4, ↓cs_q_aload4, ↓cs_q_istore4, ↓cs_q_astore4, ↓cs_q_iinc4, ↓cs_q_iload5, ↓cs_q_aload5, ↓cs_q_istore5, ↓cs_q_astore5, ↓cs_q_iinc5, ↓cs_q_iload6, ↓cs_q_aload6, ↓cs_q_istore6, ↓cs_q_astore6, ↓cs_q_iinc6, ↓cs_q_iload7, ↓cs_q_aload7, ↓cs_q_istore7, ↓cs_q_astore7, ↓cs_q_iinc7, ↓cs_q_aload_nT, ↓cs_q_iadd, ↓cs_q_isub, ↓cs_q_imul, ↓cs_q_iand, ↓cs_q_ior, ↓cs_q_ishl, ↓cs_q_i2c, ↓cs_q_dup, ↓cs_q_pop, ↓cs_q_dup2, ↓cs_q_goto, ↓cs_q_if_eq, ↓cs_q_if_ne, ↓cs_q_if_lt, ↓cs_q_if_ge, ↓cs_q_if_gt, ↓cs_q_if_le, ↓cs_q_icmp_eq, ↓cs_q_icmp_ne, ↓cs_q_icmp_lt, ↓cs_q_icmp_ge, ↓cs_q_icmp_gt, ↓cs_q_icmp_le, ↓cs_q_table, ↓cs_q_lookup, ↓cs_q_getI, ↓cs_q_getR, ↓cs_q_putI, ↓cs_q_putZ, ↓cs_q_putR, ↓cs_q_gets, ↓cs_q_iald, ↓cs_q_taload, ↓cs_q_cald, ↓cs_q_iast, ↓cs_q_cast, ↓cs_q_aald, ↓cs_q_aast, ↓cs_q_tlen, ↓cs_q_alen, ↓cs_q_new, ↓cs_q_newa, ↓cs_q_anew, ↓cs_q_virt0, ↓cs_q_stat00, ↓cs_q_stat10, ↓cs_q_virt1, ↓cs_q_stat01, ↓cs_q_stat11, ↓cs_q_virt2, ↓cs_q_stat02, ↓cs_q_stat12, ↓cs_q_virt3, ↓cs_q_stat03, ↓cs_q_stat13, ↓cs_q_virt4, ↓cs_q_stat04, ↓cs_q_stat14, ↓cs_q_oinit, ↓cs_q_spec, ↓cs_q_max, ↓cs_q_min, ↓cs_q_copy, ↓cs_q_iret, ↓cs_q_zret, ↓cs_q_aret, ↓cs_q_vret, ↓cs_q_J, ↓cs_q_l8_0, ↓cs_q_l8_1, ↓cs_q_l8_2, ↓cs_q_l8_3, ↓cs_q_l8_4, ↓cs_q_l8_5, ↓cs_q_l8_6, rX7_set, qX7_set_0, true_and, and_true, true_or, or_true, Option.isSome_some, Option.getD_some, cs_bz, cs_bn, cs_bi, cs_bo, not_false_eq_true, not_true_eq_false, true_implies, false_implies, implies_true, Decidable.not_not, cs_em, cs_sw_c, cs_sw_n, false_or, or_false, false_and, and_false, cs_inT, Int.toNat_natCast, cs_tn0, cs_tn01, cs_tn1, cs_tn6, cs_tn11, cs_tn16, cs_tn21, cs_tn154, Int.reduceToNat, Int.reduceAdd, Int.reduceSub, Int.reduceNeg, Int.reduceLT, Int.reduceLE, Int.reduceEq, Nat.reduceAdd, ob, rc0, rc1, rc47, r00, r01]
      refine cs_goV d1 ?_
      try simp (disch := omega) only [↓cs_pad0, ↓cs_pad1, ↓cs_pad2, ↓cs_q_iconst, ↓cs_q_bipush, ↓cs_q_sipush, ↓cs_q_ldc, ↓cs_q_fall, ↓cs_q_stop, ↓cs_q_iload_n0, ↓cs_q_aload_n0, ↓cs_q_istore_n0, ↓cs_q_astore_n0, ↓cs_q_iinc0, ↓cs_q_iload_n1, ↓cs_q_aload_n1, ↓cs_q_istore_n1, ↓cs_q_astore_n1, ↓cs_q_iinc1, ↓cs_q_iload_n2, ↓cs_q_aload_n2, ↓cs_q_istore_n2, ↓cs_q_astore_n2, ↓cs_q_iinc2, ↓cs_q_iload_n3, ↓cs_q_aload_n3, ↓cs_q_istore_n3, ↓cs_q_astore_n3, ↓cs_q_iinc3, ↓cs_q_iload4, ↓cs_q_aload4, ↓cs_q_istore4, ↓cs_q_astore4, ↓cs_q_iinc4, ↓cs_q_iload5, ↓cs_q_aload5, ↓cs_q_istore5, ↓cs_q_astore5, ↓cs_q_iinc5, ↓cs_q_iload6, ↓cs_q_aload6, ↓cs_q_istore6, ↓cs_q_astore6, ↓cs_q_iinc6, ↓cs_q_iload7, ↓cs_q_aload7, ↓cs_q_istore7, ↓cs_q_astore7, ↓cs_q_iinc7, ↓cs_q_aload_nT, ↓cs_q_iadd, ↓cs_q_isub, ↓cs_q_imul, ↓cs_q_iand, ↓cs_q_ior, ↓cs_q_ishl, ↓cs_q_i2c, ↓cs_q_dup, ↓cs_q_pop, ↓cs_q_dup2, ↓cs_q_goto, ↓cs_q_if_eq, ↓cs_q_if_ne, ↓cs_q_if_lt, ↓cs_q_if_ge, ↓cs_q_if_gt, ↓cs_q_if_le, ↓cs_q_icmp_eq, ↓cs_q_icmp_ne, ↓cs_q_icmp_lt, ↓cs_q_icmp_ge, ↓cs_q_icmp_gt, ↓cs_q_icmp_le, ↓cs_q_table, ↓cs_q_lookup, ↓cs_q_getI, ↓cs_q_getR, ↓cs_q_putI, ↓cs_q_putZ, ↓cs_q_putR, ↓cs_q_gets, ↓cs_q_iald, ↓cs_q_taload, ↓cs_q_cald, ↓cs_q_iast, ↓cs_q_cast, ↓cs_q_aald, ↓cs_q_aast, ↓cs_q_tlen, ↓cs_q_alen, ↓cs_q_new, ↓cs_q_newa, ↓cs_q_anew, ↓cs_q_virt0, ↓cs_q_stat00, ↓cs_q_stat10, ↓cs_q_virt1, ↓cs_q_stat01, ↓cs_q_stat11, ↓cs_q_virt2, ↓cs_q_stat02, ↓cs_q_stat12, ↓cs_q_virt3, ↓cs_q_stat03, ↓cs_q_stat13, ↓cs_q_virt4, ↓cs_q_stat04, ↓cs_q_stat14, ↓cs_q_oinit, ↓cs_q_spec, ↓cs_q_max, ↓cs_q_min, ↓cs_q_copy, ↓cs_q_iret, ↓cs_q_zret, ↓cs_q_aret, ↓cs_q_vret, ↓cs_q_J, ↓cs_q_l8_0, ↓cs_q_l8_1, ↓cs_q_l8_2, ↓cs_q_l8_3, ↓cs_q_l8_4, ↓cs_q_l8_5, ↓cs_q_l8_6, rX7_set, qX7_set_0, true_and, and_true, true_or, or_true, Option.isSome_some, Option.getD_some, cs_bz, cs_bn, cs_bi, cs_bo, not_false_eq_true, not_true_eq_false, true_implies, false_implies, implies_true, Decidable.not_not, cs_em, cs_sw_c, cs_sw_n, false_or, or_false, false_and, and_false, cs_inT, Int.toNat_natCast, cs_tn0, cs_tn01, cs_tn1, cs_tn6, cs_tn11, cs_tn16, cs_tn21, cs_tn154, Int.reduceToNat, Int.reduceAdd, Int.reduceSub, Int.reduceNeg, Int.reduceLT, Int.reduceLE, Int.reduceEq, Nat.reduceAdd, ob, rc0, rc1, rc47, r00, r01]
      refine cs_goI d2 ?_
      try simp (disch := omega) only [↓cs_pad0, ↓cs_pad1, ↓cs_pad2, ↓cs_q_iconst, ↓cs_q_bipush, ↓cs_q_sipush, ↓cs_q_ldc, ↓cs_q_fall, ↓cs_q_stop, ↓cs_q_iload_n0, ↓cs_q_aload_n0, ↓cs_q_istore_n0, ↓cs_q_astore_n0, ↓cs_q_iinc0, ↓cs_q_iload_n1, ↓cs_q_aload_n1, ↓cs_q_istore_n1, ↓cs_q_astore_n1, ↓cs_q_iinc1, ↓cs_q_iload_n2, ↓cs_q_aload_n2, ↓cs_q_istore_n2, ↓cs_q_astore_n2, ↓cs_q_iinc2, ↓cs_q_iload_n3, ↓cs_q_aload_n3, ↓cs_q_istore_n3, ↓cs_q_astore_n3, ↓cs_q_iinc3, ↓cs_q_iload4, ↓cs_q_aload4, ↓cs_q_istore4, ↓cs_q_astore4, ↓cs_q_iinc4, ↓cs_q_iload5, ↓cs_q_aload5, ↓cs_q_istore5, ↓cs_q_astore5, ↓cs_q_iinc5, ↓cs_q_iload6, ↓cs_q_aload6, ↓cs_q_istore6, ↓cs_q_astore6, ↓cs_q_iinc6, ↓cs_q_iload7, ↓cs_q_aload7, ↓cs_q_istore7, ↓cs_q_astore7, ↓cs_q_iinc7, ↓cs_q_aload_nT, ↓cs_q_iadd, ↓cs_q_isub, ↓cs_q_imul, ↓cs_q_iand, ↓cs_q_ior, ↓cs_q_ishl, ↓cs_q_i2c, ↓cs_q_dup, ↓cs_q_pop, ↓cs_q_dup2, ↓cs_q_goto, ↓cs_q_if_eq, ↓cs_q_if_ne, ↓cs_q_if_lt, ↓cs_q_if_ge, ↓cs_q_if_gt, ↓cs_q_if_le, ↓cs_q_icmp_eq, ↓cs_q_icmp_ne, ↓cs_q_icmp_lt, ↓cs_q_icmp_ge, ↓cs_q_icmp_gt, ↓cs_q_icmp_le, ↓cs_q_table, ↓cs_q_lookup, ↓cs_q_getI, ↓cs_q_getR, ↓cs_q_putI, ↓cs_q_putZ, ↓cs_q_putR, ↓cs_q_gets, ↓cs_q_iald, ↓cs_q_taload, ↓cs_q_cald, ↓cs_q_iast, ↓cs_q_cast, ↓cs_q_aald, ↓cs_q_aast, ↓cs_q_tlen, ↓cs_q_alen, ↓cs_q_new, ↓cs_q_newa, ↓cs_q_anew, ↓cs_q_virt0, ↓cs_q_stat00, ↓cs_q_stat10, ↓cs_q_virt1, ↓cs_q_stat01, ↓cs_q_stat11, ↓cs_q_virt2, ↓cs_q_stat02, ↓cs_q_stat12, ↓cs_q_virt3, ↓cs_q_stat03, ↓cs_q_stat13, ↓cs_q_virt4, ↓cs_q_stat04, ↓cs_q_stat14, ↓cs_q_oinit, ↓cs_q_spec, ↓cs_q_max, ↓cs_q_min, ↓cs_q_copy, ↓cs_q_iret, ↓cs_q_zret, ↓cs_q_aret, ↓cs_q_vret, ↓cs_q_J, ↓cs_q_l8_0, ↓cs_q_l8_1, ↓cs_q_l8_2, ↓cs_q_l8_3, ↓cs_q_l8_4, ↓cs_q_l8_5, ↓cs_q_l8_6, rX7_set, qX7_set_0, true_and, and_true, true_or, or_true, Option.isSome_some, Option.getD_some, cs_bz, cs_bn, cs_bi, cs_bo, not_false_eq_true, not_true_eq_false, true_implies, false_implies, implies_true, Decidable.not_not, cs_em, cs_sw_c, cs_sw_n, false_or, or_false, false_and, and_false, cs_inT, Int.toNat_natCast, cs_tn0, cs_tn01, cs_tn1, cs_tn6, cs_tn11, cs_tn16, cs_tn21, cs_tn154, Int.reduceToNat, Int.reduceAdd, Int.reduceSub, Int.reduceNeg, Int.reduceLT, Int.reduceLE, Int.reduceEq, Nat.reduceAdd, ob, rc0, rc1, rc47, r00, r01]
      refine cs_goI d3 ?_
      try simp (disch := omega) only [↓cs_pad0, ↓cs_pad1, ↓cs_pad2, ↓cs_q_iconst, ↓cs_q_bipush, ↓cs_q_sipush, ↓cs_q_ldc, ↓cs_q_fall, ↓cs_q_stop, ↓cs_q_iload_n0, ↓cs_q_aload_n0, ↓cs_q_istore_n0, ↓cs_q_astore_n0, ↓cs_q_iinc0, ↓cs_q_iload_n1, ↓cs_q_aload_n1, ↓cs_q_istore_n1, ↓cs_q_astore_n1, ↓cs_q_iinc1, ↓cs_q_iload_n2, ↓cs_q_aload_n2, ↓cs_q_istore_n2, ↓cs_q_astore_n2, ↓cs_q_iinc2, ↓cs_q_iload_n3, ↓cs_q_aload_n3, ↓cs_q_istore_n3, ↓cs_q_astore_n3, ↓cs_q_iinc3, ↓cs_q_iload4, ↓cs_q_aload4, ↓cs_q_istore4, ↓cs_q_astore4, ↓cs_q_iinc4, ↓cs_q_iload5, ↓cs_q_aload5, ↓cs_q_istore5, ↓cs_q_astore5, ↓cs_q_iinc5, ↓cs_q_iload6, ↓cs_q_aload6, ↓cs_q_istore6, ↓cs_q_astore6, ↓cs_q_iinc6, ↓cs_q_iload7, ↓cs_q_aload7, ↓cs_q_istore7, ↓cs_q_astore7, ↓cs_q_iinc7, ↓cs_q_aload_nT, ↓cs_q_iadd, ↓cs_q_isub, ↓cs_q_imul, ↓cs_q_iand, ↓cs_q_ior, ↓cs_q_ishl, ↓cs_q_i2c, ↓cs_q_dup, ↓cs_q_pop, ↓cs_q_dup2, ↓cs_q_goto, ↓cs_q_if_eq, ↓cs_q_if_ne, ↓cs_q_if_lt, ↓cs_q_if_ge, ↓cs_q_if_gt, ↓cs_q_if_le, ↓cs_q_icmp_eq, ↓cs_q_icmp_ne, ↓cs_q_icmp_lt, ↓cs_q_icmp_ge, ↓cs_q_icmp_gt, ↓cs_q_icmp_le, ↓cs_q_table, ↓cs_q_lookup, ↓cs_q_getI, ↓cs_q_getR, ↓cs_q_putI, ↓cs_q_putZ, ↓cs_q_putR, ↓cs_q_gets, ↓cs_q_iald, ↓cs_q_taload, ↓cs_q_cald, ↓cs_q_iast, ↓cs_q_cast, ↓cs_q_aald, ↓cs_q_aast, ↓cs_q_tlen, ↓cs_q_alen, ↓cs_q_new, ↓cs_q_newa, ↓cs_q_anew, ↓cs_q_virt0, ↓cs_q_stat00, ↓cs_q_stat10, ↓cs_q_virt1, ↓cs_q_stat01, ↓cs_q_stat11, ↓cs_q_virt2, ↓cs_q_stat02, ↓cs_q_stat12, ↓cs_q_virt3, ↓cs_q_stat03, ↓cs_q_stat13, ↓cs_q_virt4, ↓cs_q_stat04, ↓cs_q_stat14, ↓cs_q_oinit, ↓cs_q_spec, ↓cs_q_max, ↓cs_q_min, ↓cs_q_copy, ↓cs_q_iret, ↓cs_q_zret, ↓cs_q_aret, ↓cs_q_vret, ↓cs_q_J, ↓cs_q_l8_0, ↓cs_q_l8_1, ↓cs_q_l8_2, ↓cs_q_l8_3, ↓cs_q_l8_4, ↓cs_q_l8_5, ↓cs_q_l8_6, rX7_set, qX7_set_0, true_and, and_true, true_or, or_true, Option.isSome_some, Option.getD_some, cs_bz, cs_bn, cs_bi, cs_bo, not_false_eq_true, not_true_eq_false, true_implies, false_implies, implies_true, Decidable.not_not, cs_em, cs_sw_c, cs_sw_n, false_or, or_false, false_and, and_false, cs_inT, Int.toNat_natCast, cs_tn0, cs_tn01, cs_tn1, cs_tn6, cs_tn11, cs_tn16, cs_tn21, cs_tn154, Int.reduceToNat, Int.reduceAdd, Int.reduceSub, Int.reduceNeg, Int.reduceLT, Int.reduceLE, Int.reduceEq, Nat.reduceAdd, ob, rc0, rc1, rc47, r00, r01]
    · have hl := kLI_act h' hVS.1 hVS.2 hk hf hno
      have e : (if 0 ≤ V then cs_us (gRecI im3 394) (394 + 1) S' else im3) = (if S (154 + W) = v then im3 else cs_us (gRecI im3 394) (394 + 1) (cs_u1 S (154 + W) v)) := by
        by_cases y : S (154 + W) = v
        · rw [if_pos y, if_neg (fun z => hiff.1.mp z y)]
        · rw [if_neg y, if_pos (hiff.1.mpr y), hS', if_neg y]
      rw [e] at hl
      exact hl
  · obtain ⟨V, hV⟩ : ∃ V : Int, V = if ¬ (0 ≤ w ∧ w ≤ 2) then -1 else -2 := ⟨_, rfl⟩
    have hneg : ¬ 0 ≤ V ∧ cs_in V := by
      rw [hV]
      split <;> exact ⟨by decide, by decide⟩
    obtain ⟨im1, im2, im3, rm3, d1, d2, d3, hk, hf, hk2⟩ := h7_act (w := some (.inl V)) (V := V) (S' := S) (op := iX1_changeSetting) (args := [.inl w, .inl v]) hi h'.2 hW hneg.2 (fun im1 h1 _ => by
      rw [hS] at h1
      exact cs_lift hW (t1_changeSetting (im := im1) (K := fun d => im1 (1 + d)) hc1 h1 hW w v hw hv (fun z => ⟨by rw [hV, if_pos z], rfl⟩) (fun z _ => ⟨by rw [hV, if_neg (fun y => y z)], rfl⟩) (fun z1 z2 => absurd ⟨z1, z2⟩ hok)))
    have hm3 := hk.1.2.2.2.2
    have hbad : ¬ (0 ≤ w ∧ w ≤ 2) ∨ ¬ gSetOk w v := by
      by_cases z : 0 ≤ w ∧ w ≤ 2
      · exact Or.inr (fun y => hok ⟨z, y⟩)
      · exact Or.inl z
    have href := t8_set2 (im := im3) (rm := rm3) hm3 w v hw hv hbad
    rw [← hV] at href
    refine ⟨V, im3, rm3, _, ?_, href, ?_⟩
    · refine cs_run0 mX7_set kX7_set zX7_set rfl rfl 20 (fun sc o => ?_)
      try simp (disch := omega) only [↓cs_pad0, ↓cs_pad1, ↓cs_pad2, ↓cs_q_iconst, ↓cs_q_bipush, ↓cs_q_sipush, ↓cs_q_ldc, ↓cs_q_fall, ↓cs_q_stop, ↓cs_q_iload_n0, ↓cs_q_aload_n0, ↓cs_q_istore_n0, ↓cs_q_astore_n0, ↓cs_q_iinc0, ↓cs_q_iload_n1, ↓cs_q_aload_n1, ↓cs_q_istore_n1, ↓cs_q_astore_n1, ↓cs_q_iinc1, ↓cs_q_iload_n2, ↓cs_q_aload_n2, ↓cs_q_istore_n2, ↓cs_q_astore_n2, ↓cs_q_iinc2, ↓cs_q_iload_n3, ↓cs_q_aload_n3, ↓cs_q_istore_n3, ↓cs_q_astore_n3, ↓cs_q_iinc3, ↓cs_q_iload4, ↓cs_q_aload4, ↓cs_q_istore4, ↓cs_q_astore4, ↓cs_q_iinc4, ↓cs_q_iload5, ↓cs_q_aload5, ↓cs_q_istore5, ↓cs_q_astore5, ↓cs_q_iinc5, ↓cs_q_iload6, ↓cs_q_aload6, ↓cs_q_istore6, ↓cs_q_astore6, ↓cs_q_iinc6, ↓cs_q_iload7, ↓cs_q_aload7, ↓cs_q_istore7, ↓cs_q_astore7, ↓cs_q_iinc7, ↓cs_q_aload_nT, ↓cs_q_iadd, ↓cs_q_isub, ↓cs_q_imul, ↓cs_q_iand, ↓cs_q_ior, ↓cs_q_ishl, ↓cs_q_i2c, ↓cs_q_dup, ↓cs_q_pop, ↓cs_q_dup2, ↓cs_q_goto, ↓cs_q_if_eq, ↓cs_q_if_ne, ↓cs_q_if_lt, ↓cs_q_if_ge, ↓cs_q_if_gt, ↓cs_q_if_le, ↓cs_q_icmp_eq, ↓cs_q_icmp_ne, ↓cs_q_icmp_lt, ↓cs_q_icmp_ge, ↓cs_q_icmp_gt, ↓cs_q_icmp_le, ↓cs_q_table, ↓cs_q_lookup, ↓cs_q_getI, ↓cs_q_getR, ↓cs_q_putI, ↓cs_q_putZ, ↓cs_q_putR, ↓cs_q_gets, ↓cs_q_iald, ↓cs_q_taload, ↓cs_q_cald, ↓cs_q_iast, ↓cs_q_cast, ↓cs_q_aald, ↓cs_q_aast, ↓cs_q_tlen, ↓cs_q_alen, ↓cs_q_new, ↓cs_q_newa, ↓cs_q_anew, ↓cs_q_virt0, ↓cs_q_stat00, ↓cs_q_stat10, ↓cs_q_virt1, ↓cs_q_stat01, ↓cs_q_stat11, ↓cs_q_virt2, ↓cs_q_stat02, ↓cs_q_stat12, ↓cs_q_virt3, ↓cs_q_stat03, ↓cs_q_stat13, ↓cs_q_virt4, ↓cs_q_stat04, ↓cs_q_stat14, ↓cs_q_oinit, ↓cs_q_spec, ↓cs_q_max, ↓cs_q_min, ↓cs_q_copy, ↓cs_q_iret, ↓cs_q_zret, ↓cs_q_aret, ↓cs_q_vret, ↓cs_q_J, ↓cs_q_l8_0, ↓cs_q_l8_1, ↓cs_q_l8_2, ↓cs_q_l8_3, ↓cs_q_l8_4, ↓cs_q_l8_5, ↓cs_q_l8_6, rX7_set, qX7_set_0, true_and, and_true, true_or, or_true, Option.isSome_some, Option.getD_some, cs_bz, cs_bn, cs_bi, cs_bo, not_false_eq_true, not_true_eq_false, true_implies, false_implies, implies_true, Decidable.not_not, cs_em, cs_sw_c, cs_sw_n, false_or, or_false, false_and, and_false, cs_inT, Int.toNat_natCast, cs_tn0, cs_tn01, cs_tn1, cs_tn6, cs_tn11, cs_tn16, cs_tn21, cs_tn154, Int.reduceToNat, Int.reduceAdd, Int.reduceSub, Int.reduceNeg, Int.reduceLT, Int.reduceLE, Int.reduceEq, Nat.reduceAdd, ob, rc0, rc1, rc47, r00, r01]
      refine cs_goV d1 ?_
      try simp (disch := omega) only [↓cs_pad0, ↓cs_pad1, ↓cs_pad2, ↓cs_q_iconst, ↓cs_q_bipush, ↓cs_q_sipush, ↓cs_q_ldc, ↓cs_q_fall, ↓cs_q_stop, ↓cs_q_iload_n0, ↓cs_q_aload_n0, ↓cs_q_istore_n0, ↓cs_q_astore_n0, ↓cs_q_iinc0, ↓cs_q_iload_n1, ↓cs_q_aload_n1, ↓cs_q_istore_n1, ↓cs_q_astore_n1, ↓cs_q_iinc1, ↓cs_q_iload_n2, ↓cs_q_aload_n2, ↓cs_q_istore_n2, ↓cs_q_astore_n2, ↓cs_q_iinc2, ↓cs_q_iload_n3, ↓cs_q_aload_n3, ↓cs_q_istore_n3, ↓cs_q_astore_n3, ↓cs_q_iinc3, ↓cs_q_iload4, ↓cs_q_aload4, ↓cs_q_istore4, ↓cs_q_astore4, ↓cs_q_iinc4, ↓cs_q_iload5, ↓cs_q_aload5, ↓cs_q_istore5, ↓cs_q_astore5, ↓cs_q_iinc5, ↓cs_q_iload6, ↓cs_q_aload6, ↓cs_q_istore6, ↓cs_q_astore6, ↓cs_q_iinc6, ↓cs_q_iload7, ↓cs_q_aload7, ↓cs_q_istore7, ↓cs_q_astore7, ↓cs_q_iinc7, ↓cs_q_aload_nT, ↓cs_q_iadd, ↓cs_q_isub, ↓cs_q_imul, ↓cs_q_iand, ↓cs_q_ior, ↓cs_q_ishl, ↓cs_q_i2c, ↓cs_q_dup, ↓cs_q_pop, ↓cs_q_dup2, ↓cs_q_goto, ↓cs_q_if_eq, ↓cs_q_if_ne, ↓cs_q_if_lt, ↓cs_q_if_ge, ↓cs_q_if_gt, ↓cs_q_if_le, ↓cs_q_icmp_eq, ↓cs_q_icmp_ne, ↓cs_q_icmp_lt, ↓cs_q_icmp_ge, ↓cs_q_icmp_gt, ↓cs_q_icmp_le, ↓cs_q_table, ↓cs_q_lookup, ↓cs_q_getI, ↓cs_q_getR, ↓cs_q_putI, ↓cs_q_putZ, ↓cs_q_putR, ↓cs_q_gets, ↓cs_q_iald, ↓cs_q_taload, ↓cs_q_cald, ↓cs_q_iast, ↓cs_q_cast, ↓cs_q_aald, ↓cs_q_aast, ↓cs_q_tlen, ↓cs_q_alen, ↓cs_q_new, ↓cs_q_newa, ↓cs_q_anew, ↓cs_q_virt0, ↓cs_q_stat00, ↓cs_q_stat10, ↓cs_q_virt1, ↓cs_q_stat01, ↓cs_q_stat11, ↓cs_q_virt2, ↓cs_q_stat02, ↓cs_q_stat12, ↓cs_q_virt3, ↓cs_q_stat03, ↓cs_q_stat13, ↓cs_q_virt4, ↓cs_q_stat04, ↓cs_q_stat14, ↓cs_q_oinit, ↓cs_q_spec, ↓cs_q_max, ↓cs_q_min, ↓cs_q_copy, ↓cs_q_iret, ↓cs_q_zret, ↓cs_q_aret, ↓cs_q_vret, ↓cs_q_J, ↓cs_q_l8_0, ↓cs_q_l8_1, ↓cs_q_l8_2, ↓cs_q_l8_3, ↓cs_q_l8_4, ↓cs_q_l8_5, ↓cs_q_l8_6, rX7_set, qX7_set_0, true_and, and_true, true_or, or_true, Option.isSome_some, Option.getD_some, cs_bz, cs_bn, cs_bi, cs_bo, not_false_eq_true, not_true_eq_false, true_implies, false_implies, implies_true, Decidable.not_not, cs_em, cs_sw_c, cs_sw_n, false_or, or_false, false_and, and_false, cs_inT, Int.toNat_natCast, cs_tn0, cs_tn01, cs_tn1, cs_tn6, cs_tn11, cs_tn16, cs_tn21, cs_tn154, Int.reduceToNat, Int.reduceAdd, Int.reduceSub, Int.reduceNeg, Int.reduceLT, Int.reduceLE, Int.reduceEq, Nat.reduceAdd, ob, rc0, rc1, rc47, r00, r01]
      refine cs_goI d2 ?_
      try simp (disch := omega) only [↓cs_pad0, ↓cs_pad1, ↓cs_pad2, ↓cs_q_iconst, ↓cs_q_bipush, ↓cs_q_sipush, ↓cs_q_ldc, ↓cs_q_fall, ↓cs_q_stop, ↓cs_q_iload_n0, ↓cs_q_aload_n0, ↓cs_q_istore_n0, ↓cs_q_astore_n0, ↓cs_q_iinc0, ↓cs_q_iload_n1, ↓cs_q_aload_n1, ↓cs_q_istore_n1, ↓cs_q_astore_n1, ↓cs_q_iinc1, ↓cs_q_iload_n2, ↓cs_q_aload_n2, ↓cs_q_istore_n2, ↓cs_q_astore_n2, ↓cs_q_iinc2, ↓cs_q_iload_n3, ↓cs_q_aload_n3, ↓cs_q_istore_n3, ↓cs_q_astore_n3, ↓cs_q_iinc3, ↓cs_q_iload4, ↓cs_q_aload4, ↓cs_q_istore4, ↓cs_q_astore4, ↓cs_q_iinc4, ↓cs_q_iload5, ↓cs_q_aload5, ↓cs_q_istore5, ↓cs_q_astore5, ↓cs_q_iinc5, ↓cs_q_iload6, ↓cs_q_aload6, ↓cs_q_istore6, ↓cs_q_astore6, ↓cs_q_iinc6, ↓cs_q_iload7, ↓cs_q_aload7, ↓cs_q_istore7, ↓cs_q_astore7, ↓cs_q_iinc7, ↓cs_q_aload_nT, ↓cs_q_iadd, ↓cs_q_isub, ↓cs_q_imul, ↓cs_q_iand, ↓cs_q_ior, ↓cs_q_ishl, ↓cs_q_i2c, ↓cs_q_dup, ↓cs_q_pop, ↓cs_q_dup2, ↓cs_q_goto, ↓cs_q_if_eq, ↓cs_q_if_ne, ↓cs_q_if_lt, ↓cs_q_if_ge, ↓cs_q_if_gt, ↓cs_q_if_le, ↓cs_q_icmp_eq, ↓cs_q_icmp_ne, ↓cs_q_icmp_lt, ↓cs_q_icmp_ge, ↓cs_q_icmp_gt, ↓cs_q_icmp_le, ↓cs_q_table, ↓cs_q_lookup, ↓cs_q_getI, ↓cs_q_getR, ↓cs_q_putI, ↓cs_q_putZ, ↓cs_q_putR, ↓cs_q_gets, ↓cs_q_iald, ↓cs_q_taload, ↓cs_q_cald, ↓cs_q_iast, ↓cs_q_cast, ↓cs_q_aald, ↓cs_q_aast, ↓cs_q_tlen, ↓cs_q_alen, ↓cs_q_new, ↓cs_q_newa, ↓cs_q_anew, ↓cs_q_virt0, ↓cs_q_stat00, ↓cs_q_stat10, ↓cs_q_virt1, ↓cs_q_stat01, ↓cs_q_stat11, ↓cs_q_virt2, ↓cs_q_stat02, ↓cs_q_stat12, ↓cs_q_virt3, ↓cs_q_stat03, ↓cs_q_stat13, ↓cs_q_virt4, ↓cs_q_stat04, ↓cs_q_stat14, ↓cs_q_oinit, ↓cs_q_spec, ↓cs_q_max, ↓cs_q_min, ↓cs_q_copy, ↓cs_q_iret, ↓cs_q_zret, ↓cs_q_aret, ↓cs_q_vret, ↓cs_q_J, ↓cs_q_l8_0, ↓cs_q_l8_1, ↓cs_q_l8_2, ↓cs_q_l8_3, ↓cs_q_l8_4, ↓cs_q_l8_5, ↓cs_q_l8_6, rX7_set, qX7_set_0, true_and, and_true, true_or, or_true, Option.isSome_some, Option.getD_some, cs_bz, cs_bn, cs_bi, cs_bo, not_false_eq_true, not_true_eq_false, true_implies, false_implies, implies_true, Decidable.not_not, cs_em, cs_sw_c, cs_sw_n, false_or, or_false, false_and, and_false, cs_inT, Int.toNat_natCast, cs_tn0, cs_tn01, cs_tn1, cs_tn6, cs_tn11, cs_tn16, cs_tn21, cs_tn154, Int.reduceToNat, Int.reduceAdd, Int.reduceSub, Int.reduceNeg, Int.reduceLT, Int.reduceLE, Int.reduceEq, Nat.reduceAdd, ob, rc0, rc1, rc47, r00, r01]
      refine cs_goI d3 ?_
      try simp (disch := omega) only [↓cs_pad0, ↓cs_pad1, ↓cs_pad2, ↓cs_q_iconst, ↓cs_q_bipush, ↓cs_q_sipush, ↓cs_q_ldc, ↓cs_q_fall, ↓cs_q_stop, ↓cs_q_iload_n0, ↓cs_q_aload_n0, ↓cs_q_istore_n0, ↓cs_q_astore_n0, ↓cs_q_iinc0, ↓cs_q_iload_n1, ↓cs_q_aload_n1, ↓cs_q_istore_n1, ↓cs_q_astore_n1, ↓cs_q_iinc1, ↓cs_q_iload_n2, ↓cs_q_aload_n2, ↓cs_q_istore_n2, ↓cs_q_astore_n2, ↓cs_q_iinc2, ↓cs_q_iload_n3, ↓cs_q_aload_n3, ↓cs_q_istore_n3, ↓cs_q_astore_n3, ↓cs_q_iinc3, ↓cs_q_iload4, ↓cs_q_aload4, ↓cs_q_istore4, ↓cs_q_astore4, ↓cs_q_iinc4, ↓cs_q_iload5, ↓cs_q_aload5, ↓cs_q_istore5, ↓cs_q_astore5, ↓cs_q_iinc5, ↓cs_q_iload6, ↓cs_q_aload6, ↓cs_q_istore6, ↓cs_q_astore6, ↓cs_q_iinc6, ↓cs_q_iload7, ↓cs_q_aload7, ↓cs_q_istore7, ↓cs_q_astore7, ↓cs_q_iinc7, ↓cs_q_aload_nT, ↓cs_q_iadd, ↓cs_q_isub, ↓cs_q_imul, ↓cs_q_iand, ↓cs_q_ior, ↓cs_q_ishl, ↓cs_q_i2c, ↓cs_q_dup, ↓cs_q_pop, ↓cs_q_dup2, ↓cs_q_goto, ↓cs_q_if_eq, ↓cs_q_if_ne, ↓cs_q_if_lt, ↓cs_q_if_ge, ↓cs_q_if_gt, ↓cs_q_if_le, ↓cs_q_icmp_eq, ↓cs_q_icmp_ne, ↓cs_q_icmp_lt, ↓cs_q_icmp_ge, ↓cs_q_icmp_gt, ↓cs_q_icmp_le, ↓cs_q_table, ↓cs_q_lookup, ↓cs_q_getI, ↓cs_q_getR, ↓cs_q_putI, ↓cs_q_putZ, ↓cs_q_putR, ↓cs_q_gets, ↓cs_q_iald, ↓cs_q_taload, ↓cs_q_cald, ↓cs_q_iast, ↓cs_q_cast, ↓cs_q_aald, ↓cs_q_aast, ↓cs_q_tlen, ↓cs_q_alen, ↓cs_q_new, ↓cs_q_newa, ↓cs_q_anew, ↓cs_q_virt0, ↓cs_q_stat00, ↓cs_q_stat10, ↓cs_q_virt1, ↓cs_q_stat01, ↓cs_q_stat11, ↓cs_q_virt2, ↓cs_q_stat02, ↓cs_q_stat12, ↓cs_q_virt3, ↓cs_q_stat03, ↓cs_q_stat13, ↓cs_q_virt4, ↓cs_q_stat04, ↓cs_q_stat14, ↓cs_q_oinit, ↓cs_q_spec, ↓cs_q_max, ↓cs_q_min, ↓cs_q_copy, ↓cs_q_iret, ↓cs_q_zret, ↓cs_q_aret, ↓cs_q_vret, ↓cs_q_J, ↓cs_q_l8_0, ↓cs_q_l8_1, ↓cs_q_l8_2, ↓cs_q_l8_3, ↓cs_q_l8_4, ↓cs_q_l8_5, ↓cs_q_l8_6, rX7_set, qX7_set_0, true_and, and_true, true_or, or_true, Option.isSome_some, Option.getD_some, cs_bz, cs_bn, cs_bi, cs_bo, not_false_eq_true, not_true_eq_false, true_implies, false_implies, implies_true, Decidable.not_not, cs_em, cs_sw_c, cs_sw_n, false_or, or_false, false_and, and_false, cs_inT, Int.toNat_natCast, cs_tn0, cs_tn01, cs_tn1, cs_tn6, cs_tn11, cs_tn16, cs_tn21, cs_tn154, Int.reduceToNat, Int.reduceAdd, Int.reduceSub, Int.reduceNeg, Int.reduceLT, Int.reduceLE, Int.reduceEq, Nat.reduceAdd, ob, rc0, rc1, rc47, r00, r01]
    · have hl := kLI_act h' a1 a2 hk hf (fun _ => hS.symm)
      rw [if_neg hneg.1] at hl
      exact hl
end
