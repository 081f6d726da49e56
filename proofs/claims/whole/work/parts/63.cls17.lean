/-! THE CLASS: why a boat does not go -/
section
variable {sh : List (Nat × Nat × Nat)} {rm : Nat → Nat → Option Nat} {im : Nat → Nat → Int} {K K' F : Nat → Nat → Int} {S E : Nat → Int} {c e k s i b q N M : Nat} {j : Int} {sc : Nat × (Nat → Int)} {o : Nat × Nat} {Q : Option cs_A → cs_H → Prop}
theorem kPlc_ge {w : Int} : ∀ f i : Nat, kPlc E w f i = -5 ∨ (i : Int) ≤ kPlc E w f i
  | 0, _ => Or.inl rfl
  | f + 1, i => by
    unfold kPlc
    split
    · exact Or.inr (Int.le_refl _)
    · rcases kPlc_ge f (i + 1) with h | h
      · exact Or.inl h
      · exact Or.inr (by omega)
theorem gFst_pl (hR : kRel K S) (hW : gW S) (hb : (b : Int) < S 150) (hn : ¬ gArr S b) (hk : k < 5) (hs : s < 2) (hl : gLk S b = k) (hu : (if gUp S b then (1 : Int) else 0) = 1 - (s : Int)) :
    gFst S k (1 - (s : Int)) (gMany S) = b ↔ ¬ 0 < gPl S b (gMany S) := by
  have h150 := hW.1
  have hq := kQs_of hR.2.2.2.2.1 k s hk hs
  have hlen := kQ_len hq
  obtain ⟨N, hN⟩ : ∃ N : Nat, K (6 + 2 * s + 5 * k) 1 = N := ⟨(K (6 + 2 * s + 5 * k) 1).toNat, by omega⟩
  have hf := kQ_first hq h150.1
  have hq' := hq
  rw [← hl, ← hu] at hq'
  have hp := kQ_place hq' hN h150.1 hb hn
  have hr := gPl_range S b (gMany S)
  obtain ⟨N', h1, h2, h3, h4, h5⟩ := hq
  obtain ⟨i, hi, _⟩ := h5 b hb ⟨hn, hl, hu⟩
  rw [hf, if_pos (by omega)]
  cases N with
  | zero => omega
  | succ N =>
    unfold kPlc at hp
    by_cases z : K (7 + 2 * s + 5 * k) 0 = b
    · rw [if_pos z] at hp
      constructor
      · intro _; omega
      · intro _; exact z
    · rw [if_neg z] at hp
      have := kPlc_ge (E := K (7 + 2 * s + 5 * k)) (w := (b : Int)) N (0 + 1)
      constructor
      · intro y; exact absurd y z
      · intro y; omega
theorem t1_reasonNow (hc : cs_CA sh rm c) (hR : kRel K S) (hW : gW S) (hb : (b : Int) < S 150) (hn : ¬ gArr S b) : cs_Det iX1_reasonNow [cs_R c, .inl (b : Int)] (sh, cs_put im c K, rm) (some (.inl (gHind S b))) (sh, cs_put im c K, rm) := by
  have h150 := hW.1
  have hgB := hW.2.2.2.2.2.2 b hb
  have hkb := hR.2.2.2.2.2 b hb
  unfold kBoat at hkb
  unfold gB at hgB
  obtain ⟨b0, b1, b2, b3, b4, b5, b6⟩ := hkb
  obtain ⟨k, s, p, g, k5, s2, p6, g6, pg, e2, e3, el, eu, es, ek, eup⟩ := gPos hW hb hn
  have hb16 : b < 16 := by omega
  have ca := t1_ag (im := im) hc hR hW hb hn
  have cp := t1_plc (im := im) hc hR hW hb hn
  have ch := t1_isHigh (im := im) hc hR hW k5
  have cc := t1_can (im := im) hc hR hW k5
  have hM16 : gMany S ≤ 16 := by unfold gMany; omega
  have hPr := gPl_range S b (gMany S)
  have cl := t1_lockN (im := im) (K := K) (v := (k : Int)) hc hb16 (b2.trans e2) (b3.trans e3) ⟨by omega, by omega⟩ ⟨by omega, by omega⟩ (by
    by_cases z : p < g
    · rw [if_pos z] at ek; rw [if_pos (by omega)]; omega
    · rw [if_neg z] at ek; rw [if_neg (by omega), if_pos (by omega)]; omega)
  obtain ⟨V, hV⟩ : ∃ V, gHind S b = V := ⟨_, rfl⟩
  rw [hV]
  unfold gHind at hV
  rw [el, Int.toNat_natCast] at hV
  have p2 := b2.trans e2
  have g3 := b3.trans e3
  have hk5n : ((k : Int) = -5) = False := eq_false (by omega)
  obtain ⟨P, hP⟩ : ∃ P, gPl S b (gMany S) = P := ⟨_, rfl⟩
  rw [hP] at cp hV hPr
  by_cases hup : p < g
  · have hup' := eup.mpr hup
    have a1 : ((g : Int) ≤ (p : Int)) = False := eq_false (by omega)
    refine cs_run0 mX1_reasonNow kX1_reasonNow zX1_reasonNow rfl rfl 12 (fun sc o => ?_)
    try simp (disch := omega) only [↓cs_pad0, ↓cs_pad1, ↓cs_pad2, ↓cs_q_iconst, ↓cs_q_bipush, ↓cs_q_sipush, ↓cs_q_ldc, ↓cs_q_fall, ↓cs_q_stop, ↓cs_q_iload_n0, ↓cs_q_aload_n0, ↓cs_q_istore_n0, ↓cs_q_astore_n0, ↓cs_q_iinc0, ↓cs_q_iload_n1, ↓cs_q_aload_n1, ↓cs_q_istore_n1, ↓cs_q_astore_n1, ↓cs_q_iinc1, ↓cs_q_iload_n2, ↓cs_q_aload_n2, ↓cs_q_istore_n2, ↓cs_q_astore_n2, ↓cs_q_iinc2, ↓cs_q_iload_n3, ↓cs_q_aload_n3, ↓cs_q_istore_n3, ↓cs_q_astore_n3, ↓cs_q_iinc3, ↓cs_q_iload4, ↓cs_q_aload4, ↓cs_q_istore4, ↓cs_q_astore4, ↓cs_q_iinc4, ↓cs_q_iload5, ↓cs_q_aload5, ↓cs_q_istore5, ↓cs_q_astore5, ↓cs_q_iinc5, ↓cs_q_iload6, ↓cs_q_aload6, ↓cs_q_istore6, ↓cs_q_astore6, ↓cs_q_iinc6, ↓cs_q_iload7, ↓cs_q_aload7, ↓cs_q_istore7, ↓cs_q_astore7, ↓cs_q_iinc7, ↓cs_q_aload_nZ0, ↓cs_q_astore_nZ0, ↓cs_q_aload_nZ1, ↓cs_q_astore_nZ1, ↓cs_q_aload_nZ2, ↓cs_q_astore_nZ2, ↓cs_q_aload_nZ3, ↓cs_q_astore_nZ3, ↓cs_q_aloadZ4, ↓cs_q_astoreZ4, ↓cs_q_aloadZ5, ↓cs_q_astoreZ5, ↓cs_q_aloadZ6, ↓cs_q_astoreZ6, ↓cs_q_aloadZ7, ↓cs_q_astoreZ7, ↓cs_q_null, ↓cs_q_ifnullR, ↓cs_q_ifnullZ, ↓cs_q_ifnonnullR, ↓cs_q_ifnonnullZ, ↓cs_q_aretZ, ↓cs_q_aload_nT, ↓cs_q_iadd, ↓cs_q_isub, ↓cs_q_imul, ↓cs_q_iand, ↓cs_q_ior, ↓cs_q_ishl, ↓cs_q_i2c, ↓cs_q_dup, ↓cs_q_pop, ↓cs_q_dup2, ↓cs_q_goto, ↓cs_q_if_eq, ↓cs_q_if_ne, ↓cs_q_if_lt, ↓cs_q_if_ge, ↓cs_q_if_gt, ↓cs_q_if_le, ↓cs_q_icmp_eq, ↓cs_q_icmp_ne, ↓cs_q_icmp_lt, ↓cs_q_icmp_ge, ↓cs_q_icmp_gt, ↓cs_q_icmp_le, ↓cs_q_table, ↓cs_q_lookup, ↓cs_q_getI, ↓cs_q_getR, ↓cs_q_putI, ↓cs_q_putZ, ↓cs_q_putR, ↓cs_q_gets, ↓cs_q_iald, ↓cs_q_taload, ↓cs_q_cald, ↓cs_q_iast, ↓cs_q_cast, ↓cs_q_aald, ↓cs_q_aast, ↓cs_q_tlen, ↓cs_q_alen, ↓cs_q_new, ↓cs_q_newa, ↓cs_q_anew, ↓cs_q_virt0, ↓cs_q_stat00, ↓cs_q_stat10, ↓cs_q_virt1, ↓cs_q_stat01, ↓cs_q_stat11, ↓cs_q_virt2, ↓cs_q_stat02, ↓cs_q_stat12, ↓cs_q_virt3, ↓cs_q_stat03, ↓cs_q_stat13, ↓cs_q_virt4, ↓cs_q_stat04, ↓cs_q_stat14, ↓cs_q_oinit, ↓cs_q_spec, ↓cs_q_max, ↓cs_q_min, ↓cs_q_copy, ↓cs_q_iret, ↓cs_q_zret, ↓cs_q_aret, ↓cs_q_vret, ↓cs_q_J, ↓cs_q_l8_0, ↓cs_q_l8_1, ↓cs_q_l8_2, ↓cs_q_l8_3, ↓cs_q_l8_4, ↓cs_q_l8_5, ↓cs_q_l8_6, rX1_reasonNow, qX1_reasonNow_0, qX1_reasonNow_1, qX1_reasonNow_2, qX1_reasonNow_3, qX1_reasonNow_4, qX1_reasonNow_5, qX1_reasonNow_6, qX1_reasonNow_7, qX1_reasonNow_8, true_and, and_true, true_or, or_true, Option.isSome_some, Option.getD_some, cs_bz, cs_bn, cs_bi, cs_bo, not_false_eq_true, not_true_eq_false, true_implies, false_implies, implies_true, Decidable.not_not, cs_em, cs_sw_c, cs_sw_n, false_or, or_false, false_and, and_false, cs_inT, Int.toNat_natCast, cs_tn0, cs_tn01, cs_tn1, cs_tn6, cs_tn11, cs_tn16, cs_tn21, cs_tn154, Int.reduceToNat, Int.reduceAdd, Int.reduceSub, Int.reduceNeg, Int.reduceLT, Int.reduceLE, Int.reduceEq, Nat.reduceAdd, cs_C_ob hc, cs_C_rc hc, cs_C_ix1 hc, cs_C_ix2 hc, cs_C_ix3 hc, cs_C_ix4 hc, cs_C_lob hc, cs_C_lrc hc, cs_C_lp hc, cs_C_qb hc, cs_C_qa hc, cs_C_bp hc, cs_C_bob hc, cs_C_brc hc, hc.2.1, cs_put_0, cs_put_at, cs_put_us0, cs_put_us, cs_u2_us]
    refine cs_goI cl ?_
    try simp (disch := omega) only [↓cs_pad0, ↓cs_pad1, ↓cs_pad2, ↓cs_q_iconst, ↓cs_q_bipush, ↓cs_q_sipush, ↓cs_q_ldc, ↓cs_q_fall, ↓cs_q_stop, ↓cs_q_iload_n0, ↓cs_q_aload_n0, ↓cs_q_istore_n0, ↓cs_q_astore_n0, ↓cs_q_iinc0, ↓cs_q_iload_n1, ↓cs_q_aload_n1, ↓cs_q_istore_n1, ↓cs_q_astore_n1, ↓cs_q_iinc1, ↓cs_q_iload_n2, ↓cs_q_aload_n2, ↓cs_q_istore_n2, ↓cs_q_astore_n2, ↓cs_q_iinc2, ↓cs_q_iload_n3, ↓cs_q_aload_n3, ↓cs_q_istore_n3, ↓cs_q_astore_n3, ↓cs_q_iinc3, ↓cs_q_iload4, ↓cs_q_aload4, ↓cs_q_istore4, ↓cs_q_astore4, ↓cs_q_iinc4, ↓cs_q_iload5, ↓cs_q_aload5, ↓cs_q_istore5, ↓cs_q_astore5, ↓cs_q_iinc5, ↓cs_q_iload6, ↓cs_q_aload6, ↓cs_q_istore6, ↓cs_q_astore6, ↓cs_q_iinc6, ↓cs_q_iload7, ↓cs_q_aload7, ↓cs_q_istore7, ↓cs_q_astore7, ↓cs_q_iinc7, ↓cs_q_aload_nZ0, ↓cs_q_astore_nZ0, ↓cs_q_aload_nZ1, ↓cs_q_astore_nZ1, ↓cs_q_aload_nZ2, ↓cs_q_astore_nZ2, ↓cs_q_aload_nZ3, ↓cs_q_astore_nZ3, ↓cs_q_aloadZ4, ↓cs_q_astoreZ4, ↓cs_q_aloadZ5, ↓cs_q_astoreZ5, ↓cs_q_aloadZ6, ↓cs_q_astoreZ6, ↓cs_q_aloadZ7, ↓cs_q_astoreZ7, ↓cs_q_null, ↓cs_q_ifnullR, ↓cs_q_ifnullZ, ↓cs_q_ifnonnullR, ↓cs_q_ifnonnullZ, ↓cs_q_aretZ, ↓cs_q_aload_nT, ↓cs_q_iadd, ↓cs_q_isub, ↓cs_q_imul, ↓cs_q_iand, ↓cs_q_ior, ↓cs_q_ishl, ↓cs_q_i2c, ↓cs_q_dup, ↓cs_q_pop, ↓cs_q_dup2, ↓cs_q_goto, ↓cs_q_if_eq, ↓cs_q_if_ne, ↓cs_q_if_lt, ↓cs_q_if_ge, ↓cs_q_if_gt, ↓cs_q_if_le, ↓cs_q_icmp_eq, ↓cs_q_icmp_ne, ↓cs_q_icmp_lt, ↓cs_q_icmp_ge, ↓cs_q_icmp_gt, ↓cs_q_icmp_le, ↓cs_q_table, ↓cs_q_lookup, ↓cs_q_getI, ↓cs_q_getR, ↓cs_q_putI, ↓cs_q_putZ, ↓cs_q_putR, ↓cs_q_gets, ↓cs_q_iald, ↓cs_q_taload, ↓cs_q_cald, ↓cs_q_iast, ↓cs_q_cast, ↓cs_q_aald, ↓cs_q_aast, ↓cs_q_tlen, ↓cs_q_alen, ↓cs_q_new, ↓cs_q_newa, ↓cs_q_anew, ↓cs_q_virt0, ↓cs_q_stat00, ↓cs_q_stat10, ↓cs_q_virt1, ↓cs_q_stat01, ↓cs_q_stat11, ↓cs_q_virt2, ↓cs_q_stat02, ↓cs_q_stat12, ↓cs_q_virt3, ↓cs_q_stat03, ↓cs_q_stat13, ↓cs_q_virt4, ↓cs_q_stat04, ↓cs_q_stat14, ↓cs_q_oinit, ↓cs_q_spec, ↓cs_q_max, ↓cs_q_min, ↓cs_q_copy, ↓cs_q_iret, ↓cs_q_zret, ↓cs_q_aret, ↓cs_q_vret, ↓cs_q_J, ↓cs_q_l8_0, ↓cs_q_l8_1, ↓cs_q_l8_2, ↓cs_q_l8_3, ↓cs_q_l8_4, ↓cs_q_l8_5, ↓cs_q_l8_6, rX1_reasonNow, qX1_reasonNow_0, qX1_reasonNow_1, qX1_reasonNow_2, qX1_reasonNow_3, qX1_reasonNow_4, qX1_reasonNow_5, qX1_reasonNow_6, qX1_reasonNow_7, qX1_reasonNow_8, true_and, and_true, true_or, or_true, Option.isSome_some, Option.getD_some, cs_bz, cs_bn, cs_bi, cs_bo, not_false_eq_true, not_true_eq_false, true_implies, false_implies, implies_true, Decidable.not_not, cs_em, cs_sw_c, cs_sw_n, false_or, or_false, false_and, and_false, cs_inT, Int.toNat_natCast, cs_tn0, cs_tn01, cs_tn1, cs_tn6, cs_tn11, cs_tn16, cs_tn21, cs_tn154, Int.reduceToNat, Int.reduceAdd, Int.reduceSub, Int.reduceNeg, Int.reduceLT, Int.reduceLE, Int.reduceEq, Nat.reduceAdd, cs_C_ob hc, cs_C_rc hc, cs_C_ix1 hc, cs_C_ix2 hc, cs_C_ix3 hc, cs_C_ix4 hc, cs_C_lob hc, cs_C_lrc hc, cs_C_lp hc, cs_C_qb hc, cs_C_qa hc, cs_C_bp hc, cs_C_bob hc, cs_C_brc hc, hc.2.1, cs_put_0, cs_put_at, cs_put_us0, cs_put_us, cs_u2_us, hk5n]
    refine cs_goI ca ?_
    try simp (disch := omega) only [↓cs_pad0, ↓cs_pad1, ↓cs_pad2, ↓cs_q_iconst, ↓cs_q_bipush, ↓cs_q_sipush, ↓cs_q_ldc, ↓cs_q_fall, ↓cs_q_stop, ↓cs_q_iload_n0, ↓cs_q_aload_n0, ↓cs_q_istore_n0, ↓cs_q_astore_n0, ↓cs_q_iinc0, ↓cs_q_iload_n1, ↓cs_q_aload_n1, ↓cs_q_istore_n1, ↓cs_q_astore_n1, ↓cs_q_iinc1, ↓cs_q_iload_n2, ↓cs_q_aload_n2, ↓cs_q_istore_n2, ↓cs_q_astore_n2, ↓cs_q_iinc2, ↓cs_q_iload_n3, ↓cs_q_aload_n3, ↓cs_q_istore_n3, ↓cs_q_astore_n3, ↓cs_q_iinc3, ↓cs_q_iload4, ↓cs_q_aload4, ↓cs_q_istore4, ↓cs_q_astore4, ↓cs_q_iinc4, ↓cs_q_iload5, ↓cs_q_aload5, ↓cs_q_istore5, ↓cs_q_astore5, ↓cs_q_iinc5, ↓cs_q_iload6, ↓cs_q_aload6, ↓cs_q_istore6, ↓cs_q_astore6, ↓cs_q_iinc6, ↓cs_q_iload7, ↓cs_q_aload7, ↓cs_q_istore7, ↓cs_q_astore7, ↓cs_q_iinc7, ↓cs_q_aload_nZ0, ↓cs_q_astore_nZ0, ↓cs_q_aload_nZ1, ↓cs_q_astore_nZ1, ↓cs_q_aload_nZ2, ↓cs_q_astore_nZ2, ↓cs_q_aload_nZ3, ↓cs_q_astore_nZ3, ↓cs_q_aloadZ4, ↓cs_q_astoreZ4, ↓cs_q_aloadZ5, ↓cs_q_astoreZ5, ↓cs_q_aloadZ6, ↓cs_q_astoreZ6, ↓cs_q_aloadZ7, ↓cs_q_astoreZ7, ↓cs_q_null, ↓cs_q_ifnullR, ↓cs_q_ifnullZ, ↓cs_q_ifnonnullR, ↓cs_q_ifnonnullZ, ↓cs_q_aretZ, ↓cs_q_aload_nT, ↓cs_q_iadd, ↓cs_q_isub, ↓cs_q_imul, ↓cs_q_iand, ↓cs_q_ior, ↓cs_q_ishl, ↓cs_q_i2c, ↓cs_q_dup, ↓cs_q_pop, ↓cs_q_dup2, ↓cs_q_goto, ↓cs_q_if_eq, ↓cs_q_if_ne, ↓cs_q_if_lt, ↓cs_q_if_ge, ↓cs_q_if_gt, ↓cs_q_if_le, ↓cs_q_icmp_eq, ↓cs_q_icmp_ne, ↓cs_q_icmp_lt, ↓cs_q_icmp_ge, ↓cs_q_icmp_gt, ↓cs_q_icmp_le, ↓cs_q_table, ↓cs_q_lookup, ↓cs_q_getI, ↓cs_q_getR, ↓cs_q_putI, ↓cs_q_putZ, ↓cs_q_putR, ↓cs_q_gets, ↓cs_q_iald, ↓cs_q_taload, ↓cs_q_cald, ↓cs_q_iast, ↓cs_q_cast, ↓cs_q_aald, ↓cs_q_aast, ↓cs_q_tlen, ↓cs_q_alen, ↓cs_q_new, ↓cs_q_newa, ↓cs_q_anew, ↓cs_q_virt0, ↓cs_q_stat00, ↓cs_q_stat10, ↓cs_q_virt1, ↓cs_q_stat01, ↓cs_q_stat11, ↓cs_q_virt2, ↓cs_q_stat02, ↓cs_q_stat12, ↓cs_q_virt3, ↓cs_q_stat03, ↓cs_q_stat13, ↓cs_q_virt4, ↓cs_q_stat04, ↓cs_q_stat14, ↓cs_q_oinit, ↓cs_q_spec, ↓cs_q_max, ↓cs_q_min, ↓cs_q_copy, ↓cs_q_iret, ↓cs_q_zret, ↓cs_q_aret, ↓cs_q_vret, ↓cs_q_J, ↓cs_q_l8_0, ↓cs_q_l8_1, ↓cs_q_l8_2, ↓cs_q_l8_3, ↓cs_q_l8_4, ↓cs_q_l8_5, ↓cs_q_l8_6, rX1_reasonNow, qX1_reasonNow_0, qX1_reasonNow_1, qX1_reasonNow_2, qX1_reasonNow_3, qX1_reasonNow_4, qX1_reasonNow_5, qX1_reasonNow_6, qX1_reasonNow_7, qX1_reasonNow_8, true_and, and_true, true_or, or_true, Option.isSome_some, Option.getD_some, cs_bz, cs_bn, cs_bi, cs_bo, not_false_eq_true, not_true_eq_false, true_implies, false_implies, implies_true, Decidable.not_not, cs_em, cs_sw_c, cs_sw_n, false_or, or_false, false_and, and_false, cs_inT, Int.toNat_natCast, cs_tn0, cs_tn01, cs_tn1, cs_tn6, cs_tn11, cs_tn16, cs_tn21, cs_tn154, Int.reduceToNat, Int.reduceAdd, Int.reduceSub, Int.reduceNeg, Int.reduceLT, Int.reduceLE, Int.reduceEq, Nat.reduceAdd, cs_C_ob hc, cs_C_rc hc, cs_C_ix1 hc, cs_C_ix2 hc, cs_C_ix3 hc, cs_C_ix4 hc, cs_C_lob hc, cs_C_lrc hc, cs_C_lp hc, cs_C_qb hc, cs_C_qa hc, cs_C_bp hc, cs_C_bob hc, cs_C_brc hc, hc.2.1, cs_put_0, cs_put_at, cs_put_us0, cs_put_us, cs_u2_us]
    refine ⟨fun z => ?_, fun z => ?_⟩
    · rw [if_neg z] at hV
      refine cs_goI cp ?_
      try simp (disch := omega) only [↓cs_pad0, ↓cs_pad1, ↓cs_pad2, ↓cs_q_iconst, ↓cs_q_bipush, ↓cs_q_sipush, ↓cs_q_ldc, ↓cs_q_fall, ↓cs_q_stop, ↓cs_q_iload_n0, ↓cs_q_aload_n0, ↓cs_q_istore_n0, ↓cs_q_astore_n0, ↓cs_q_iinc0, ↓cs_q_iload_n1, ↓cs_q_aload_n1, ↓cs_q_istore_n1, ↓cs_q_astore_n1, ↓cs_q_iinc1, ↓cs_q_iload_n2, ↓cs_q_aload_n2, ↓cs_q_istore_n2, ↓cs_q_astore_n2, ↓cs_q_iinc2, ↓cs_q_iload_n3, ↓cs_q_aload_n3, ↓cs_q_istore_n3, ↓cs_q_astore_n3, ↓cs_q_iinc3, ↓cs_q_iload4, ↓cs_q_aload4, ↓cs_q_istore4, ↓cs_q_astore4, ↓cs_q_iinc4, ↓cs_q_iload5, ↓cs_q_aload5, ↓cs_q_istore5, ↓cs_q_astore5, ↓cs_q_iinc5, ↓cs_q_iload6, ↓cs_q_aload6, ↓cs_q_istore6, ↓cs_q_astore6, ↓cs_q_iinc6, ↓cs_q_iload7, ↓cs_q_aload7, ↓cs_q_istore7, ↓cs_q_astore7, ↓cs_q_iinc7, ↓cs_q_aload_nZ0, ↓cs_q_astore_nZ0, ↓cs_q_aload_nZ1, ↓cs_q_astore_nZ1, ↓cs_q_aload_nZ2, ↓cs_q_astore_nZ2, ↓cs_q_aload_nZ3, ↓cs_q_astore_nZ3, ↓cs_q_aloadZ4, ↓cs_q_astoreZ4, ↓cs_q_aloadZ5, ↓cs_q_astoreZ5, ↓cs_q_aloadZ6, ↓cs_q_astoreZ6, ↓cs_q_aloadZ7, ↓cs_q_astoreZ7, ↓cs_q_null, ↓cs_q_ifnullR, ↓cs_q_ifnullZ, ↓cs_q_ifnonnullR, ↓cs_q_ifnonnullZ, ↓cs_q_aretZ, ↓cs_q_aload_nT, ↓cs_q_iadd, ↓cs_q_isub, ↓cs_q_imul, ↓cs_q_iand, ↓cs_q_ior, ↓cs_q_ishl, ↓cs_q_i2c, ↓cs_q_dup, ↓cs_q_pop, ↓cs_q_dup2, ↓cs_q_goto, ↓cs_q_if_eq, ↓cs_q_if_ne, ↓cs_q_if_lt, ↓cs_q_if_ge, ↓cs_q_if_gt, ↓cs_q_if_le, ↓cs_q_icmp_eq, ↓cs_q_icmp_ne, ↓cs_q_icmp_lt, ↓cs_q_icmp_ge, ↓cs_q_icmp_gt, ↓cs_q_icmp_le, ↓cs_q_table, ↓cs_q_lookup, ↓cs_q_getI, ↓cs_q_getR, ↓cs_q_putI, ↓cs_q_putZ, ↓cs_q_putR, ↓cs_q_gets, ↓cs_q_iald, ↓cs_q_taload, ↓cs_q_cald, ↓cs_q_iast, ↓cs_q_cast, ↓cs_q_aald, ↓cs_q_aast, ↓cs_q_tlen, ↓cs_q_alen, ↓cs_q_new, ↓cs_q_newa, ↓cs_q_anew, ↓cs_q_virt0, ↓cs_q_stat00, ↓cs_q_stat10, ↓cs_q_virt1, ↓cs_q_stat01, ↓cs_q_stat11, ↓cs_q_virt2, ↓cs_q_stat02, ↓cs_q_stat12, ↓cs_q_virt3, ↓cs_q_stat03, ↓cs_q_stat13, ↓cs_q_virt4, ↓cs_q_stat04, ↓cs_q_stat14, ↓cs_q_oinit, ↓cs_q_spec, ↓cs_q_max, ↓cs_q_min, ↓cs_q_copy, ↓cs_q_iret, ↓cs_q_zret, ↓cs_q_aret, ↓cs_q_vret, ↓cs_q_J, ↓cs_q_l8_0, ↓cs_q_l8_1, ↓cs_q_l8_2, ↓cs_q_l8_3, ↓cs_q_l8_4, ↓cs_q_l8_5, ↓cs_q_l8_6, rX1_reasonNow, qX1_reasonNow_0, qX1_reasonNow_1, qX1_reasonNow_2, qX1_reasonNow_3, qX1_reasonNow_4, qX1_reasonNow_5, qX1_reasonNow_6, qX1_reasonNow_7, qX1_reasonNow_8, true_and, and_true, true_or, or_true, Option.isSome_some, Option.getD_some, cs_bz, cs_bn, cs_bi, cs_bo, not_false_eq_true, not_true_eq_false, true_implies, false_implies, implies_true, Decidable.not_not, cs_em, cs_sw_c, cs_sw_n, false_or, or_false, false_and, and_false, cs_inT, Int.toNat_natCast, cs_tn0, cs_tn01, cs_tn1, cs_tn6, cs_tn11, cs_tn16, cs_tn21, cs_tn154, Int.reduceToNat, Int.reduceAdd, Int.reduceSub, Int.reduceNeg, Int.reduceLT, Int.reduceLE, Int.reduceEq, Nat.reduceAdd, cs_C_ob hc, cs_C_rc hc, cs_C_ix1 hc, cs_C_ix2 hc, cs_C_ix3 hc, cs_C_ix4 hc, cs_C_lob hc, cs_C_lrc hc, cs_C_lp hc, cs_C_qb hc, cs_C_qa hc, cs_C_bp hc, cs_C_bob hc, cs_C_brc hc, hc.2.1, cs_put_0, cs_put_at, cs_put_us0, cs_put_us, cs_u2_us, p2, g3, a1]
      refine ⟨fun y => ?_, fun y => ?_⟩
      · rw [if_neg (by omega)] at hV
        refine cs_goI ch ?_
        try simp (disch := omega) only [↓cs_pad0, ↓cs_pad1, ↓cs_pad2, ↓cs_q_iconst, ↓cs_q_bipush, ↓cs_q_sipush, ↓cs_q_ldc, ↓cs_q_fall, ↓cs_q_stop, ↓cs_q_iload_n0, ↓cs_q_aload_n0, ↓cs_q_istore_n0, ↓cs_q_astore_n0, ↓cs_q_iinc0, ↓cs_q_iload_n1, ↓cs_q_aload_n1, ↓cs_q_istore_n1, ↓cs_q_astore_n1, ↓cs_q_iinc1, ↓cs_q_iload_n2, ↓cs_q_aload_n2, ↓cs_q_istore_n2, ↓cs_q_astore_n2, ↓cs_q_iinc2, ↓cs_q_iload_n3, ↓cs_q_aload_n3, ↓cs_q_istore_n3, ↓cs_q_astore_n3, ↓cs_q_iinc3, ↓cs_q_iload4, ↓cs_q_aload4, ↓cs_q_istore4, ↓cs_q_astore4, ↓cs_q_iinc4, ↓cs_q_iload5, ↓cs_q_aload5, ↓cs_q_istore5, ↓cs_q_astore5, ↓cs_q_iinc5, ↓cs_q_iload6, ↓cs_q_aload6, ↓cs_q_istore6, ↓cs_q_astore6, ↓cs_q_iinc6, ↓cs_q_iload7, ↓cs_q_aload7, ↓cs_q_istore7, ↓cs_q_astore7, ↓cs_q_iinc7, ↓cs_q_aload_nZ0, ↓cs_q_astore_nZ0, ↓cs_q_aload_nZ1, ↓cs_q_astore_nZ1, ↓cs_q_aload_nZ2, ↓cs_q_astore_nZ2, ↓cs_q_aload_nZ3, ↓cs_q_astore_nZ3, ↓cs_q_aloadZ4, ↓cs_q_astoreZ4, ↓cs_q_aloadZ5, ↓cs_q_astoreZ5, ↓cs_q_aloadZ6, ↓cs_q_astoreZ6, ↓cs_q_aloadZ7, ↓cs_q_astoreZ7, ↓cs_q_null, ↓cs_q_ifnullR, ↓cs_q_ifnullZ, ↓cs_q_ifnonnullR, ↓cs_q_ifnonnullZ, ↓cs_q_aretZ, ↓cs_q_aload_nT, ↓cs_q_iadd, ↓cs_q_isub, ↓cs_q_imul, ↓cs_q_iand, ↓cs_q_ior, ↓cs_q_ishl, ↓cs_q_i2c, ↓cs_q_dup, ↓cs_q_pop, ↓cs_q_dup2, ↓cs_q_goto, ↓cs_q_if_eq, ↓cs_q_if_ne, ↓cs_q_if_lt, ↓cs_q_if_ge, ↓cs_q_if_gt, ↓cs_q_if_le, ↓cs_q_icmp_eq, ↓cs_q_icmp_ne, ↓cs_q_icmp_lt, ↓cs_q_icmp_ge, ↓cs_q_icmp_gt, ↓cs_q_icmp_le, ↓cs_q_table, ↓cs_q_lookup, ↓cs_q_getI, ↓cs_q_getR, ↓cs_q_putI, ↓cs_q_putZ, ↓cs_q_putR, ↓cs_q_gets, ↓cs_q_iald, ↓cs_q_taload, ↓cs_q_cald, ↓cs_q_iast, ↓cs_q_cast, ↓cs_q_aald, ↓cs_q_aast, ↓cs_q_tlen, ↓cs_q_alen, ↓cs_q_new, ↓cs_q_newa, ↓cs_q_anew, ↓cs_q_virt0, ↓cs_q_stat00, ↓cs_q_stat10, ↓cs_q_virt1, ↓cs_q_stat01, ↓cs_q_stat11, ↓cs_q_virt2, ↓cs_q_stat02, ↓cs_q_stat12, ↓cs_q_virt3, ↓cs_q_stat03, ↓cs_q_stat13, ↓cs_q_virt4, ↓cs_q_stat04, ↓cs_q_stat14, ↓cs_q_oinit, ↓cs_q_spec, ↓cs_q_max, ↓cs_q_min, ↓cs_q_copy, ↓cs_q_iret, ↓cs_q_zret, ↓cs_q_aret, ↓cs_q_vret, ↓cs_q_J, ↓cs_q_l8_0, ↓cs_q_l8_1, ↓cs_q_l8_2, ↓cs_q_l8_3, ↓cs_q_l8_4, ↓cs_q_l8_5, ↓cs_q_l8_6, rX1_reasonNow, qX1_reasonNow_0, qX1_reasonNow_1, qX1_reasonNow_2, qX1_reasonNow_3, qX1_reasonNow_4, qX1_reasonNow_5, qX1_reasonNow_6, qX1_reasonNow_7, qX1_reasonNow_8, true_and, and_true, true_or, or_true, Option.isSome_some, Option.getD_some, cs_bz, cs_bn, cs_bi, cs_bo, not_false_eq_true, not_true_eq_false, true_implies, false_implies, implies_true, Decidable.not_not, cs_em, cs_sw_c, cs_sw_n, false_or, or_false, false_and, and_false, cs_inT, Int.toNat_natCast, cs_tn0, cs_tn01, cs_tn1, cs_tn6, cs_tn11, cs_tn16, cs_tn21, cs_tn154, Int.reduceToNat, Int.reduceAdd, Int.reduceSub, Int.reduceNeg, Int.reduceLT, Int.reduceLE, Int.reduceEq, Nat.reduceAdd, cs_C_ob hc, cs_C_rc hc, cs_C_ix1 hc, cs_C_ix2 hc, cs_C_ix3 hc, cs_C_ix4 hc, cs_C_lob hc, cs_C_lrc hc, cs_C_lp hc, cs_C_qb hc, cs_C_qa hc, cs_C_bp hc, cs_C_bob hc, cs_C_brc hc, hc.2.1, cs_put_0, cs_put_at, cs_put_us0, cs_put_us, cs_u2_us]
        refine ⟨fun x => ?_, fun x => ?_⟩
        · rw [if_neg (fun w => x (w.mpr hup'))] at hV
          refine cs_goI cc ?_
          try simp (disch := omega) only [↓cs_pad0, ↓cs_pad1, ↓cs_pad2, ↓cs_q_iconst, ↓cs_q_bipush, ↓cs_q_sipush, ↓cs_q_ldc, ↓cs_q_fall, ↓cs_q_stop, ↓cs_q_iload_n0, ↓cs_q_aload_n0, ↓cs_q_istore_n0, ↓cs_q_astore_n0, ↓cs_q_iinc0, ↓cs_q_iload_n1, ↓cs_q_aload_n1, ↓cs_q_istore_n1, ↓cs_q_astore_n1, ↓cs_q_iinc1, ↓cs_q_iload_n2, ↓cs_q_aload_n2, ↓cs_q_istore_n2, ↓cs_q_astore_n2, ↓cs_q_iinc2, ↓cs_q_iload_n3, ↓cs_q_aload_n3, ↓cs_q_istore_n3, ↓cs_q_astore_n3, ↓cs_q_iinc3, ↓cs_q_iload4, ↓cs_q_aload4, ↓cs_q_istore4, ↓cs_q_astore4, ↓cs_q_iinc4, ↓cs_q_iload5, ↓cs_q_aload5, ↓cs_q_istore5, ↓cs_q_astore5, ↓cs_q_iinc5, ↓cs_q_iload6, ↓cs_q_aload6, ↓cs_q_istore6, ↓cs_q_astore6, ↓cs_q_iinc6, ↓cs_q_iload7, ↓cs_q_aload7, ↓cs_q_istore7, ↓cs_q_astore7, ↓cs_q_iinc7, ↓cs_q_aload_nZ0, ↓cs_q_astore_nZ0, ↓cs_q_aload_nZ1, ↓cs_q_astore_nZ1, ↓cs_q_aload_nZ2, ↓cs_q_astore_nZ2, ↓cs_q_aload_nZ3, ↓cs_q_astore_nZ3, ↓cs_q_aloadZ4, ↓cs_q_astoreZ4, ↓cs_q_aloadZ5, ↓cs_q_astoreZ5, ↓cs_q_aloadZ6, ↓cs_q_astoreZ6, ↓cs_q_aloadZ7, ↓cs_q_astoreZ7, ↓cs_q_null, ↓cs_q_ifnullR, ↓cs_q_ifnullZ, ↓cs_q_ifnonnullR, ↓cs_q_ifnonnullZ, ↓cs_q_aretZ, ↓cs_q_aload_nT, ↓cs_q_iadd, ↓cs_q_isub, ↓cs_q_imul, ↓cs_q_iand, ↓cs_q_ior, ↓cs_q_ishl, ↓cs_q_i2c, ↓cs_q_dup, ↓cs_q_pop, ↓cs_q_dup2, ↓cs_q_goto, ↓cs_q_if_eq, ↓cs_q_if_ne, ↓cs_q_if_lt, ↓cs_q_if_ge, ↓cs_q_if_gt, ↓cs_q_if_le, ↓cs_q_icmp_eq, ↓cs_q_icmp_ne, ↓cs_q_icmp_lt, ↓cs_q_icmp_ge, ↓cs_q_icmp_gt, ↓cs_q_icmp_le, ↓cs_q_table, ↓cs_q_lookup, ↓cs_q_getI, ↓cs_q_getR, ↓cs_q_putI, ↓cs_q_putZ, ↓cs_q_putR, ↓cs_q_gets, ↓cs_q_iald, ↓cs_q_taload, ↓cs_q_cald, ↓cs_q_iast, ↓cs_q_cast, ↓cs_q_aald, ↓cs_q_aast, ↓cs_q_tlen, ↓cs_q_alen, ↓cs_q_new, ↓cs_q_newa, ↓cs_q_anew, ↓cs_q_virt0, ↓cs_q_stat00, ↓cs_q_stat10, ↓cs_q_virt1, ↓cs_q_stat01, ↓cs_q_stat11, ↓cs_q_virt2, ↓cs_q_stat02, ↓cs_q_stat12, ↓cs_q_virt3, ↓cs_q_stat03, ↓cs_q_stat13, ↓cs_q_virt4, ↓cs_q_stat04, ↓cs_q_stat14, ↓cs_q_oinit, ↓cs_q_spec, ↓cs_q_max, ↓cs_q_min, ↓cs_q_copy, ↓cs_q_iret, ↓cs_q_zret, ↓cs_q_aret, ↓cs_q_vret, ↓cs_q_J, ↓cs_q_l8_0, ↓cs_q_l8_1, ↓cs_q_l8_2, ↓cs_q_l8_3, ↓cs_q_l8_4, ↓cs_q_l8_5, ↓cs_q_l8_6, rX1_reasonNow, qX1_reasonNow_0, qX1_reasonNow_1, qX1_reasonNow_2, qX1_reasonNow_3, qX1_reasonNow_4, qX1_reasonNow_5, qX1_reasonNow_6, qX1_reasonNow_7, qX1_reasonNow_8, true_and, and_true, true_or, or_true, Option.isSome_some, Option.getD_some, cs_bz, cs_bn, cs_bi, cs_bo, not_false_eq_true, not_true_eq_false, true_implies, false_implies, implies_true, Decidable.not_not, cs_em, cs_sw_c, cs_sw_n, false_or, or_false, false_and, and_false, cs_inT, Int.toNat_natCast, cs_tn0, cs_tn01, cs_tn1, cs_tn6, cs_tn11, cs_tn16, cs_tn21, cs_tn154, Int.reduceToNat, Int.reduceAdd, Int.reduceSub, Int.reduceNeg, Int.reduceLT, Int.reduceLE, Int.reduceEq, Nat.reduceAdd, cs_C_ob hc, cs_C_rc hc, cs_C_ix1 hc, cs_C_ix2 hc, cs_C_ix3 hc, cs_C_ix4 hc, cs_C_lob hc, cs_C_lrc hc, cs_C_lp hc, cs_C_qb hc, cs_C_qa hc, cs_C_bp hc, cs_C_bob hc, cs_C_brc hc, hc.2.1, cs_put_0, cs_put_at, cs_put_us0, cs_put_us, cs_u2_us]
          refine ⟨fun u => ?_, fun u => ?_⟩
          · rw [if_neg u] at hV
            rw [hV]
          · rw [if_pos u] at hV
            rw [hV]
        · rw [if_pos (⟨fun _ => hup', fun _ => x⟩)] at hV
          rw [hV]
      · rw [if_pos (by omega)] at hV
        rw [hV]
    · rw [if_pos z] at hV
      rw [hV]
  · have hup' := fun y => hup (eup.mp y)
    have a1 : ((g : Int) ≤ (p : Int)) = True := eq_true (by omega)
    refine cs_run0 mX1_reasonNow kX1_reasonNow zX1_reasonNow rfl rfl 12 (fun sc o => ?_)
    try simp (disch := omega) only [↓cs_pad0, ↓cs_pad1, ↓cs_pad2, ↓cs_q_iconst, ↓cs_q_bipush, ↓cs_q_sipush, ↓cs_q_ldc, ↓cs_q_fall, ↓cs_q_stop, ↓cs_q_iload_n0, ↓cs_q_aload_n0, ↓cs_q_istore_n0, ↓cs_q_astore_n0, ↓cs_q_iinc0, ↓cs_q_iload_n1, ↓cs_q_aload_n1, ↓cs_q_istore_n1, ↓cs_q_astore_n1, ↓cs_q_iinc1, ↓cs_q_iload_n2, ↓cs_q_aload_n2, ↓cs_q_istore_n2, ↓cs_q_astore_n2, ↓cs_q_iinc2, ↓cs_q_iload_n3, ↓cs_q_aload_n3, ↓cs_q_istore_n3, ↓cs_q_astore_n3, ↓cs_q_iinc3, ↓cs_q_iload4, ↓cs_q_aload4, ↓cs_q_istore4, ↓cs_q_astore4, ↓cs_q_iinc4, ↓cs_q_iload5, ↓cs_q_aload5, ↓cs_q_istore5, ↓cs_q_astore5, ↓cs_q_iinc5, ↓cs_q_iload6, ↓cs_q_aload6, ↓cs_q_istore6, ↓cs_q_astore6, ↓cs_q_iinc6, ↓cs_q_iload7, ↓cs_q_aload7, ↓cs_q_istore7, ↓cs_q_astore7, ↓cs_q_iinc7, ↓cs_q_aload_nZ0, ↓cs_q_astore_nZ0, ↓cs_q_aload_nZ1, ↓cs_q_astore_nZ1, ↓cs_q_aload_nZ2, ↓cs_q_astore_nZ2, ↓cs_q_aload_nZ3, ↓cs_q_astore_nZ3, ↓cs_q_aloadZ4, ↓cs_q_astoreZ4, ↓cs_q_aloadZ5, ↓cs_q_astoreZ5, ↓cs_q_aloadZ6, ↓cs_q_astoreZ6, ↓cs_q_aloadZ7, ↓cs_q_astoreZ7, ↓cs_q_null, ↓cs_q_ifnullR, ↓cs_q_ifnullZ, ↓cs_q_ifnonnullR, ↓cs_q_ifnonnullZ, ↓cs_q_aretZ, ↓cs_q_aload_nT, ↓cs_q_iadd, ↓cs_q_isub, ↓cs_q_imul, ↓cs_q_iand, ↓cs_q_ior, ↓cs_q_ishl, ↓cs_q_i2c, ↓cs_q_dup, ↓cs_q_pop, ↓cs_q_dup2, ↓cs_q_goto, ↓cs_q_if_eq, ↓cs_q_if_ne, ↓cs_q_if_lt, ↓cs_q_if_ge, ↓cs_q_if_gt, ↓cs_q_if_le, ↓cs_q_icmp_eq, ↓cs_q_icmp_ne, ↓cs_q_icmp_lt, ↓cs_q_icmp_ge, ↓cs_q_icmp_gt, ↓cs_q_icmp_le, ↓cs_q_table, ↓cs_q_lookup, ↓cs_q_getI, ↓cs_q_getR, ↓cs_q_putI, ↓cs_q_putZ, ↓cs_q_putR, ↓cs_q_gets, ↓cs_q_iald, ↓cs_q_taload, ↓cs_q_cald, ↓cs_q_iast, ↓cs_q_cast, ↓cs_q_aald, ↓cs_q_aast, ↓cs_q_tlen, ↓cs_q_alen, ↓cs_q_new, ↓cs_q_newa, ↓cs_q_anew, ↓cs_q_virt0, ↓cs_q_stat00, ↓cs_q_stat10, ↓cs_q_virt1, ↓cs_q_stat01, ↓cs_q_stat11, ↓cs_q_virt2, ↓cs_q_stat02, ↓cs_q_stat12, ↓cs_q_virt3, ↓cs_q_stat03, ↓cs_q_stat13, ↓cs_q_virt4, ↓cs_q_stat04, ↓cs_q_stat14, ↓cs_q_oinit, ↓cs_q_spec, ↓cs_q_max, ↓cs_q_min, ↓cs_q_copy, ↓cs_q_iret, ↓cs_q_zret, ↓cs_q_aret, ↓cs_q_vret, ↓cs_q_J, ↓cs_q_l8_0, ↓cs_q_l8_1, ↓cs_q_l8_2, ↓cs_q_l8_3, ↓cs_q_l8_4, ↓cs_q_l8_5, ↓cs_q_l8_6, rX1_reasonNow, qX1_reasonNow_0, qX1_reasonNow_1, qX1_reasonNow_2, qX1_reasonNow_3, qX1_reasonNow_4, qX1_reasonNow_5, qX1_reasonNow_6, qX1_reasonNow_7, qX1_reasonNow_8, true_and, and_true, true_or, or_true, Option.isSome_some, Option.getD_some, cs_bz, cs_bn, cs_bi, cs_bo, not_false_eq_true, not_true_eq_false, true_implies, false_implies, implies_true, Decidable.not_not, cs_em, cs_sw_c, cs_sw_n, false_or, or_false, false_and, and_false, cs_inT, Int.toNat_natCast, cs_tn0, cs_tn01, cs_tn1, cs_tn6, cs_tn11, cs_tn16, cs_tn21, cs_tn154, Int.reduceToNat, Int.reduceAdd, Int.reduceSub, Int.reduceNeg, Int.reduceLT, Int.reduceLE, Int.reduceEq, Nat.reduceAdd, cs_C_ob hc, cs_C_rc hc, cs_C_ix1 hc, cs_C_ix2 hc, cs_C_ix3 hc, cs_C_ix4 hc, cs_C_lob hc, cs_C_lrc hc, cs_C_lp hc, cs_C_qb hc, cs_C_qa hc, cs_C_bp hc, cs_C_bob hc, cs_C_brc hc, hc.2.1, cs_put_0, cs_put_at, cs_put_us0, cs_put_us, cs_u2_us]
    refine cs_goI cl ?_
    try simp (disch := omega) only [↓cs_pad0, ↓cs_pad1, ↓cs_pad2, ↓cs_q_iconst, ↓cs_q_bipush, ↓cs_q_sipush, ↓cs_q_ldc, ↓cs_q_fall, ↓cs_q_stop, ↓cs_q_iload_n0, ↓cs_q_aload_n0, ↓cs_q_istore_n0, ↓cs_q_astore_n0, ↓cs_q_iinc0, ↓cs_q_iload_n1, ↓cs_q_aload_n1, ↓cs_q_istore_n1, ↓cs_q_astore_n1, ↓cs_q_iinc1, ↓cs_q_iload_n2, ↓cs_q_aload_n2, ↓cs_q_istore_n2, ↓cs_q_astore_n2, ↓cs_q_iinc2, ↓cs_q_iload_n3, ↓cs_q_aload_n3, ↓cs_q_istore_n3, ↓cs_q_astore_n3, ↓cs_q_iinc3, ↓cs_q_iload4, ↓cs_q_aload4, ↓cs_q_istore4, ↓cs_q_astore4, ↓cs_q_iinc4, ↓cs_q_iload5, ↓cs_q_aload5, ↓cs_q_istore5, ↓cs_q_astore5, ↓cs_q_iinc5, ↓cs_q_iload6, ↓cs_q_aload6, ↓cs_q_istore6, ↓cs_q_astore6, ↓cs_q_iinc6, ↓cs_q_iload7, ↓cs_q_aload7, ↓cs_q_istore7, ↓cs_q_astore7, ↓cs_q_iinc7, ↓cs_q_aload_nZ0, ↓cs_q_astore_nZ0, ↓cs_q_aload_nZ1, ↓cs_q_astore_nZ1, ↓cs_q_aload_nZ2, ↓cs_q_astore_nZ2, ↓cs_q_aload_nZ3, ↓cs_q_astore_nZ3, ↓cs_q_aloadZ4, ↓cs_q_astoreZ4, ↓cs_q_aloadZ5, ↓cs_q_astoreZ5, ↓cs_q_aloadZ6, ↓cs_q_astoreZ6, ↓cs_q_aloadZ7, ↓cs_q_astoreZ7, ↓cs_q_null, ↓cs_q_ifnullR, ↓cs_q_ifnullZ, ↓cs_q_ifnonnullR, ↓cs_q_ifnonnullZ, ↓cs_q_aretZ, ↓cs_q_aload_nT, ↓cs_q_iadd, ↓cs_q_isub, ↓cs_q_imul, ↓cs_q_iand, ↓cs_q_ior, ↓cs_q_ishl, ↓cs_q_i2c, ↓cs_q_dup, ↓cs_q_pop, ↓cs_q_dup2, ↓cs_q_goto, ↓cs_q_if_eq, ↓cs_q_if_ne, ↓cs_q_if_lt, ↓cs_q_if_ge, ↓cs_q_if_gt, ↓cs_q_if_le, ↓cs_q_icmp_eq, ↓cs_q_icmp_ne, ↓cs_q_icmp_lt, ↓cs_q_icmp_ge, ↓cs_q_icmp_gt, ↓cs_q_icmp_le, ↓cs_q_table, ↓cs_q_lookup, ↓cs_q_getI, ↓cs_q_getR, ↓cs_q_putI, ↓cs_q_putZ, ↓cs_q_putR, ↓cs_q_gets, ↓cs_q_iald, ↓cs_q_taload, ↓cs_q_cald, ↓cs_q_iast, ↓cs_q_cast, ↓cs_q_aald, ↓cs_q_aast, ↓cs_q_tlen, ↓cs_q_alen, ↓cs_q_new, ↓cs_q_newa, ↓cs_q_anew, ↓cs_q_virt0, ↓cs_q_stat00, ↓cs_q_stat10, ↓cs_q_virt1, ↓cs_q_stat01, ↓cs_q_stat11, ↓cs_q_virt2, ↓cs_q_stat02, ↓cs_q_stat12, ↓cs_q_virt3, ↓cs_q_stat03, ↓cs_q_stat13, ↓cs_q_virt4, ↓cs_q_stat04, ↓cs_q_stat14, ↓cs_q_oinit, ↓cs_q_spec, ↓cs_q_max, ↓cs_q_min, ↓cs_q_copy, ↓cs_q_iret, ↓cs_q_zret, ↓cs_q_aret, ↓cs_q_vret, ↓cs_q_J, ↓cs_q_l8_0, ↓cs_q_l8_1, ↓cs_q_l8_2, ↓cs_q_l8_3, ↓cs_q_l8_4, ↓cs_q_l8_5, ↓cs_q_l8_6, rX1_reasonNow, qX1_reasonNow_0, qX1_reasonNow_1, qX1_reasonNow_2, qX1_reasonNow_3, qX1_reasonNow_4, qX1_reasonNow_5, qX1_reasonNow_6, qX1_reasonNow_7, qX1_reasonNow_8, true_and, and_true, true_or, or_true, Option.isSome_some, Option.getD_some, cs_bz, cs_bn, cs_bi, cs_bo, not_false_eq_true, not_true_eq_false, true_implies, false_implies, implies_true, Decidable.not_not, cs_em, cs_sw_c, cs_sw_n, false_or, or_false, false_and, and_false, cs_inT, Int.toNat_natCast, cs_tn0, cs_tn01, cs_tn1, cs_tn6, cs_tn11, cs_tn16, cs_tn21, cs_tn154, Int.reduceToNat, Int.reduceAdd, Int.reduceSub, Int.reduceNeg, Int.reduceLT, Int.reduceLE, Int.reduceEq, Nat.reduceAdd, cs_C_ob hc, cs_C_rc hc, cs_C_ix1 hc, cs_C_ix2 hc, cs_C_ix3 hc, cs_C_ix4 hc, cs_C_lob hc, cs_C_lrc hc, cs_C_lp hc, cs_C_qb hc, cs_C_qa hc, cs_C_bp hc, cs_C_bob hc, cs_C_brc hc, hc.2.1, cs_put_0, cs_put_at, cs_put_us0, cs_put_us, cs_u2_us, hk5n]
    refine cs_goI ca ?_
    try simp (disch := omega) only [↓cs_pad0, ↓cs_pad1, ↓cs_pad2, ↓cs_q_iconst, ↓cs_q_bipush, ↓cs_q_sipush, ↓cs_q_ldc, ↓cs_q_fall, ↓cs_q_stop, ↓cs_q_iload_n0, ↓cs_q_aload_n0, ↓cs_q_istore_n0, ↓cs_q_astore_n0, ↓cs_q_iinc0, ↓cs_q_iload_n1, ↓cs_q_aload_n1, ↓cs_q_istore_n1, ↓cs_q_astore_n1, ↓cs_q_iinc1, ↓cs_q_iload_n2, ↓cs_q_aload_n2, ↓cs_q_istore_n2, ↓cs_q_astore_n2, ↓cs_q_iinc2, ↓cs_q_iload_n3, ↓cs_q_aload_n3, ↓cs_q_istore_n3, ↓cs_q_astore_n3, ↓cs_q_iinc3, ↓cs_q_iload4, ↓cs_q_aload4, ↓cs_q_istore4, ↓cs_q_astore4, ↓cs_q_iinc4, ↓cs_q_iload5, ↓cs_q_aload5, ↓cs_q_istore5, ↓cs_q_astore5, ↓cs_q_iinc5, ↓cs_q_iload6, ↓cs_q_aload6, ↓cs_q_istore6, ↓cs_q_astore6, ↓cs_q_iinc6, ↓cs_q_iload7, ↓cs_q_aload7, ↓cs_q_istore7, ↓cs_q_astore7, ↓cs_q_iinc7, ↓cs_q_aload_nZ0, ↓cs_q_astore_nZ0, ↓cs_q_aload_nZ1, ↓cs_q_astore_nZ1, ↓cs_q_aload_nZ2, ↓cs_q_astore_nZ2, ↓cs_q_aload_nZ3, ↓cs_q_astore_nZ3, ↓cs_q_aloadZ4, ↓cs_q_astoreZ4, ↓cs_q_aloadZ5, ↓cs_q_astoreZ5, ↓cs_q_aloadZ6, ↓cs_q_astoreZ6, ↓cs_q_aloadZ7, ↓cs_q_astoreZ7, ↓cs_q_null, ↓cs_q_ifnullR, ↓cs_q_ifnullZ, ↓cs_q_ifnonnullR, ↓cs_q_ifnonnullZ, ↓cs_q_aretZ, ↓cs_q_aload_nT, ↓cs_q_iadd, ↓cs_q_isub, ↓cs_q_imul, ↓cs_q_iand, ↓cs_q_ior, ↓cs_q_ishl, ↓cs_q_i2c, ↓cs_q_dup, ↓cs_q_pop, ↓cs_q_dup2, ↓cs_q_goto, ↓cs_q_if_eq, ↓cs_q_if_ne, ↓cs_q_if_lt, ↓cs_q_if_ge, ↓cs_q_if_gt, ↓cs_q_if_le, ↓cs_q_icmp_eq, ↓cs_q_icmp_ne, ↓cs_q_icmp_lt, ↓cs_q_icmp_ge, ↓cs_q_icmp_gt, ↓cs_q_icmp_le, ↓cs_q_table, ↓cs_q_lookup, ↓cs_q_getI, ↓cs_q_getR, ↓cs_q_putI, ↓cs_q_putZ, ↓cs_q_putR, ↓cs_q_gets, ↓cs_q_iald, ↓cs_q_taload, ↓cs_q_cald, ↓cs_q_iast, ↓cs_q_cast, ↓cs_q_aald, ↓cs_q_aast, ↓cs_q_tlen, ↓cs_q_alen, ↓cs_q_new, ↓cs_q_newa, ↓cs_q_anew, ↓cs_q_virt0, ↓cs_q_stat00, ↓cs_q_stat10, ↓cs_q_virt1, ↓cs_q_stat01, ↓cs_q_stat11, ↓cs_q_virt2, ↓cs_q_stat02, ↓cs_q_stat12, ↓cs_q_virt3, ↓cs_q_stat03, ↓cs_q_stat13, ↓cs_q_virt4, ↓cs_q_stat04, ↓cs_q_stat14, ↓cs_q_oinit, ↓cs_q_spec, ↓cs_q_max, ↓cs_q_min, ↓cs_q_copy, ↓cs_q_iret, ↓cs_q_zret, ↓cs_q_aret, ↓cs_q_vret, ↓cs_q_J, ↓cs_q_l8_0, ↓cs_q_l8_1, ↓cs_q_l8_2, ↓cs_q_l8_3, ↓cs_q_l8_4, ↓cs_q_l8_5, ↓cs_q_l8_6, rX1_reasonNow, qX1_reasonNow_0, qX1_reasonNow_1, qX1_reasonNow_2, qX1_reasonNow_3, qX1_reasonNow_4, qX1_reasonNow_5, qX1_reasonNow_6, qX1_reasonNow_7, qX1_reasonNow_8, true_and, and_true, true_or, or_true, Option.isSome_some, Option.getD_some, cs_bz, cs_bn, cs_bi, cs_bo, not_false_eq_true, not_true_eq_false, true_implies, false_implies, implies_true, Decidable.not_not, cs_em, cs_sw_c, cs_sw_n, false_or, or_false, false_and, and_false, cs_inT, Int.toNat_natCast, cs_tn0, cs_tn01, cs_tn1, cs_tn6, cs_tn11, cs_tn16, cs_tn21, cs_tn154, Int.reduceToNat, Int.reduceAdd, Int.reduceSub, Int.reduceNeg, Int.reduceLT, Int.reduceLE, Int.reduceEq, Nat.reduceAdd, cs_C_ob hc, cs_C_rc hc, cs_C_ix1 hc, cs_C_ix2 hc, cs_C_ix3 hc, cs_C_ix4 hc, cs_C_lob hc, cs_C_lrc hc, cs_C_lp hc, cs_C_qb hc, cs_C_qa hc, cs_C_bp hc, cs_C_bob hc, cs_C_brc hc, hc.2.1, cs_put_0, cs_put_at, cs_put_us0, cs_put_us, cs_u2_us]
    refine ⟨fun z => ?_, fun z => ?_⟩
    · rw [if_neg z] at hV
      refine cs_goI cp ?_
      try simp (disch := omega) only [↓cs_pad0, ↓cs_pad1, ↓cs_pad2, ↓cs_q_iconst, ↓cs_q_bipush, ↓cs_q_sipush, ↓cs_q_ldc, ↓cs_q_fall, ↓cs_q_stop, ↓cs_q_iload_n0, ↓cs_q_aload_n0, ↓cs_q_istore_n0, ↓cs_q_astore_n0, ↓cs_q_iinc0, ↓cs_q_iload_n1, ↓cs_q_aload_n1, ↓cs_q_istore_n1, ↓cs_q_astore_n1, ↓cs_q_iinc1, ↓cs_q_iload_n2, ↓cs_q_aload_n2, ↓cs_q_istore_n2, ↓cs_q_astore_n2, ↓cs_q_iinc2, ↓cs_q_iload_n3, ↓cs_q_aload_n3, ↓cs_q_istore_n3, ↓cs_q_astore_n3, ↓cs_q_iinc3, ↓cs_q_iload4, ↓cs_q_aload4, ↓cs_q_istore4, ↓cs_q_astore4, ↓cs_q_iinc4, ↓cs_q_iload5, ↓cs_q_aload5, ↓cs_q_istore5, ↓cs_q_astore5, ↓cs_q_iinc5, ↓cs_q_iload6, ↓cs_q_aload6, ↓cs_q_istore6, ↓cs_q_astore6, ↓cs_q_iinc6, ↓cs_q_iload7, ↓cs_q_aload7, ↓cs_q_istore7, ↓cs_q_astore7, ↓cs_q_iinc7, ↓cs_q_aload_nZ0, ↓cs_q_astore_nZ0, ↓cs_q_aload_nZ1, ↓cs_q_astore_nZ1, ↓cs_q_aload_nZ2, ↓cs_q_astore_nZ2, ↓cs_q_aload_nZ3, ↓cs_q_astore_nZ3, ↓cs_q_aloadZ4, ↓cs_q_astoreZ4, ↓cs_q_aloadZ5, ↓cs_q_astoreZ5, ↓cs_q_aloadZ6, ↓cs_q_astoreZ6, ↓cs_q_aloadZ7, ↓cs_q_astoreZ7, ↓cs_q_null, ↓cs_q_ifnullR, ↓cs_q_ifnullZ, ↓cs_q_ifnonnullR, ↓cs_q_ifnonnullZ, ↓cs_q_aretZ, ↓cs_q_aload_nT, ↓cs_q_iadd, ↓cs_q_isub, ↓cs_q_imul, ↓cs_q_iand, ↓cs_q_ior, ↓cs_q_ishl, ↓cs_q_i2c, ↓cs_q_dup, ↓cs_q_pop, ↓cs_q_dup2, ↓cs_q_goto, ↓cs_q_if_eq, ↓cs_q_if_ne, ↓cs_q_if_lt, ↓cs_q_if_ge, ↓cs_q_if_gt, ↓cs_q_if_le, ↓cs_q_icmp_eq, ↓cs_q_icmp_ne, ↓cs_q_icmp_lt, ↓cs_q_icmp_ge, ↓cs_q_icmp_gt, ↓cs_q_icmp_le, ↓cs_q_table, ↓cs_q_lookup, ↓cs_q_getI, ↓cs_q_getR, ↓cs_q_putI, ↓cs_q_putZ, ↓cs_q_putR, ↓cs_q_gets, ↓cs_q_iald, ↓cs_q_taload, ↓cs_q_cald, ↓cs_q_iast, ↓cs_q_cast, ↓cs_q_aald, ↓cs_q_aast, ↓cs_q_tlen, ↓cs_q_alen, ↓cs_q_new, ↓cs_q_newa, ↓cs_q_anew, ↓cs_q_virt0, ↓cs_q_stat00, ↓cs_q_stat10, ↓cs_q_virt1, ↓cs_q_stat01, ↓cs_q_stat11, ↓cs_q_virt2, ↓cs_q_stat02, ↓cs_q_stat12, ↓cs_q_virt3, ↓cs_q_stat03, ↓cs_q_stat13, ↓cs_q_virt4, ↓cs_q_stat04, ↓cs_q_stat14, ↓cs_q_oinit, ↓cs_q_spec, ↓cs_q_max, ↓cs_q_min, ↓cs_q_copy, ↓cs_q_iret, ↓cs_q_zret, ↓cs_q_aret, ↓cs_q_vret, ↓cs_q_J, ↓cs_q_l8_0, ↓cs_q_l8_1, ↓cs_q_l8_2, ↓cs_q_l8_3, ↓cs_q_l8_4, ↓cs_q_l8_5, ↓cs_q_l8_6, rX1_reasonNow, qX1_reasonNow_0, qX1_reasonNow_1, qX1_reasonNow_2, qX1_reasonNow_3, qX1_reasonNow_4, qX1_reasonNow_5, qX1_reasonNow_6, qX1_reasonNow_7, qX1_reasonNow_8, true_and, and_true, true_or, or_true, Option.isSome_some, Option.getD_some, cs_bz, cs_bn, cs_bi, cs_bo, not_false_eq_true, not_true_eq_false, true_implies, false_implies, implies_true, Decidable.not_not, cs_em, cs_sw_c, cs_sw_n, false_or, or_false, false_and, and_false, cs_inT, Int.toNat_natCast, cs_tn0, cs_tn01, cs_tn1, cs_tn6, cs_tn11, cs_tn16, cs_tn21, cs_tn154, Int.reduceToNat, Int.reduceAdd, Int.reduceSub, Int.reduceNeg, Int.reduceLT, Int.reduceLE, Int.reduceEq, Nat.reduceAdd, cs_C_ob hc, cs_C_rc hc, cs_C_ix1 hc, cs_C_ix2 hc, cs_C_ix3 hc, cs_C_ix4 hc, cs_C_lob hc, cs_C_lrc hc, cs_C_lp hc, cs_C_qb hc, cs_C_qa hc, cs_C_bp hc, cs_C_bob hc, cs_C_brc hc, hc.2.1, cs_put_0, cs_put_at, cs_put_us0, cs_put_us, cs_u2_us, p2, g3, a1]
      refine ⟨fun y => ?_, fun y => ?_⟩
      · rw [if_neg (by omega)] at hV
        refine cs_goI ch ?_
        try simp (disch := omega) only [↓cs_pad0, ↓cs_pad1, ↓cs_pad2, ↓cs_q_iconst, ↓cs_q_bipush, ↓cs_q_sipush, ↓cs_q_ldc, ↓cs_q_fall, ↓cs_q_stop, ↓cs_q_iload_n0, ↓cs_q_aload_n0, ↓cs_q_istore_n0, ↓cs_q_astore_n0, ↓cs_q_iinc0, ↓cs_q_iload_n1, ↓cs_q_aload_n1, ↓cs_q_istore_n1, ↓cs_q_astore_n1, ↓cs_q_iinc1, ↓cs_q_iload_n2, ↓cs_q_aload_n2, ↓cs_q_istore_n2, ↓cs_q_astore_n2, ↓cs_q_iinc2, ↓cs_q_iload_n3, ↓cs_q_aload_n3, ↓cs_q_istore_n3, ↓cs_q_astore_n3, ↓cs_q_iinc3, ↓cs_q_iload4, ↓cs_q_aload4, ↓cs_q_istore4, ↓cs_q_astore4, ↓cs_q_iinc4, ↓cs_q_iload5, ↓cs_q_aload5, ↓cs_q_istore5, ↓cs_q_astore5, ↓cs_q_iinc5, ↓cs_q_iload6, ↓cs_q_aload6, ↓cs_q_istore6, ↓cs_q_astore6, ↓cs_q_iinc6, ↓cs_q_iload7, ↓cs_q_aload7, ↓cs_q_istore7, ↓cs_q_astore7, ↓cs_q_iinc7, ↓cs_q_aload_nZ0, ↓cs_q_astore_nZ0, ↓cs_q_aload_nZ1, ↓cs_q_astore_nZ1, ↓cs_q_aload_nZ2, ↓cs_q_astore_nZ2, ↓cs_q_aload_nZ3, ↓cs_q_astore_nZ3, ↓cs_q_aloadZ4, ↓cs_q_astoreZ4, ↓cs_q_aloadZ5, ↓cs_q_astoreZ5, ↓cs_q_aloadZ6, ↓cs_q_astoreZ6, ↓cs_q_aloadZ7, ↓cs_q_astoreZ7, ↓cs_q_null, ↓cs_q_ifnullR, ↓cs_q_ifnullZ, ↓cs_q_ifnonnullR, ↓cs_q_ifnonnullZ, ↓cs_q_aretZ, ↓cs_q_aload_nT, ↓cs_q_iadd, ↓cs_q_isub, ↓cs_q_imul, ↓cs_q_iand, ↓cs_q_ior, ↓cs_q_ishl, ↓cs_q_i2c, ↓cs_q_dup, ↓cs_q_pop, ↓cs_q_dup2, ↓cs_q_goto, ↓cs_q_if_eq, ↓cs_q_if_ne, ↓cs_q_if_lt, ↓cs_q_if_ge, ↓cs_q_if_gt, ↓cs_q_if_le, ↓cs_q_icmp_eq, ↓cs_q_icmp_ne, ↓cs_q_icmp_lt, ↓cs_q_icmp_ge, ↓cs_q_icmp_gt, ↓cs_q_icmp_le, ↓cs_q_table, ↓cs_q_lookup, ↓cs_q_getI, ↓cs_q_getR, ↓cs_q_putI, ↓cs_q_putZ, ↓cs_q_putR, ↓cs_q_gets, ↓cs_q_iald, ↓cs_q_taload, ↓cs_q_cald, ↓cs_q_iast, ↓cs_q_cast, ↓cs_q_aald, ↓cs_q_aast, ↓cs_q_tlen, ↓cs_q_alen, ↓cs_q_new, ↓cs_q_newa, ↓cs_q_anew, ↓cs_q_virt0, ↓cs_q_stat00, ↓cs_q_stat10, ↓cs_q_virt1, ↓cs_q_stat01, ↓cs_q_stat11, ↓cs_q_virt2, ↓cs_q_stat02, ↓cs_q_stat12, ↓cs_q_virt3, ↓cs_q_stat03, ↓cs_q_stat13, ↓cs_q_virt4, ↓cs_q_stat04, ↓cs_q_stat14, ↓cs_q_oinit, ↓cs_q_spec, ↓cs_q_max, ↓cs_q_min, ↓cs_q_copy, ↓cs_q_iret, ↓cs_q_zret, ↓cs_q_aret, ↓cs_q_vret, ↓cs_q_J, ↓cs_q_l8_0, ↓cs_q_l8_1, ↓cs_q_l8_2, ↓cs_q_l8_3, ↓cs_q_l8_4, ↓cs_q_l8_5, ↓cs_q_l8_6, rX1_reasonNow, qX1_reasonNow_0, qX1_reasonNow_1, qX1_reasonNow_2, qX1_reasonNow_3, qX1_reasonNow_4, qX1_reasonNow_5, qX1_reasonNow_6, qX1_reasonNow_7, qX1_reasonNow_8, true_and, and_true, true_or, or_true, Option.isSome_some, Option.getD_some, cs_bz, cs_bn, cs_bi, cs_bo, not_false_eq_true, not_true_eq_false, true_implies, false_implies, implies_true, Decidable.not_not, cs_em, cs_sw_c, cs_sw_n, false_or, or_false, false_and, and_false, cs_inT, Int.toNat_natCast, cs_tn0, cs_tn01, cs_tn1, cs_tn6, cs_tn11, cs_tn16, cs_tn21, cs_tn154, Int.reduceToNat, Int.reduceAdd, Int.reduceSub, Int.reduceNeg, Int.reduceLT, Int.reduceLE, Int.reduceEq, Nat.reduceAdd, cs_C_ob hc, cs_C_rc hc, cs_C_ix1 hc, cs_C_ix2 hc, cs_C_ix3 hc, cs_C_ix4 hc, cs_C_lob hc, cs_C_lrc hc, cs_C_lp hc, cs_C_qb hc, cs_C_qa hc, cs_C_bp hc, cs_C_bob hc, cs_C_brc hc, hc.2.1, cs_put_0, cs_put_at, cs_put_us0, cs_put_us, cs_u2_us]
        refine ⟨fun x => ?_, fun x => ?_⟩
        · rw [if_neg (fun w => hup' (w.mp x))] at hV
          refine cs_goI cc ?_
          try simp (disch := omega) only [↓cs_pad0, ↓cs_pad1, ↓cs_pad2, ↓cs_q_iconst, ↓cs_q_bipush, ↓cs_q_sipush, ↓cs_q_ldc, ↓cs_q_fall, ↓cs_q_stop, ↓cs_q_iload_n0, ↓cs_q_aload_n0, ↓cs_q_istore_n0, ↓cs_q_astore_n0, ↓cs_q_iinc0, ↓cs_q_iload_n1, ↓cs_q_aload_n1, ↓cs_q_istore_n1, ↓cs_q_astore_n1, ↓cs_q_iinc1, ↓cs_q_iload_n2, ↓cs_q_aload_n2, ↓cs_q_istore_n2, ↓cs_q_astore_n2, ↓cs_q_iinc2, ↓cs_q_iload_n3, ↓cs_q_aload_n3, ↓cs_q_istore_n3, ↓cs_q_astore_n3, ↓cs_q_iinc3, ↓cs_q_iload4, ↓cs_q_aload4, ↓cs_q_istore4, ↓cs_q_astore4, ↓cs_q_iinc4, ↓cs_q_iload5, ↓cs_q_aload5, ↓cs_q_istore5, ↓cs_q_astore5, ↓cs_q_iinc5, ↓cs_q_iload6, ↓cs_q_aload6, ↓cs_q_istore6, ↓cs_q_astore6, ↓cs_q_iinc6, ↓cs_q_iload7, ↓cs_q_aload7, ↓cs_q_istore7, ↓cs_q_astore7, ↓cs_q_iinc7, ↓cs_q_aload_nZ0, ↓cs_q_astore_nZ0, ↓cs_q_aload_nZ1, ↓cs_q_astore_nZ1, ↓cs_q_aload_nZ2, ↓cs_q_astore_nZ2, ↓cs_q_aload_nZ3, ↓cs_q_astore_nZ3, ↓cs_q_aloadZ4, ↓cs_q_astoreZ4, ↓cs_q_aloadZ5, ↓cs_q_astoreZ5, ↓cs_q_aloadZ6, ↓cs_q_astoreZ6, ↓cs_q_aloadZ7, ↓cs_q_astoreZ7, ↓cs_q_null, ↓cs_q_ifnullR, ↓cs_q_ifnullZ, ↓cs_q_ifnonnullR, ↓cs_q_ifnonnullZ, ↓cs_q_aretZ, ↓cs_q_aload_nT, ↓cs_q_iadd, ↓cs_q_isub, ↓cs_q_imul, ↓cs_q_iand, ↓cs_q_ior, ↓cs_q_ishl, ↓cs_q_i2c, ↓cs_q_dup, ↓cs_q_pop, ↓cs_q_dup2, ↓cs_q_goto, ↓cs_q_if_eq, ↓cs_q_if_ne, ↓cs_q_if_lt, ↓cs_q_if_ge, ↓cs_q_if_gt, ↓cs_q_if_le, ↓cs_q_icmp_eq, ↓cs_q_icmp_ne, ↓cs_q_icmp_lt, ↓cs_q_icmp_ge, ↓cs_q_icmp_gt, ↓cs_q_icmp_le, ↓cs_q_table, ↓cs_q_lookup, ↓cs_q_getI, ↓cs_q_getR, ↓cs_q_putI, ↓cs_q_putZ, ↓cs_q_putR, ↓cs_q_gets, ↓cs_q_iald, ↓cs_q_taload, ↓cs_q_cald, ↓cs_q_iast, ↓cs_q_cast, ↓cs_q_aald, ↓cs_q_aast, ↓cs_q_tlen, ↓cs_q_alen, ↓cs_q_new, ↓cs_q_newa, ↓cs_q_anew, ↓cs_q_virt0, ↓cs_q_stat00, ↓cs_q_stat10, ↓cs_q_virt1, ↓cs_q_stat01, ↓cs_q_stat11, ↓cs_q_virt2, ↓cs_q_stat02, ↓cs_q_stat12, ↓cs_q_virt3, ↓cs_q_stat03, ↓cs_q_stat13, ↓cs_q_virt4, ↓cs_q_stat04, ↓cs_q_stat14, ↓cs_q_oinit, ↓cs_q_spec, ↓cs_q_max, ↓cs_q_min, ↓cs_q_copy, ↓cs_q_iret, ↓cs_q_zret, ↓cs_q_aret, ↓cs_q_vret, ↓cs_q_J, ↓cs_q_l8_0, ↓cs_q_l8_1, ↓cs_q_l8_2, ↓cs_q_l8_3, ↓cs_q_l8_4, ↓cs_q_l8_5, ↓cs_q_l8_6, rX1_reasonNow, qX1_reasonNow_0, qX1_reasonNow_1, qX1_reasonNow_2, qX1_reasonNow_3, qX1_reasonNow_4, qX1_reasonNow_5, qX1_reasonNow_6, qX1_reasonNow_7, qX1_reasonNow_8, true_and, and_true, true_or, or_true, Option.isSome_some, Option.getD_some, cs_bz, cs_bn, cs_bi, cs_bo, not_false_eq_true, not_true_eq_false, true_implies, false_implies, implies_true, Decidable.not_not, cs_em, cs_sw_c, cs_sw_n, false_or, or_false, false_and, and_false, cs_inT, Int.toNat_natCast, cs_tn0, cs_tn01, cs_tn1, cs_tn6, cs_tn11, cs_tn16, cs_tn21, cs_tn154, Int.reduceToNat, Int.reduceAdd, Int.reduceSub, Int.reduceNeg, Int.reduceLT, Int.reduceLE, Int.reduceEq, Nat.reduceAdd, cs_C_ob hc, cs_C_rc hc, cs_C_ix1 hc, cs_C_ix2 hc, cs_C_ix3 hc, cs_C_ix4 hc, cs_C_lob hc, cs_C_lrc hc, cs_C_lp hc, cs_C_qb hc, cs_C_qa hc, cs_C_bp hc, cs_C_bob hc, cs_C_brc hc, hc.2.1, cs_put_0, cs_put_at, cs_put_us0, cs_put_us, cs_u2_us]
          refine ⟨fun u => ?_, fun u => ?_⟩
          · rw [if_neg u] at hV
            rw [hV]
          · rw [if_pos u] at hV
            rw [hV]
        · rw [if_pos (⟨fun y => absurd y x, fun y => absurd y hup'⟩)] at hV
          rw [hV]
      · rw [if_pos (by omega)] at hV
        rw [hV]
    · rw [if_pos z] at hV
      rw [hV]
theorem t1_reasonNowA (hc : cs_CA sh rm c) (hb : b < 16) {p : Int} (h2 : K (30 + b) 2 = p) (h3 : K (30 + b) 3 = p) (hp : cs_in p) : cs_Det iX1_reasonNow [cs_R c, .inl (b : Int)] (sh, cs_put im c K, rm) (some (.inl 1)) (sh, cs_put im c K, rm) := by
  have cl := t1_lockN (im := im) (K := K) (v := -5) hc hb h2 h3 hp hp (by rw [if_neg (by omega), if_neg (by omega)])
  refine cs_run0 mX1_reasonNow kX1_reasonNow zX1_reasonNow rfl rfl 12 (fun sc o => ?_)
  try simp (disch := omega) only [↓cs_pad0, ↓cs_pad1, ↓cs_pad2, ↓cs_q_iconst, ↓cs_q_bipush, ↓cs_q_sipush, ↓cs_q_ldc, ↓cs_q_fall, ↓cs_q_stop, ↓cs_q_iload_n0, ↓cs_q_aload_n0, ↓cs_q_istore_n0, ↓cs_q_astore_n0, ↓cs_q_iinc0, ↓cs_q_iload_n1, ↓cs_q_aload_n1, ↓cs_q_istore_n1, ↓cs_q_astore_n1, ↓cs_q_iinc1, ↓cs_q_iload_n2, ↓cs_q_aload_n2, ↓cs_q_istore_n2, ↓cs_q_astore_n2, ↓cs_q_iinc2, ↓cs_q_iload_n3, ↓cs_q_aload_n3, ↓cs_q_istore_n3, ↓cs_q_astore_n3, ↓cs_q_iinc3, ↓cs_q_iload4, ↓cs_q_aload4, ↓cs_q_istore4, ↓cs_q_astore4, ↓cs_q_iinc4, ↓cs_q_iload5, ↓cs_q_aload5, ↓cs_q_istore5, ↓cs_q_astore5, ↓cs_q_iinc5, ↓cs_q_iload6, ↓cs_q_aload6, ↓cs_q_istore6, ↓cs_q_astore6, ↓cs_q_iinc6, ↓cs_q_iload7, ↓cs_q_aload7, ↓cs_q_istore7, ↓cs_q_astore7, ↓cs_q_iinc7, ↓cs_q_aload_nZ0, ↓cs_q_astore_nZ0, ↓cs_q_aload_nZ1, ↓cs_q_astore_nZ1, ↓cs_q_aload_nZ2, ↓cs_q_astore_nZ2, ↓cs_q_aload_nZ3, ↓cs_q_astore_nZ3, ↓cs_q_aloadZ4, ↓cs_q_astoreZ4, ↓cs_q_aloadZ5, ↓cs_q_astoreZ5, ↓cs_q_aloadZ6, ↓cs_q_astoreZ6, ↓cs_q_aloadZ7, ↓cs_q_astoreZ7, ↓cs_q_null, ↓cs_q_ifnullR, ↓cs_q_ifnullZ, ↓cs_q_ifnonnullR, ↓cs_q_ifnonnullZ, ↓cs_q_aretZ, ↓cs_q_aload_nT, ↓cs_q_iadd, ↓cs_q_isub, ↓cs_q_imul, ↓cs_q_iand, ↓cs_q_ior, ↓cs_q_ishl, ↓cs_q_i2c, ↓cs_q_dup, ↓cs_q_pop, ↓cs_q_dup2, ↓cs_q_goto, ↓cs_q_if_eq, ↓cs_q_if_ne, ↓cs_q_if_lt, ↓cs_q_if_ge, ↓cs_q_if_gt, ↓cs_q_if_le, ↓cs_q_icmp_eq, ↓cs_q_icmp_ne, ↓cs_q_icmp_lt, ↓cs_q_icmp_ge, ↓cs_q_icmp_gt, ↓cs_q_icmp_le, ↓cs_q_table, ↓cs_q_lookup, ↓cs_q_getI, ↓cs_q_getR, ↓cs_q_putI, ↓cs_q_putZ, ↓cs_q_putR, ↓cs_q_gets, ↓cs_q_iald, ↓cs_q_taload, ↓cs_q_cald, ↓cs_q_iast, ↓cs_q_cast, ↓cs_q_aald, ↓cs_q_aast, ↓cs_q_tlen, ↓cs_q_alen, ↓cs_q_new, ↓cs_q_newa, ↓cs_q_anew, ↓cs_q_virt0, ↓cs_q_stat00, ↓cs_q_stat10, ↓cs_q_virt1, ↓cs_q_stat01, ↓cs_q_stat11, ↓cs_q_virt2, ↓cs_q_stat02, ↓cs_q_stat12, ↓cs_q_virt3, ↓cs_q_stat03, ↓cs_q_stat13, ↓cs_q_virt4, ↓cs_q_stat04, ↓cs_q_stat14, ↓cs_q_oinit, ↓cs_q_spec, ↓cs_q_max, ↓cs_q_min, ↓cs_q_copy, ↓cs_q_iret, ↓cs_q_zret, ↓cs_q_aret, ↓cs_q_vret, ↓cs_q_J, ↓cs_q_l8_0, ↓cs_q_l8_1, ↓cs_q_l8_2, ↓cs_q_l8_3, ↓cs_q_l8_4, ↓cs_q_l8_5, ↓cs_q_l8_6, rX1_reasonNow, qX1_reasonNow_0, qX1_reasonNow_1, qX1_reasonNow_2, qX1_reasonNow_3, qX1_reasonNow_4, qX1_reasonNow_5, qX1_reasonNow_6, qX1_reasonNow_7, qX1_reasonNow_8, true_and, and_true, true_or, or_true, Option.isSome_some, Option.getD_some, cs_bz, cs_bn, cs_bi, cs_bo, not_false_eq_true, not_true_eq_false, true_implies, false_implies, implies_true, Decidable.not_not, cs_em, cs_sw_c, cs_sw_n, false_or, or_false, false_and, and_false, cs_inT, Int.toNat_natCast, cs_tn0, cs_tn01, cs_tn1, cs_tn6, cs_tn11, cs_tn16, cs_tn21, cs_tn154, Int.reduceToNat, Int.reduceAdd, Int.reduceSub, Int.reduceNeg, Int.reduceLT, Int.reduceLE, Int.reduceEq, Nat.reduceAdd, cs_C_ob hc, cs_C_rc hc, cs_C_ix1 hc, cs_C_ix2 hc, cs_C_ix3 hc, cs_C_ix4 hc, cs_C_lob hc, cs_C_lrc hc, cs_C_lp hc, cs_C_qb hc, cs_C_qa hc, cs_C_bp hc, cs_C_bob hc, cs_C_brc hc, hc.2.1, cs_put_0, cs_put_at, cs_put_us0, cs_put_us, cs_u2_us]
  refine cs_goI cl ?_
  try simp (disch := omega) only [↓cs_pad0, ↓cs_pad1, ↓cs_pad2, ↓cs_q_iconst, ↓cs_q_bipush, ↓cs_q_sipush, ↓cs_q_ldc, ↓cs_q_fall, ↓cs_q_stop, ↓cs_q_iload_n0, ↓cs_q_aload_n0, ↓cs_q_istore_n0, ↓cs_q_astore_n0, ↓cs_q_iinc0, ↓cs_q_iload_n1, ↓cs_q_aload_n1, ↓cs_q_istore_n1, ↓cs_q_astore_n1, ↓cs_q_iinc1, ↓cs_q_iload_n2, ↓cs_q_aload_n2, ↓cs_q_istore_n2, ↓cs_q_astore_n2, ↓cs_q_iinc2, ↓cs_q_iload_n3, ↓cs_q_aload_n3, ↓cs_q_istore_n3, ↓cs_q_astore_n3, ↓cs_q_iinc3, ↓cs_q_iload4, ↓cs_q_aload4, ↓cs_q_istore4, ↓cs_q_astore4, ↓cs_q_iinc4, ↓cs_q_iload5, ↓cs_q_aload5, ↓cs_q_istore5, ↓cs_q_astore5, ↓cs_q_iinc5, ↓cs_q_iload6, ↓cs_q_aload6, ↓cs_q_istore6, ↓cs_q_astore6, ↓cs_q_iinc6, ↓cs_q_iload7, ↓cs_q_aload7, ↓cs_q_istore7, ↓cs_q_astore7, ↓cs_q_iinc7, ↓cs_q_aload_nZ0, ↓cs_q_astore_nZ0, ↓cs_q_aload_nZ1, ↓cs_q_astore_nZ1, ↓cs_q_aload_nZ2, ↓cs_q_astore_nZ2, ↓cs_q_aload_nZ3, ↓cs_q_astore_nZ3, ↓cs_q_aloadZ4, ↓cs_q_astoreZ4, ↓cs_q_aloadZ5, ↓cs_q_astoreZ5, ↓cs_q_aloadZ6, ↓cs_q_astoreZ6, ↓cs_q_aloadZ7, ↓cs_q_astoreZ7, ↓cs_q_null, ↓cs_q_ifnullR, ↓cs_q_ifnullZ, ↓cs_q_ifnonnullR, ↓cs_q_ifnonnullZ, ↓cs_q_aretZ, ↓cs_q_aload_nT, ↓cs_q_iadd, ↓cs_q_isub, ↓cs_q_imul, ↓cs_q_iand, ↓cs_q_ior, ↓cs_q_ishl, ↓cs_q_i2c, ↓cs_q_dup, ↓cs_q_pop, ↓cs_q_dup2, ↓cs_q_goto, ↓cs_q_if_eq, ↓cs_q_if_ne, ↓cs_q_if_lt, ↓cs_q_if_ge, ↓cs_q_if_gt, ↓cs_q_if_le, ↓cs_q_icmp_eq, ↓cs_q_icmp_ne, ↓cs_q_icmp_lt, ↓cs_q_icmp_ge, ↓cs_q_icmp_gt, ↓cs_q_icmp_le, ↓cs_q_table, ↓cs_q_lookup, ↓cs_q_getI, ↓cs_q_getR, ↓cs_q_putI, ↓cs_q_putZ, ↓cs_q_putR, ↓cs_q_gets, ↓cs_q_iald, ↓cs_q_taload, ↓cs_q_cald, ↓cs_q_iast, ↓cs_q_cast, ↓cs_q_aald, ↓cs_q_aast, ↓cs_q_tlen, ↓cs_q_alen, ↓cs_q_new, ↓cs_q_newa, ↓cs_q_anew, ↓cs_q_virt0, ↓cs_q_stat00, ↓cs_q_stat10, ↓cs_q_virt1, ↓cs_q_stat01, ↓cs_q_stat11, ↓cs_q_virt2, ↓cs_q_stat02, ↓cs_q_stat12, ↓cs_q_virt3, ↓cs_q_stat03, ↓cs_q_stat13, ↓cs_q_virt4, ↓cs_q_stat04, ↓cs_q_stat14, ↓cs_q_oinit, ↓cs_q_spec, ↓cs_q_max, ↓cs_q_min, ↓cs_q_copy, ↓cs_q_iret, ↓cs_q_zret, ↓cs_q_aret, ↓cs_q_vret, ↓cs_q_J, ↓cs_q_l8_0, ↓cs_q_l8_1, ↓cs_q_l8_2, ↓cs_q_l8_3, ↓cs_q_l8_4, ↓cs_q_l8_5, ↓cs_q_l8_6, rX1_reasonNow, qX1_reasonNow_0, qX1_reasonNow_1, qX1_reasonNow_2, qX1_reasonNow_3, qX1_reasonNow_4, qX1_reasonNow_5, qX1_reasonNow_6, qX1_reasonNow_7, qX1_reasonNow_8, true_and, and_true, true_or, or_true, Option.isSome_some, Option.getD_some, cs_bz, cs_bn, cs_bi, cs_bo, not_false_eq_true, not_true_eq_false, true_implies, false_implies, implies_true, Decidable.not_not, cs_em, cs_sw_c, cs_sw_n, false_or, or_false, false_and, and_false, cs_inT, Int.toNat_natCast, cs_tn0, cs_tn01, cs_tn1, cs_tn6, cs_tn11, cs_tn16, cs_tn21, cs_tn154, Int.reduceToNat, Int.reduceAdd, Int.reduceSub, Int.reduceNeg, Int.reduceLT, Int.reduceLE, Int.reduceEq, Nat.reduceAdd, cs_C_ob hc, cs_C_rc hc, cs_C_ix1 hc, cs_C_ix2 hc, cs_C_ix3 hc, cs_C_ix4 hc, cs_C_lob hc, cs_C_lrc hc, cs_C_lp hc, cs_C_qb hc, cs_C_qa hc, cs_C_bp hc, cs_C_bob hc, cs_C_brc hc, hc.2.1, cs_put_0, cs_put_at, cs_put_us0, cs_put_us, cs_u2_us]
/-- a boat that has not gone yet keeps its lock -/
theorem gAct_keep (hW : gW S) (hk : k < 5) (hb : (b : Int) < S 150) (hl : ¬ gLk S b = k) : ∀ w, w < 8 → gF (gAct S k) b w = gF S b w := by
  have h150 := hW.1
  intro w hw
  unfold gAct
  split
  · split
    · exact gTurn_F hk (by omega) hw
    · rfl
  · rename_i hne
    obtain ⟨f, e1, e2, e3⟩ := (gFst_wt S k (gU S k) (gMany S)).resolve_left hne
    have hfb : (f : Int) < S 150 := by unfold gMany at e2; omega
    rw [e1, Int.toNat_natCast]
    split
    · have hF : ∀ w, w < 8 → gF (gTurn S k) f w = gF S f w := fun w hw => gTurn_F hk (by omega) hw
      have hlk : gLk (gTurn S k) f = k := by
        have := e3.2.1
        unfold gLk gUp at this ⊢
        rw [hF 2 (by decide), hF 3 (by decide)]
        exact this
      rw [gGo_same hlk hk (by omega) b (by omega) (fun z => hl (by rw [z]; exact e3.2.1)) w hw, gTurn_F hk (by omega) hw]
    · rfl
theorem gActs_keep (hW : gW S) (hj : S 151 + 5 ≤ 2000000) (hb : (b : Int) < S 150) (hn : ¬ gArr S b) : ∀ n : Nat, (n : Int) ≤ gLk S b → ∀ w, w < 8 → gF (gActs S n) b w = gF S b w
  | 0, _ => fun _ _ => rfl
  | n + 1, h => by
    have hB := hW.2.2.2.2.2.2 b hb
    have hlr := gLk_range0 hB hn
    have ih := gActs_keep hW hj hb hn n (by omega)
    obtain ⟨g1, g2, g3, g4⟩ := gActs_ok hW hj n (by omega)
    have hlk : gLk (gActs S n) b = gLk S b := by unfold gLk gUp; rw [ih 2 (by decide), ih 3 (by decide)]
    intro w hw
    have e150 : gActs S n 150 = S 150 := g2 150 (by decide) (by decide) (by decide)
    show gF (gAct (gActs S n) n) b w = gF S b w
    rw [gAct_keep g1 (by omega) (by omega) (by rw [hlk]; omega) w hw]
    exact ih w hw
theorem gHind_5 : ¬ gHind S b = -5 := by
  unfold gHind
  split
  · decide
  · split
    · decide
    · split
      · decide
      · split <;> decide
/-- what is told of it is told at its own lock -/
theorem gTolds_at (hW : gW S) (hj : S 151 + 5 ≤ 2000000) (hb : (b : Int) < S 150) (hn : ¬ gArr S b) (hk : gLk S b = k) : gTolds S b (-5) 5 = gHind (gActs S k) b := by
  have hB := hW.2.2.2.2.2.2 b hb
  have hlr := gLk_range0 hB hn
  have hb5 : ¬ (b : Int) = -5 := by omega
  have low : ∀ n : Nat, n ≤ k → gTolds S b (-5) n = -5 := by
    intro n
    induction n with
    | zero => intro _; rfl
    | succ n ih =>
      intro h
      have keep := gActs_keep hW hj hb hn n (by omega)
      have hlk : gLk (gActs S n) b = gLk S b := by unfold gLk gUp; rw [keep 2 (by decide), keep 3 (by decide)]
      unfold gTolds gTold
      rw [ih (by omega), Int.toNat_natCast, if_neg (fun z => by have := z.2.2.1; omega)]
  have keep := gActs_keep hW hj hb hn k (by omega)
  have hlk : gLk (gActs S k) b = gLk S b := by unfold gLk gUp; rw [keep 2 (by decide), keep 3 (by decide)]
  have hna : ¬ gArr (gActs S k) b := by unfold gArr; rw [keep 5 (by decide)]; exact hn
  have at1 : gTolds S b (-5) (k + 1) = gHind (gActs S k) b := by
    unfold gTolds gTold
    rw [low k (Nat.le_refl k), Int.toNat_natCast, if_pos ⟨hb5, hna, by omega, rfl⟩]
  have high : ∀ n : Nat, gTolds S b (-5) (k + 1 + n) = gHind (gActs S k) b := by
    intro n
    induction n with
    | zero => exact at1
    | succ n ih =>
      show gTold (gActs S (k + 1 + n)) b (gTolds S b (-5) (k + 1 + n)) (k + 1 + n) = _
      unfold gTold
      rw [ih, if_neg (fun z => gHind_5 z.2.2.2)]
  have := high (4 - k)
  rw [show k + 1 + (4 - k) = 5 by omega] at this
  exact this
/-- arrived stays arrived -/
theorem gAct_arr (hW : gW S) (hk : k < 5) (hb : (b : Int) < S 150) (ha : gArr S b) : gArr (gAct S k) b := by
  have h150 := hW.1
  by_cases hl : gLk S b = k
  · unfold gAct
    split
    · split
      · unfold gArr; rw [gTurn_F hk (by omega) (by decide)]; exact ha
      · exact ha
    · rename_i hne
      obtain ⟨f, e1, e2, e3⟩ := (gFst_wt S k (gU S k) (gMany S)).resolve_left hne
      have hfb : (f : Int) < S 150 := by unfold gMany at e2; omega
      rw [e1, Int.toNat_natCast]
      split
      · have hF : ∀ w, w < 8 → gF (gTurn S k) f w = gF S f w := fun w hw => gTurn_F hk (by omega) hw
        have hlk : gLk (gTurn S k) f = k := by
          have := e3.2.1
          unfold gLk gUp at this ⊢
          rw [hF 2 (by decide), hF 3 (by decide)]
          exact this
        unfold gArr
        rw [gGo_same hlk hk (by omega) b (by omega) (fun z => e3.1 (by rw [← z]; exact ha)) 5 (by decide), gTurn_F hk (by omega) (by decide)]
        exact ha
      · exact ha
  · unfold gArr
    rw [gAct_keep hW hk hb hl 5 (by decide)]
    exact ha
theorem gActs_arr (hW : gW S) (hj : S 151 + 5 ≤ 2000000) (hb : (b : Int) < S 150) (ha : gArr S b) : ∀ n : Nat, n ≤ 5 → gArr (gActs S n) b
  | 0, _ => ha
  | n + 1, hn => by
    obtain ⟨g1, g2, g3, g4⟩ := gActs_ok hW hj n (by omega)
    have e150 : gActs S n 150 = S 150 := g2 150 (by decide) (by decide) (by decide)
    exact gAct_arr g1 (by omega) (by omega) (gActs_arr hW hj hb ha n (by omega))
theorem gTick_arr (hW : gW S) (hj : S 151 + 5 ≤ 2000000) (hb : (b : Int) < S 150) (ha : gArr S b) : gArr (gTick S) b := by
  have h150 := hW.1
  have h := gActs_arr hW hj hb ha 5 (by decide)
  obtain ⟨f1, f2⟩ := gFlow_ok (gActs_ok hW hj 5 (by decide)).1
  have e : gF (gTick S) b 5 = gF (gActs S 5) b 5 := by
    unfold gTick gF
    rw [cs_u1_ne (by omega), f2 _ (by omega) (by omega) (by omega)]
  unfold gArr
  rw [e]
  exact h
theorem gTicks_arr (hW : gW S) (hb : (b : Int) < S 150) (ha : gArr S b) : ∀ n : Nat, S 151 + 5 * n ≤ 2000000 → S 149 + n ≤ 200000 → gArr (gTicks S n) b
  | 0, _, _ => ha
  | n + 1, hj, ht => by
    obtain ⟨h1, h2, h3, h4, h5⟩ := gTicks_ok hW n (by omega) (by omega)
    have e150 : gTicks S n 150 = S 150 := h3 150 (by decide) (by decide) (by decide) (by decide)
    exact gTick_arr h1 (by omega) (by omega) (gTicks_arr hW hb ha n (by omega) (by omega))
theorem gArrN_mono {S' : Nat → Int} : ∀ n : Nat, (∀ b, b < n → gArr S b → gArr S' b) → gArrN S n ≤ gArrN S' n
  | 0, _ => Int.le_refl _
  | n + 1, h => by
    have ih := gArrN_mono n (fun b hb => h b (by omega))
    unfold gArrN
    by_cases ha : gArr S n
    · rw [if_pos ha, if_pos (h n (by omega) ha)]; omega
    · rw [if_neg ha]
      split <;> omega
theorem gTicks_mono (hW : gW S) (n : Nat) (hj : S 151 + 5 * n ≤ 2000000) (ht : S 149 + n ≤ 200000) : gArrN S (gMany S) ≤ gArrN (gTicks S n) (gMany S) :=
  gArrN_mono _ (fun b hb ha => gTicks_arr hW (by have := hW.1; unfold gMany at hb; omega) ha n hj ht)
end
