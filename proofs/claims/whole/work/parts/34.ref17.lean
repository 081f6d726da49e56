section
variable {sh : List (Nat × Nat × Nat)} {rm : Nat → Nat → Option Nat} {im : Nat → Nat → Int} {m : Nat} {S : Nat → Int} {sc : Nat × (Nat → Int)} {o : Nat × Nat} {Q : Option cs_A → cs_H → Prop} {R X Y T : Nat → Int} {L a b c d e f g h v : Int}
theorem gRd_ok (D : Bool) (hx : gTx T L) : ∀ (k : Nat) {n a e f g : Int} {S : Nat → Int} {N : (Nat → Int) × Int × (Nat → Int)}, gRd D R T L k n a e f g S = N → L < a + k → (0 ≤ a ∧ a ≤ L) → gWy e f g → (D = true → gV S) →
    N.1 = cs_8 R (N.1 12) (N.1 13) (N.1 14) (N.1 15) (N.1 16) (N.1 17) (N.1 18) (N.1 19) ∧ (0 ≤ N.1 12 ∧ N.1 12 ≤ L) ∧ (N.1 13 = 0 ∨ N.1 13 = 1) ∧ gWy (N.1 16) (N.1 17) (N.1 18) ∧ cs_in (N.1 19) ∧ (n ≤ N.2.1 ∧ N.2.1 ≤ n + k) ∧ (D = true → gV N.2.2) ∧ (∀ i, 157 ≤ i → N.2.2 i = S i) ∧ (D = false → N.2.2 = S)
  | 0, n, a, e, f, g, S, N, hN, hk, ha, hy, hV => absurd hk (by omega)
  | k + 1, n, a, e, f, g, S, N, hN, hk, ha, hy, hV => by
    have ih := @gRd_ok D hx k
    unfold gRd at hN
    obtain ⟨⟨o1, o2⟩, o3, o4, o5, o6, o7⟩ := gOne_ok (R := R) (h := 0) hx ha hy
    have h8 := gOne_8 (R := R) (T := T) (L := L) (a := a) (e := e) (f := f) (g := g) (h := 0)
    obtain ⟨a1, ea⟩ : ∃ x, gOne R T L a e f g 0 12 = x := ⟨_, rfl⟩
    obtain ⟨b1, eb⟩ : ∃ x, gOne R T L a e f g 0 13 = x := ⟨_, rfl⟩
    obtain ⟨c1, ec⟩ : ∃ x, gOne R T L a e f g 0 14 = x := ⟨_, rfl⟩
    obtain ⟨d1, ed⟩ : ∃ x, gOne R T L a e f g 0 15 = x := ⟨_, rfl⟩
    obtain ⟨e1, ee⟩ : ∃ x, gOne R T L a e f g 0 16 = x := ⟨_, rfl⟩
    obtain ⟨f1, ef⟩ : ∃ x, gOne R T L a e f g 0 17 = x := ⟨_, rfl⟩
    obtain ⟨g1, eg⟩ : ∃ x, gOne R T L a e f g 0 18 = x := ⟨_, rfl⟩
    rw [ea, eb, ec, ed, ee, ef, eg] at h8
    simp only [ea, eb, ec, ed, ee, ef, eg, h8] at hN o1 o2 o3 o4 o5 o6 o7
    obtain ⟨E, hE, hEi⟩ : ∃ E, (if D = true then gErr S c1 d1 e1 f1 g1 else 0) = E ∧ cs_in E := ⟨_, rfl, by
      by_cases hD : D = true
      · rw [if_pos hD]; exact gErr_in S c1 d1 e1 f1 g1
      · rw [if_neg hD]; exact ⟨by decide, by decide⟩⟩
    obtain ⟨S1, hS1⟩ : ∃ S1, (if D = true then gDo S c1 d1 e1 f1 g1 else S) = S1 := ⟨_, rfl⟩
    rw [hE, hS1] at hN
    by_cases h0 : b1 = 0 ∧ E = 0
    · rw [if_pos h0] at hN
      have k1 : (D = true → gV S1) ∧ (∀ i, 157 ≤ i → S1 i = S i) ∧ (D = false → S1 = S) := by
        by_cases hD : D = true
        · rw [if_pos hD] at hE hS1
          obtain ⟨j1, j2⟩ := gDo_ok (hV hD) (hE.trans h0.2)
          rw [hS1] at j1 j2
          exact ⟨fun _ => j1, j2, fun q => by rw [hD] at q; cases q⟩
        · rw [if_neg hD] at hS1
          subst hS1
          exact ⟨fun q => absurd q hD, fun _ _ => rfl, fun _ => rfl⟩
      by_cases hl : a1 < L
      · rw [if_pos hl] at hN
        by_cases hs : gIs T L a1 0 59 59
        · rw [if_pos hs] at hN
          obtain ⟨r1, r2, r3, r4, r5, r6, r7, r8, r9⟩ := ih hN (by have := o7 h0.1; omega) ⟨by omega, by omega⟩ o6 k1.1
          exact ⟨r1, r2, r3, r4, r5, ⟨by omega, by omega⟩, r7, fun i hi => (r8 i hi).trans (k1.2.1 i hi), fun q => (r9 q).trans (k1.2.2 q)⟩
        · rw [if_neg hs, cs_8_s13] at hN
          subst hN
          exact ⟨rfl, o1, Or.inr rfl, o6, ⟨by show (-2147483648 : Int) ≤ 0; decide, by show (0 : Int) ≤ 2147483647; decide⟩, ⟨by show n ≤ n + 1; omega, by show n + 1 ≤ n + ((k + 1 : Nat) : Int); omega⟩, k1⟩
      · rw [if_neg hl] at hN
        subst hN
        exact ⟨rfl, o1, o3, o6, ⟨by show (-2147483648 : Int) ≤ 0; decide, by show (0 : Int) ≤ 2147483647; decide⟩, ⟨by show n ≤ n + 1; omega, by show n + 1 ≤ n + ((k + 1 : Nat) : Int); omega⟩, k1⟩
    · rw [if_neg h0, cs_8_s19] at hN
      subst hN
      exact ⟨rfl, o1, o3, o6, hEi, ⟨by show n ≤ n; omega, by show n ≤ n + ((k + 1 : Nat) : Int); omega⟩, hV, fun _ _ => rfl, fun _ => rfl⟩
theorem t8_readsFalse (hm : cs_MA sh rm m) (hT : im (m + 5) = T) (hL : R 7 = L) (hx : gTx T L) (hy : gWy e f g) {N : (Nat → Int) × Int × (Nat → Int)} (hN : gRd false R T L 61 0 0 e f g S = N) :
    cs_Det iX8_reads [cs_R m, .inl 0] (sh, cs_3 im m (cs_8 R a b c d e f g h) S Y, rm) (some (.inl N.2.1)) (sh, cs_3 im m N.1 N.2.2 Y, rm) := by
  have hL60 := hx.1
  refine cs_run0 mX8_reads kX8_reads zX8_reads rfl rfl 20 (fun sc o => ?_)
  try simp (disch := omega) only [↓cs_pad0, ↓cs_pad1, ↓cs_pad2, ↓cs_q_iconst, ↓cs_q_bipush, ↓cs_q_sipush, ↓cs_q_ldc, ↓cs_q_fall, ↓cs_q_stop, ↓cs_q_iload_n0, ↓cs_q_aload_n0, ↓cs_q_istore_n0, ↓cs_q_astore_n0, ↓cs_q_iinc0, ↓cs_q_iload_n1, ↓cs_q_aload_n1, ↓cs_q_istore_n1, ↓cs_q_astore_n1, ↓cs_q_iinc1, ↓cs_q_iload_n2, ↓cs_q_aload_n2, ↓cs_q_istore_n2, ↓cs_q_astore_n2, ↓cs_q_iinc2, ↓cs_q_iload_n3, ↓cs_q_aload_n3, ↓cs_q_istore_n3, ↓cs_q_astore_n3, ↓cs_q_iinc3, ↓cs_q_iload4, ↓cs_q_aload4, ↓cs_q_istore4, ↓cs_q_astore4, ↓cs_q_iinc4, ↓cs_q_iload5, ↓cs_q_aload5, ↓cs_q_istore5, ↓cs_q_astore5, ↓cs_q_iinc5, ↓cs_q_iload6, ↓cs_q_aload6, ↓cs_q_istore6, ↓cs_q_astore6, ↓cs_q_iinc6, ↓cs_q_iload7, ↓cs_q_aload7, ↓cs_q_istore7, ↓cs_q_astore7, ↓cs_q_iinc7, ↓cs_q_aload_nZ0, ↓cs_q_astore_nZ0, ↓cs_q_aload_nZ1, ↓cs_q_astore_nZ1, ↓cs_q_aload_nZ2, ↓cs_q_astore_nZ2, ↓cs_q_aload_nZ3, ↓cs_q_astore_nZ3, ↓cs_q_aloadZ4, ↓cs_q_astoreZ4, ↓cs_q_aloadZ5, ↓cs_q_astoreZ5, ↓cs_q_aloadZ6, ↓cs_q_astoreZ6, ↓cs_q_aloadZ7, ↓cs_q_astoreZ7, ↓cs_q_null, ↓cs_q_ifnullR, ↓cs_q_ifnullZ, ↓cs_q_ifnonnullR, ↓cs_q_ifnonnullZ, ↓cs_q_aretZ, ↓cs_q_aload_nT, ↓cs_q_iadd, ↓cs_q_isub, ↓cs_q_imul, ↓cs_q_iand, ↓cs_q_ior, ↓cs_q_ishl, ↓cs_q_i2c, ↓cs_q_dup, ↓cs_q_pop, ↓cs_q_dup2, ↓cs_q_goto, ↓cs_q_if_eq, ↓cs_q_if_ne, ↓cs_q_if_lt, ↓cs_q_if_ge, ↓cs_q_if_gt, ↓cs_q_if_le, ↓cs_q_icmp_eq, ↓cs_q_icmp_ne, ↓cs_q_icmp_lt, ↓cs_q_icmp_ge, ↓cs_q_icmp_gt, ↓cs_q_icmp_le, ↓cs_q_table, ↓cs_q_lookup, ↓cs_q_getI, ↓cs_q_getR, ↓cs_q_putI, ↓cs_q_putZ, ↓cs_q_putR, ↓cs_q_gets, ↓cs_q_iald, ↓cs_q_taload, ↓cs_q_cald, ↓cs_q_iast, ↓cs_q_cast, ↓cs_q_aald, ↓cs_q_aast, ↓cs_q_tlen, ↓cs_q_alen, ↓cs_q_new, ↓cs_q_newa, ↓cs_q_anew, ↓cs_q_virt0, ↓cs_q_stat00, ↓cs_q_stat10, ↓cs_q_virt1, ↓cs_q_stat01, ↓cs_q_stat11, ↓cs_q_virt2, ↓cs_q_stat02, ↓cs_q_stat12, ↓cs_q_virt3, ↓cs_q_stat03, ↓cs_q_stat13, ↓cs_q_virt4, ↓cs_q_stat04, ↓cs_q_stat14, ↓cs_q_oinit, ↓cs_q_spec, ↓cs_q_max, ↓cs_q_min, ↓cs_q_copy, ↓cs_q_iret, ↓cs_q_zret, ↓cs_q_aret, ↓cs_q_vret, ↓cs_q_J, ↓cs_q_l8_0, ↓cs_q_l8_1, ↓cs_q_l8_2, ↓cs_q_l8_3, ↓cs_q_l8_4, ↓cs_q_l8_5, ↓cs_q_l8_6, rX8_reads, qX8_reads_0, qX8_reads_1, qX8_reads_2, qX8_reads_3, qX8_reads_4, qX8_reads_5, qX8_reads_6, qX8_reads_7, qX8_reads_8, qX8_reads_9, qX8_reads_10, qX8_reads_11, qX8_reads_12, qX8_reads_13, qX8_reads_14, qX8_reads_15, qX8_reads_16, true_and, and_true, true_or, or_true, Option.isSome_some, Option.getD_some, cs_bz, cs_bn, cs_bi, cs_bo, not_false_eq_true, not_true_eq_false, true_implies, false_implies, implies_true, Decidable.not_not, cs_em, cs_sw_c, cs_sw_n, false_or, or_false, false_and, and_false, cs_inT, Int.toNat_natCast, cs_tn0, cs_tn01, cs_tn1, cs_tn6, cs_tn11, cs_tn16, cs_tn21, cs_tn154, Int.reduceToNat, Int.reduceAdd, Int.reduceSub, Int.reduceNeg, Int.reduceLT, Int.reduceLE, Int.reduceEq, Nat.reduceAdd, cs_M_ob hm, cs_M_rc hm, cs_M_ix5 hm, cs_M_ix1 hm, hm.2, cs_3_0, cs_3_1, cs_3_2, cs_3_5, cs_8_3, cs_8_7, cs_8_10, cs_8_11, cs_8_12, cs_8_13, cs_8_14, cs_8_15, cs_8_16, cs_8_17, cs_8_18, cs_8_19, cs_u2_us, cs_3_s0, cs_3_s1, cs_3_s2, cs_8_s12, cs_8_s13, cs_8_s14, cs_8_s15, cs_8_s16, cs_8_s17, cs_8_s18, cs_8_s19, hT, hL]
  exact t8_readsF hm hT hL hx 61 hN (by omega) ⟨by decide, hL60.1⟩ hy ⟨rfl, rfl⟩
theorem t8_readsTrue (hm : cs_MA sh rm m) (hT : im (m + 5) = T) (hL : R 7 = L) (hx : gTx T L) (hy : gWy e f g) (h10 : R 10 = -5) (h11 : cs_in (R 11)) (hV : gV S) {N : (Nat → Int) × Int × (Nat → Int)} (hN : gRd true R T L 61 0 0 e f g S = N) :
    cs_Det iX8_reads [cs_R m, .inl 1] (sh, cs_3 im m (cs_8 R a b c d e f g h) S Y, rm) (some (.inl N.2.1)) (sh, cs_3 im m N.1 N.2.2 Y, rm) := by
  have hL60 := hx.1
  refine cs_run0 mX8_reads kX8_reads zX8_reads rfl rfl 20 (fun sc o => ?_)
  try simp (disch := omega) only [↓cs_pad0, ↓cs_pad1, ↓cs_pad2, ↓cs_q_iconst, ↓cs_q_bipush, ↓cs_q_sipush, ↓cs_q_ldc, ↓cs_q_fall, ↓cs_q_stop, ↓cs_q_iload_n0, ↓cs_q_aload_n0, ↓cs_q_istore_n0, ↓cs_q_astore_n0, ↓cs_q_iinc0, ↓cs_q_iload_n1, ↓cs_q_aload_n1, ↓cs_q_istore_n1, ↓cs_q_astore_n1, ↓cs_q_iinc1, ↓cs_q_iload_n2, ↓cs_q_aload_n2, ↓cs_q_istore_n2, ↓cs_q_astore_n2, ↓cs_q_iinc2, ↓cs_q_iload_n3, ↓cs_q_aload_n3, ↓cs_q_istore_n3, ↓cs_q_astore_n3, ↓cs_q_iinc3, ↓cs_q_iload4, ↓cs_q_aload4, ↓cs_q_istore4, ↓cs_q_astore4, ↓cs_q_iinc4, ↓cs_q_iload5, ↓cs_q_aload5, ↓cs_q_istore5, ↓cs_q_astore5, ↓cs_q_iinc5, ↓cs_q_iload6, ↓cs_q_aload6, ↓cs_q_istore6, ↓cs_q_astore6, ↓cs_q_iinc6, ↓cs_q_iload7, ↓cs_q_aload7, ↓cs_q_istore7, ↓cs_q_astore7, ↓cs_q_iinc7, ↓cs_q_aload_nZ0, ↓cs_q_astore_nZ0, ↓cs_q_aload_nZ1, ↓cs_q_astore_nZ1, ↓cs_q_aload_nZ2, ↓cs_q_astore_nZ2, ↓cs_q_aload_nZ3, ↓cs_q_astore_nZ3, ↓cs_q_aloadZ4, ↓cs_q_astoreZ4, ↓cs_q_aloadZ5, ↓cs_q_astoreZ5, ↓cs_q_aloadZ6, ↓cs_q_astoreZ6, ↓cs_q_aloadZ7, ↓cs_q_astoreZ7, ↓cs_q_null, ↓cs_q_ifnullR, ↓cs_q_ifnullZ, ↓cs_q_ifnonnullR, ↓cs_q_ifnonnullZ, ↓cs_q_aretZ, ↓cs_q_aload_nT, ↓cs_q_iadd, ↓cs_q_isub, ↓cs_q_imul, ↓cs_q_iand, ↓cs_q_ior, ↓cs_q_ishl, ↓cs_q_i2c, ↓cs_q_dup, ↓cs_q_pop, ↓cs_q_dup2, ↓cs_q_goto, ↓cs_q_if_eq, ↓cs_q_if_ne, ↓cs_q_if_lt, ↓cs_q_if_ge, ↓cs_q_if_gt, ↓cs_q_if_le, ↓cs_q_icmp_eq, ↓cs_q_icmp_ne, ↓cs_q_icmp_lt, ↓cs_q_icmp_ge, ↓cs_q_icmp_gt, ↓cs_q_icmp_le, ↓cs_q_table, ↓cs_q_lookup, ↓cs_q_getI, ↓cs_q_getR, ↓cs_q_putI, ↓cs_q_putZ, ↓cs_q_putR, ↓cs_q_gets, ↓cs_q_iald, ↓cs_q_taload, ↓cs_q_cald, ↓cs_q_iast, ↓cs_q_cast, ↓cs_q_aald, ↓cs_q_aast, ↓cs_q_tlen, ↓cs_q_alen, ↓cs_q_new, ↓cs_q_newa, ↓cs_q_anew, ↓cs_q_virt0, ↓cs_q_stat00, ↓cs_q_stat10, ↓cs_q_virt1, ↓cs_q_stat01, ↓cs_q_stat11, ↓cs_q_virt2, ↓cs_q_stat02, ↓cs_q_stat12, ↓cs_q_virt3, ↓cs_q_stat03, ↓cs_q_stat13, ↓cs_q_virt4, ↓cs_q_stat04, ↓cs_q_stat14, ↓cs_q_oinit, ↓cs_q_spec, ↓cs_q_max, ↓cs_q_min, ↓cs_q_copy, ↓cs_q_iret, ↓cs_q_zret, ↓cs_q_aret, ↓cs_q_vret, ↓cs_q_J, ↓cs_q_l8_0, ↓cs_q_l8_1, ↓cs_q_l8_2, ↓cs_q_l8_3, ↓cs_q_l8_4, ↓cs_q_l8_5, ↓cs_q_l8_6, rX8_reads, qX8_reads_0, qX8_reads_1, qX8_reads_2, qX8_reads_3, qX8_reads_4, qX8_reads_5, qX8_reads_6, qX8_reads_7, qX8_reads_8, qX8_reads_9, qX8_reads_10, qX8_reads_11, qX8_reads_12, qX8_reads_13, qX8_reads_14, qX8_reads_15, qX8_reads_16, true_and, and_true, true_or, or_true, Option.isSome_some, Option.getD_some, cs_bz, cs_bn, cs_bi, cs_bo, not_false_eq_true, not_true_eq_false, true_implies, false_implies, implies_true, Decidable.not_not, cs_em, cs_sw_c, cs_sw_n, false_or, or_false, false_and, and_false, cs_inT, Int.toNat_natCast, cs_tn0, cs_tn01, cs_tn1, cs_tn6, cs_tn11, cs_tn16, cs_tn21, cs_tn154, Int.reduceToNat, Int.reduceAdd, Int.reduceSub, Int.reduceNeg, Int.reduceLT, Int.reduceLE, Int.reduceEq, Nat.reduceAdd, cs_M_ob hm, cs_M_rc hm, cs_M_ix5 hm, cs_M_ix1 hm, hm.2, cs_3_0, cs_3_1, cs_3_2, cs_3_5, cs_8_3, cs_8_7, cs_8_10, cs_8_11, cs_8_12, cs_8_13, cs_8_14, cs_8_15, cs_8_16, cs_8_17, cs_8_18, cs_8_19, cs_u2_us, cs_3_s0, cs_3_s1, cs_3_s2, cs_8_s12, cs_8_s13, cs_8_s14, cs_8_s15, cs_8_s16, cs_8_s17, cs_8_s18, cs_8_s19, hT, hL]
  exact t8_readsT hm hT hL hx h10 h11 61 hN (by omega) ⟨by decide, hL60.1⟩ hy hV ⟨rfl, rfl⟩
theorem cs_3_rec : gRecI (cs_3 im m R X Y) m = cs_3 (cs_us im (m + 3) (gRecH (im (m + 3)) X (R 3))) m (cs_u1 R 3 (gRecN (R 3))) X Y := by
  unfold gRecI
  rw [cs_3_0, cs_3_1, show cs_3 im m R X Y (m + 3) = im (m + 3) by simp [cs_3]]
  funext q
  unfold cs_us cs_3
  by_cases h0 : q = m
  · subst h0; simp
  · by_cases h3 : q = m + 3
    · subst h3; simp
    · simp [h0, h3]
theorem t8_rec3 (hm : cs_MA sh rm m) (hk : 0 ≤ R 3 ∧ R 3 ≤ 4) : cs_Det iX8_record [cs_R m] (sh, cs_3 im m R X Y, rm) none (sh, cs_3 (cs_us im (m + 3) (gRecH (im (m + 3)) X (R 3))) m (cs_u1 R 3 (gRecN (R 3))) X Y, rm) := by
  have := t8_rec (sh := sh) (rm := rm) (im := cs_3 im m R X Y) hm (by rw [cs_3_0]; exact hk)
  rwa [cs_3_rec] at this
end
