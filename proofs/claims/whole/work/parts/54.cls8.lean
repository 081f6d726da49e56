/-! THE CLASS: a canal copied from another one -/
section
variable {sh : List (Nat × Nat × Nat)} {rm : Nat → Nat → Option Nat} {im : Nat → Nat → Int} {K K' F : Nat → Nat → Int} {S : Nat → Int} {c e k s i d b q N M : Nat} {j : Int} {sc : Nat × (Nat → Int)} {o : Nat × Nat} {Q : Option cs_A → cs_H → Prop}
theorem cs_put_out (hd : c + 46 ≤ e ∨ e + 46 ≤ c) (h : d < 46) : cs_put im c K (e + d) = im (e + d) := by
  unfold cs_put; rw [if_neg (by omega)]
theorem cs_put_out0 (hd : c + 46 ≤ e ∨ e + 46 ≤ c) : cs_put im c K e = im e := by
  unfold cs_put; rw [if_neg (by omega)]
def kCq (K F : Nat → Nat → Int) (q : Nat) : Nat → Nat → Int := cs_us (cs_us K q (cs_u1 (K q) 1 (F q 1))) (q + 1) (fun k => if k < 16 then F (q + 1) k else K (q + 1) k)
theorem kCq_q : kCq K F q q = cs_u1 (K q) 1 (F q 1) := by unfold kCq; rw [cs_us_ne (by omega), cs_us_at]
theorem kCq_a : kCq K F q (q + 1) = fun k => if k < 16 then F (q + 1) k else K (q + 1) k := by unfold kCq; rw [cs_us_at]
theorem kCq_ne (h : ¬ d = q) (h' : ¬ d = q + 1) : kCq K F q d = K d := by unfold kCq; rw [cs_us_ne h', cs_us_ne h]
theorem t1_qcopy (hc : cs_CA sh rm c) (he : cs_CA sh rm e) (hd : c + 46 ≤ e ∨ e + 46 ≤ c) (hF : ∀ d, d < 46 → im (e + d) = F d) (hk : k < 5) (hs : s < 2) :
    cs_Det iX4_copyFrom [cs_R (c + (6 + 2 * s + 5 * k)), cs_R (e + (6 + 2 * s + 5 * k))] (sh, cs_put im c K, rm) none (sh, cs_put im c (kCq K F (6 + 2 * s + 5 * k)), rm) := by
  obtain ⟨q1, q2, q3⟩ := cs_C_q hc hk hs
  obtain ⟨p1, p2, p3⟩ := cs_C_q he hk hs
  have h := t4_copyFrom (im := cs_put im c K) q1 q3 q2 p1 p3 p2 (by omega) (by omega)
  rw [cs_put_at (by omega), cs_put_at (by omega), cs_put_out hd (by omega), cs_put_out hd (by omega), hF _ (by omega), hF _ (by omega), cs_put_us (by omega), cs_put_us (by omega)] at h
  unfold kCq
  rw [show 6 + 2 * s + 5 * k + 1 = 7 + 2 * s + 5 * k by omega]
  exact h
def kCl (K F : Nat → Nat → Int) (k : Nat) : Nat → Nat → Int :=
  cs_us (kCq (kCq K F (6 + 5 * k)) F (8 + 5 * k)) (5 + 5 * k) (cs_u1 (cs_u1 (cs_u1 (kCq (kCq K F (6 + 5 * k)) F (8 + 5 * k) (5 + 5 * k)) 2 (F (5 + 5 * k) 2)) 3 (F (5 + 5 * k) 3)) 4 (F (5 + 5 * k) 4))
theorem t3_copyFrom (hc : cs_CA sh rm c) (he : cs_CA sh rm e) (hd : c + 46 ≤ e ∨ e + 46 ≤ c) (hF : ∀ d, d < 46 → im (e + d) = F d) (hk : k < 5) :
    cs_Det iX3_copyFrom [cs_R (c + (5 + 5 * k)), cs_R (e + (5 + 5 * k))] (sh, cs_put im c K, rm) none (sh, cs_put im c (kCl K F k), rm) := by
  have h1 := fun K => t1_qcopy (K := K) hc he hd hF hk (show 0 < 2 by decide)
  have h2 := fun K => t1_qcopy (K := K) hc he hd hF hk (show 1 < 2 by decide)
  unfold kCl
  generalize hA : kCq K F (6 + 5 * k) = A
  generalize hB : kCq A F (8 + 5 * k) = B
  refine cs_run0 mX3_copyFrom kX3_copyFrom zX3_copyFrom rfl rfl 9 (fun sc o => ?_)
  try simp (disch := omega) only [↓cs_pad0, ↓cs_pad1, ↓cs_pad2, ↓cs_q_iconst, ↓cs_q_bipush, ↓cs_q_sipush, ↓cs_q_ldc, ↓cs_q_fall, ↓cs_q_stop, ↓cs_q_iload_n0, ↓cs_q_aload_n0, ↓cs_q_istore_n0, ↓cs_q_astore_n0, ↓cs_q_iinc0, ↓cs_q_iload_n1, ↓cs_q_aload_n1, ↓cs_q_istore_n1, ↓cs_q_astore_n1, ↓cs_q_iinc1, ↓cs_q_iload_n2, ↓cs_q_aload_n2, ↓cs_q_istore_n2, ↓cs_q_astore_n2, ↓cs_q_iinc2, ↓cs_q_iload_n3, ↓cs_q_aload_n3, ↓cs_q_istore_n3, ↓cs_q_astore_n3, ↓cs_q_iinc3, ↓cs_q_iload4, ↓cs_q_aload4, ↓cs_q_istore4, ↓cs_q_astore4, ↓cs_q_iinc4, ↓cs_q_iload5, ↓cs_q_aload5, ↓cs_q_istore5, ↓cs_q_astore5, ↓cs_q_iinc5, ↓cs_q_iload6, ↓cs_q_aload6, ↓cs_q_istore6, ↓cs_q_astore6, ↓cs_q_iinc6, ↓cs_q_iload7, ↓cs_q_aload7, ↓cs_q_istore7, ↓cs_q_astore7, ↓cs_q_iinc7, ↓cs_q_aload_nT, ↓cs_q_iadd, ↓cs_q_isub, ↓cs_q_imul, ↓cs_q_iand, ↓cs_q_ior, ↓cs_q_ishl, ↓cs_q_i2c, ↓cs_q_dup, ↓cs_q_pop, ↓cs_q_dup2, ↓cs_q_goto, ↓cs_q_if_eq, ↓cs_q_if_ne, ↓cs_q_if_lt, ↓cs_q_if_ge, ↓cs_q_if_gt, ↓cs_q_if_le, ↓cs_q_icmp_eq, ↓cs_q_icmp_ne, ↓cs_q_icmp_lt, ↓cs_q_icmp_ge, ↓cs_q_icmp_gt, ↓cs_q_icmp_le, ↓cs_q_table, ↓cs_q_lookup, ↓cs_q_getI, ↓cs_q_getR, ↓cs_q_putI, ↓cs_q_putZ, ↓cs_q_putR, ↓cs_q_gets, ↓cs_q_iald, ↓cs_q_taload, ↓cs_q_cald, ↓cs_q_iast, ↓cs_q_cast, ↓cs_q_aald, ↓cs_q_aast, ↓cs_q_tlen, ↓cs_q_alen, ↓cs_q_new, ↓cs_q_newa, ↓cs_q_anew, ↓cs_q_virt0, ↓cs_q_stat00, ↓cs_q_stat10, ↓cs_q_virt1, ↓cs_q_stat01, ↓cs_q_stat11, ↓cs_q_virt2, ↓cs_q_stat02, ↓cs_q_stat12, ↓cs_q_virt3, ↓cs_q_stat03, ↓cs_q_stat13, ↓cs_q_virt4, ↓cs_q_stat04, ↓cs_q_stat14, ↓cs_q_oinit, ↓cs_q_spec, ↓cs_q_max, ↓cs_q_min, ↓cs_q_copy, ↓cs_q_iret, ↓cs_q_zret, ↓cs_q_aret, ↓cs_q_vret, ↓cs_q_J, ↓cs_q_l8_0, ↓cs_q_l8_1, ↓cs_q_l8_2, ↓cs_q_l8_3, ↓cs_q_l8_4, ↓cs_q_l8_5, ↓cs_q_l8_6, rX3_copyFrom, qX3_copyFrom_0, true_and, and_true, true_or, or_true, Option.isSome_some, Option.getD_some, cs_bz, cs_bn, cs_bi, cs_bo, not_false_eq_true, not_true_eq_false, true_implies, false_implies, implies_true, Decidable.not_not, cs_em, cs_sw_c, cs_sw_n, false_or, or_false, false_and, and_false, cs_inT, Int.toNat_natCast, cs_tn0, cs_tn01, cs_tn1, cs_tn6, cs_tn11, cs_tn16, cs_tn21, cs_tn154, Int.reduceToNat, Int.reduceAdd, Int.reduceSub, Int.reduceNeg, Int.reduceLT, Int.reduceLE, Int.reduceEq, Nat.reduceAdd, cs_C_lob hc, cs_C_lrc hc, cs_C_qb hc, cs_C_qa hc, cs_C_lob he, cs_C_lrc he, cs_C_qb he, cs_C_qa he]
  trace_state
  sorry
end
