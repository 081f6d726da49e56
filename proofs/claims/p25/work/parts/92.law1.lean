/-! THE LAW: low, cell, act -/
section
variable {S S' : Nat → Int} {b c k f n M j N x : Nat} {l u t t' V v : Int} {sh : List (Nat × Nat × Nat)} {rm : Nat → Nat → Option Nat} {im : Nat → Nat → Int} {H : Nat → Int} {sc : Nat × (Nat → Int)} {h : cs_H}
theorem cs_int_in (x : Int32) : cs_in x.toInt := by
  have h1 := Int32.le_toInt x
  have h2 := Int32.toInt_lt x
  unfold cs_in
  omega
theorem cs_shr_in (a b : Int) : cs_in (cs_shr a b) := cs_int_in _
theorem cs_and_in (a b : Int) : cs_in (cs_and a b) := cs_int_in _
theorem p_mask (v : Int) : 0 ≤ cs_and v 2147483647 ∧ cs_and v 2147483647 < 2147483648 := by
  have h1 : ((Int32.ofInt v &&& Int32.ofInt 2147483647).toBitVec.toNat) ≤ 2147483647 := by
    rw [Int32.toBitVec_and, BitVec.toNat_and]
    exact Nat.and_le_right
  have h2 : (Int32.ofInt v &&& Int32.ofInt 2147483647).toInt = ((Int32.ofInt v &&& Int32.ofInt 2147483647).toBitVec.toNat : Int) := by
    show BitVec.toInt _ = _
    rw [BitVec.toInt_eq_toNat_of_lt]
    show 2 * _ < 4294967296
    omega
  unfold cs_and
  rw [h2]
  omega
def gLow (v n : Int) : Int := cs_and v 2147483647 % n
theorem gLow_r (v : Int) {n : Int} (hn : 0 < n) : 0 ≤ gLow v n ∧ gLow v n < n := ⟨Int.emod_nonneg _ (by omega), Int.emod_lt_of_pos _ hn⟩
theorem L_low {v n : Int} (hn : 0 < n ∧ n < 2147483648) : cs_Det iL_low [.inl v, .inl n] (sh, im, rm) (some (.inl (gLow v n))) (sh, im, rm) := by
  have hm := p_mask v
  have e : ((2147483647 : Nat) : Int) = 2147483647 := rfl
  refine cs_run0 mL_low kL_low zL_low rfl rfl 9 (fun sc o => ?_)
  try simp (disch := omega) only [↓cs_pad0, ↓cs_pad1, ↓cs_pad2, ↓cs_q_iconst, ↓cs_q_bipush, ↓cs_q_sipush, ↓cs_q_ldc, ↓cs_q_fall, ↓cs_q_stop, ↓cs_q_iload_n0, ↓cs_q_aload_n0, ↓cs_q_istore_n0, ↓cs_q_astore_n0, ↓cs_q_iinc0, ↓cs_q_iload_n1, ↓cs_q_aload_n1, ↓cs_q_istore_n1, ↓cs_q_astore_n1, ↓cs_q_iinc1, ↓cs_q_iload_n2, ↓cs_q_aload_n2, ↓cs_q_istore_n2, ↓cs_q_astore_n2, ↓cs_q_iinc2, ↓cs_q_iload_n3, ↓cs_q_aload_n3, ↓cs_q_istore_n3, ↓cs_q_astore_n3, ↓cs_q_iinc3, ↓cs_q_iload4, ↓cs_q_aload4, ↓cs_q_istore4, ↓cs_q_astore4, ↓cs_q_iinc4, ↓cs_q_iload5, ↓cs_q_aload5, ↓cs_q_istore5, ↓cs_q_astore5, ↓cs_q_iinc5, ↓cs_q_iload6, ↓cs_q_aload6, ↓cs_q_istore6, ↓cs_q_astore6, ↓cs_q_iinc6, ↓cs_q_iload7, ↓cs_q_aload7, ↓cs_q_istore7, ↓cs_q_astore7, ↓cs_q_iinc7, ↓cs_q_aload_nZ0, ↓cs_q_astore_nZ0, ↓cs_q_aload_nZ1, ↓cs_q_astore_nZ1, ↓cs_q_aload_nZ2, ↓cs_q_astore_nZ2, ↓cs_q_aload_nZ3, ↓cs_q_astore_nZ3, ↓cs_q_aloadZ4, ↓cs_q_astoreZ4, ↓cs_q_aloadZ5, ↓cs_q_astoreZ5, ↓cs_q_aloadZ6, ↓cs_q_astoreZ6, ↓cs_q_aloadZ7, ↓cs_q_astoreZ7, ↓cs_q_null, ↓cs_q_ifnullR, ↓cs_q_ifnullZ, ↓cs_q_ifnonnullR, ↓cs_q_ifnonnullZ, ↓cs_q_aretZ, ↓cs_q_aload_nT, ↓cs_q_iadd, ↓cs_q_isub, ↓cs_q_imul, ↓cs_q_iand, ↓cs_q_ior, ↓cs_q_ishl, ↓cs_q_ishr, ↓cs_q_idiv, ↓cs_q_irem, ↓cs_q_iload8, ↓cs_q_istore8, ↓cs_q_iinc8, ↓cs_q_iload9, ↓cs_q_istore9, ↓cs_q_iinc9, ↓cs_q_iload10, ↓cs_q_istore10, ↓cs_q_iinc10, ↓cs_q_iload11, ↓cs_q_istore11, ↓cs_q_iinc11, ↓cs_q_iload12, ↓cs_q_istore12, ↓cs_q_iinc12, ↓cs_q_iload13, ↓cs_q_istore13, ↓cs_q_iinc13, ↓cs_q_iload14, ↓cs_q_istore14, ↓cs_q_iinc14, ↓cs_q_iload15, ↓cs_q_istore15, ↓cs_q_iinc15, ↓cs_q_iload16, ↓cs_q_istore16, ↓cs_q_iinc16, ↓cs_q_iload17, ↓cs_q_istore17, ↓cs_q_iinc17, ↓cs_q_iload18, ↓cs_q_istore18, ↓cs_q_iinc18, ↓cs_q_i2c, ↓cs_q_dup, ↓cs_q_pop, ↓cs_q_dup2, ↓cs_q_goto, ↓cs_q_if_eq, ↓cs_q_if_ne, ↓cs_q_if_lt, ↓cs_q_if_ge, ↓cs_q_if_gt, ↓cs_q_if_le, ↓cs_q_icmp_eq, ↓cs_q_icmp_ne, ↓cs_q_icmp_lt, ↓cs_q_icmp_ge, ↓cs_q_icmp_gt, ↓cs_q_icmp_le, ↓cs_q_table, ↓cs_q_lookup, ↓cs_q_getI, ↓cs_q_getR, ↓cs_q_putI, ↓cs_q_putZ, ↓cs_q_putR, ↓cs_q_gets, ↓cs_q_iald, ↓cs_q_taload, ↓cs_q_cald, ↓cs_q_iast, ↓cs_q_cast, ↓cs_q_aald, ↓cs_q_aast, ↓cs_q_tlen, ↓cs_q_alen, ↓cs_q_new, ↓cs_q_newa, ↓cs_q_anew, ↓cs_q_virt0, ↓cs_q_stat00, ↓cs_q_stat10, ↓cs_q_virt1, ↓cs_q_stat01, ↓cs_q_stat11, ↓cs_q_virt2, ↓cs_q_stat02, ↓cs_q_stat12, ↓cs_q_virt3, ↓cs_q_stat03, ↓cs_q_stat13, ↓cs_q_virt4, ↓cs_q_stat04, ↓cs_q_stat14, ↓cs_q_oinit, ↓cs_q_spec, ↓cs_q_max, ↓cs_q_min, ↓cs_q_copy, ↓cs_q_iret, ↓cs_q_zret, ↓cs_q_aret, ↓cs_q_vret, ↓cs_q_J, ↓cs_q_l8_0, ↓cs_q_l8_1, ↓cs_q_l8_2, ↓cs_q_l8_3, ↓cs_q_l8_4, ↓cs_q_l8_5, ↓cs_q_l8_6, rL_low, qL_low_0, true_and, and_true, true_or, or_true, Option.isSome_some, Option.getD_some, cs_bz, cs_bn, cs_bi, cs_bo, not_false_eq_true, not_true_eq_false, true_implies, false_implies, implies_true, Decidable.not_not, cs_em, cs_sw_c, cs_sw_n, false_or, or_false, false_and, and_false, cs_inT, Int.toNat_natCast, cs_tn0, cs_tn01, cs_tn1, cs_tn6, cs_tn11, cs_tn16, cs_tn21, cs_tn154, Int.reduceToNat, Int.reduceAdd, Int.reduceSub, Int.reduceNeg, Int.reduceLT, Int.reduceLE, Int.reduceEq, Nat.reduceAdd, e, hn.1, hn.2]
  exact ⟨hm, rfl⟩
/-- a contract over one script -/
theorem cs_run0S {mi ml : Nat} {args : List cs_A} {im' : Nat → Nat → Int} {rm' : Nat → Nat → Option Nat} {v : Option cs_A} {B : cs_BL}
    (hm : mi < cs_ms.length - 1 ∧ cs_ml mi = ml ∧ cs_mc mi = 0 ∧ cs_sl mi = 0) (hB : cs_chkB mi B = true) (h0 : 0 < B.length ∧ cs_pcb B 0 = 0) (hnn : cs_nn args = true) (hle : Nat.ble args.length ml = true) (n : Nat)
    (hw : ∀ o, cs_J sc mi o (fun v' h'' => v' = v ∧ h'' = (sh, im', rm')) B n 0 (cs_pad ml args) [] (sh, im, rm)) : cs_DetS sc mi args (sh, im, rm) v (sh, im', rm') := by
  have hle' := Nat.le_of_ble_eq_true hle
  refine cs_DetS_of hm.1 (cs_nn_spec hnn) (by rw [hm.2.1]; exact hle') ⟨by rw [hm.2.2.1]; rfl, by rw [hm.2.2.2]; rfl⟩ ?_
  rw [hm.2.1, ← cs_pad_eq ml args hle', ← h0.2]
  exact cs_soundJ hB n 0 h0.1 _ [] _ (hw _)
theorem cs_goIS {P : List cs_A → cs_H → Prop} {mj : Nat} {args t : List cs_A} {h h' : cs_H} {v : Int} (hD : cs_DetS sc mj args h (some (.inl v)) h') (k : P (.inl v :: t) h') : cs_cont sc P mj args t h := ⟨_, _, hD, k⟩
theorem cs_tn_3 : cs_tn sc 3 = sc.1 := rfl
theorem cs_tv_3 {k : Nat} : cs_tv sc 3 k = sc.2 k := rfl
def cV (sc : Nat × (Nat → Int)) (e : Nat) : Int := if e < sc.1 then sc.2 e else 7919 * ((e : Int) + 7) * ((e : Int) + 613)
theorem cV_in (hsc : ∀ k, cs_in (sc.2 k)) {e : Nat} (he : e < 44) : cs_in (cV sc e) := by
  unfold cV
  split
  · exact hsc e
  · rcases (show e = 0 ∨ e = 1 ∨ e = 2 ∨ e = 3 ∨ e = 4 ∨ e = 5 ∨ e = 6 ∨ e = 7 ∨ e = 8 ∨ e = 9 ∨ e = 10 ∨ e = 11 ∨ e = 12 ∨ e = 13 ∨ e = 14 ∨ e = 15 ∨ e = 16 ∨ e = 17 ∨ e = 18 ∨ e = 19 ∨ e = 20 ∨ e = 21 ∨ e = 22 ∨ e = 23 ∨ e = 24 ∨ e = 25 ∨ e = 26 ∨ e = 27 ∨ e = 28 ∨ e = 29 ∨ e = 30 ∨ e = 31 ∨ e = 32 ∨ e = 33 ∨ e = 34 ∨ e = 35 ∨ e = 36 ∨ e = 37 ∨ e = 38 ∨ e = 39 ∨ e = 40 ∨ e = 41 ∨ e = 42 ∨ e = 43 by omega) with rfl | rfl | rfl | rfl | rfl | rfl | rfl | rfl | rfl | rfl | rfl | rfl | rfl | rfl | rfl | rfl | rfl | rfl | rfl | rfl | rfl | rfl | rfl | rfl | rfl | rfl | rfl | rfl | rfl | rfl | rfl | rfl | rfl | rfl | rfl | rfl | rfl | rfl | rfl | rfl | rfl | rfl | rfl | rfl <;> decide
theorem L_cell (hlen : sc.1 ≤ 260) {e : Nat} (he : e < 44) : cs_DetS sc iL_cell [cs_T 3, .inl (e : Int)] (sh, im, rm) (some (.inl (cV sc e))) (sh, im, rm) := by
  refine cs_run0S mL_cell kL_cell zL_cell rfl rfl 9 (fun o => ?_)
  try simp (disch := omega) only [↓cs_pad0, ↓cs_pad1, ↓cs_pad2, ↓cs_q_iconst, ↓cs_q_bipush, ↓cs_q_sipush, ↓cs_q_ldc, ↓cs_q_fall, ↓cs_q_stop, ↓cs_q_iload_n0, ↓cs_q_aload_n0, ↓cs_q_istore_n0, ↓cs_q_astore_n0, ↓cs_q_iinc0, ↓cs_q_iload_n1, ↓cs_q_aload_n1, ↓cs_q_istore_n1, ↓cs_q_astore_n1, ↓cs_q_iinc1, ↓cs_q_iload_n2, ↓cs_q_aload_n2, ↓cs_q_istore_n2, ↓cs_q_astore_n2, ↓cs_q_iinc2, ↓cs_q_iload_n3, ↓cs_q_aload_n3, ↓cs_q_istore_n3, ↓cs_q_astore_n3, ↓cs_q_iinc3, ↓cs_q_iload4, ↓cs_q_aload4, ↓cs_q_istore4, ↓cs_q_astore4, ↓cs_q_iinc4, ↓cs_q_iload5, ↓cs_q_aload5, ↓cs_q_istore5, ↓cs_q_astore5, ↓cs_q_iinc5, ↓cs_q_iload6, ↓cs_q_aload6, ↓cs_q_istore6, ↓cs_q_astore6, ↓cs_q_iinc6, ↓cs_q_iload7, ↓cs_q_aload7, ↓cs_q_istore7, ↓cs_q_astore7, ↓cs_q_iinc7, ↓cs_q_aload_nZ0, ↓cs_q_astore_nZ0, ↓cs_q_aload_nZ1, ↓cs_q_astore_nZ1, ↓cs_q_aload_nZ2, ↓cs_q_astore_nZ2, ↓cs_q_aload_nZ3, ↓cs_q_astore_nZ3, ↓cs_q_aloadZ4, ↓cs_q_astoreZ4, ↓cs_q_aloadZ5, ↓cs_q_astoreZ5, ↓cs_q_aloadZ6, ↓cs_q_astoreZ6, ↓cs_q_aloadZ7, ↓cs_q_astoreZ7, ↓cs_q_null, ↓cs_q_ifnullR, ↓cs_q_ifnullZ, ↓cs_q_ifnonnullR, ↓cs_q_ifnonnullZ, ↓cs_q_aretZ, ↓cs_q_aload_nT, ↓cs_q_iadd, ↓cs_q_isub, ↓cs_q_imul, ↓cs_q_iand, ↓cs_q_ior, ↓cs_q_ishl, ↓cs_q_ishr, ↓cs_q_idiv, ↓cs_q_irem, ↓cs_q_iload8, ↓cs_q_istore8, ↓cs_q_iinc8, ↓cs_q_iload9, ↓cs_q_istore9, ↓cs_q_iinc9, ↓cs_q_iload10, ↓cs_q_istore10, ↓cs_q_iinc10, ↓cs_q_iload11, ↓cs_q_istore11, ↓cs_q_iinc11, ↓cs_q_iload12, ↓cs_q_istore12, ↓cs_q_iinc12, ↓cs_q_iload13, ↓cs_q_istore13, ↓cs_q_iinc13, ↓cs_q_iload14, ↓cs_q_istore14, ↓cs_q_iinc14, ↓cs_q_iload15, ↓cs_q_istore15, ↓cs_q_iinc15, ↓cs_q_iload16, ↓cs_q_istore16, ↓cs_q_iinc16, ↓cs_q_iload17, ↓cs_q_istore17, ↓cs_q_iinc17, ↓cs_q_iload18, ↓cs_q_istore18, ↓cs_q_iinc18, ↓cs_q_i2c, ↓cs_q_dup, ↓cs_q_pop, ↓cs_q_dup2, ↓cs_q_goto, ↓cs_q_if_eq, ↓cs_q_if_ne, ↓cs_q_if_lt, ↓cs_q_if_ge, ↓cs_q_if_gt, ↓cs_q_if_le, ↓cs_q_icmp_eq, ↓cs_q_icmp_ne, ↓cs_q_icmp_lt, ↓cs_q_icmp_ge, ↓cs_q_icmp_gt, ↓cs_q_icmp_le, ↓cs_q_table, ↓cs_q_lookup, ↓cs_q_getI, ↓cs_q_getR, ↓cs_q_putI, ↓cs_q_putZ, ↓cs_q_putR, ↓cs_q_gets, ↓cs_q_iald, ↓cs_q_taload, ↓cs_q_cald, ↓cs_q_iast, ↓cs_q_cast, ↓cs_q_aald, ↓cs_q_aast, ↓cs_q_tlen, ↓cs_q_alen, ↓cs_q_new, ↓cs_q_newa, ↓cs_q_anew, ↓cs_q_virt0, ↓cs_q_stat00, ↓cs_q_stat10, ↓cs_q_virt1, ↓cs_q_stat01, ↓cs_q_stat11, ↓cs_q_virt2, ↓cs_q_stat02, ↓cs_q_stat12, ↓cs_q_virt3, ↓cs_q_stat03, ↓cs_q_stat13, ↓cs_q_virt4, ↓cs_q_stat04, ↓cs_q_stat14, ↓cs_q_oinit, ↓cs_q_spec, ↓cs_q_max, ↓cs_q_min, ↓cs_q_copy, ↓cs_q_iret, ↓cs_q_zret, ↓cs_q_aret, ↓cs_q_vret, ↓cs_q_J, ↓cs_q_l8_0, ↓cs_q_l8_1, ↓cs_q_l8_2, ↓cs_q_l8_3, ↓cs_q_l8_4, ↓cs_q_l8_5, ↓cs_q_l8_6, rL_cell, qL_cell_0, qL_cell_1, qL_cell_2, true_and, and_true, true_or, or_true, Option.isSome_some, Option.getD_some, cs_bz, cs_bn, cs_bi, cs_bo, not_false_eq_true, not_true_eq_false, true_implies, false_implies, implies_true, Decidable.not_not, cs_em, cs_sw_c, cs_sw_n, false_or, or_false, false_and, and_false, cs_inT, Int.toNat_natCast, cs_tn0, cs_tn01, cs_tn1, cs_tn6, cs_tn11, cs_tn16, cs_tn21, cs_tn154, Int.reduceToNat, Int.reduceAdd, Int.reduceSub, Int.reduceNeg, Int.reduceLT, Int.reduceLE, Int.reduceEq, Nat.reduceAdd, cs_tn_3, cs_tv_3, Int.toNat_natCast]
  unfold cV
  refine ⟨by decide, fun z => ?_, fun z => ?_⟩
  · rw [if_neg (by omega)]
  · refine ⟨⟨by decide, by omega, by omega⟩, ?_⟩
    rw [if_pos (by omega)]
end
