/-! CONSTRUCTORS -/
theorem cs_runA {mi ml : Nat} {args : List cs_A} {h h' : cs_H} {v : Option cs_A} {B : cs_BL} {mc sl : Nat}
    (hm : mi < cs_ms.length - 1 ∧ cs_ml mi = ml ∧ cs_mc mi = mc ∧ cs_sl mi = sl) (hB : cs_chkB mi B = true) (h0 : 0 < B.length ∧ cs_pcb B 0 = 0) (hnn : cs_nn args = true) (hle : Nat.ble args.length ml = true) (hlen : h'.1.length = h.1.length + mc ∧ cs_sz h'.1 = cs_sz h.1 + sl) (n : Nat)
    (hw : ∀ sc, cs_J sc mi (h.1.length, cs_sz h.1) (fun v' h'' => v' = v ∧ h'' = h') B n 0 (cs_pad ml args) [] h) : cs_Det mi args h v h' := by
  have hle' := Nat.le_of_ble_eq_true hle
  refine cs_Det_of hm.1 (cs_nn_spec hnn) (by rw [hm.2.1]; exact hle') ⟨by rw [hm.2.2.1]; exact hlen.1, by rw [hm.2.2.2]; exact hlen.2⟩ (fun sc => ?_)
  rw [hm.2.1, ← cs_pad_eq ml args hle', ← h0.2]
  exact cs_soundJ hB n 0 h0.1 _ [] _ (hw sc)
section
variable {h h' g : cs_H} {s : Nat × Nat × Nat} {a c p n k : Nat} {sc : Nat × (Nat → Int)} {o : Nat × Nat} {Q : Option cs_A → cs_H → Prop}
theorem cN_len : (cs_new h s).1.length = h.1.length + 1 := by simp [cs_new]
theorem cN_sz : cs_sz (cs_new h s).1 = cs_sz h.1 + s.2.2 := by
  show cs_sz (h.1 ++ [s]) = _
  exact cs_sz_app h.1 s
theorem cN_at : (cs_new h s).1[h.1.length]? = some s := by simp [cs_new]
theorem cN_old (ha : a < h.1.length) : (cs_new h s).1[a]? = h.1[a]? := by
  show (h.1 ++ [s])[a]? = _
  rw [List.getElem?_append_left ha]
theorem cN_im : (cs_new h s).2.1 h.1.length = fun _ => 0 := by
  funext j; simp [cs_new]
theorem cN_imo (ha : ¬ a = h.1.length) : (cs_new h s).2.1 a = h.2.1 a := by
  funext j; simp [cs_new, ha]
theorem cN_rm : (cs_new h s).2.2 h.1.length = fun _ => none := by
  funext j; simp [cs_new]
theorem cN_rmo (ha : ¬ a = h.1.length) : (cs_new h s).2.2 a = h.2.2 a := by
  funext j; simp [cs_new, ha]
/-- what was there is as it was, but for the cell p -/
def cExt (h h' : cs_H) (p : Nat) : Prop := h.1.length ≤ h'.1.length ∧ (∀ a, a < h.1.length → h'.1[a]? = h.1[a]?) ∧ ∀ a, a < h.1.length → ¬ a = p → h'.2.1 a = h.2.1 a ∧ h'.2.2 a = h.2.2 a
theorem cs_ob_h {ci m : Nat} (h1 : h.1[p]? = some (0, ci, m)) (hk : k < m) : cs_ob h p ci k = True := eq_true ⟨m, h1, hk⟩
theorem cN (h : cs_H) (kd t z : Nat) : ∃ g, cs_new h (kd, t, z) = g ∧ g.1.length = h.1.length + 1 ∧ cs_sz g.1 = cs_sz h.1 + z ∧ g.1[h.1.length]? = some (kd, t, z) ∧ (∀ a, a < h.1.length → g.1[a]? = h.1[a]?) ∧ g.2.1 h.1.length = (fun _ => 0) ∧ (∀ a, ¬ a = h.1.length → g.2.1 a = h.2.1 a) ∧ g.2.2 h.1.length = (fun _ => none) ∧ ∀ a, ¬ a = h.1.length → g.2.2 a = h.2.2 a :=
  ⟨_, rfl, cN_len, cN_sz, cN_at, fun _ ha => cN_old ha, cN_im, fun _ ha => cN_imo ha, cN_rm, fun _ ha => cN_rmo ha⟩
theorem cExt_trans {h1 h2 h3 : cs_H} {p q : Nat} (a : cExt h1 h2 p) (b : cExt h2 h3 q) (hq : q = p ∨ h1.1.length ≤ q) : cExt h1 h3 p := by
  refine ⟨Nat.le_trans a.1 b.1, fun x hx => ?_, fun x hx hxp => ?_⟩
  · have := a.1
    rw [b.2.1 x (by omega), a.2.1 x hx]
  · have := a.1
    have h2 := b.2.2 x (by omega) (by omega)
    have h1 := a.2.2 x hx hxp
    exact ⟨h2.1.trans h1.1, h2.2.trans h1.2⟩
theorem cExt_new (p : Nat) (h : cs_H) (s : Nat × Nat × Nat) : cExt h (cs_new h s) p := by
  obtain ⟨kd, t, z⟩ := s
  obtain ⟨g, hg, g1, g2, g3, g4, g5, g6, g7, g8⟩ := cN h kd t z
  rw [hg]
  exact ⟨by omega, g4, fun a ha _ => ⟨g6 a (by omega), g8 a (by omega)⟩⟩
/-- a reference is put into a field of p -/
theorem cExt_put {v : Option Nat} (h : cs_H) : cExt h (h.1, h.2.1, cs_u2 h.2.2 p k v) p :=
  ⟨Nat.le_refl _, fun _ _ => rfl, fun a _ hap => ⟨rfl, by funext j; exact cs_u2_row hap⟩⟩
theorem cExt_puti {v : Int} (h : cs_H) : cExt h (h.1, cs_u2 h.2.1 p k v, h.2.2) p :=
  ⟨Nat.le_refl _, fun _ _ => rfl, fun a _ hap => ⟨by show cs_u2 h.2.1 p k v a = h.2.1 a; rw [cs_u2_us, cs_us_ne hap], rfl⟩⟩
theorem i4_init (h1 : h.1[p]? = some (0, 4, 2)) : ∃ h', cs_Det iX4_init [cs_R p] h none h' ∧ cExt h h' p ∧ h'.1.length = h.1.length + 1 ∧ cs_sz h'.1 = cs_sz h.1 + 16 ∧ h'.1[h.1.length]? = some (1, 0, 16) ∧ h'.2.2 p 0 = some h.1.length ∧ h'.2.1 p = h.2.1 p := by
  have hp : p < h.1.length := (List.getElem?_eq_some_iff.mp h1).1
  have ex := cExt_new p h (1, 0, 16)
  obtain ⟨g, hg, g1, g2, g3, g4, g5, g6, g7, g8⟩ := cN h 1 0 16
  rw [hg] at ex
  have ob : cs_ob g p 4 0 = True := eq_true ⟨2, by rw [g4 p hp]; exact h1, by decide⟩
  refine ⟨(g.1, g.2.1, cs_u2 g.2.2 p 0 (some h.1.length)), ?_, cExt_trans ex (cExt_put g) (Or.inl rfl), g1, g2, g3, cs_u2_hit, g6 p (by omega)⟩
  refine cs_runA mX4_init kX4_init zX4_init rfl rfl ⟨g1, g2⟩ 9 (fun sc => ?_)
  try simp (disch := omega) only [↓cs_pad0, ↓cs_pad1, ↓cs_pad2, ↓cs_q_iconst, ↓cs_q_bipush, ↓cs_q_sipush, ↓cs_q_ldc, ↓cs_q_fall, ↓cs_q_stop, ↓cs_q_iload_n0, ↓cs_q_aload_n0, ↓cs_q_istore_n0, ↓cs_q_astore_n0, ↓cs_q_iinc0, ↓cs_q_iload_n1, ↓cs_q_aload_n1, ↓cs_q_istore_n1, ↓cs_q_astore_n1, ↓cs_q_iinc1, ↓cs_q_iload_n2, ↓cs_q_aload_n2, ↓cs_q_istore_n2, ↓cs_q_astore_n2, ↓cs_q_iinc2, ↓cs_q_iload_n3, ↓cs_q_aload_n3, ↓cs_q_istore_n3, ↓cs_q_astore_n3, ↓cs_q_iinc3, ↓cs_q_iload4, ↓cs_q_aload4, ↓cs_q_istore4, ↓cs_q_astore4, ↓cs_q_iinc4, ↓cs_q_iload5, ↓cs_q_aload5, ↓cs_q_istore5, ↓cs_q_astore5, ↓cs_q_iinc5, ↓cs_q_iload6, ↓cs_q_aload6, ↓cs_q_istore6, ↓cs_q_astore6, ↓cs_q_iinc6, ↓cs_q_iload7, ↓cs_q_aload7, ↓cs_q_istore7, ↓cs_q_astore7, ↓cs_q_iinc7, ↓cs_q_aload_nZ0, ↓cs_q_astore_nZ0, ↓cs_q_aload_nZ1, ↓cs_q_astore_nZ1, ↓cs_q_aload_nZ2, ↓cs_q_astore_nZ2, ↓cs_q_aload_nZ3, ↓cs_q_astore_nZ3, ↓cs_q_aloadZ4, ↓cs_q_astoreZ4, ↓cs_q_aloadZ5, ↓cs_q_astoreZ5, ↓cs_q_aloadZ6, ↓cs_q_astoreZ6, ↓cs_q_aloadZ7, ↓cs_q_astoreZ7, ↓cs_q_null, ↓cs_q_ifnullR, ↓cs_q_ifnullZ, ↓cs_q_ifnonnullR, ↓cs_q_ifnonnullZ, ↓cs_q_aretZ, ↓cs_q_aload_nT, ↓cs_q_iadd, ↓cs_q_isub, ↓cs_q_imul, ↓cs_q_iand, ↓cs_q_ior, ↓cs_q_ishl, ↓cs_q_i2c, ↓cs_q_dup, ↓cs_q_pop, ↓cs_q_dup2, ↓cs_q_goto, ↓cs_q_if_eq, ↓cs_q_if_ne, ↓cs_q_if_lt, ↓cs_q_if_ge, ↓cs_q_if_gt, ↓cs_q_if_le, ↓cs_q_icmp_eq, ↓cs_q_icmp_ne, ↓cs_q_icmp_lt, ↓cs_q_icmp_ge, ↓cs_q_icmp_gt, ↓cs_q_icmp_le, ↓cs_q_table, ↓cs_q_lookup, ↓cs_q_getI, ↓cs_q_getR, ↓cs_q_putI, ↓cs_q_putZ, ↓cs_q_putR, ↓cs_q_gets, ↓cs_q_iald, ↓cs_q_taload, ↓cs_q_cald, ↓cs_q_iast, ↓cs_q_cast, ↓cs_q_aald, ↓cs_q_aast, ↓cs_q_tlen, ↓cs_q_alen, ↓cs_q_new, ↓cs_q_newa, ↓cs_q_anew, ↓cs_q_virt0, ↓cs_q_stat00, ↓cs_q_stat10, ↓cs_q_virt1, ↓cs_q_stat01, ↓cs_q_stat11, ↓cs_q_virt2, ↓cs_q_stat02, ↓cs_q_stat12, ↓cs_q_virt3, ↓cs_q_stat03, ↓cs_q_stat13, ↓cs_q_virt4, ↓cs_q_stat04, ↓cs_q_stat14, ↓cs_q_oinit, ↓cs_q_spec, ↓cs_q_max, ↓cs_q_min, ↓cs_q_copy, ↓cs_q_iret, ↓cs_q_zret, ↓cs_q_aret, ↓cs_q_vret, ↓cs_q_J, ↓cs_q_l8_0, ↓cs_q_l8_1, ↓cs_q_l8_2, ↓cs_q_l8_3, ↓cs_q_l8_4, ↓cs_q_l8_5, ↓cs_q_l8_6, rX4_init, qX4_init_0, true_and, and_true, true_or, or_true, Option.isSome_some, Option.getD_some, cs_bz, cs_bn, cs_bi, cs_bo, not_false_eq_true, not_true_eq_false, true_implies, false_implies, implies_true, Decidable.not_not, cs_em, cs_sw_c, cs_sw_n, false_or, or_false, false_and, and_false, cs_inT, Int.toNat_natCast, cs_tn0, cs_tn01, cs_tn1, cs_tn6, cs_tn11, cs_tn16, cs_tn21, cs_tn154, Int.reduceToNat, Int.reduceAdd, Int.reduceSub, Int.reduceNeg, Int.reduceLT, Int.reduceLE, Int.reduceEq, Nat.reduceAdd, hg, ob]
  rw [mX4_init.2.2.1, mX4_init.2.2.2]
  exact ⟨Nat.le_refl _, Nat.le_refl _⟩
theorem i0_init (h1 : h.1[p]? = some (0, 0, 7)) : cs_Det iX0_init [cs_R p] h none (h.1, cs_u2 h.2.1 p 6 (-5), h.2.2) := by
  have ob : cs_ob h p 0 6 = True := eq_true ⟨7, h1, by decide⟩
  refine cs_runA mX0_init kX0_init zX0_init rfl rfl ⟨rfl, rfl⟩ 9 (fun sc => ?_)
  try simp (disch := omega) only [↓cs_pad0, ↓cs_pad1, ↓cs_pad2, ↓cs_q_iconst, ↓cs_q_bipush, ↓cs_q_sipush, ↓cs_q_ldc, ↓cs_q_fall, ↓cs_q_stop, ↓cs_q_iload_n0, ↓cs_q_aload_n0, ↓cs_q_istore_n0, ↓cs_q_astore_n0, ↓cs_q_iinc0, ↓cs_q_iload_n1, ↓cs_q_aload_n1, ↓cs_q_istore_n1, ↓cs_q_astore_n1, ↓cs_q_iinc1, ↓cs_q_iload_n2, ↓cs_q_aload_n2, ↓cs_q_istore_n2, ↓cs_q_astore_n2, ↓cs_q_iinc2, ↓cs_q_iload_n3, ↓cs_q_aload_n3, ↓cs_q_istore_n3, ↓cs_q_astore_n3, ↓cs_q_iinc3, ↓cs_q_iload4, ↓cs_q_aload4, ↓cs_q_istore4, ↓cs_q_astore4, ↓cs_q_iinc4, ↓cs_q_iload5, ↓cs_q_aload5, ↓cs_q_istore5, ↓cs_q_astore5, ↓cs_q_iinc5, ↓cs_q_iload6, ↓cs_q_aload6, ↓cs_q_istore6, ↓cs_q_astore6, ↓cs_q_iinc6, ↓cs_q_iload7, ↓cs_q_aload7, ↓cs_q_istore7, ↓cs_q_astore7, ↓cs_q_iinc7, ↓cs_q_aload_nZ0, ↓cs_q_astore_nZ0, ↓cs_q_aload_nZ1, ↓cs_q_astore_nZ1, ↓cs_q_aload_nZ2, ↓cs_q_astore_nZ2, ↓cs_q_aload_nZ3, ↓cs_q_astore_nZ3, ↓cs_q_aloadZ4, ↓cs_q_astoreZ4, ↓cs_q_aloadZ5, ↓cs_q_astoreZ5, ↓cs_q_aloadZ6, ↓cs_q_astoreZ6, ↓cs_q_aloadZ7, ↓cs_q_astoreZ7, ↓cs_q_null, ↓cs_q_ifnullR, ↓cs_q_ifnullZ, ↓cs_q_ifnonnullR, ↓cs_q_ifnonnullZ, ↓cs_q_aretZ, ↓cs_q_aload_nT, ↓cs_q_iadd, ↓cs_q_isub, ↓cs_q_imul, ↓cs_q_iand, ↓cs_q_ior, ↓cs_q_ishl, ↓cs_q_i2c, ↓cs_q_dup, ↓cs_q_pop, ↓cs_q_dup2, ↓cs_q_goto, ↓cs_q_if_eq, ↓cs_q_if_ne, ↓cs_q_if_lt, ↓cs_q_if_ge, ↓cs_q_if_gt, ↓cs_q_if_le, ↓cs_q_icmp_eq, ↓cs_q_icmp_ne, ↓cs_q_icmp_lt, ↓cs_q_icmp_ge, ↓cs_q_icmp_gt, ↓cs_q_icmp_le, ↓cs_q_table, ↓cs_q_lookup, ↓cs_q_getI, ↓cs_q_getR, ↓cs_q_putI, ↓cs_q_putZ, ↓cs_q_putR, ↓cs_q_gets, ↓cs_q_iald, ↓cs_q_taload, ↓cs_q_cald, ↓cs_q_iast, ↓cs_q_cast, ↓cs_q_aald, ↓cs_q_aast, ↓cs_q_tlen, ↓cs_q_alen, ↓cs_q_new, ↓cs_q_newa, ↓cs_q_anew, ↓cs_q_virt0, ↓cs_q_stat00, ↓cs_q_stat10, ↓cs_q_virt1, ↓cs_q_stat01, ↓cs_q_stat11, ↓cs_q_virt2, ↓cs_q_stat02, ↓cs_q_stat12, ↓cs_q_virt3, ↓cs_q_stat03, ↓cs_q_stat13, ↓cs_q_virt4, ↓cs_q_stat04, ↓cs_q_stat14, ↓cs_q_oinit, ↓cs_q_spec, ↓cs_q_max, ↓cs_q_min, ↓cs_q_copy, ↓cs_q_iret, ↓cs_q_zret, ↓cs_q_aret, ↓cs_q_vret, ↓cs_q_J, ↓cs_q_l8_0, ↓cs_q_l8_1, ↓cs_q_l8_2, ↓cs_q_l8_3, ↓cs_q_l8_4, ↓cs_q_l8_5, ↓cs_q_l8_6, rX0_init, qX0_init_0, true_and, and_true, true_or, or_true, Option.isSome_some, Option.getD_some, cs_bz, cs_bn, cs_bi, cs_bo, not_false_eq_true, not_true_eq_false, true_implies, false_implies, implies_true, Decidable.not_not, cs_em, cs_sw_c, cs_sw_n, false_or, or_false, false_and, and_false, cs_inT, Int.toNat_natCast, cs_tn0, cs_tn01, cs_tn1, cs_tn6, cs_tn11, cs_tn16, cs_tn21, cs_tn154, Int.reduceToNat, Int.reduceAdd, Int.reduceSub, Int.reduceNeg, Int.reduceLT, Int.reduceLE, Int.reduceEq, Nat.reduceAdd, ob]
/-- what a lock's constructor leaves, n the first new cell -/
def cLk (h : cs_H) (p n : Nat) : Prop := (h.1[p]? = some (0, 3, 5) ∧ h.1[n]? = some (0, 4, 2) ∧ h.1[n + 1]? = some (1, 0, 16) ∧ h.1[n + 2]? = some (0, 4, 2) ∧ h.1[n + 3]? = some (1, 0, 16)) ∧ (h.2.2 p 0 = some n ∧ h.2.2 p 1 = some (n + 2) ∧ h.2.2 n 0 = some (n + 1) ∧ h.2.2 (n + 2) 0 = some (n + 3)) ∧ (h.2.1 n = (fun _ => 0) ∧ h.2.1 (n + 2) = fun _ => 0)
theorem i3_init (h1 : h.1[p]? = some (0, 3, 5)) : ∃ h', cs_Det iX3_init [cs_R p] h none h' ∧ cExt h h' p ∧ h'.1.length = h.1.length + 4 ∧ cs_sz h'.1 = cs_sz h.1 + 36 ∧ cLk h' p h.1.length ∧ h'.2.1 p = h.2.1 p := by
  have hp : p < h.1.length := (List.getElem?_eq_some_iff.mp h1).1
  have x1 := cExt_new p h (0, 4, 2)
  obtain ⟨g, hg, g1, g2, g3, g4, g5, g6, g7, g8⟩ := cN h 0 4 2
  rw [hg] at x1
  obtain ⟨k, kd, kx, k1, k2, k3, k4, k5⟩ := i4_init g3
  have x2 := cExt_trans x1 kx (Or.inr (Nat.le_refl _))
  have ob1 : cs_ob k p 3 0 = True := eq_true ⟨5, by rw [x2.2.1 p hp]; exact h1, by decide⟩
  obtain ⟨e, he⟩ : ∃ e : cs_H, (k.1, k.2.1, cs_u2 k.2.2 p 0 (some h.1.length)) = e := ⟨_, rfl⟩
  have x3 : cExt h e p := by rw [← he]; exact cExt_trans x2 (cExt_put k) (Or.inl rfl)
  have e1 : e.1 = k.1 := by rw [← he]
  have e2 : e.2.1 = k.2.1 := by rw [← he]
  have e3 : e.2.2 = cs_u2 k.2.2 p 0 (some h.1.length) := by rw [← he]
  have el : e.1.length = h.1.length + 2 := by rw [e1]; omega
  have esz : cs_sz e.1 = cs_sz h.1 + 18 := by rw [e1, k2, g2]
  have y1 := cExt_new p e (0, 4, 2)
  obtain ⟨f, hf, f1, f2, f3, f4, f5, f6, f7, f8⟩ := cN e 0 4 2
  rw [hf] at y1
  obtain ⟨m, md, mx, m1, m2, m3, m4, m5⟩ := i4_init f3
  have y2 := cExt_trans y1 mx (Or.inr (Nat.le_refl _))
  have y3 := cExt_trans x3 y2 (Or.inl rfl)
  have ob2 : cs_ob m p 3 1 = True := eq_true ⟨5, by rw [y3.2.1 p hp]; exact h1, by decide⟩
  have kl : k.1.length = h.1.length + 2 := by omega
  rw [el] at md
  have hmp : m.2.2 p = e.2.2 p := by
    rw [(mx.2.2 p (by omega) (by omega)).2, f8 p (by omega)]
  refine ⟨(m.1, m.2.1, cs_u2 m.2.2 p 1 (some (h.1.length + 2))), ?_, cExt_trans y3 (cExt_put m) (Or.inl rfl), by show m.1.length = _; omega, by show cs_sz m.1 = _; omega, ⟨⟨?_, ?_, ?_, ?_, ?_⟩, ⟨?_, cs_u2_hit, ?_, ?_⟩, ?_, ?_⟩, ?_⟩
  · refine cs_runA mX3_init kX3_init zX3_init rfl rfl ⟨by show m.1.length = _; omega, by show cs_sz m.1 = _; omega⟩ 9 (fun sc => ?_)
    try simp (disch := omega) only [↓cs_pad0, ↓cs_pad1, ↓cs_pad2, ↓cs_q_iconst, ↓cs_q_bipush, ↓cs_q_sipush, ↓cs_q_ldc, ↓cs_q_fall, ↓cs_q_stop, ↓cs_q_iload_n0, ↓cs_q_aload_n0, ↓cs_q_istore_n0, ↓cs_q_astore_n0, ↓cs_q_iinc0, ↓cs_q_iload_n1, ↓cs_q_aload_n1, ↓cs_q_istore_n1, ↓cs_q_astore_n1, ↓cs_q_iinc1, ↓cs_q_iload_n2, ↓cs_q_aload_n2, ↓cs_q_istore_n2, ↓cs_q_astore_n2, ↓cs_q_iinc2, ↓cs_q_iload_n3, ↓cs_q_aload_n3, ↓cs_q_istore_n3, ↓cs_q_astore_n3, ↓cs_q_iinc3, ↓cs_q_iload4, ↓cs_q_aload4, ↓cs_q_istore4, ↓cs_q_astore4, ↓cs_q_iinc4, ↓cs_q_iload5, ↓cs_q_aload5, ↓cs_q_istore5, ↓cs_q_astore5, ↓cs_q_iinc5, ↓cs_q_iload6, ↓cs_q_aload6, ↓cs_q_istore6, ↓cs_q_astore6, ↓cs_q_iinc6, ↓cs_q_iload7, ↓cs_q_aload7, ↓cs_q_istore7, ↓cs_q_astore7, ↓cs_q_iinc7, ↓cs_q_aload_nZ0, ↓cs_q_astore_nZ0, ↓cs_q_aload_nZ1, ↓cs_q_astore_nZ1, ↓cs_q_aload_nZ2, ↓cs_q_astore_nZ2, ↓cs_q_aload_nZ3, ↓cs_q_astore_nZ3, ↓cs_q_aloadZ4, ↓cs_q_astoreZ4, ↓cs_q_aloadZ5, ↓cs_q_astoreZ5, ↓cs_q_aloadZ6, ↓cs_q_astoreZ6, ↓cs_q_aloadZ7, ↓cs_q_astoreZ7, ↓cs_q_null, ↓cs_q_ifnullR, ↓cs_q_ifnullZ, ↓cs_q_ifnonnullR, ↓cs_q_ifnonnullZ, ↓cs_q_aretZ, ↓cs_q_aload_nT, ↓cs_q_iadd, ↓cs_q_isub, ↓cs_q_imul, ↓cs_q_iand, ↓cs_q_ior, ↓cs_q_ishl, ↓cs_q_i2c, ↓cs_q_dup, ↓cs_q_pop, ↓cs_q_dup2, ↓cs_q_goto, ↓cs_q_if_eq, ↓cs_q_if_ne, ↓cs_q_if_lt, ↓cs_q_if_ge, ↓cs_q_if_gt, ↓cs_q_if_le, ↓cs_q_icmp_eq, ↓cs_q_icmp_ne, ↓cs_q_icmp_lt, ↓cs_q_icmp_ge, ↓cs_q_icmp_gt, ↓cs_q_icmp_le, ↓cs_q_table, ↓cs_q_lookup, ↓cs_q_getI, ↓cs_q_getR, ↓cs_q_putI, ↓cs_q_putZ, ↓cs_q_putR, ↓cs_q_gets, ↓cs_q_iald, ↓cs_q_taload, ↓cs_q_cald, ↓cs_q_iast, ↓cs_q_cast, ↓cs_q_aald, ↓cs_q_aast, ↓cs_q_tlen, ↓cs_q_alen, ↓cs_q_new, ↓cs_q_newa, ↓cs_q_anew, ↓cs_q_virt0, ↓cs_q_stat00, ↓cs_q_stat10, ↓cs_q_virt1, ↓cs_q_stat01, ↓cs_q_stat11, ↓cs_q_virt2, ↓cs_q_stat02, ↓cs_q_stat12, ↓cs_q_virt3, ↓cs_q_stat03, ↓cs_q_stat13, ↓cs_q_virt4, ↓cs_q_stat04, ↓cs_q_stat14, ↓cs_q_oinit, ↓cs_q_spec, ↓cs_q_max, ↓cs_q_min, ↓cs_q_copy, ↓cs_q_iret, ↓cs_q_zret, ↓cs_q_aret, ↓cs_q_vret, ↓cs_q_J, ↓cs_q_l8_0, ↓cs_q_l8_1, ↓cs_q_l8_2, ↓cs_q_l8_3, ↓cs_q_l8_4, ↓cs_q_l8_5, ↓cs_q_l8_6, rX3_init, qX3_init_0, true_and, and_true, true_or, or_true, Option.isSome_some, Option.getD_some, cs_bz, cs_bn, cs_bi, cs_bo, not_false_eq_true, not_true_eq_false, true_implies, false_implies, implies_true, Decidable.not_not, cs_em, cs_sw_c, cs_sw_n, false_or, or_false, false_and, and_false, cs_inT, Int.toNat_natCast, cs_tn0, cs_tn01, cs_tn1, cs_tn6, cs_tn11, cs_tn16, cs_tn21, cs_tn154, Int.reduceToNat, Int.reduceAdd, Int.reduceSub, Int.reduceNeg, Int.reduceLT, Int.reduceLE, Int.reduceEq, Nat.reduceAdd, hg]
    refine ⟨?_, ?_, cs_goV kd ?_⟩
    · rw [mX3_init.2.2.1, mX3_init.2.2.2]; omega
    · rw [mX3_init.2.2.1, mX3_init.2.2.2, g1, g2]; omega
    try simp (disch := omega) only [↓cs_pad0, ↓cs_pad1, ↓cs_pad2, ↓cs_q_iconst, ↓cs_q_bipush, ↓cs_q_sipush, ↓cs_q_ldc, ↓cs_q_fall, ↓cs_q_stop, ↓cs_q_iload_n0, ↓cs_q_aload_n0, ↓cs_q_istore_n0, ↓cs_q_astore_n0, ↓cs_q_iinc0, ↓cs_q_iload_n1, ↓cs_q_aload_n1, ↓cs_q_istore_n1, ↓cs_q_astore_n1, ↓cs_q_iinc1, ↓cs_q_iload_n2, ↓cs_q_aload_n2, ↓cs_q_istore_n2, ↓cs_q_astore_n2, ↓cs_q_iinc2, ↓cs_q_iload_n3, ↓cs_q_aload_n3, ↓cs_q_istore_n3, ↓cs_q_astore_n3, ↓cs_q_iinc3, ↓cs_q_iload4, ↓cs_q_aload4, ↓cs_q_istore4, ↓cs_q_astore4, ↓cs_q_iinc4, ↓cs_q_iload5, ↓cs_q_aload5, ↓cs_q_istore5, ↓cs_q_astore5, ↓cs_q_iinc5, ↓cs_q_iload6, ↓cs_q_aload6, ↓cs_q_istore6, ↓cs_q_astore6, ↓cs_q_iinc6, ↓cs_q_iload7, ↓cs_q_aload7, ↓cs_q_istore7, ↓cs_q_astore7, ↓cs_q_iinc7, ↓cs_q_aload_nZ0, ↓cs_q_astore_nZ0, ↓cs_q_aload_nZ1, ↓cs_q_astore_nZ1, ↓cs_q_aload_nZ2, ↓cs_q_astore_nZ2, ↓cs_q_aload_nZ3, ↓cs_q_astore_nZ3, ↓cs_q_aloadZ4, ↓cs_q_astoreZ4, ↓cs_q_aloadZ5, ↓cs_q_astoreZ5, ↓cs_q_aloadZ6, ↓cs_q_astoreZ6, ↓cs_q_aloadZ7, ↓cs_q_astoreZ7, ↓cs_q_null, ↓cs_q_ifnullR, ↓cs_q_ifnullZ, ↓cs_q_ifnonnullR, ↓cs_q_ifnonnullZ, ↓cs_q_aretZ, ↓cs_q_aload_nT, ↓cs_q_iadd, ↓cs_q_isub, ↓cs_q_imul, ↓cs_q_iand, ↓cs_q_ior, ↓cs_q_ishl, ↓cs_q_i2c, ↓cs_q_dup, ↓cs_q_pop, ↓cs_q_dup2, ↓cs_q_goto, ↓cs_q_if_eq, ↓cs_q_if_ne, ↓cs_q_if_lt, ↓cs_q_if_ge, ↓cs_q_if_gt, ↓cs_q_if_le, ↓cs_q_icmp_eq, ↓cs_q_icmp_ne, ↓cs_q_icmp_lt, ↓cs_q_icmp_ge, ↓cs_q_icmp_gt, ↓cs_q_icmp_le, ↓cs_q_table, ↓cs_q_lookup, ↓cs_q_getI, ↓cs_q_getR, ↓cs_q_putI, ↓cs_q_putZ, ↓cs_q_putR, ↓cs_q_gets, ↓cs_q_iald, ↓cs_q_taload, ↓cs_q_cald, ↓cs_q_iast, ↓cs_q_cast, ↓cs_q_aald, ↓cs_q_aast, ↓cs_q_tlen, ↓cs_q_alen, ↓cs_q_new, ↓cs_q_newa, ↓cs_q_anew, ↓cs_q_virt0, ↓cs_q_stat00, ↓cs_q_stat10, ↓cs_q_virt1, ↓cs_q_stat01, ↓cs_q_stat11, ↓cs_q_virt2, ↓cs_q_stat02, ↓cs_q_stat12, ↓cs_q_virt3, ↓cs_q_stat03, ↓cs_q_stat13, ↓cs_q_virt4, ↓cs_q_stat04, ↓cs_q_stat14, ↓cs_q_oinit, ↓cs_q_spec, ↓cs_q_max, ↓cs_q_min, ↓cs_q_copy, ↓cs_q_iret, ↓cs_q_zret, ↓cs_q_aret, ↓cs_q_vret, ↓cs_q_J, ↓cs_q_l8_0, ↓cs_q_l8_1, ↓cs_q_l8_2, ↓cs_q_l8_3, ↓cs_q_l8_4, ↓cs_q_l8_5, ↓cs_q_l8_6, rX3_init, qX3_init_0, true_and, and_true, true_or, or_true, Option.isSome_some, Option.getD_some, cs_bz, cs_bn, cs_bi, cs_bo, not_false_eq_true, not_true_eq_false, true_implies, false_implies, implies_true, Decidable.not_not, cs_em, cs_sw_c, cs_sw_n, false_or, or_false, false_and, and_false, cs_inT, Int.toNat_natCast, cs_tn0, cs_tn01, cs_tn1, cs_tn6, cs_tn11, cs_tn16, cs_tn21, cs_tn154, Int.reduceToNat, Int.reduceAdd, Int.reduceSub, Int.reduceNeg, Int.reduceLT, Int.reduceLE, Int.reduceEq, Nat.reduceAdd, ob1, he, hf, kl]
    refine ⟨?_, ?_, cs_goV md ?_⟩
    · rw [mX3_init.2.2.1, mX3_init.2.2.2]; omega
    · rw [mX3_init.2.2.1, mX3_init.2.2.2]; omega
    try simp (disch := omega) only [↓cs_pad0, ↓cs_pad1, ↓cs_pad2, ↓cs_q_iconst, ↓cs_q_bipush, ↓cs_q_sipush, ↓cs_q_ldc, ↓cs_q_fall, ↓cs_q_stop, ↓cs_q_iload_n0, ↓cs_q_aload_n0, ↓cs_q_istore_n0, ↓cs_q_astore_n0, ↓cs_q_iinc0, ↓cs_q_iload_n1, ↓cs_q_aload_n1, ↓cs_q_istore_n1, ↓cs_q_astore_n1, ↓cs_q_iinc1, ↓cs_q_iload_n2, ↓cs_q_aload_n2, ↓cs_q_istore_n2, ↓cs_q_astore_n2, ↓cs_q_iinc2, ↓cs_q_iload_n3, ↓cs_q_aload_n3, ↓cs_q_istore_n3, ↓cs_q_astore_n3, ↓cs_q_iinc3, ↓cs_q_iload4, ↓cs_q_aload4, ↓cs_q_istore4, ↓cs_q_astore4, ↓cs_q_iinc4, ↓cs_q_iload5, ↓cs_q_aload5, ↓cs_q_istore5, ↓cs_q_astore5, ↓cs_q_iinc5, ↓cs_q_iload6, ↓cs_q_aload6, ↓cs_q_istore6, ↓cs_q_astore6, ↓cs_q_iinc6, ↓cs_q_iload7, ↓cs_q_aload7, ↓cs_q_istore7, ↓cs_q_astore7, ↓cs_q_iinc7, ↓cs_q_aload_nZ0, ↓cs_q_astore_nZ0, ↓cs_q_aload_nZ1, ↓cs_q_astore_nZ1, ↓cs_q_aload_nZ2, ↓cs_q_astore_nZ2, ↓cs_q_aload_nZ3, ↓cs_q_astore_nZ3, ↓cs_q_aloadZ4, ↓cs_q_astoreZ4, ↓cs_q_aloadZ5, ↓cs_q_astoreZ5, ↓cs_q_aloadZ6, ↓cs_q_astoreZ6, ↓cs_q_aloadZ7, ↓cs_q_astoreZ7, ↓cs_q_null, ↓cs_q_ifnullR, ↓cs_q_ifnullZ, ↓cs_q_ifnonnullR, ↓cs_q_ifnonnullZ, ↓cs_q_aretZ, ↓cs_q_aload_nT, ↓cs_q_iadd, ↓cs_q_isub, ↓cs_q_imul, ↓cs_q_iand, ↓cs_q_ior, ↓cs_q_ishl, ↓cs_q_i2c, ↓cs_q_dup, ↓cs_q_pop, ↓cs_q_dup2, ↓cs_q_goto, ↓cs_q_if_eq, ↓cs_q_if_ne, ↓cs_q_if_lt, ↓cs_q_if_ge, ↓cs_q_if_gt, ↓cs_q_if_le, ↓cs_q_icmp_eq, ↓cs_q_icmp_ne, ↓cs_q_icmp_lt, ↓cs_q_icmp_ge, ↓cs_q_icmp_gt, ↓cs_q_icmp_le, ↓cs_q_table, ↓cs_q_lookup, ↓cs_q_getI, ↓cs_q_getR, ↓cs_q_putI, ↓cs_q_putZ, ↓cs_q_putR, ↓cs_q_gets, ↓cs_q_iald, ↓cs_q_taload, ↓cs_q_cald, ↓cs_q_iast, ↓cs_q_cast, ↓cs_q_aald, ↓cs_q_aast, ↓cs_q_tlen, ↓cs_q_alen, ↓cs_q_new, ↓cs_q_newa, ↓cs_q_anew, ↓cs_q_virt0, ↓cs_q_stat00, ↓cs_q_stat10, ↓cs_q_virt1, ↓cs_q_stat01, ↓cs_q_stat11, ↓cs_q_virt2, ↓cs_q_stat02, ↓cs_q_stat12, ↓cs_q_virt3, ↓cs_q_stat03, ↓cs_q_stat13, ↓cs_q_virt4, ↓cs_q_stat04, ↓cs_q_stat14, ↓cs_q_oinit, ↓cs_q_spec, ↓cs_q_max, ↓cs_q_min, ↓cs_q_copy, ↓cs_q_iret, ↓cs_q_zret, ↓cs_q_aret, ↓cs_q_vret, ↓cs_q_J, ↓cs_q_l8_0, ↓cs_q_l8_1, ↓cs_q_l8_2, ↓cs_q_l8_3, ↓cs_q_l8_4, ↓cs_q_l8_5, ↓cs_q_l8_6, rX3_init, qX3_init_0, true_and, and_true, true_or, or_true, Option.isSome_some, Option.getD_some, cs_bz, cs_bn, cs_bi, cs_bo, not_false_eq_true, not_true_eq_false, true_implies, false_implies, implies_true, Decidable.not_not, cs_em, cs_sw_c, cs_sw_n, false_or, or_false, false_and, and_false, cs_inT, Int.toNat_natCast, cs_tn0, cs_tn01, cs_tn1, cs_tn6, cs_tn11, cs_tn16, cs_tn21, cs_tn154, Int.reduceToNat, Int.reduceAdd, Int.reduceSub, Int.reduceNeg, Int.reduceLT, Int.reduceLE, Int.reduceEq, Nat.reduceAdd, ob2]
  · show m.1[p]? = _; rw [y3.2.1 p hp]; exact h1
  · show m.1[h.1.length]? = _; rw [y2.2.1 _ (by omega), e1, kx.2.1 _ (by omega)]; exact g3
  · show m.1[h.1.length + 1]? = _; rw [y2.2.1 _ (by omega), e1, ← g1]; exact k3
  · show m.1[h.1.length + 2]? = _; rw [mx.2.1 _ (by omega), ← el]; exact f3
  · show m.1[h.1.length + 3]? = _; rw [show h.1.length + 3 = f.1.length by omega]; exact m3
  · show cs_u2 m.2.2 p 1 (some (h.1.length + 2)) p 0 = _; rw [cs_u2_col (by decide), hmp, e3, cs_u2_hit]
  · show cs_u2 m.2.2 p 1 (some (h.1.length + 2)) h.1.length 0 = _
    rw [cs_u2_row (by omega), (y2.2.2 _ (by omega) (by omega)).2, e3, cs_u2_row (by omega), k4, g1]
  · show cs_u2 m.2.2 p 1 (some (h.1.length + 2)) (h.1.length + 2) 0 = _
    rw [cs_u2_row (by omega), ← el, m4, f1, el]
  · show m.2.1 h.1.length = _
    rw [(y2.2.2 _ (by omega) (by omega)).1, e2, k5, g5]
  · show m.2.1 (h.1.length + 2) = _
    rw [← el, m5, f5]
  · show m.2.1 p = _
    rw [(mx.2.2 p (by omega) (by omega)).1, f6 p (by omega), e2, (kx.2.2 p (by omega) (by omega)).1, g6 p (by omega)]
end
