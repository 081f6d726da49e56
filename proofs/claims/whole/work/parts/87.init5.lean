/-! CONSTRUCTORS: the whole object, the reference -/
section
variable {h h' g : cs_H} {s : Nat × Nat × Nat} {a c n k p : Nat} {sc : Nat × (Nat → Int)} {o : Nat × Nat} {Q : Option cs_A → cs_H → Prop} {sh : List (Nat × Nat × Nat)} {rm : Nat → Nat → Option Nat} {im : Nat → Nat → Int}
/-- a new canal put into the field k of p -/
theorem cNC (h : cs_H) (p k L : Nat) (hL : h.1.length = L) (hp : p < L) : ∃ g k1 e : cs_H, cs_new h (0, 1, 11) = g ∧ cs_Det iX1_init [cs_R L] g none k1 ∧ (k1.1, k1.2.1, cs_u2 k1.2.2 p k (some L)) = e ∧ g.1.length = L + 1 ∧ cs_sz g.1 = cs_sz h.1 + 11 ∧ k1.1.length = L + 46 ∧ cs_sz k1.1 = cs_sz h.1 + 358 ∧ cExt h e p ∧ e.1.length = L + 46 ∧ cs_sz e.1 = cs_sz h.1 + 358 ∧ cCan e L ∧ e.2.2 p k = some L ∧ (∀ j, ¬ j = k → e.2.2 p j = h.2.2 p j) ∧ e.2.1 p = h.2.1 p ∧ k1.1[p]? = h.1[p]? := by
  subst hL
  obtain ⟨g, hg, g1, g2, g3, g4, g5, g6, g7, g8⟩ := cN h 0 1 11
  have x1 := cExt_new p h (0, 1, 11)
  rw [hg] at x1
  obtain ⟨k1, kd, kx, ka, kb, kc⟩ := i1_init g1 g3 g5
  have x1' := cExt_trans x1 kx (Or.inr (Nat.le_refl _))
  have hkr : k1.2.2 p = h.2.2 p := by rw [(kx.2.2 _ (by omega) (by omega)).2, g8 _ (by omega)]
  have hki : k1.2.1 p = h.2.1 p := by rw [(kx.2.2 _ (by omega) (by omega)).1, g6 _ (by omega)]
  refine ⟨g, k1, _, hg, kd, rfl, g1, g2, ka, by omega, cExt_trans x1' (cExt_put k1) (Or.inl rfl), ka, by show cs_sz k1.1 = _; omega, cCan_ext kc (cExt_put (p := p) (k := k) (v := some h.1.length) k1) (by omega) (by omega), cs_u2_hit, fun j hj => ?_, hki, x1'.2.1 p hp⟩
  show cs_u2 k1.2.2 p k (some h.1.length) p j = _
  rw [cs_u2_col hj, hkr]
def cFin (h : cs_H) : Prop :=
  (h.1[0]? = some (0, 7, 9) ∧ h.1[185]? = some (0, 2, 2) ∧ h.1[186]? = some (2, 3, 4) ∧ h.1[371]? = some (0, 6, 5) ∧ h.1[372]? = some (1, 1, 60) ∧ h.1[373]? = some (2, 5, 20)) ∧
  (h.2.2 0 0 = some 1 ∧ h.2.2 0 1 = some 47 ∧ h.2.2 0 2 = some 93 ∧ h.2.2 0 3 = some 139 ∧ h.2.2 0 4 = some 185 ∧ h.2.2 0 5 = some 371 ∧ h.2.2 185 0 = some 186 ∧ h.2.2 371 0 = some 372 ∧ h.2.2 371 2 = some 373) ∧
  (cCan h 1 ∧ cCan h 47 ∧ cCan h 93 ∧ cCan h 139 ∧ ∀ i, i < 4 → cCan h (187 + 46 * i) ∧ h.2.2 186 i = some (187 + 46 * i)) ∧
  (∀ i, i < 20 → h.1[374 + i]? = some (0, 5, 7) ∧ h.2.2 373 i = some (374 + i)) ∧
  (h.2.1 0 = cs_u1 (cs_u1 (fun _ => 0) 7 (-5)) 8 (-5) ∧ h.2.1 185 = (fun _ => 0) ∧ h.2.1 371 = (fun _ => 0) ∧ h.2.1 372 = fun _ => 0)
theorem i7_init (hl : h.1.length = 1) (h1 : h.1[0]? = some (0, 7, 9)) (h0 : h.2.1 0 = fun _ => 0) : ∃ h', cs_Det iX7_init [cs_R 0] h none h' ∧ h'.1.length = 394 ∧ cs_sz h'.1 = cs_sz h.1 + 3095 ∧ cFin h' := by
  obtain ⟨ga, ka, ea, a1, a2, a3, a4, a5, a6, a7, ax, al, az, ac, ar, aro, ai, ap⟩ := cNC h 0 0 1 hl (by decide)
  obtain ⟨gb, kb, eb, b1, b2, b3, b4, b5, b6, b7, bx, bl, bz, bc, br, bro, bi, bp⟩ := cNC ea 0 1 47 al (by decide)
  obtain ⟨gc, kc, ec, c1, c2, c3, c4, c5, c6, c7, cx, cl, cz, cc, cr, cro, ci, cp⟩ := cNC eb 0 2 93 bl (by decide)
  obtain ⟨gd, kd, ed, d1, d2, d3, d4, d5, d6, d7, dx, dl, dz, dc, dr, dro, di, dp⟩ := cNC ec 0 3 139 cl (by decide)
  have pa : ea.1[0]? = some (0, 7, 9) := by rw [ax.2.1 0 (by omega)]; exact h1
  have pb : eb.1[0]? = some (0, 7, 9) := by rw [bx.2.1 0 (by omega)]; exact pa
  have pc : ec.1[0]? = some (0, 7, 9) := by rw [cx.2.1 0 (by omega)]; exact pb
  have pd : ed.1[0]? = some (0, 7, 9) := by rw [dx.2.1 0 (by omega)]; exact pc
  obtain ⟨ge, hge, e1, e2, e3, e4, e5, e6, e7, e8⟩ := cN ed 0 2 2
  have exn := cExt_new 0 ed (0, 2, 2)
  rw [hge] at exn
  rw [dl] at e3 e5
  obtain ⟨ke, f1, f2, f3, f4, f5, f6, f7, f8⟩ := i2_init (by omega) e3 e5
  have fx := cExt_trans exn f2 (Or.inr (by omega))
  obtain ⟨ee, hee⟩ : ∃ e : cs_H, (ke.1, ke.2.1, cs_u2 ke.2.2 0 4 (some 185)) = e := ⟨_, rfl⟩
  have pk : cExt ke ee 0 := by rw [← hee]; exact cExt_put ke
  have eel : ee.1.length = 371 := by rw [← hee]; exact f3
  have eez : cs_sz ee.1 = cs_sz ke.1 := by rw [← hee]
  have eex := cExt_trans fx pk (Or.inl rfl)
  have kr0 : ke.2.2 0 = ed.2.2 0 := by rw [(f2.2.2 0 (by omega) (by decide)).2, e8 0 (by omega)]
  have ki0 : ke.2.1 0 = ed.2.1 0 := by rw [(f2.2.2 0 (by omega) (by decide)).1, e6 0 (by omega)]
  have er4 : ee.2.2 0 4 = some 185 := by
    rw [← hee]; show cs_u2 ke.2.2 0 4 (some 185) 0 4 = _; exact cs_u2_hit
  have ero : ∀ j, ¬ j = 4 → ee.2.2 0 j = ed.2.2 0 j := fun j hj => by
    rw [← hee]; show cs_u2 ke.2.2 0 4 (some 185) 0 j = _; rw [cs_u2_col hj, kr0]
  have ei0 : ee.2.1 0 = ed.2.1 0 := by rw [← hee]; exact ki0
  have pe : ee.1[0]? = some (0, 7, 9) := by rw [eex.2.1 0 (by omega)]; exact pd
  have pke : ke.1[0]? = some (0, 7, 9) := by rw [fx.2.1 0 (by omega)]; exact pd
  obtain ⟨gt, hgt, t1, t2, t3, t4, t5, t6, t7, t8⟩ := cN ee 0 6 5
  have exn2 := cExt_new 0 ee (0, 6, 5)
  rw [hgt] at exn2
  rw [eel] at t3 t5
  obtain ⟨kt, u1, u2, u3, u4, u5, u6, u7, u8⟩ := i6_init (by omega) t3 t5
  have ux := cExt_trans exn2 u2 (Or.inr (by omega))
  have tr0 : kt.2.2 0 = ee.2.2 0 := by rw [(u2.2.2 0 (by omega) (by decide)).2, t8 0 (by omega)]
  have ti0 : kt.2.1 0 = ee.2.1 0 := by rw [(u2.2.2 0 (by omega) (by decide)).1, t6 0 (by omega)]
  have pkt : kt.1[0]? = some (0, 7, 9) := by rw [ux.2.1 0 (by omega)]; exact pe
  obtain ⟨et, het⟩ : ∃ e : cs_H, (kt.1, kt.2.1, cs_u2 kt.2.2 0 5 (some 371)) = e := ⟨_, rfl⟩
  have pt : cExt kt et 0 := by rw [← het]; exact cExt_put kt
  have et1 : et.1 = kt.1 := by rw [← het]
  have eti : et.2.1 = kt.2.1 := by rw [← het]
  have etr : et.2.2 = cs_u2 kt.2.2 0 5 (some 371) := by rw [← het]
  have etx : cExt ee et 0 := cExt_trans ux pt (Or.inl rfl)
  have etl : et.1.length = 394 := by rw [et1]; exact u3
  obtain ⟨ef, hef⟩ : ∃ e : cs_H, (et.1, cs_us et.2.1 0 (cs_u1 (cs_u1 (fun _ => 0) 7 (-5)) 8 (-5)), et.2.2) = e := ⟨_, rfl⟩
  have ef1 : ef.1 = et.1 := by rw [← hef]
  have efr : ef.2.2 = et.2.2 := by rw [← hef]
  have efi : ef.2.1 = cs_us et.2.1 0 (cs_u1 (cs_u1 (fun _ => 0) 7 (-5)) 8 (-5)) := by rw [← hef]
  have pf : cExt et ef 0 := ⟨by rw [ef1]; exact Nat.le_refl _, fun a _ => by rw [ef1], fun a _ ha => ⟨by rw [efi, cs_us_ne ha], by rw [efr]⟩⟩
  have fE : cExt ee ef 0 := cExt_trans etx pf (Or.inl rfl)
  have fK : cExt ke ef 0 := cExt_trans pk fE (Or.inl rfl)
  have fD : cExt ed ef 0 := cExt_trans (cExt_trans fx pk (Or.inl rfl)) fE (Or.inl rfl)
  have fC : cExt ec ef 0 := cExt_trans dx fD (Or.inl rfl)
  have fB : cExt eb ef 0 := cExt_trans cx fC (Or.inl rfl)
  have fA : cExt ea ef 0 := cExt_trans bx fB (Or.inl rfl)
  have fT : cExt kt ef 0 := cExt_trans pt pf (Or.inl rfl)
  have etr0 : ∀ j, ¬ j = 5 → et.2.2 0 j = ee.2.2 0 j := fun j hj => by rw [etr, cs_u2_col hj, tr0]
  have et0 : et.2.1 0 = fun _ => 0 := by rw [eti, ti0, ei0, di, ci, bi, ai]; exact h0
  refine ⟨ef, ?_, by rw [ef1]; exact etl, by rw [ef1, et1]; omega, ⟨by rw [ef1, et1]; exact pkt, ?_, ?_, ?_, ?_, ?_⟩, ⟨?_, ?_, ?_, ?_, ?_, ?_, ?_, ?_, ?_⟩, ⟨cCan_ext ac fA (by omega) (by omega), cCan_ext bc fB (by omega) (by omega), cCan_ext cc fC (by omega) (by omega), cCan_ext dc fD (by omega) (by omega), fun i hi => ⟨cCan_ext (f8 i hi).1 fK (by omega) (by omega), ?_⟩⟩, fun i hi => ⟨?_, ?_⟩, ?_, ?_, ?_, ?_⟩
  · have l1 : ka.1.length = 47 := a6
    have l2 : kb.1.length = 93 := b6
    have l3 : kc.1.length = 139 := c6
    have l4 : kd.1.length = 185 := d6
    have l5 : ke.1.length = 371 := f3
    have oba : cs_ob ka 0 7 0 = True := eq_true ⟨9, by rw [ap]; exact h1, by decide⟩
    have obb : cs_ob kb 0 7 1 = True := eq_true ⟨9, by rw [bp]; exact pa, by decide⟩
    have obc : cs_ob kc 0 7 2 = True := eq_true ⟨9, by rw [cp]; exact pb, by decide⟩
    have obd : cs_ob kd 0 7 3 = True := eq_true ⟨9, by rw [dp]; exact pc, by decide⟩
    have obe : cs_ob ke 0 7 4 = True := eq_true ⟨9, pke, by decide⟩
    have obt : cs_ob kt 0 7 5 = True := eq_true ⟨9, pkt, by decide⟩
    refine cs_runA mX7_init kX7_init zX7_init rfl rfl ⟨by rw [ef1]; omega, by rw [ef1, et1]; omega⟩ 9 (fun sc => ?_)
    have mc : cs_mc iX7_init = 393 := mX7_init.2.2.1
    have ms : cs_sl iX7_init = 3095 := mX7_init.2.2.2
    have l6 : kt.1.length = 394 := u3
    have kt0 : kt.2.1 0 = fun _ => 0 := by rw [← eti]; exact et0
    have obn : ∀ {X Y k}, k < 9 → cs_ob (kt.1, X, Y) 0 7 k = True := fun hk => eq_true ⟨9, pkt, hk⟩
    have hfin : (kt.1, cs_us kt.2.1 0 (cs_u1 (cs_u1 (fun _ => 0) 7 (-5)) 8 (-5)), cs_u2 kt.2.2 0 5 (some 371)) = ef := by rw [← hef, et1, eti, etr]
    try simp (disch := omega) only [↓cs_pad0, ↓cs_pad1, ↓cs_pad2, ↓cs_q_iconst, ↓cs_q_bipush, ↓cs_q_sipush, ↓cs_q_ldc, ↓cs_q_fall, ↓cs_q_stop, ↓cs_q_iload_n0, ↓cs_q_aload_n0, ↓cs_q_istore_n0, ↓cs_q_astore_n0, ↓cs_q_iinc0, ↓cs_q_iload_n1, ↓cs_q_aload_n1, ↓cs_q_istore_n1, ↓cs_q_astore_n1, ↓cs_q_iinc1, ↓cs_q_iload_n2, ↓cs_q_aload_n2, ↓cs_q_istore_n2, ↓cs_q_astore_n2, ↓cs_q_iinc2, ↓cs_q_iload_n3, ↓cs_q_aload_n3, ↓cs_q_istore_n3, ↓cs_q_astore_n3, ↓cs_q_iinc3, ↓cs_q_iload4, ↓cs_q_aload4, ↓cs_q_istore4, ↓cs_q_astore4, ↓cs_q_iinc4, ↓cs_q_iload5, ↓cs_q_aload5, ↓cs_q_istore5, ↓cs_q_astore5, ↓cs_q_iinc5, ↓cs_q_iload6, ↓cs_q_aload6, ↓cs_q_istore6, ↓cs_q_astore6, ↓cs_q_iinc6, ↓cs_q_iload7, ↓cs_q_aload7, ↓cs_q_istore7, ↓cs_q_astore7, ↓cs_q_iinc7, ↓cs_q_aload_nT, ↓cs_q_iadd, ↓cs_q_isub, ↓cs_q_imul, ↓cs_q_iand, ↓cs_q_ior, ↓cs_q_ishl, ↓cs_q_i2c, ↓cs_q_dup, ↓cs_q_pop, ↓cs_q_dup2, ↓cs_q_goto, ↓cs_q_if_eq, ↓cs_q_if_ne, ↓cs_q_if_lt, ↓cs_q_if_ge, ↓cs_q_if_gt, ↓cs_q_if_le, ↓cs_q_icmp_eq, ↓cs_q_icmp_ne, ↓cs_q_icmp_lt, ↓cs_q_icmp_ge, ↓cs_q_icmp_gt, ↓cs_q_icmp_le, ↓cs_q_table, ↓cs_q_lookup, ↓cs_q_getI, ↓cs_q_getR, ↓cs_q_putI, ↓cs_q_putZ, ↓cs_q_putR, ↓cs_q_gets, ↓cs_q_iald, ↓cs_q_taload, ↓cs_q_cald, ↓cs_q_iast, ↓cs_q_cast, ↓cs_q_aald, ↓cs_q_aast, ↓cs_q_tlen, ↓cs_q_alen, ↓cs_q_new, ↓cs_q_newa, ↓cs_q_anew, ↓cs_q_virt0, ↓cs_q_stat00, ↓cs_q_stat10, ↓cs_q_virt1, ↓cs_q_stat01, ↓cs_q_stat11, ↓cs_q_virt2, ↓cs_q_stat02, ↓cs_q_stat12, ↓cs_q_virt3, ↓cs_q_stat03, ↓cs_q_stat13, ↓cs_q_virt4, ↓cs_q_stat04, ↓cs_q_stat14, ↓cs_q_oinit, ↓cs_q_spec, ↓cs_q_max, ↓cs_q_min, ↓cs_q_copy, ↓cs_q_iret, ↓cs_q_zret, ↓cs_q_aret, ↓cs_q_vret, ↓cs_q_J, ↓cs_q_l8_0, ↓cs_q_l8_1, ↓cs_q_l8_2, ↓cs_q_l8_3, ↓cs_q_l8_4, ↓cs_q_l8_5, ↓cs_q_l8_6, rX7_init, qX7_init_0, true_and, and_true, true_or, or_true, Option.isSome_some, Option.getD_some, cs_bz, cs_bn, cs_bi, cs_bo, not_false_eq_true, not_true_eq_false, true_implies, false_implies, implies_true, Decidable.not_not, cs_em, cs_sw_c, cs_sw_n, false_or, or_false, false_and, and_false, cs_inT, Int.toNat_natCast, cs_tn0, cs_tn01, cs_tn1, cs_tn6, cs_tn11, cs_tn16, cs_tn21, cs_tn154, Int.reduceToNat, Int.reduceAdd, Int.reduceSub, Int.reduceNeg, Int.reduceLT, Int.reduceLE, Int.reduceEq, Nat.reduceAdd, hl, a1]
    refine ⟨by rw [mc, ms]; omega, by rw [mc, ms]; omega, cs_goV a2 ?_⟩
    try simp (disch := omega) only [↓cs_pad0, ↓cs_pad1, ↓cs_pad2, ↓cs_q_iconst, ↓cs_q_bipush, ↓cs_q_sipush, ↓cs_q_ldc, ↓cs_q_fall, ↓cs_q_stop, ↓cs_q_iload_n0, ↓cs_q_aload_n0, ↓cs_q_istore_n0, ↓cs_q_astore_n0, ↓cs_q_iinc0, ↓cs_q_iload_n1, ↓cs_q_aload_n1, ↓cs_q_istore_n1, ↓cs_q_astore_n1, ↓cs_q_iinc1, ↓cs_q_iload_n2, ↓cs_q_aload_n2, ↓cs_q_istore_n2, ↓cs_q_astore_n2, ↓cs_q_iinc2, ↓cs_q_iload_n3, ↓cs_q_aload_n3, ↓cs_q_istore_n3, ↓cs_q_astore_n3, ↓cs_q_iinc3, ↓cs_q_iload4, ↓cs_q_aload4, ↓cs_q_istore4, ↓cs_q_astore4, ↓cs_q_iinc4, ↓cs_q_iload5, ↓cs_q_aload5, ↓cs_q_istore5, ↓cs_q_astore5, ↓cs_q_iinc5, ↓cs_q_iload6, ↓cs_q_aload6, ↓cs_q_istore6, ↓cs_q_astore6, ↓cs_q_iinc6, ↓cs_q_iload7, ↓cs_q_aload7, ↓cs_q_istore7, ↓cs_q_astore7, ↓cs_q_iinc7, ↓cs_q_aload_nT, ↓cs_q_iadd, ↓cs_q_isub, ↓cs_q_imul, ↓cs_q_iand, ↓cs_q_ior, ↓cs_q_ishl, ↓cs_q_i2c, ↓cs_q_dup, ↓cs_q_pop, ↓cs_q_dup2, ↓cs_q_goto, ↓cs_q_if_eq, ↓cs_q_if_ne, ↓cs_q_if_lt, ↓cs_q_if_ge, ↓cs_q_if_gt, ↓cs_q_if_le, ↓cs_q_icmp_eq, ↓cs_q_icmp_ne, ↓cs_q_icmp_lt, ↓cs_q_icmp_ge, ↓cs_q_icmp_gt, ↓cs_q_icmp_le, ↓cs_q_table, ↓cs_q_lookup, ↓cs_q_getI, ↓cs_q_getR, ↓cs_q_putI, ↓cs_q_putZ, ↓cs_q_putR, ↓cs_q_gets, ↓cs_q_iald, ↓cs_q_taload, ↓cs_q_cald, ↓cs_q_iast, ↓cs_q_cast, ↓cs_q_aald, ↓cs_q_aast, ↓cs_q_tlen, ↓cs_q_alen, ↓cs_q_new, ↓cs_q_newa, ↓cs_q_anew, ↓cs_q_virt0, ↓cs_q_stat00, ↓cs_q_stat10, ↓cs_q_virt1, ↓cs_q_stat01, ↓cs_q_stat11, ↓cs_q_virt2, ↓cs_q_stat02, ↓cs_q_stat12, ↓cs_q_virt3, ↓cs_q_stat03, ↓cs_q_stat13, ↓cs_q_virt4, ↓cs_q_stat04, ↓cs_q_stat14, ↓cs_q_oinit, ↓cs_q_spec, ↓cs_q_max, ↓cs_q_min, ↓cs_q_copy, ↓cs_q_iret, ↓cs_q_zret, ↓cs_q_aret, ↓cs_q_vret, ↓cs_q_J, ↓cs_q_l8_0, ↓cs_q_l8_1, ↓cs_q_l8_2, ↓cs_q_l8_3, ↓cs_q_l8_4, ↓cs_q_l8_5, ↓cs_q_l8_6, rX7_init, qX7_init_0, true_and, and_true, true_or, or_true, Option.isSome_some, Option.getD_some, cs_bz, cs_bn, cs_bi, cs_bo, not_false_eq_true, not_true_eq_false, true_implies, false_implies, implies_true, Decidable.not_not, cs_em, cs_sw_c, cs_sw_n, false_or, or_false, false_and, and_false, cs_inT, Int.toNat_natCast, cs_tn0, cs_tn01, cs_tn1, cs_tn6, cs_tn11, cs_tn16, cs_tn21, cs_tn154, Int.reduceToNat, Int.reduceAdd, Int.reduceSub, Int.reduceNeg, Int.reduceLT, Int.reduceLE, Int.reduceEq, Nat.reduceAdd, oba, a3, b1, l1]
    refine ⟨by rw [mc, ms]; omega, by rw [mc, ms]; omega, cs_goV b2 ?_⟩
    try simp (disch := omega) only [↓cs_pad0, ↓cs_pad1, ↓cs_pad2, ↓cs_q_iconst, ↓cs_q_bipush, ↓cs_q_sipush, ↓cs_q_ldc, ↓cs_q_fall, ↓cs_q_stop, ↓cs_q_iload_n0, ↓cs_q_aload_n0, ↓cs_q_istore_n0, ↓cs_q_astore_n0, ↓cs_q_iinc0, ↓cs_q_iload_n1, ↓cs_q_aload_n1, ↓cs_q_istore_n1, ↓cs_q_astore_n1, ↓cs_q_iinc1, ↓cs_q_iload_n2, ↓cs_q_aload_n2, ↓cs_q_istore_n2, ↓cs_q_astore_n2, ↓cs_q_iinc2, ↓cs_q_iload_n3, ↓cs_q_aload_n3, ↓cs_q_istore_n3, ↓cs_q_astore_n3, ↓cs_q_iinc3, ↓cs_q_iload4, ↓cs_q_aload4, ↓cs_q_istore4, ↓cs_q_astore4, ↓cs_q_iinc4, ↓cs_q_iload5, ↓cs_q_aload5, ↓cs_q_istore5, ↓cs_q_astore5, ↓cs_q_iinc5, ↓cs_q_iload6, ↓cs_q_aload6, ↓cs_q_istore6, ↓cs_q_astore6, ↓cs_q_iinc6, ↓cs_q_iload7, ↓cs_q_aload7, ↓cs_q_istore7, ↓cs_q_astore7, ↓cs_q_iinc7, ↓cs_q_aload_nT, ↓cs_q_iadd, ↓cs_q_isub, ↓cs_q_imul, ↓cs_q_iand, ↓cs_q_ior, ↓cs_q_ishl, ↓cs_q_i2c, ↓cs_q_dup, ↓cs_q_pop, ↓cs_q_dup2, ↓cs_q_goto, ↓cs_q_if_eq, ↓cs_q_if_ne, ↓cs_q_if_lt, ↓cs_q_if_ge, ↓cs_q_if_gt, ↓cs_q_if_le, ↓cs_q_icmp_eq, ↓cs_q_icmp_ne, ↓cs_q_icmp_lt, ↓cs_q_icmp_ge, ↓cs_q_icmp_gt, ↓cs_q_icmp_le, ↓cs_q_table, ↓cs_q_lookup, ↓cs_q_getI, ↓cs_q_getR, ↓cs_q_putI, ↓cs_q_putZ, ↓cs_q_putR, ↓cs_q_gets, ↓cs_q_iald, ↓cs_q_taload, ↓cs_q_cald, ↓cs_q_iast, ↓cs_q_cast, ↓cs_q_aald, ↓cs_q_aast, ↓cs_q_tlen, ↓cs_q_alen, ↓cs_q_new, ↓cs_q_newa, ↓cs_q_anew, ↓cs_q_virt0, ↓cs_q_stat00, ↓cs_q_stat10, ↓cs_q_virt1, ↓cs_q_stat01, ↓cs_q_stat11, ↓cs_q_virt2, ↓cs_q_stat02, ↓cs_q_stat12, ↓cs_q_virt3, ↓cs_q_stat03, ↓cs_q_stat13, ↓cs_q_virt4, ↓cs_q_stat04, ↓cs_q_stat14, ↓cs_q_oinit, ↓cs_q_spec, ↓cs_q_max, ↓cs_q_min, ↓cs_q_copy, ↓cs_q_iret, ↓cs_q_zret, ↓cs_q_aret, ↓cs_q_vret, ↓cs_q_J, ↓cs_q_l8_0, ↓cs_q_l8_1, ↓cs_q_l8_2, ↓cs_q_l8_3, ↓cs_q_l8_4, ↓cs_q_l8_5, ↓cs_q_l8_6, rX7_init, qX7_init_0, true_and, and_true, true_or, or_true, Option.isSome_some, Option.getD_some, cs_bz, cs_bn, cs_bi, cs_bo, not_false_eq_true, not_true_eq_false, true_implies, false_implies, implies_true, Decidable.not_not, cs_em, cs_sw_c, cs_sw_n, false_or, or_false, false_and, and_false, cs_inT, Int.toNat_natCast, cs_tn0, cs_tn01, cs_tn1, cs_tn6, cs_tn11, cs_tn16, cs_tn21, cs_tn154, Int.reduceToNat, Int.reduceAdd, Int.reduceSub, Int.reduceNeg, Int.reduceLT, Int.reduceLE, Int.reduceEq, Nat.reduceAdd, obb, b3, c1, l2]
    refine ⟨by rw [mc, ms]; omega, by rw [mc, ms]; omega, cs_goV c2 ?_⟩
    try simp (disch := omega) only [↓cs_pad0, ↓cs_pad1, ↓cs_pad2, ↓cs_q_iconst, ↓cs_q_bipush, ↓cs_q_sipush, ↓cs_q_ldc, ↓cs_q_fall, ↓cs_q_stop, ↓cs_q_iload_n0, ↓cs_q_aload_n0, ↓cs_q_istore_n0, ↓cs_q_astore_n0, ↓cs_q_iinc0, ↓cs_q_iload_n1, ↓cs_q_aload_n1, ↓cs_q_istore_n1, ↓cs_q_astore_n1, ↓cs_q_iinc1, ↓cs_q_iload_n2, ↓cs_q_aload_n2, ↓cs_q_istore_n2, ↓cs_q_astore_n2, ↓cs_q_iinc2, ↓cs_q_iload_n3, ↓cs_q_aload_n3, ↓cs_q_istore_n3, ↓cs_q_astore_n3, ↓cs_q_iinc3, ↓cs_q_iload4, ↓cs_q_aload4, ↓cs_q_istore4, ↓cs_q_astore4, ↓cs_q_iinc4, ↓cs_q_iload5, ↓cs_q_aload5, ↓cs_q_istore5, ↓cs_q_astore5, ↓cs_q_iinc5, ↓cs_q_iload6, ↓cs_q_aload6, ↓cs_q_istore6, ↓cs_q_astore6, ↓cs_q_iinc6, ↓cs_q_iload7, ↓cs_q_aload7, ↓cs_q_istore7, ↓cs_q_astore7, ↓cs_q_iinc7, ↓cs_q_aload_nT, ↓cs_q_iadd, ↓cs_q_isub, ↓cs_q_imul, ↓cs_q_iand, ↓cs_q_ior, ↓cs_q_ishl, ↓cs_q_i2c, ↓cs_q_dup, ↓cs_q_pop, ↓cs_q_dup2, ↓cs_q_goto, ↓cs_q_if_eq, ↓cs_q_if_ne, ↓cs_q_if_lt, ↓cs_q_if_ge, ↓cs_q_if_gt, ↓cs_q_if_le, ↓cs_q_icmp_eq, ↓cs_q_icmp_ne, ↓cs_q_icmp_lt, ↓cs_q_icmp_ge, ↓cs_q_icmp_gt, ↓cs_q_icmp_le, ↓cs_q_table, ↓cs_q_lookup, ↓cs_q_getI, ↓cs_q_getR, ↓cs_q_putI, ↓cs_q_putZ, ↓cs_q_putR, ↓cs_q_gets, ↓cs_q_iald, ↓cs_q_taload, ↓cs_q_cald, ↓cs_q_iast, ↓cs_q_cast, ↓cs_q_aald, ↓cs_q_aast, ↓cs_q_tlen, ↓cs_q_alen, ↓cs_q_new, ↓cs_q_newa, ↓cs_q_anew, ↓cs_q_virt0, ↓cs_q_stat00, ↓cs_q_stat10, ↓cs_q_virt1, ↓cs_q_stat01, ↓cs_q_stat11, ↓cs_q_virt2, ↓cs_q_stat02, ↓cs_q_stat12, ↓cs_q_virt3, ↓cs_q_stat03, ↓cs_q_stat13, ↓cs_q_virt4, ↓cs_q_stat04, ↓cs_q_stat14, ↓cs_q_oinit, ↓cs_q_spec, ↓cs_q_max, ↓cs_q_min, ↓cs_q_copy, ↓cs_q_iret, ↓cs_q_zret, ↓cs_q_aret, ↓cs_q_vret, ↓cs_q_J, ↓cs_q_l8_0, ↓cs_q_l8_1, ↓cs_q_l8_2, ↓cs_q_l8_3, ↓cs_q_l8_4, ↓cs_q_l8_5, ↓cs_q_l8_6, rX7_init, qX7_init_0, true_and, and_true, true_or, or_true, Option.isSome_some, Option.getD_some, cs_bz, cs_bn, cs_bi, cs_bo, not_false_eq_true, not_true_eq_false, true_implies, false_implies, implies_true, Decidable.not_not, cs_em, cs_sw_c, cs_sw_n, false_or, or_false, false_and, and_false, cs_inT, Int.toNat_natCast, cs_tn0, cs_tn01, cs_tn1, cs_tn6, cs_tn11, cs_tn16, cs_tn21, cs_tn154, Int.reduceToNat, Int.reduceAdd, Int.reduceSub, Int.reduceNeg, Int.reduceLT, Int.reduceLE, Int.reduceEq, Nat.reduceAdd, obc, c3, d1, l3]
    refine ⟨by rw [mc, ms]; omega, by rw [mc, ms]; omega, cs_goV d2 ?_⟩
    try simp (disch := omega) only [↓cs_pad0, ↓cs_pad1, ↓cs_pad2, ↓cs_q_iconst, ↓cs_q_bipush, ↓cs_q_sipush, ↓cs_q_ldc, ↓cs_q_fall, ↓cs_q_stop, ↓cs_q_iload_n0, ↓cs_q_aload_n0, ↓cs_q_istore_n0, ↓cs_q_astore_n0, ↓cs_q_iinc0, ↓cs_q_iload_n1, ↓cs_q_aload_n1, ↓cs_q_istore_n1, ↓cs_q_astore_n1, ↓cs_q_iinc1, ↓cs_q_iload_n2, ↓cs_q_aload_n2, ↓cs_q_istore_n2, ↓cs_q_astore_n2, ↓cs_q_iinc2, ↓cs_q_iload_n3, ↓cs_q_aload_n3, ↓cs_q_istore_n3, ↓cs_q_astore_n3, ↓cs_q_iinc3, ↓cs_q_iload4, ↓cs_q_aload4, ↓cs_q_istore4, ↓cs_q_astore4, ↓cs_q_iinc4, ↓cs_q_iload5, ↓cs_q_aload5, ↓cs_q_istore5, ↓cs_q_astore5, ↓cs_q_iinc5, ↓cs_q_iload6, ↓cs_q_aload6, ↓cs_q_istore6, ↓cs_q_astore6, ↓cs_q_iinc6, ↓cs_q_iload7, ↓cs_q_aload7, ↓cs_q_istore7, ↓cs_q_astore7, ↓cs_q_iinc7, ↓cs_q_aload_nT, ↓cs_q_iadd, ↓cs_q_isub, ↓cs_q_imul, ↓cs_q_iand, ↓cs_q_ior, ↓cs_q_ishl, ↓cs_q_i2c, ↓cs_q_dup, ↓cs_q_pop, ↓cs_q_dup2, ↓cs_q_goto, ↓cs_q_if_eq, ↓cs_q_if_ne, ↓cs_q_if_lt, ↓cs_q_if_ge, ↓cs_q_if_gt, ↓cs_q_if_le, ↓cs_q_icmp_eq, ↓cs_q_icmp_ne, ↓cs_q_icmp_lt, ↓cs_q_icmp_ge, ↓cs_q_icmp_gt, ↓cs_q_icmp_le, ↓cs_q_table, ↓cs_q_lookup, ↓cs_q_getI, ↓cs_q_getR, ↓cs_q_putI, ↓cs_q_putZ, ↓cs_q_putR, ↓cs_q_gets, ↓cs_q_iald, ↓cs_q_taload, ↓cs_q_cald, ↓cs_q_iast, ↓cs_q_cast, ↓cs_q_aald, ↓cs_q_aast, ↓cs_q_tlen, ↓cs_q_alen, ↓cs_q_new, ↓cs_q_newa, ↓cs_q_anew, ↓cs_q_virt0, ↓cs_q_stat00, ↓cs_q_stat10, ↓cs_q_virt1, ↓cs_q_stat01, ↓cs_q_stat11, ↓cs_q_virt2, ↓cs_q_stat02, ↓cs_q_stat12, ↓cs_q_virt3, ↓cs_q_stat03, ↓cs_q_stat13, ↓cs_q_virt4, ↓cs_q_stat04, ↓cs_q_stat14, ↓cs_q_oinit, ↓cs_q_spec, ↓cs_q_max, ↓cs_q_min, ↓cs_q_copy, ↓cs_q_iret, ↓cs_q_zret, ↓cs_q_aret, ↓cs_q_vret, ↓cs_q_J, ↓cs_q_l8_0, ↓cs_q_l8_1, ↓cs_q_l8_2, ↓cs_q_l8_3, ↓cs_q_l8_4, ↓cs_q_l8_5, ↓cs_q_l8_6, rX7_init, qX7_init_0, true_and, and_true, true_or, or_true, Option.isSome_some, Option.getD_some, cs_bz, cs_bn, cs_bi, cs_bo, not_false_eq_true, not_true_eq_false, true_implies, false_implies, implies_true, Decidable.not_not, cs_em, cs_sw_c, cs_sw_n, false_or, or_false, false_and, and_false, cs_inT, Int.toNat_natCast, cs_tn0, cs_tn01, cs_tn1, cs_tn6, cs_tn11, cs_tn16, cs_tn21, cs_tn154, Int.reduceToNat, Int.reduceAdd, Int.reduceSub, Int.reduceNeg, Int.reduceLT, Int.reduceLE, Int.reduceEq, Nat.reduceAdd, obd, d3, hge, l4]
    refine ⟨by rw [mc, ms]; omega, by rw [mc, ms]; omega, cs_goV f1 ?_⟩
    try simp (disch := omega) only [↓cs_pad0, ↓cs_pad1, ↓cs_pad2, ↓cs_q_iconst, ↓cs_q_bipush, ↓cs_q_sipush, ↓cs_q_ldc, ↓cs_q_fall, ↓cs_q_stop, ↓cs_q_iload_n0, ↓cs_q_aload_n0, ↓cs_q_istore_n0, ↓cs_q_astore_n0, ↓cs_q_iinc0, ↓cs_q_iload_n1, ↓cs_q_aload_n1, ↓cs_q_istore_n1, ↓cs_q_astore_n1, ↓cs_q_iinc1, ↓cs_q_iload_n2, ↓cs_q_aload_n2, ↓cs_q_istore_n2, ↓cs_q_astore_n2, ↓cs_q_iinc2, ↓cs_q_iload_n3, ↓cs_q_aload_n3, ↓cs_q_istore_n3, ↓cs_q_astore_n3, ↓cs_q_iinc3, ↓cs_q_iload4, ↓cs_q_aload4, ↓cs_q_istore4, ↓cs_q_astore4, ↓cs_q_iinc4, ↓cs_q_iload5, ↓cs_q_aload5, ↓cs_q_istore5, ↓cs_q_astore5, ↓cs_q_iinc5, ↓cs_q_iload6, ↓cs_q_aload6, ↓cs_q_istore6, ↓cs_q_astore6, ↓cs_q_iinc6, ↓cs_q_iload7, ↓cs_q_aload7, ↓cs_q_istore7, ↓cs_q_astore7, ↓cs_q_iinc7, ↓cs_q_aload_nT, ↓cs_q_iadd, ↓cs_q_isub, ↓cs_q_imul, ↓cs_q_iand, ↓cs_q_ior, ↓cs_q_ishl, ↓cs_q_i2c, ↓cs_q_dup, ↓cs_q_pop, ↓cs_q_dup2, ↓cs_q_goto, ↓cs_q_if_eq, ↓cs_q_if_ne, ↓cs_q_if_lt, ↓cs_q_if_ge, ↓cs_q_if_gt, ↓cs_q_if_le, ↓cs_q_icmp_eq, ↓cs_q_icmp_ne, ↓cs_q_icmp_lt, ↓cs_q_icmp_ge, ↓cs_q_icmp_gt, ↓cs_q_icmp_le, ↓cs_q_table, ↓cs_q_lookup, ↓cs_q_getI, ↓cs_q_getR, ↓cs_q_putI, ↓cs_q_putZ, ↓cs_q_putR, ↓cs_q_gets, ↓cs_q_iald, ↓cs_q_taload, ↓cs_q_cald, ↓cs_q_iast, ↓cs_q_cast, ↓cs_q_aald, ↓cs_q_aast, ↓cs_q_tlen, ↓cs_q_alen, ↓cs_q_new, ↓cs_q_newa, ↓cs_q_anew, ↓cs_q_virt0, ↓cs_q_stat00, ↓cs_q_stat10, ↓cs_q_virt1, ↓cs_q_stat01, ↓cs_q_stat11, ↓cs_q_virt2, ↓cs_q_stat02, ↓cs_q_stat12, ↓cs_q_virt3, ↓cs_q_stat03, ↓cs_q_stat13, ↓cs_q_virt4, ↓cs_q_stat04, ↓cs_q_stat14, ↓cs_q_oinit, ↓cs_q_spec, ↓cs_q_max, ↓cs_q_min, ↓cs_q_copy, ↓cs_q_iret, ↓cs_q_zret, ↓cs_q_aret, ↓cs_q_vret, ↓cs_q_J, ↓cs_q_l8_0, ↓cs_q_l8_1, ↓cs_q_l8_2, ↓cs_q_l8_3, ↓cs_q_l8_4, ↓cs_q_l8_5, ↓cs_q_l8_6, rX7_init, qX7_init_0, true_and, and_true, true_or, or_true, Option.isSome_some, Option.getD_some, cs_bz, cs_bn, cs_bi, cs_bo, not_false_eq_true, not_true_eq_false, true_implies, false_implies, implies_true, Decidable.not_not, cs_em, cs_sw_c, cs_sw_n, false_or, or_false, false_and, and_false, cs_inT, Int.toNat_natCast, cs_tn0, cs_tn01, cs_tn1, cs_tn6, cs_tn11, cs_tn16, cs_tn21, cs_tn154, Int.reduceToNat, Int.reduceAdd, Int.reduceSub, Int.reduceNeg, Int.reduceLT, Int.reduceLE, Int.reduceEq, Nat.reduceAdd, obe, hee, hgt, l5]
    refine ⟨by rw [mc, ms]; omega, by rw [mc, ms]; omega, cs_goV u1 ?_⟩
    try simp (disch := omega) only [↓cs_pad0, ↓cs_pad1, ↓cs_pad2, ↓cs_q_iconst, ↓cs_q_bipush, ↓cs_q_sipush, ↓cs_q_ldc, ↓cs_q_fall, ↓cs_q_stop, ↓cs_q_iload_n0, ↓cs_q_aload_n0, ↓cs_q_istore_n0, ↓cs_q_astore_n0, ↓cs_q_iinc0, ↓cs_q_iload_n1, ↓cs_q_aload_n1, ↓cs_q_istore_n1, ↓cs_q_astore_n1, ↓cs_q_iinc1, ↓cs_q_iload_n2, ↓cs_q_aload_n2, ↓cs_q_istore_n2, ↓cs_q_astore_n2, ↓cs_q_iinc2, ↓cs_q_iload_n3, ↓cs_q_aload_n3, ↓cs_q_istore_n3, ↓cs_q_astore_n3, ↓cs_q_iinc3, ↓cs_q_iload4, ↓cs_q_aload4, ↓cs_q_istore4, ↓cs_q_astore4, ↓cs_q_iinc4, ↓cs_q_iload5, ↓cs_q_aload5, ↓cs_q_istore5, ↓cs_q_astore5, ↓cs_q_iinc5, ↓cs_q_iload6, ↓cs_q_aload6, ↓cs_q_istore6, ↓cs_q_astore6, ↓cs_q_iinc6, ↓cs_q_iload7, ↓cs_q_aload7, ↓cs_q_istore7, ↓cs_q_astore7, ↓cs_q_iinc7, ↓cs_q_aload_nT, ↓cs_q_iadd, ↓cs_q_isub, ↓cs_q_imul, ↓cs_q_iand, ↓cs_q_ior, ↓cs_q_ishl, ↓cs_q_i2c, ↓cs_q_dup, ↓cs_q_pop, ↓cs_q_dup2, ↓cs_q_goto, ↓cs_q_if_eq, ↓cs_q_if_ne, ↓cs_q_if_lt, ↓cs_q_if_ge, ↓cs_q_if_gt, ↓cs_q_if_le, ↓cs_q_icmp_eq, ↓cs_q_icmp_ne, ↓cs_q_icmp_lt, ↓cs_q_icmp_ge, ↓cs_q_icmp_gt, ↓cs_q_icmp_le, ↓cs_q_table, ↓cs_q_lookup, ↓cs_q_getI, ↓cs_q_getR, ↓cs_q_putI, ↓cs_q_putZ, ↓cs_q_putR, ↓cs_q_gets, ↓cs_q_iald, ↓cs_q_taload, ↓cs_q_cald, ↓cs_q_iast, ↓cs_q_cast, ↓cs_q_aald, ↓cs_q_aast, ↓cs_q_tlen, ↓cs_q_alen, ↓cs_q_new, ↓cs_q_newa, ↓cs_q_anew, ↓cs_q_virt0, ↓cs_q_stat00, ↓cs_q_stat10, ↓cs_q_virt1, ↓cs_q_stat01, ↓cs_q_stat11, ↓cs_q_virt2, ↓cs_q_stat02, ↓cs_q_stat12, ↓cs_q_virt3, ↓cs_q_stat03, ↓cs_q_stat13, ↓cs_q_virt4, ↓cs_q_stat04, ↓cs_q_stat14, ↓cs_q_oinit, ↓cs_q_spec, ↓cs_q_max, ↓cs_q_min, ↓cs_q_copy, ↓cs_q_iret, ↓cs_q_zret, ↓cs_q_aret, ↓cs_q_vret, ↓cs_q_J, ↓cs_q_l8_0, ↓cs_q_l8_1, ↓cs_q_l8_2, ↓cs_q_l8_3, ↓cs_q_l8_4, ↓cs_q_l8_5, ↓cs_q_l8_6, rX7_init, qX7_init_0, true_and, and_true, true_or, or_true, Option.isSome_some, Option.getD_some, cs_bz, cs_bn, cs_bi, cs_bo, not_false_eq_true, not_true_eq_false, true_implies, false_implies, implies_true, Decidable.not_not, cs_em, cs_sw_c, cs_sw_n, false_or, or_false, false_and, and_false, cs_inT, Int.toNat_natCast, cs_tn0, cs_tn01, cs_tn1, cs_tn6, cs_tn11, cs_tn16, cs_tn21, cs_tn154, Int.reduceToNat, Int.reduceAdd, Int.reduceSub, Int.reduceNeg, Int.reduceLT, Int.reduceLE, Int.reduceEq, Nat.reduceAdd, obt, obn, cs_u2_us, cs_us_us, cs_us_at, kt0, hfin]
  · rw [fK.2.1 _ (by omega), f2.2.1 _ (by omega)]; exact e3
  · rw [fK.2.1 _ (by omega)]; exact f5
  · rw [fT.2.1 _ (by omega), u2.2.1 _ (by omega)]; exact t3
  · rw [fT.2.1 _ (by omega)]; exact u5.1
  · rw [fT.2.1 _ (by omega)]; exact u5.2
  · rw [efr, etr0 0 (by decide), ero 0 (by decide), dro 0 (by decide), cro 0 (by decide), bro 0 (by decide)]; exact ar
  · rw [efr, etr0 1 (by decide), ero 1 (by decide), dro 1 (by decide), cro 1 (by decide)]; exact br
  · rw [efr, etr0 2 (by decide), ero 2 (by decide), dro 2 (by decide)]; exact cr
  · rw [efr, etr0 3 (by decide), ero 3 (by decide)]; exact dr
  · rw [efr, etr0 4 (by decide)]; exact er4
  · rw [efr, etr]; exact cs_u2_hit
  · rw [(fK.2.2 185 (by omega) (by decide)).2]; exact f6
  · rw [(fT.2.2 371 (by omega) (by decide)).2]; exact u6.1
  · rw [(fT.2.2 371 (by omega) (by decide)).2]; exact u6.2
  · rw [(fK.2.2 186 (by omega) (by decide)).2]; exact (f8 i hi).2
  · rw [fT.2.1 _ (by omega)]; exact (u8 i hi).1
  · rw [(fT.2.2 373 (by omega) (by decide)).2]; exact (u8 i hi).2
  · rw [efi, cs_us_at]
  · rw [(fK.2.2 185 (by omega) (by decide)).1]; exact f7
  · rw [(fT.2.2 371 (by omega) (by decide)).1]; exact u7.1
  · rw [(fT.2.2 372 (by omega) (by decide)).1]; exact u7.2
end
