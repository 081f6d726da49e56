/-! AN OBJECT AT x AND ITS STATE: the row S, the history H of n states -/
section
variable {sh : List (Nat × Nat × Nat)} {rm rm' : Nat → Nat → Option Nat} {im im' : Nat → Nat → Int} {S S' H : Nat → Int} {P : Nat → Nat} {x y c e k s i b q n N M mi op : Nat} {args : List cs_A} {v : Option cs_A} {V : Int} {j : Int} {sc : Nat × (Nat → Int)} {o : Nat × Nat} {Q : Option cs_A → cs_H → Prop}
def kO (x : Nat) (sh : List (Nat × Nat × Nat)) (rm : Nat → Nat → Option Nat) (im : Nat → Nat → Int) (S H : Nat → Int) (n : Nat) : Prop :=
  oL x sh rm ∧ (∃ P, oPm x rm P ∧ oHi x im P H n) ∧ (∀ i, i < n → gW (gRow H i)) ∧ n ≤ 4 ∧ kAt im (x + 1) S ∧ im (x + 185) 1 = (n : Int)
def oN (n : Nat) : Nat := if n = 4 then 4 else n + 1
theorem oN_eq (hn : n ≤ 4) : (gRecN (n : Int)).toNat = oN n ∧ gRecN (n : Int) = (oN n : Int) := by
  unfold gRecN oN
  by_cases h : n = 4
  · subst h; exact ⟨rfl, rfl⟩
  · rw [if_neg (by omega), if_neg h]; omega
theorem kO_fr (h : kO x sh rm im S H n) (hW : gW S) (hf : ∀ a, x ≤ a → a < x + 394 → im' a = im a ∧ rm' a = rm a) : kO x sh rm' im' S H n := by
  obtain ⟨h1, ⟨P, h2, h3⟩, h4, h5, h6, h7⟩ := h
  refine ⟨oL_fr h1 (fun a a1 a2 => (hf a a1 a2).2), ⟨P, ⟨fun i hi => ?_, h2.2⟩, fun i hi => ?_⟩, h4, h5, ?_, ?_⟩
  · rw [(hf (x + 186) (by omega) (by omega)).2]; exact h2.1 i hi
  · have := (h2.1 i (by omega)).2
    exact kRel_cells (h3 i hi) (h4 i hi) (fun d hd => (hf _ (by omega) (by omega)).1)
  · exact kRel_cells h6 hW (fun d hd => (hf _ (by omega) (by omega)).1)
  · rw [(hf (x + 185) (by omega) (by omega)).1]; exact h7
/-- another object stays -/
theorem kO_other (h : kO y sh rm im S H n) (hW : gW S) (hf : oFr x im im' rm rm') (hxy : x + 394 ≤ y ∨ y + 394 ≤ x) : kO y sh rm' im' S H n :=
  kO_fr h hW (fun a a1 a2 => hf a (by omega))
theorem kO_eq (h : kO x sh rm im S H n) (hW : gW S) (he : gEq S' S) : kO x sh rm im S' H n := by
  obtain ⟨h1, h2, h4, h5, h6, h7⟩ := h
  exact ⟨h1, h2, h4, h5, kAt_eq h6 hW he, h7⟩
theorem o_rows (hH : ∀ i, i < n → gW (gRow H i)) (hn : n ≤ 4) (hW : gW S) : ∀ i, i < oN n → gW (gRow (gRecH H S (n : Int)) i) := by
  intro i hi
  unfold oN at hi
  unfold gRecH
  by_cases h4 : n = 4
  · rw [if_pos h4] at hi
    rw [if_pos (by omega)]
    by_cases h3 : i = 3
    · subst h3
      exact gW_eq hW gRow_at
    · exact gW_eq (hH (i + 1) (by omega)) (gEq_trans (gRow_ne h3) (gRow_sh (by omega)))
  · rw [if_neg h4] at hi
    rw [if_neg (by omega), Int.toNat_natCast]
    by_cases h3 : i = n
    · subst h3
      exact gW_eq hW gRow_at
    · exact gW_eq (hH i (by omega)) (gRow_ne h3)
/-- the latest state of the history behind an act -/
theorem o_last (hn : n ≤ 4) : gEq (gRow (gRecH H S (n : Int)) (oN n - 1)) S := by
  unfold gRecH oN
  by_cases h4 : n = 4
  · rw [if_pos (by omega), if_pos h4]; exact gRow_at
  · rw [if_neg (by omega), if_neg h4, Int.toNat_natCast]
    exact gRow_at
theorem o_act {w : Option cs_A} (h : kO x sh rm im S H n) (hW : gW S) (hW' : gW S') (hV : cs_in V)
    (hop : ∀ im1, kAt im1 (x + 1) S → ∃ im2, kAt im2 (x + 1) S' ∧ kFr im2 im1 (x + 1) ∧ cs_Det op (cs_R (x + 1) :: args) (sh, im1, rm) w (sh, im2, rm)) :
    ∃ im1 im2 im3 rm3, cs_Det iX1_copyFrom [cs_R (x + 47), cs_R (x + 1)] (sh, im, rm) none (sh, im1, rm) ∧ cs_Det op (cs_R (x + 1) :: args) (sh, im1, rm) w (sh, im2, rm) ∧ cs_Det iX7_recorded [cs_R x, .inl V] (sh, im2, rm) (some (.inl V)) (sh, im3, rm3) ∧
      kO x sh rm3 im3 S' (if 0 ≤ V then gRecH H S n else H) (if 0 ≤ V then oN n else n) ∧ oFr x im im3 rm rm3 := by
  obtain ⟨h1, ⟨Pm, h2, h3⟩, hHW, hn4, h4, h185⟩ := h
  have hc1 := h1.2.2.1
  have hc47 := h1.2.2.2.1
  obtain ⟨im1, g1, g2, g3⟩ := h1_copy (rm := rm) hc47 hc1 (by omega) h4 hW
  have h4' : kAt im1 (x + 1) S := kAt_fr h4 hW g2 (by omega)
  obtain ⟨im2, b1, b2, b3⟩ := hop im1 h4'
  have e2 : ∀ a, a < x + 1 ∨ x + 93 ≤ a → im2 a = im a := fun a ha => by rw [b2 a (by omega), g2 a (by omega)]
  have k47 : kAt im2 (x + 47) S := kAt_fr g1 hW b2 (by omega)
  have hH2 : oHi x im2 Pm H n := fun i hi => by
    have := (h2.1 i (by omega)).2
    exact kRel_cells (h3 i hi) (hHW i hi) (fun d hd => e2 _ (by omega))
  obtain ⟨im3, rm3, P3, c1, c2, c3, c4, c5, cr, c6⟩ := o7_recorded (im := im2) h1 h2 (n := n) (by rw [e2 (x + 185) (by omega)]; exact h185) hn4 hH2 hHW k47 hW V hV
  have eN := oN_eq hn4
  refine ⟨im1, im2, im3, rm3, g3, b3, c6, ⟨c1, ⟨P3, c2, ?_⟩, ?_, ?_, ?_, ?_⟩, fun a ha => ⟨?_, cr a (by omega)⟩⟩
  · by_cases h0 : 0 ≤ V
    · rw [if_pos h0, if_pos h0] at c3 ⊢
      rw [← eN.1]
      exact c3
    · rw [if_neg h0, if_neg h0] at c3 ⊢
      exact c3
  · by_cases h0 : 0 ≤ V
    · rw [if_pos h0, if_pos h0]; exact o_rows hHW hn4 hW
    · rw [if_neg h0, if_neg h0]; exact hHW
  · by_cases h0 : 0 ≤ V
    · rw [if_pos h0]; unfold oN; split <;> omega
    · rw [if_neg h0]; exact hn4
  · exact kRel_cells b1 hW' (fun d hd => c4 _ (by omega))
  · rw [c5]
    by_cases h0 : 0 ≤ V
    · rw [if_pos h0, if_pos h0]; exact eN.2
    · rw [if_neg h0, if_neg h0]
  · rw [c4 a (by omega), e2 a (by omega)]
/-- one call of the object at x: its answer, its state behind it -/
def oStep (x : Nat) (sh : List (Nat × Nat × Nat)) (rm : Nat → Nat → Option Nat) (im : Nat → Nat → Int) (m : Nat) (args : List cs_A) (V : Int) (S' H' : Nat → Int) (n' : Nat) : Prop :=
  ∃ im' rm', cs_Det m (cs_R x :: args) (sh, im, rm) (some (.inl V)) (sh, im', rm') ∧ kO x sh rm' im' S' H' n' ∧ oFr x im im' rm rm'
theorem o_boat (h : kO x sh rm im S H n) (hW : gW S) (hI : kI S) (p f t d : Int) (hp : cs_in p) (hf : cs_in f) (ht : cs_in t) (hd : cs_in d) {V : Int} {S' : Nat → Int} (hV : V = if gEB S p f t d = 0 then S 150 else gEB S p f t d) (hS : S' = if gEB S p f t d = 0 then gCome S (gMany S) p f t d else S) (hW' : gW S') (hVi : cs_in V) :
    oStep x sh rm im iX7_boat [.inl p, .inl f, .inl t, .inl d] V S' (if 0 ≤ V then gRecH H S n else H) (if 0 ≤ V then oN n else n) := by
  have hL := h.1
  obtain ⟨im1, im2, im3, rm3, d1, d2, d3, hk, hfr⟩ := o_act (w := some (.inl V)) (op := iX1_comeBoat) (args := [.inl p, .inl f, .inl t, .inl d]) h hW hW' hVi (fun im1 h1 => by
    subst hS hV
    exact cs_lift hW' (t1_comeBoat (im := im1) (K := fun d => im1 (x + 1 + d)) hL.2.2.1 h1 hW hI p f t d hp hf ht hd))
  obtain ⟨⟨hs0, hs185, hs186⟩, ⟨r00, r01, r02, r04, r185⟩, ⟨c1, c2, c3, c5⟩⟩ := hL
  have ob : ∀ {im rm k}, k < 9 → cs_ob (sh, im, rm) x 7 k = True := fun hk => cs_ob_of hs0 hk
  have rc0 : ∀ {im rm}, cs_rc (sh, im, rm) x 7 = True := cs_rc_of hs0
  have rc1 : ∀ {im rm}, cs_rc (sh, im, rm) (x + 1) 1 = True := cs_rc_of c1.1.1
  have rc47 : ∀ {im rm}, cs_rc (sh, im, rm) (x + 47) 1 = True := cs_rc_of c2.1.1
  refine ⟨im3, rm3, ?_, hk, hfr⟩
  refine cs_run0 mX7_boat kX7_boat zX7_boat rfl rfl 20 (fun sc o => ?_)
  try simp (disch := omega) only [↓cs_pad0, ↓cs_pad1, ↓cs_pad2, ↓cs_q_iconst, ↓cs_q_bipush, ↓cs_q_sipush, ↓cs_q_ldc, ↓cs_q_fall, ↓cs_q_stop, ↓cs_q_iload_n0, ↓cs_q_aload_n0, ↓cs_q_istore_n0, ↓cs_q_astore_n0, ↓cs_q_iinc0, ↓cs_q_iload_n1, ↓cs_q_aload_n1, ↓cs_q_istore_n1, ↓cs_q_astore_n1, ↓cs_q_iinc1, ↓cs_q_iload_n2, ↓cs_q_aload_n2, ↓cs_q_istore_n2, ↓cs_q_astore_n2, ↓cs_q_iinc2, ↓cs_q_iload_n3, ↓cs_q_aload_n3, ↓cs_q_istore_n3, ↓cs_q_astore_n3, ↓cs_q_iinc3, ↓cs_q_iload4, ↓cs_q_aload4, ↓cs_q_istore4, ↓cs_q_astore4, ↓cs_q_iinc4, ↓cs_q_iload5, ↓cs_q_aload5, ↓cs_q_istore5, ↓cs_q_astore5, ↓cs_q_iinc5, ↓cs_q_iload6, ↓cs_q_aload6, ↓cs_q_istore6, ↓cs_q_astore6, ↓cs_q_iinc6, ↓cs_q_iload7, ↓cs_q_aload7, ↓cs_q_istore7, ↓cs_q_astore7, ↓cs_q_iinc7, ↓cs_q_aload_nZ0, ↓cs_q_astore_nZ0, ↓cs_q_aload_nZ1, ↓cs_q_astore_nZ1, ↓cs_q_aload_nZ2, ↓cs_q_astore_nZ2, ↓cs_q_aload_nZ3, ↓cs_q_astore_nZ3, ↓cs_q_aloadZ4, ↓cs_q_astoreZ4, ↓cs_q_aloadZ5, ↓cs_q_astoreZ5, ↓cs_q_aloadZ6, ↓cs_q_astoreZ6, ↓cs_q_aloadZ7, ↓cs_q_astoreZ7, ↓cs_q_null, ↓cs_q_ifnullR, ↓cs_q_ifnullZ, ↓cs_q_ifnonnullR, ↓cs_q_ifnonnullZ, ↓cs_q_aretZ, ↓cs_q_aload_nT, ↓cs_q_iadd, ↓cs_q_isub, ↓cs_q_imul, ↓cs_q_iand, ↓cs_q_ior, ↓cs_q_ishl, ↓cs_q_ishr, ↓cs_q_idiv, ↓cs_q_irem, ↓cs_q_iload8, ↓cs_q_istore8, ↓cs_q_iinc8, ↓cs_q_iload9, ↓cs_q_istore9, ↓cs_q_iinc9, ↓cs_q_iload10, ↓cs_q_istore10, ↓cs_q_iinc10, ↓cs_q_iload11, ↓cs_q_istore11, ↓cs_q_iinc11, ↓cs_q_iload12, ↓cs_q_istore12, ↓cs_q_iinc12, ↓cs_q_iload13, ↓cs_q_istore13, ↓cs_q_iinc13, ↓cs_q_iload14, ↓cs_q_istore14, ↓cs_q_iinc14, ↓cs_q_iload15, ↓cs_q_istore15, ↓cs_q_iinc15, ↓cs_q_iload16, ↓cs_q_istore16, ↓cs_q_iinc16, ↓cs_q_iload17, ↓cs_q_istore17, ↓cs_q_iinc17, ↓cs_q_iload18, ↓cs_q_istore18, ↓cs_q_iinc18, ↓cs_q_i2c, ↓cs_q_dup, ↓cs_q_pop, ↓cs_q_dup2, ↓cs_q_goto, ↓cs_q_if_eq, ↓cs_q_if_ne, ↓cs_q_if_lt, ↓cs_q_if_ge, ↓cs_q_if_gt, ↓cs_q_if_le, ↓cs_q_icmp_eq, ↓cs_q_icmp_ne, ↓cs_q_icmp_lt, ↓cs_q_icmp_ge, ↓cs_q_icmp_gt, ↓cs_q_icmp_le, ↓cs_q_table, ↓cs_q_lookup, ↓cs_q_getI, ↓cs_q_getR, ↓cs_q_putI, ↓cs_q_putZ, ↓cs_q_putR, ↓cs_q_gets, ↓cs_q_iald, ↓cs_q_taload, ↓cs_q_cald, ↓cs_q_iast, ↓cs_q_cast, ↓cs_q_aald, ↓cs_q_aast, ↓cs_q_tlen, ↓cs_q_alen, ↓cs_q_new, ↓cs_q_newa, ↓cs_q_anew, ↓cs_q_virt0, ↓cs_q_stat00, ↓cs_q_stat10, ↓cs_q_virt1, ↓cs_q_stat01, ↓cs_q_stat11, ↓cs_q_virt2, ↓cs_q_stat02, ↓cs_q_stat12, ↓cs_q_virt3, ↓cs_q_stat03, ↓cs_q_stat13, ↓cs_q_virt4, ↓cs_q_stat04, ↓cs_q_stat14, ↓cs_q_oinit, ↓cs_q_spec, ↓cs_q_max, ↓cs_q_min, ↓cs_q_copy, ↓cs_q_iret, ↓cs_q_zret, ↓cs_q_aret, ↓cs_q_vret, ↓cs_q_J, ↓cs_q_l8_0, ↓cs_q_l8_1, ↓cs_q_l8_2, ↓cs_q_l8_3, ↓cs_q_l8_4, ↓cs_q_l8_5, ↓cs_q_l8_6, rX7_boat, qX7_boat_0, true_and, and_true, true_or, or_true, Option.isSome_some, Option.getD_some, cs_bz, cs_bn, cs_bi, cs_bo, not_false_eq_true, not_true_eq_false, true_implies, false_implies, implies_true, Decidable.not_not, cs_em, cs_sw_c, cs_sw_n, false_or, or_false, false_and, and_false, cs_inT, Int.toNat_natCast, cs_tn0, cs_tn01, cs_tn1, cs_tn6, cs_tn11, cs_tn16, cs_tn21, cs_tn154, Int.reduceToNat, Int.reduceAdd, Int.reduceSub, Int.reduceNeg, Int.reduceLT, Int.reduceLE, Int.reduceEq, Nat.reduceAdd, ob, rc0, rc1, rc47, r00, r01]
  refine cs_goV d1 ?_
  try simp (disch := omega) only [↓cs_pad0, ↓cs_pad1, ↓cs_pad2, ↓cs_q_iconst, ↓cs_q_bipush, ↓cs_q_sipush, ↓cs_q_ldc, ↓cs_q_fall, ↓cs_q_stop, ↓cs_q_iload_n0, ↓cs_q_aload_n0, ↓cs_q_istore_n0, ↓cs_q_astore_n0, ↓cs_q_iinc0, ↓cs_q_iload_n1, ↓cs_q_aload_n1, ↓cs_q_istore_n1, ↓cs_q_astore_n1, ↓cs_q_iinc1, ↓cs_q_iload_n2, ↓cs_q_aload_n2, ↓cs_q_istore_n2, ↓cs_q_astore_n2, ↓cs_q_iinc2, ↓cs_q_iload_n3, ↓cs_q_aload_n3, ↓cs_q_istore_n3, ↓cs_q_astore_n3, ↓cs_q_iinc3, ↓cs_q_iload4, ↓cs_q_aload4, ↓cs_q_istore4, ↓cs_q_astore4, ↓cs_q_iinc4, ↓cs_q_iload5, ↓cs_q_aload5, ↓cs_q_istore5, ↓cs_q_astore5, ↓cs_q_iinc5, ↓cs_q_iload6, ↓cs_q_aload6, ↓cs_q_istore6, ↓cs_q_astore6, ↓cs_q_iinc6, ↓cs_q_iload7, ↓cs_q_aload7, ↓cs_q_istore7, ↓cs_q_astore7, ↓cs_q_iinc7, ↓cs_q_aload_nZ0, ↓cs_q_astore_nZ0, ↓cs_q_aload_nZ1, ↓cs_q_astore_nZ1, ↓cs_q_aload_nZ2, ↓cs_q_astore_nZ2, ↓cs_q_aload_nZ3, ↓cs_q_astore_nZ3, ↓cs_q_aloadZ4, ↓cs_q_astoreZ4, ↓cs_q_aloadZ5, ↓cs_q_astoreZ5, ↓cs_q_aloadZ6, ↓cs_q_astoreZ6, ↓cs_q_aloadZ7, ↓cs_q_astoreZ7, ↓cs_q_null, ↓cs_q_ifnullR, ↓cs_q_ifnullZ, ↓cs_q_ifnonnullR, ↓cs_q_ifnonnullZ, ↓cs_q_aretZ, ↓cs_q_aload_nT, ↓cs_q_iadd, ↓cs_q_isub, ↓cs_q_imul, ↓cs_q_iand, ↓cs_q_ior, ↓cs_q_ishl, ↓cs_q_ishr, ↓cs_q_idiv, ↓cs_q_irem, ↓cs_q_iload8, ↓cs_q_istore8, ↓cs_q_iinc8, ↓cs_q_iload9, ↓cs_q_istore9, ↓cs_q_iinc9, ↓cs_q_iload10, ↓cs_q_istore10, ↓cs_q_iinc10, ↓cs_q_iload11, ↓cs_q_istore11, ↓cs_q_iinc11, ↓cs_q_iload12, ↓cs_q_istore12, ↓cs_q_iinc12, ↓cs_q_iload13, ↓cs_q_istore13, ↓cs_q_iinc13, ↓cs_q_iload14, ↓cs_q_istore14, ↓cs_q_iinc14, ↓cs_q_iload15, ↓cs_q_istore15, ↓cs_q_iinc15, ↓cs_q_iload16, ↓cs_q_istore16, ↓cs_q_iinc16, ↓cs_q_iload17, ↓cs_q_istore17, ↓cs_q_iinc17, ↓cs_q_iload18, ↓cs_q_istore18, ↓cs_q_iinc18, ↓cs_q_i2c, ↓cs_q_dup, ↓cs_q_pop, ↓cs_q_dup2, ↓cs_q_goto, ↓cs_q_if_eq, ↓cs_q_if_ne, ↓cs_q_if_lt, ↓cs_q_if_ge, ↓cs_q_if_gt, ↓cs_q_if_le, ↓cs_q_icmp_eq, ↓cs_q_icmp_ne, ↓cs_q_icmp_lt, ↓cs_q_icmp_ge, ↓cs_q_icmp_gt, ↓cs_q_icmp_le, ↓cs_q_table, ↓cs_q_lookup, ↓cs_q_getI, ↓cs_q_getR, ↓cs_q_putI, ↓cs_q_putZ, ↓cs_q_putR, ↓cs_q_gets, ↓cs_q_iald, ↓cs_q_taload, ↓cs_q_cald, ↓cs_q_iast, ↓cs_q_cast, ↓cs_q_aald, ↓cs_q_aast, ↓cs_q_tlen, ↓cs_q_alen, ↓cs_q_new, ↓cs_q_newa, ↓cs_q_anew, ↓cs_q_virt0, ↓cs_q_stat00, ↓cs_q_stat10, ↓cs_q_virt1, ↓cs_q_stat01, ↓cs_q_stat11, ↓cs_q_virt2, ↓cs_q_stat02, ↓cs_q_stat12, ↓cs_q_virt3, ↓cs_q_stat03, ↓cs_q_stat13, ↓cs_q_virt4, ↓cs_q_stat04, ↓cs_q_stat14, ↓cs_q_oinit, ↓cs_q_spec, ↓cs_q_max, ↓cs_q_min, ↓cs_q_copy, ↓cs_q_iret, ↓cs_q_zret, ↓cs_q_aret, ↓cs_q_vret, ↓cs_q_J, ↓cs_q_l8_0, ↓cs_q_l8_1, ↓cs_q_l8_2, ↓cs_q_l8_3, ↓cs_q_l8_4, ↓cs_q_l8_5, ↓cs_q_l8_6, rX7_boat, qX7_boat_0, true_and, and_true, true_or, or_true, Option.isSome_some, Option.getD_some, cs_bz, cs_bn, cs_bi, cs_bo, not_false_eq_true, not_true_eq_false, true_implies, false_implies, implies_true, Decidable.not_not, cs_em, cs_sw_c, cs_sw_n, false_or, or_false, false_and, and_false, cs_inT, Int.toNat_natCast, cs_tn0, cs_tn01, cs_tn1, cs_tn6, cs_tn11, cs_tn16, cs_tn21, cs_tn154, Int.reduceToNat, Int.reduceAdd, Int.reduceSub, Int.reduceNeg, Int.reduceLT, Int.reduceLE, Int.reduceEq, Nat.reduceAdd, ob, rc0, rc1, rc47, r00, r01]
  refine cs_goI d2 ?_
  try simp (disch := omega) only [↓cs_pad0, ↓cs_pad1, ↓cs_pad2, ↓cs_q_iconst, ↓cs_q_bipush, ↓cs_q_sipush, ↓cs_q_ldc, ↓cs_q_fall, ↓cs_q_stop, ↓cs_q_iload_n0, ↓cs_q_aload_n0, ↓cs_q_istore_n0, ↓cs_q_astore_n0, ↓cs_q_iinc0, ↓cs_q_iload_n1, ↓cs_q_aload_n1, ↓cs_q_istore_n1, ↓cs_q_astore_n1, ↓cs_q_iinc1, ↓cs_q_iload_n2, ↓cs_q_aload_n2, ↓cs_q_istore_n2, ↓cs_q_astore_n2, ↓cs_q_iinc2, ↓cs_q_iload_n3, ↓cs_q_aload_n3, ↓cs_q_istore_n3, ↓cs_q_astore_n3, ↓cs_q_iinc3, ↓cs_q_iload4, ↓cs_q_aload4, ↓cs_q_istore4, ↓cs_q_astore4, ↓cs_q_iinc4, ↓cs_q_iload5, ↓cs_q_aload5, ↓cs_q_istore5, ↓cs_q_astore5, ↓cs_q_iinc5, ↓cs_q_iload6, ↓cs_q_aload6, ↓cs_q_istore6, ↓cs_q_astore6, ↓cs_q_iinc6, ↓cs_q_iload7, ↓cs_q_aload7, ↓cs_q_istore7, ↓cs_q_astore7, ↓cs_q_iinc7, ↓cs_q_aload_nZ0, ↓cs_q_astore_nZ0, ↓cs_q_aload_nZ1, ↓cs_q_astore_nZ1, ↓cs_q_aload_nZ2, ↓cs_q_astore_nZ2, ↓cs_q_aload_nZ3, ↓cs_q_astore_nZ3, ↓cs_q_aloadZ4, ↓cs_q_astoreZ4, ↓cs_q_aloadZ5, ↓cs_q_astoreZ5, ↓cs_q_aloadZ6, ↓cs_q_astoreZ6, ↓cs_q_aloadZ7, ↓cs_q_astoreZ7, ↓cs_q_null, ↓cs_q_ifnullR, ↓cs_q_ifnullZ, ↓cs_q_ifnonnullR, ↓cs_q_ifnonnullZ, ↓cs_q_aretZ, ↓cs_q_aload_nT, ↓cs_q_iadd, ↓cs_q_isub, ↓cs_q_imul, ↓cs_q_iand, ↓cs_q_ior, ↓cs_q_ishl, ↓cs_q_ishr, ↓cs_q_idiv, ↓cs_q_irem, ↓cs_q_iload8, ↓cs_q_istore8, ↓cs_q_iinc8, ↓cs_q_iload9, ↓cs_q_istore9, ↓cs_q_iinc9, ↓cs_q_iload10, ↓cs_q_istore10, ↓cs_q_iinc10, ↓cs_q_iload11, ↓cs_q_istore11, ↓cs_q_iinc11, ↓cs_q_iload12, ↓cs_q_istore12, ↓cs_q_iinc12, ↓cs_q_iload13, ↓cs_q_istore13, ↓cs_q_iinc13, ↓cs_q_iload14, ↓cs_q_istore14, ↓cs_q_iinc14, ↓cs_q_iload15, ↓cs_q_istore15, ↓cs_q_iinc15, ↓cs_q_iload16, ↓cs_q_istore16, ↓cs_q_iinc16, ↓cs_q_iload17, ↓cs_q_istore17, ↓cs_q_iinc17, ↓cs_q_iload18, ↓cs_q_istore18, ↓cs_q_iinc18, ↓cs_q_i2c, ↓cs_q_dup, ↓cs_q_pop, ↓cs_q_dup2, ↓cs_q_goto, ↓cs_q_if_eq, ↓cs_q_if_ne, ↓cs_q_if_lt, ↓cs_q_if_ge, ↓cs_q_if_gt, ↓cs_q_if_le, ↓cs_q_icmp_eq, ↓cs_q_icmp_ne, ↓cs_q_icmp_lt, ↓cs_q_icmp_ge, ↓cs_q_icmp_gt, ↓cs_q_icmp_le, ↓cs_q_table, ↓cs_q_lookup, ↓cs_q_getI, ↓cs_q_getR, ↓cs_q_putI, ↓cs_q_putZ, ↓cs_q_putR, ↓cs_q_gets, ↓cs_q_iald, ↓cs_q_taload, ↓cs_q_cald, ↓cs_q_iast, ↓cs_q_cast, ↓cs_q_aald, ↓cs_q_aast, ↓cs_q_tlen, ↓cs_q_alen, ↓cs_q_new, ↓cs_q_newa, ↓cs_q_anew, ↓cs_q_virt0, ↓cs_q_stat00, ↓cs_q_stat10, ↓cs_q_virt1, ↓cs_q_stat01, ↓cs_q_stat11, ↓cs_q_virt2, ↓cs_q_stat02, ↓cs_q_stat12, ↓cs_q_virt3, ↓cs_q_stat03, ↓cs_q_stat13, ↓cs_q_virt4, ↓cs_q_stat04, ↓cs_q_stat14, ↓cs_q_oinit, ↓cs_q_spec, ↓cs_q_max, ↓cs_q_min, ↓cs_q_copy, ↓cs_q_iret, ↓cs_q_zret, ↓cs_q_aret, ↓cs_q_vret, ↓cs_q_J, ↓cs_q_l8_0, ↓cs_q_l8_1, ↓cs_q_l8_2, ↓cs_q_l8_3, ↓cs_q_l8_4, ↓cs_q_l8_5, ↓cs_q_l8_6, rX7_boat, qX7_boat_0, true_and, and_true, true_or, or_true, Option.isSome_some, Option.getD_some, cs_bz, cs_bn, cs_bi, cs_bo, not_false_eq_true, not_true_eq_false, true_implies, false_implies, implies_true, Decidable.not_not, cs_em, cs_sw_c, cs_sw_n, false_or, or_false, false_and, and_false, cs_inT, Int.toNat_natCast, cs_tn0, cs_tn01, cs_tn1, cs_tn6, cs_tn11, cs_tn16, cs_tn21, cs_tn154, Int.reduceToNat, Int.reduceAdd, Int.reduceSub, Int.reduceNeg, Int.reduceLT, Int.reduceLE, Int.reduceEq, Nat.reduceAdd, ob, rc0, rc1, rc47, r00, r01]
  refine cs_goI d3 ?_
  try simp (disch := omega) only [↓cs_pad0, ↓cs_pad1, ↓cs_pad2, ↓cs_q_iconst, ↓cs_q_bipush, ↓cs_q_sipush, ↓cs_q_ldc, ↓cs_q_fall, ↓cs_q_stop, ↓cs_q_iload_n0, ↓cs_q_aload_n0, ↓cs_q_istore_n0, ↓cs_q_astore_n0, ↓cs_q_iinc0, ↓cs_q_iload_n1, ↓cs_q_aload_n1, ↓cs_q_istore_n1, ↓cs_q_astore_n1, ↓cs_q_iinc1, ↓cs_q_iload_n2, ↓cs_q_aload_n2, ↓cs_q_istore_n2, ↓cs_q_astore_n2, ↓cs_q_iinc2, ↓cs_q_iload_n3, ↓cs_q_aload_n3, ↓cs_q_istore_n3, ↓cs_q_astore_n3, ↓cs_q_iinc3, ↓cs_q_iload4, ↓cs_q_aload4, ↓cs_q_istore4, ↓cs_q_astore4, ↓cs_q_iinc4, ↓cs_q_iload5, ↓cs_q_aload5, ↓cs_q_istore5, ↓cs_q_astore5, ↓cs_q_iinc5, ↓cs_q_iload6, ↓cs_q_aload6, ↓cs_q_istore6, ↓cs_q_astore6, ↓cs_q_iinc6, ↓cs_q_iload7, ↓cs_q_aload7, ↓cs_q_istore7, ↓cs_q_astore7, ↓cs_q_iinc7, ↓cs_q_aload_nZ0, ↓cs_q_astore_nZ0, ↓cs_q_aload_nZ1, ↓cs_q_astore_nZ1, ↓cs_q_aload_nZ2, ↓cs_q_astore_nZ2, ↓cs_q_aload_nZ3, ↓cs_q_astore_nZ3, ↓cs_q_aloadZ4, ↓cs_q_astoreZ4, ↓cs_q_aloadZ5, ↓cs_q_astoreZ5, ↓cs_q_aloadZ6, ↓cs_q_astoreZ6, ↓cs_q_aloadZ7, ↓cs_q_astoreZ7, ↓cs_q_null, ↓cs_q_ifnullR, ↓cs_q_ifnullZ, ↓cs_q_ifnonnullR, ↓cs_q_ifnonnullZ, ↓cs_q_aretZ, ↓cs_q_aload_nT, ↓cs_q_iadd, ↓cs_q_isub, ↓cs_q_imul, ↓cs_q_iand, ↓cs_q_ior, ↓cs_q_ishl, ↓cs_q_ishr, ↓cs_q_idiv, ↓cs_q_irem, ↓cs_q_iload8, ↓cs_q_istore8, ↓cs_q_iinc8, ↓cs_q_iload9, ↓cs_q_istore9, ↓cs_q_iinc9, ↓cs_q_iload10, ↓cs_q_istore10, ↓cs_q_iinc10, ↓cs_q_iload11, ↓cs_q_istore11, ↓cs_q_iinc11, ↓cs_q_iload12, ↓cs_q_istore12, ↓cs_q_iinc12, ↓cs_q_iload13, ↓cs_q_istore13, ↓cs_q_iinc13, ↓cs_q_iload14, ↓cs_q_istore14, ↓cs_q_iinc14, ↓cs_q_iload15, ↓cs_q_istore15, ↓cs_q_iinc15, ↓cs_q_iload16, ↓cs_q_istore16, ↓cs_q_iinc16, ↓cs_q_iload17, ↓cs_q_istore17, ↓cs_q_iinc17, ↓cs_q_iload18, ↓cs_q_istore18, ↓cs_q_iinc18, ↓cs_q_i2c, ↓cs_q_dup, ↓cs_q_pop, ↓cs_q_dup2, ↓cs_q_goto, ↓cs_q_if_eq, ↓cs_q_if_ne, ↓cs_q_if_lt, ↓cs_q_if_ge, ↓cs_q_if_gt, ↓cs_q_if_le, ↓cs_q_icmp_eq, ↓cs_q_icmp_ne, ↓cs_q_icmp_lt, ↓cs_q_icmp_ge, ↓cs_q_icmp_gt, ↓cs_q_icmp_le, ↓cs_q_table, ↓cs_q_lookup, ↓cs_q_getI, ↓cs_q_getR, ↓cs_q_putI, ↓cs_q_putZ, ↓cs_q_putR, ↓cs_q_gets, ↓cs_q_iald, ↓cs_q_taload, ↓cs_q_cald, ↓cs_q_iast, ↓cs_q_cast, ↓cs_q_aald, ↓cs_q_aast, ↓cs_q_tlen, ↓cs_q_alen, ↓cs_q_new, ↓cs_q_newa, ↓cs_q_anew, ↓cs_q_virt0, ↓cs_q_stat00, ↓cs_q_stat10, ↓cs_q_virt1, ↓cs_q_stat01, ↓cs_q_stat11, ↓cs_q_virt2, ↓cs_q_stat02, ↓cs_q_stat12, ↓cs_q_virt3, ↓cs_q_stat03, ↓cs_q_stat13, ↓cs_q_virt4, ↓cs_q_stat04, ↓cs_q_stat14, ↓cs_q_oinit, ↓cs_q_spec, ↓cs_q_max, ↓cs_q_min, ↓cs_q_copy, ↓cs_q_iret, ↓cs_q_zret, ↓cs_q_aret, ↓cs_q_vret, ↓cs_q_J, ↓cs_q_l8_0, ↓cs_q_l8_1, ↓cs_q_l8_2, ↓cs_q_l8_3, ↓cs_q_l8_4, ↓cs_q_l8_5, ↓cs_q_l8_6, rX7_boat, qX7_boat_0, true_and, and_true, true_or, or_true, Option.isSome_some, Option.getD_some, cs_bz, cs_bn, cs_bi, cs_bo, not_false_eq_true, not_true_eq_false, true_implies, false_implies, implies_true, Decidable.not_not, cs_em, cs_sw_c, cs_sw_n, false_or, or_false, false_and, and_false, cs_inT, Int.toNat_natCast, cs_tn0, cs_tn01, cs_tn1, cs_tn6, cs_tn11, cs_tn16, cs_tn21, cs_tn154, Int.reduceToNat, Int.reduceAdd, Int.reduceSub, Int.reduceNeg, Int.reduceLT, Int.reduceLE, Int.reduceEq, Nat.reduceAdd, ob, rc0, rc1, rc47, r00, r01]
end
