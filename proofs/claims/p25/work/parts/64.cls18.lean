/-! THE CLASS: canals in a plain heap; rows that agree below 157 -/
section
variable {S S' E : Nat → Int} {K K' F : Nat → Nat → Int} {b k : Nat} {l u n : Int}
def gEq (S' S : Nat → Int) : Prop := ∀ k, k < 157 → S' k = S k
theorem gEq_F (h : gEq S' S) (hb : b < 16) {w : Nat} (hw : w < 8) : gF S' b w = gF S b w := h _ (by omega)
theorem gW_eq (hW : gW S) (h : gEq S' S) : gW S' := by
  obtain ⟨h1, h2, h3, h4, h5, h6, h7⟩ := hW
  unfold gW
  rw [h 150 (by decide), h 154 (by decide), h 155 (by decide), h 156 (by decide), h 149 (by decide), h 151 (by decide)]
  refine ⟨h1, fun k hk => by rw [h k (by omega)]; exact h2 k hk, fun k hk => by rw [h (6 + k) (by omega)]; exact h3 k hk, h4, h5, h6, fun b hb => ?_⟩
  have := h7 b hb
  have hb16 : b < 16 := by omega
  unfold gB at this ⊢
  rw [gEq_F h hb16 (by decide), gEq_F h hb16 (by decide), gEq_F h hb16 (by decide), gEq_F h hb16 (by decide), gEq_F h hb16 (by decide), gEq_F h hb16 (by decide), gEq_F h hb16 (by decide)]
  exact this
theorem kI_eq (hW : gW S) (hI : kI S) (h : gEq S' S) : kI S' := by
  have h150 := hW.1
  intro i hi
  rw [h 150 (by decide)] at hi
  have hb16 : i < 16 := by omega
  unfold gArr
  rw [gEq_F h hb16 (by decide), gEq_F h hb16 (by decide), gEq_F h hb16 (by decide), gEq_F h hb16 (by decide), gEq_F h hb16 (by decide), gEq_F h hb16 (by decide), h 151 (by decide)]
  exact hI i hi
theorem gV_eq (hV : gV S) (h : gEq S' S) : gV S' := by
  refine ⟨gW_eq hV.1 h, ?_, ?_⟩
  · rw [h 151 (by decide), h 150 (by decide), h 149 (by decide)]; exact hV.2.1
  · rw [h 149 (by decide)]; exact hV.2.2
theorem kRel_eq (hR : kRel K S) (hW : gW S) (h : gEq S' S) : kRel K S' := by
  obtain ⟨⟨c4, c5, c6, c7, c8, cw⟩, hd, hs, hl, hq, hbt⟩ := hR
  have h150 := hW.1
  have hsame : ∀ b : Nat, (b : Int) < S 150 → kSame S S' b := fun b hb => ⟨gEq_F h (by omega) (by decide), gEq_F h (by omega) (by decide), gEq_F h (by omega) (by decide), gEq_F h (by omega) (by decide)⟩
  refine ⟨⟨?_, ?_, ?_, ?_, ?_, ?_⟩, fun j hj => ?_, fun j hj => ?_, fun j hj => ?_, fun j hj => ?_, fun i hi => ?_⟩
  · rw [h 150 (by decide)]; exact c4
  · unfold gMany
    rw [h 150 (by decide), gArrN_same (S := S) _ (fun b hb => gEq_F h (by omega) (by decide))]; exact c5
  · rw [h 149 (by decide)]; exact c6
  · rw [h 152 (by decide)]; exact c7
  · rw [h 153 (by decide)]; exact c8
  · rw [gWat_same 11 (fun i hi => h i (by omega))]; exact cw
  · rw [h j (by omega)]; exact hd j hj
  · rw [h (154 + j) (by omega)]; exact hs j hj
  · rw [h (6 + j) (by omega), h (11 + j) (by omega), h (16 + j) (by omega)]; exact hl j hj
  · exact ⟨kQ_same (hq j hj).1 (h 150 (by decide)) hsame, kQ_same (hq j hj).2 (h 150 (by decide)) hsame⟩
  · rw [h 150 (by decide)] at hi
    have := hbt i hi
    have hb16 : i < 16 := by omega
    unfold kBoat at this ⊢
    rw [gEq_F h hb16 (by decide), gEq_F h hb16 (by decide), gEq_F h hb16 (by decide), gEq_F h hb16 (by decide), gEq_F h hb16 (by decide), gEq_F h hb16 (by decide), gEq_F h hb16 (by decide)]
    exact this
theorem kRel_cells (hR : kRel K S) (hW : gW S) (h : ∀ d, d < 46 → K' d = K d) : kRel K' S := by
  have h150 := hW.1
  have h4 := hR.1.1
  refine kRel_cp hR ⟨fun i _ _ => by rw [h 0 (by decide)], fun k _ => by rw [h 1 (by decide)], fun k _ => by rw [h 2 (by decide)], fun k hk => by rw [h _ (by omega)]; exact ⟨rfl, rfl, rfl⟩, fun k s hk hs => ⟨by rw [h _ (by omega)], fun i _ => by rw [h _ (by omega)]⟩, fun i hi w _ => by rw [h _ (by omega)]⟩
end
section
variable {sh : List (Nat × Nat × Nat)} {rm : Nat → Nat → Option Nat} {im im' : Nat → Nat → Int} {K K' F : Nat → Nat → Int} {S S' : Nat → Int} {c e k s i b q N M mi : Nat} {args : List cs_A} {v : Option cs_A} {j : Int} {sc : Nat × (Nat → Int)} {o : Nat × Nat} {Q : Option cs_A → cs_H → Prop}
/-- the canal at c is the row's -/
def kAt (im : Nat → Nat → Int) (c : Nat) (S : Nat → Int) : Prop := kRel (fun d => im (c + d)) S
/-- nothing but the canal at c changed -/
def kFr (im' im : Nat → Nat → Int) (c : Nat) : Prop := ∀ a, a < c ∨ c + 46 ≤ a → im' a = im a
theorem kAt_fr (h : kAt im e S) (hW : gW S) (hf : kFr im' im c) (hd : c + 46 ≤ e ∨ e + 46 ≤ c) : kAt im' e S :=
  kRel_cells h hW (fun d hd' => hf (e + d) (by omega))
theorem kAt_eq (h : kAt im e S) (hW : gW S) (he : gEq S' S) : kAt im e S' := kRel_eq h hW he
theorem cs_lift (hW : gW S') (h : ∃ K', kRel K' S' ∧ cs_Det mi args (sh, cs_put im c (fun d => im (c + d)), rm) v (sh, cs_put im c K', rm)) :
    ∃ im', kAt im' c S' ∧ kFr im' im c ∧ cs_Det mi args (sh, im, rm) v (sh, im', rm) := by
  obtain ⟨K', h1, h2⟩ := h
  rw [cs_put_self] at h2
  refine ⟨cs_put im c K', kRel_cells h1 hW (fun d hd => cs_put_at hd), fun a ha => ?_, h2⟩
  unfold cs_put
  rw [if_neg (by omega)]
theorem cs_same (h : cs_Det mi args (sh, cs_put im c (fun d => im (c + d)), rm) v (sh, cs_put im c (fun d => im (c + d)), rm)) : cs_Det mi args (sh, im, rm) v (sh, im, rm) := by
  rw [cs_put_self] at h
  exact h
theorem h1_copy (hc : cs_CA sh rm c) (he : cs_CA sh rm e) (hd : c + 46 ≤ e ∨ e + 46 ≤ c) (hR : kAt im e S) (hW : gW S) :
    ∃ im', kAt im' c S ∧ kFr im' im c ∧ cs_Det iX1_copyFrom [cs_R c, cs_R e] (sh, im, rm) none (sh, im', rm) :=
  cs_lift hW (t1_copyR hc he hd (fun _ _ => rfl) hR hW)
/-! the layout of the whole object -/
def cs_LB (sh : List (Nat × Nat × Nat)) (rm : Nat → Nat → Option Nat) : Prop :=
  (sh[0]? = some (0, 7, 9) ∧ sh[185]? = some (0, 2, 2) ∧ sh[186]? = some (2, 3, 4) ∧ sh[371]? = some (0, 6, 5) ∧ sh[372]? = some (1, 1, 60) ∧ sh[373]? = some (2, 5, 20)) ∧
  (rm 0 0 = some 1 ∧ rm 0 1 = some 47 ∧ rm 0 2 = some 93 ∧ rm 0 3 = some 139 ∧ rm 0 4 = some 185 ∧ rm 0 5 = some 371 ∧ rm 185 0 = some 186 ∧ rm 371 0 = some 372 ∧ rm 371 2 = some 373) ∧
  (cs_CA sh rm 1 ∧ cs_CA sh rm 47 ∧ cs_CA sh rm 93 ∧ cs_CA sh rm 139 ∧ ∀ i, i < 4 → cs_CA sh rm (187 + 46 * i)) ∧
  (∀ i, i < 20 → sh[374 + i]? = some (0, 5, 7) ∧ rm 373 i = some (374 + i)) ∧ cs_MA sh rm 394
/-- references but for the row 186 stay -/
theorem cs_CA_rm {rm' : Nat → Nat → Option Nat} (h : cs_CA sh rm c) (hr : ∀ a, ¬ a = 186 → rm' a = rm a) (hc : c + 46 ≤ 186 ∨ 187 ≤ c) : cs_CA sh rm' c := by
  obtain ⟨h1, h2, h3, h4, h5⟩ := h
  refine ⟨h1, ?_, h3, fun k hk => ?_, fun i hi => ?_⟩
  · rw [hr c (by omega)]; exact h2
  · rw [hr (c + 3) (by omega), hr (c + (5 + 5 * k)) (by omega), hr (c + (6 + 5 * k)) (by omega), hr (c + (8 + 5 * k)) (by omega)]; exact h4 k hk
  · rw [hr (c + 4) (by omega)]; exact h5 i hi
theorem cs_LB_rm {rm' : Nat → Nat → Option Nat} (h : cs_LB sh rm) (hr : ∀ a, ¬ a = 186 → rm' a = rm a) : cs_LB sh rm' := by
  obtain ⟨h1, h2, ⟨c1, c2, c3, c4, c5⟩, h4, h5⟩ := h
  refine ⟨h1, ?_, ⟨cs_CA_rm c1 hr (by omega), cs_CA_rm c2 hr (by omega), cs_CA_rm c3 hr (by omega), cs_CA_rm c4 hr (by omega), fun i hi => cs_CA_rm (c5 i hi) hr (by omega)⟩, fun i hi => ?_, h5.1, ?_⟩
  · rw [hr 0 (by decide), hr 185 (by decide), hr 371 (by decide)]; exact h2
  · rw [hr 373 (by decide)]; exact h4 i hi
  · have := h5.2
    rw [hr 394 (by decide)]; exact this
/-! history -/
/-- which canal is the i-th of the history -/
def kPm (rm : Nat → Nat → Option Nat) (P : Nat → Nat) : Prop := (∀ i, i < 4 → rm 186 i = some (187 + 46 * P i) ∧ P i < 4) ∧ ∀ i j, i < 4 → j < 4 → P i = P j → i = j
def gRow (H : Nat → Int) (i : Nat) : Nat → Int := fun k => H (157 * i + k)
def kHi (im : Nat → Nat → Int) (P : Nat → Nat) (H : Nat → Int) (n : Nat) : Prop := ∀ i, i < n → kAt im (187 + 46 * P i) (gRow H i)
def cs_rot (rm : Nat → Nat → Option Nat) (q0 q1 q2 q3 : Nat) : Nat → Nat → Option Nat := cs_u2 (cs_u2 (cs_u2 (cs_u2 rm 186 0 (some q1)) 186 1 (some q2)) 186 2 (some q3)) 186 3 (some q0)
theorem cs_rot_ne {q0 q1 q2 q3 a : Nat} (h : ¬ a = 186) : cs_rot rm q0 q1 q2 q3 a = rm a := by
  funext k
  unfold cs_rot cs_u2
  simp [h]
theorem cs_u2_row {f : Nat → Nat → Option Nat} {a x k j : Nat} {v : Option Nat} (h : ¬ x = a) : cs_u2 f a k v x j = f x j := by unfold cs_u2; simp [h]
theorem cs_u2_col {f : Nat → Nat → Option Nat} {a k j : Nat} {v : Option Nat} (h : ¬ j = k) : cs_u2 f a k v a j = f a j := by unfold cs_u2; simp [h]
theorem cs_u2_hit {f : Nat → Nat → Option Nat} {a k : Nat} {v : Option Nat} : cs_u2 f a k v a k = v := by unfold cs_u2; simp
theorem t2_drop (hL : cs_LB sh rm) {q0 q1 q2 q3 : Nat} (h0 : rm 186 0 = some q0) (h1 : rm 186 1 = some q1) (h2 : rm 186 2 = some q2) (h3 : rm 186 3 = some q3)
    (s0 : sh[q0]? = some (0, 1, 11)) (s1 : sh[q1]? = some (0, 1, 11)) (s2 : sh[q2]? = some (0, 1, 11)) (s3 : sh[q3]? = some (0, 1, 11)) :
    cs_Det iX2_dropOldest [cs_R 185] (sh, im, rm) none (sh, cs_us im 185 (cs_u1 (im 185) 1 (im 185 1 - 1)), cs_rot rm q0 q1 q2 q3) := by
  obtain ⟨⟨hs0, hs185, hs186, hs371, hs372, hs373⟩, ⟨r00, r01, r02, r03, r04, r05, r185, r371, r3712⟩, -⟩ := hL
  have ob : ∀ {im rm k}, k < 2 → cs_ob (sh, im, rm) 185 2 k = True := fun hk => cs_ob_of hs185 hk
  have ix : ∀ {im rm} {j : Int}, 0 ≤ j → j < 4 → cs_ix (sh, im, rm) 186 2 3 j = True := fun h0 h1 => eq_true ⟨4, hs186, by decide, h0, h1⟩
  have rc0 : ∀ {im rm}, cs_rc (sh, im, rm) q0 1 = True := cs_rc_of s0
  have rc1 : ∀ {im rm}, cs_rc (sh, im, rm) q1 1 = True := cs_rc_of s1
  have rc2 : ∀ {im rm}, cs_rc (sh, im, rm) q2 1 = True := cs_rc_of s2
  have rc3 : ∀ {im rm}, cs_rc (sh, im, rm) q3 1 = True := cs_rc_of s3
  refine cs_run0 mX2_dropOldest kX2_dropOldest zX2_dropOldest rfl rfl 9 (fun sc o => ?_)
  try simp (disch := omega) only [↓cs_pad0, ↓cs_pad1, ↓cs_pad2, ↓cs_q_iconst, ↓cs_q_bipush, ↓cs_q_sipush, ↓cs_q_ldc, ↓cs_q_fall, ↓cs_q_stop, ↓cs_q_iload_n0, ↓cs_q_aload_n0, ↓cs_q_istore_n0, ↓cs_q_astore_n0, ↓cs_q_iinc0, ↓cs_q_iload_n1, ↓cs_q_aload_n1, ↓cs_q_istore_n1, ↓cs_q_astore_n1, ↓cs_q_iinc1, ↓cs_q_iload_n2, ↓cs_q_aload_n2, ↓cs_q_istore_n2, ↓cs_q_astore_n2, ↓cs_q_iinc2, ↓cs_q_iload_n3, ↓cs_q_aload_n3, ↓cs_q_istore_n3, ↓cs_q_astore_n3, ↓cs_q_iinc3, ↓cs_q_iload4, ↓cs_q_aload4, ↓cs_q_istore4, ↓cs_q_astore4, ↓cs_q_iinc4, ↓cs_q_iload5, ↓cs_q_aload5, ↓cs_q_istore5, ↓cs_q_astore5, ↓cs_q_iinc5, ↓cs_q_iload6, ↓cs_q_aload6, ↓cs_q_istore6, ↓cs_q_astore6, ↓cs_q_iinc6, ↓cs_q_iload7, ↓cs_q_aload7, ↓cs_q_istore7, ↓cs_q_astore7, ↓cs_q_iinc7, ↓cs_q_aload_nZ0, ↓cs_q_astore_nZ0, ↓cs_q_aload_nZ1, ↓cs_q_astore_nZ1, ↓cs_q_aload_nZ2, ↓cs_q_astore_nZ2, ↓cs_q_aload_nZ3, ↓cs_q_astore_nZ3, ↓cs_q_aloadZ4, ↓cs_q_astoreZ4, ↓cs_q_aloadZ5, ↓cs_q_astoreZ5, ↓cs_q_aloadZ6, ↓cs_q_astoreZ6, ↓cs_q_aloadZ7, ↓cs_q_astoreZ7, ↓cs_q_null, ↓cs_q_ifnullR, ↓cs_q_ifnullZ, ↓cs_q_ifnonnullR, ↓cs_q_ifnonnullZ, ↓cs_q_aretZ, ↓cs_q_aload_nT, ↓cs_q_iadd, ↓cs_q_isub, ↓cs_q_imul, ↓cs_q_iand, ↓cs_q_ior, ↓cs_q_ishl, ↓cs_q_ishr, ↓cs_q_idiv, ↓cs_q_irem, ↓cs_q_iload8, ↓cs_q_istore8, ↓cs_q_iinc8, ↓cs_q_iload9, ↓cs_q_istore9, ↓cs_q_iinc9, ↓cs_q_iload10, ↓cs_q_istore10, ↓cs_q_iinc10, ↓cs_q_iload11, ↓cs_q_istore11, ↓cs_q_iinc11, ↓cs_q_iload12, ↓cs_q_istore12, ↓cs_q_iinc12, ↓cs_q_iload13, ↓cs_q_istore13, ↓cs_q_iinc13, ↓cs_q_iload14, ↓cs_q_istore14, ↓cs_q_iinc14, ↓cs_q_iload15, ↓cs_q_istore15, ↓cs_q_iinc15, ↓cs_q_iload16, ↓cs_q_istore16, ↓cs_q_iinc16, ↓cs_q_iload17, ↓cs_q_istore17, ↓cs_q_iinc17, ↓cs_q_iload18, ↓cs_q_istore18, ↓cs_q_iinc18, ↓cs_q_i2c, ↓cs_q_dup, ↓cs_q_pop, ↓cs_q_dup2, ↓cs_q_goto, ↓cs_q_if_eq, ↓cs_q_if_ne, ↓cs_q_if_lt, ↓cs_q_if_ge, ↓cs_q_if_gt, ↓cs_q_if_le, ↓cs_q_icmp_eq, ↓cs_q_icmp_ne, ↓cs_q_icmp_lt, ↓cs_q_icmp_ge, ↓cs_q_icmp_gt, ↓cs_q_icmp_le, ↓cs_q_table, ↓cs_q_lookup, ↓cs_q_getI, ↓cs_q_getR, ↓cs_q_putI, ↓cs_q_putZ, ↓cs_q_putR, ↓cs_q_gets, ↓cs_q_iald, ↓cs_q_taload, ↓cs_q_cald, ↓cs_q_iast, ↓cs_q_cast, ↓cs_q_aald, ↓cs_q_aast, ↓cs_q_tlen, ↓cs_q_alen, ↓cs_q_new, ↓cs_q_newa, ↓cs_q_anew, ↓cs_q_virt0, ↓cs_q_stat00, ↓cs_q_stat10, ↓cs_q_virt1, ↓cs_q_stat01, ↓cs_q_stat11, ↓cs_q_virt2, ↓cs_q_stat02, ↓cs_q_stat12, ↓cs_q_virt3, ↓cs_q_stat03, ↓cs_q_stat13, ↓cs_q_virt4, ↓cs_q_stat04, ↓cs_q_stat14, ↓cs_q_oinit, ↓cs_q_spec, ↓cs_q_max, ↓cs_q_min, ↓cs_q_copy, ↓cs_q_iret, ↓cs_q_zret, ↓cs_q_aret, ↓cs_q_vret, ↓cs_q_J, ↓cs_q_l8_0, ↓cs_q_l8_1, ↓cs_q_l8_2, ↓cs_q_l8_3, ↓cs_q_l8_4, ↓cs_q_l8_5, ↓cs_q_l8_6, rX2_dropOldest, qX2_dropOldest_0, qX2_dropOldest_1, qX2_dropOldest_2, qX2_dropOldest_3, true_and, and_true, true_or, or_true, Option.isSome_some, Option.getD_some, cs_bz, cs_bn, cs_bi, cs_bo, not_false_eq_true, not_true_eq_false, true_implies, false_implies, implies_true, Decidable.not_not, cs_em, cs_sw_c, cs_sw_n, false_or, or_false, false_and, and_false, cs_inT, Int.toNat_natCast, cs_tn0, cs_tn01, cs_tn1, cs_tn6, cs_tn11, cs_tn16, cs_tn21, cs_tn154, Int.reduceToNat, Int.reduceAdd, Int.reduceSub, Int.reduceNeg, Int.reduceLT, Int.reduceLE, Int.reduceEq, Nat.reduceAdd, ob, ix, rc0, rc1, rc2, rc3, r185, h0, h1, h2, h3]
  refine cs_enter kX2_dropOldest 3 (by decide) rfl 9 ?_
  try simp (disch := omega) only [↓cs_pad0, ↓cs_pad1, ↓cs_pad2, ↓cs_q_iconst, ↓cs_q_bipush, ↓cs_q_sipush, ↓cs_q_ldc, ↓cs_q_fall, ↓cs_q_stop, ↓cs_q_iload_n0, ↓cs_q_aload_n0, ↓cs_q_istore_n0, ↓cs_q_astore_n0, ↓cs_q_iinc0, ↓cs_q_iload_n1, ↓cs_q_aload_n1, ↓cs_q_istore_n1, ↓cs_q_astore_n1, ↓cs_q_iinc1, ↓cs_q_iload_n2, ↓cs_q_aload_n2, ↓cs_q_istore_n2, ↓cs_q_astore_n2, ↓cs_q_iinc2, ↓cs_q_iload_n3, ↓cs_q_aload_n3, ↓cs_q_istore_n3, ↓cs_q_astore_n3, ↓cs_q_iinc3, ↓cs_q_iload4, ↓cs_q_aload4, ↓cs_q_istore4, ↓cs_q_astore4, ↓cs_q_iinc4, ↓cs_q_iload5, ↓cs_q_aload5, ↓cs_q_istore5, ↓cs_q_astore5, ↓cs_q_iinc5, ↓cs_q_iload6, ↓cs_q_aload6, ↓cs_q_istore6, ↓cs_q_astore6, ↓cs_q_iinc6, ↓cs_q_iload7, ↓cs_q_aload7, ↓cs_q_istore7, ↓cs_q_astore7, ↓cs_q_iinc7, ↓cs_q_aload_nZ0, ↓cs_q_astore_nZ0, ↓cs_q_aload_nZ1, ↓cs_q_astore_nZ1, ↓cs_q_aload_nZ2, ↓cs_q_astore_nZ2, ↓cs_q_aload_nZ3, ↓cs_q_astore_nZ3, ↓cs_q_aloadZ4, ↓cs_q_astoreZ4, ↓cs_q_aloadZ5, ↓cs_q_astoreZ5, ↓cs_q_aloadZ6, ↓cs_q_astoreZ6, ↓cs_q_aloadZ7, ↓cs_q_astoreZ7, ↓cs_q_null, ↓cs_q_ifnullR, ↓cs_q_ifnullZ, ↓cs_q_ifnonnullR, ↓cs_q_ifnonnullZ, ↓cs_q_aretZ, ↓cs_q_aload_nT, ↓cs_q_iadd, ↓cs_q_isub, ↓cs_q_imul, ↓cs_q_iand, ↓cs_q_ior, ↓cs_q_ishl, ↓cs_q_ishr, ↓cs_q_idiv, ↓cs_q_irem, ↓cs_q_iload8, ↓cs_q_istore8, ↓cs_q_iinc8, ↓cs_q_iload9, ↓cs_q_istore9, ↓cs_q_iinc9, ↓cs_q_iload10, ↓cs_q_istore10, ↓cs_q_iinc10, ↓cs_q_iload11, ↓cs_q_istore11, ↓cs_q_iinc11, ↓cs_q_iload12, ↓cs_q_istore12, ↓cs_q_iinc12, ↓cs_q_iload13, ↓cs_q_istore13, ↓cs_q_iinc13, ↓cs_q_iload14, ↓cs_q_istore14, ↓cs_q_iinc14, ↓cs_q_iload15, ↓cs_q_istore15, ↓cs_q_iinc15, ↓cs_q_iload16, ↓cs_q_istore16, ↓cs_q_iinc16, ↓cs_q_iload17, ↓cs_q_istore17, ↓cs_q_iinc17, ↓cs_q_iload18, ↓cs_q_istore18, ↓cs_q_iinc18, ↓cs_q_i2c, ↓cs_q_dup, ↓cs_q_pop, ↓cs_q_dup2, ↓cs_q_goto, ↓cs_q_if_eq, ↓cs_q_if_ne, ↓cs_q_if_lt, ↓cs_q_if_ge, ↓cs_q_if_gt, ↓cs_q_if_le, ↓cs_q_icmp_eq, ↓cs_q_icmp_ne, ↓cs_q_icmp_lt, ↓cs_q_icmp_ge, ↓cs_q_icmp_gt, ↓cs_q_icmp_le, ↓cs_q_table, ↓cs_q_lookup, ↓cs_q_getI, ↓cs_q_getR, ↓cs_q_putI, ↓cs_q_putZ, ↓cs_q_putR, ↓cs_q_gets, ↓cs_q_iald, ↓cs_q_taload, ↓cs_q_cald, ↓cs_q_iast, ↓cs_q_cast, ↓cs_q_aald, ↓cs_q_aast, ↓cs_q_tlen, ↓cs_q_alen, ↓cs_q_new, ↓cs_q_newa, ↓cs_q_anew, ↓cs_q_virt0, ↓cs_q_stat00, ↓cs_q_stat10, ↓cs_q_virt1, ↓cs_q_stat01, ↓cs_q_stat11, ↓cs_q_virt2, ↓cs_q_stat02, ↓cs_q_stat12, ↓cs_q_virt3, ↓cs_q_stat03, ↓cs_q_stat13, ↓cs_q_virt4, ↓cs_q_stat04, ↓cs_q_stat14, ↓cs_q_oinit, ↓cs_q_spec, ↓cs_q_max, ↓cs_q_min, ↓cs_q_copy, ↓cs_q_iret, ↓cs_q_zret, ↓cs_q_aret, ↓cs_q_vret, ↓cs_q_J, ↓cs_q_l8_0, ↓cs_q_l8_1, ↓cs_q_l8_2, ↓cs_q_l8_3, ↓cs_q_l8_4, ↓cs_q_l8_5, ↓cs_q_l8_6, rX2_dropOldest, qX2_dropOldest_0, qX2_dropOldest_1, qX2_dropOldest_2, qX2_dropOldest_3, true_and, and_true, true_or, or_true, Option.isSome_some, Option.getD_some, cs_bz, cs_bn, cs_bi, cs_bo, not_false_eq_true, not_true_eq_false, true_implies, false_implies, implies_true, Decidable.not_not, cs_em, cs_sw_c, cs_sw_n, false_or, or_false, false_and, and_false, cs_inT, Int.toNat_natCast, cs_tn0, cs_tn01, cs_tn1, cs_tn6, cs_tn11, cs_tn16, cs_tn21, cs_tn154, Int.reduceToNat, Int.reduceAdd, Int.reduceSub, Int.reduceNeg, Int.reduceLT, Int.reduceLE, Int.reduceEq, Nat.reduceAdd, ob, ix, rc0, rc1, rc2, rc3, r185, h0, h1, h2, h3, cs_u2_row, cs_u2_col]
  refine cs_enter kX2_dropOldest 3 (by decide) rfl 9 ?_
  try simp (disch := omega) only [↓cs_pad0, ↓cs_pad1, ↓cs_pad2, ↓cs_q_iconst, ↓cs_q_bipush, ↓cs_q_sipush, ↓cs_q_ldc, ↓cs_q_fall, ↓cs_q_stop, ↓cs_q_iload_n0, ↓cs_q_aload_n0, ↓cs_q_istore_n0, ↓cs_q_astore_n0, ↓cs_q_iinc0, ↓cs_q_iload_n1, ↓cs_q_aload_n1, ↓cs_q_istore_n1, ↓cs_q_astore_n1, ↓cs_q_iinc1, ↓cs_q_iload_n2, ↓cs_q_aload_n2, ↓cs_q_istore_n2, ↓cs_q_astore_n2, ↓cs_q_iinc2, ↓cs_q_iload_n3, ↓cs_q_aload_n3, ↓cs_q_istore_n3, ↓cs_q_astore_n3, ↓cs_q_iinc3, ↓cs_q_iload4, ↓cs_q_aload4, ↓cs_q_istore4, ↓cs_q_astore4, ↓cs_q_iinc4, ↓cs_q_iload5, ↓cs_q_aload5, ↓cs_q_istore5, ↓cs_q_astore5, ↓cs_q_iinc5, ↓cs_q_iload6, ↓cs_q_aload6, ↓cs_q_istore6, ↓cs_q_astore6, ↓cs_q_iinc6, ↓cs_q_iload7, ↓cs_q_aload7, ↓cs_q_istore7, ↓cs_q_astore7, ↓cs_q_iinc7, ↓cs_q_aload_nZ0, ↓cs_q_astore_nZ0, ↓cs_q_aload_nZ1, ↓cs_q_astore_nZ1, ↓cs_q_aload_nZ2, ↓cs_q_astore_nZ2, ↓cs_q_aload_nZ3, ↓cs_q_astore_nZ3, ↓cs_q_aloadZ4, ↓cs_q_astoreZ4, ↓cs_q_aloadZ5, ↓cs_q_astoreZ5, ↓cs_q_aloadZ6, ↓cs_q_astoreZ6, ↓cs_q_aloadZ7, ↓cs_q_astoreZ7, ↓cs_q_null, ↓cs_q_ifnullR, ↓cs_q_ifnullZ, ↓cs_q_ifnonnullR, ↓cs_q_ifnonnullZ, ↓cs_q_aretZ, ↓cs_q_aload_nT, ↓cs_q_iadd, ↓cs_q_isub, ↓cs_q_imul, ↓cs_q_iand, ↓cs_q_ior, ↓cs_q_ishl, ↓cs_q_ishr, ↓cs_q_idiv, ↓cs_q_irem, ↓cs_q_iload8, ↓cs_q_istore8, ↓cs_q_iinc8, ↓cs_q_iload9, ↓cs_q_istore9, ↓cs_q_iinc9, ↓cs_q_iload10, ↓cs_q_istore10, ↓cs_q_iinc10, ↓cs_q_iload11, ↓cs_q_istore11, ↓cs_q_iinc11, ↓cs_q_iload12, ↓cs_q_istore12, ↓cs_q_iinc12, ↓cs_q_iload13, ↓cs_q_istore13, ↓cs_q_iinc13, ↓cs_q_iload14, ↓cs_q_istore14, ↓cs_q_iinc14, ↓cs_q_iload15, ↓cs_q_istore15, ↓cs_q_iinc15, ↓cs_q_iload16, ↓cs_q_istore16, ↓cs_q_iinc16, ↓cs_q_iload17, ↓cs_q_istore17, ↓cs_q_iinc17, ↓cs_q_iload18, ↓cs_q_istore18, ↓cs_q_iinc18, ↓cs_q_i2c, ↓cs_q_dup, ↓cs_q_pop, ↓cs_q_dup2, ↓cs_q_goto, ↓cs_q_if_eq, ↓cs_q_if_ne, ↓cs_q_if_lt, ↓cs_q_if_ge, ↓cs_q_if_gt, ↓cs_q_if_le, ↓cs_q_icmp_eq, ↓cs_q_icmp_ne, ↓cs_q_icmp_lt, ↓cs_q_icmp_ge, ↓cs_q_icmp_gt, ↓cs_q_icmp_le, ↓cs_q_table, ↓cs_q_lookup, ↓cs_q_getI, ↓cs_q_getR, ↓cs_q_putI, ↓cs_q_putZ, ↓cs_q_putR, ↓cs_q_gets, ↓cs_q_iald, ↓cs_q_taload, ↓cs_q_cald, ↓cs_q_iast, ↓cs_q_cast, ↓cs_q_aald, ↓cs_q_aast, ↓cs_q_tlen, ↓cs_q_alen, ↓cs_q_new, ↓cs_q_newa, ↓cs_q_anew, ↓cs_q_virt0, ↓cs_q_stat00, ↓cs_q_stat10, ↓cs_q_virt1, ↓cs_q_stat01, ↓cs_q_stat11, ↓cs_q_virt2, ↓cs_q_stat02, ↓cs_q_stat12, ↓cs_q_virt3, ↓cs_q_stat03, ↓cs_q_stat13, ↓cs_q_virt4, ↓cs_q_stat04, ↓cs_q_stat14, ↓cs_q_oinit, ↓cs_q_spec, ↓cs_q_max, ↓cs_q_min, ↓cs_q_copy, ↓cs_q_iret, ↓cs_q_zret, ↓cs_q_aret, ↓cs_q_vret, ↓cs_q_J, ↓cs_q_l8_0, ↓cs_q_l8_1, ↓cs_q_l8_2, ↓cs_q_l8_3, ↓cs_q_l8_4, ↓cs_q_l8_5, ↓cs_q_l8_6, rX2_dropOldest, qX2_dropOldest_0, qX2_dropOldest_1, qX2_dropOldest_2, qX2_dropOldest_3, true_and, and_true, true_or, or_true, Option.isSome_some, Option.getD_some, cs_bz, cs_bn, cs_bi, cs_bo, not_false_eq_true, not_true_eq_false, true_implies, false_implies, implies_true, Decidable.not_not, cs_em, cs_sw_c, cs_sw_n, false_or, or_false, false_and, and_false, cs_inT, Int.toNat_natCast, cs_tn0, cs_tn01, cs_tn1, cs_tn6, cs_tn11, cs_tn16, cs_tn21, cs_tn154, Int.reduceToNat, Int.reduceAdd, Int.reduceSub, Int.reduceNeg, Int.reduceLT, Int.reduceLE, Int.reduceEq, Nat.reduceAdd, ob, ix, rc0, rc1, rc2, rc3, r185, h0, h1, h2, h3, cs_u2_row, cs_u2_col]
  refine cs_enter kX2_dropOldest 3 (by decide) rfl 9 ?_
  try simp (disch := omega) only [↓cs_pad0, ↓cs_pad1, ↓cs_pad2, ↓cs_q_iconst, ↓cs_q_bipush, ↓cs_q_sipush, ↓cs_q_ldc, ↓cs_q_fall, ↓cs_q_stop, ↓cs_q_iload_n0, ↓cs_q_aload_n0, ↓cs_q_istore_n0, ↓cs_q_astore_n0, ↓cs_q_iinc0, ↓cs_q_iload_n1, ↓cs_q_aload_n1, ↓cs_q_istore_n1, ↓cs_q_astore_n1, ↓cs_q_iinc1, ↓cs_q_iload_n2, ↓cs_q_aload_n2, ↓cs_q_istore_n2, ↓cs_q_astore_n2, ↓cs_q_iinc2, ↓cs_q_iload_n3, ↓cs_q_aload_n3, ↓cs_q_istore_n3, ↓cs_q_astore_n3, ↓cs_q_iinc3, ↓cs_q_iload4, ↓cs_q_aload4, ↓cs_q_istore4, ↓cs_q_astore4, ↓cs_q_iinc4, ↓cs_q_iload5, ↓cs_q_aload5, ↓cs_q_istore5, ↓cs_q_astore5, ↓cs_q_iinc5, ↓cs_q_iload6, ↓cs_q_aload6, ↓cs_q_istore6, ↓cs_q_astore6, ↓cs_q_iinc6, ↓cs_q_iload7, ↓cs_q_aload7, ↓cs_q_istore7, ↓cs_q_astore7, ↓cs_q_iinc7, ↓cs_q_aload_nZ0, ↓cs_q_astore_nZ0, ↓cs_q_aload_nZ1, ↓cs_q_astore_nZ1, ↓cs_q_aload_nZ2, ↓cs_q_astore_nZ2, ↓cs_q_aload_nZ3, ↓cs_q_astore_nZ3, ↓cs_q_aloadZ4, ↓cs_q_astoreZ4, ↓cs_q_aloadZ5, ↓cs_q_astoreZ5, ↓cs_q_aloadZ6, ↓cs_q_astoreZ6, ↓cs_q_aloadZ7, ↓cs_q_astoreZ7, ↓cs_q_null, ↓cs_q_ifnullR, ↓cs_q_ifnullZ, ↓cs_q_ifnonnullR, ↓cs_q_ifnonnullZ, ↓cs_q_aretZ, ↓cs_q_aload_nT, ↓cs_q_iadd, ↓cs_q_isub, ↓cs_q_imul, ↓cs_q_iand, ↓cs_q_ior, ↓cs_q_ishl, ↓cs_q_ishr, ↓cs_q_idiv, ↓cs_q_irem, ↓cs_q_iload8, ↓cs_q_istore8, ↓cs_q_iinc8, ↓cs_q_iload9, ↓cs_q_istore9, ↓cs_q_iinc9, ↓cs_q_iload10, ↓cs_q_istore10, ↓cs_q_iinc10, ↓cs_q_iload11, ↓cs_q_istore11, ↓cs_q_iinc11, ↓cs_q_iload12, ↓cs_q_istore12, ↓cs_q_iinc12, ↓cs_q_iload13, ↓cs_q_istore13, ↓cs_q_iinc13, ↓cs_q_iload14, ↓cs_q_istore14, ↓cs_q_iinc14, ↓cs_q_iload15, ↓cs_q_istore15, ↓cs_q_iinc15, ↓cs_q_iload16, ↓cs_q_istore16, ↓cs_q_iinc16, ↓cs_q_iload17, ↓cs_q_istore17, ↓cs_q_iinc17, ↓cs_q_iload18, ↓cs_q_istore18, ↓cs_q_iinc18, ↓cs_q_i2c, ↓cs_q_dup, ↓cs_q_pop, ↓cs_q_dup2, ↓cs_q_goto, ↓cs_q_if_eq, ↓cs_q_if_ne, ↓cs_q_if_lt, ↓cs_q_if_ge, ↓cs_q_if_gt, ↓cs_q_if_le, ↓cs_q_icmp_eq, ↓cs_q_icmp_ne, ↓cs_q_icmp_lt, ↓cs_q_icmp_ge, ↓cs_q_icmp_gt, ↓cs_q_icmp_le, ↓cs_q_table, ↓cs_q_lookup, ↓cs_q_getI, ↓cs_q_getR, ↓cs_q_putI, ↓cs_q_putZ, ↓cs_q_putR, ↓cs_q_gets, ↓cs_q_iald, ↓cs_q_taload, ↓cs_q_cald, ↓cs_q_iast, ↓cs_q_cast, ↓cs_q_aald, ↓cs_q_aast, ↓cs_q_tlen, ↓cs_q_alen, ↓cs_q_new, ↓cs_q_newa, ↓cs_q_anew, ↓cs_q_virt0, ↓cs_q_stat00, ↓cs_q_stat10, ↓cs_q_virt1, ↓cs_q_stat01, ↓cs_q_stat11, ↓cs_q_virt2, ↓cs_q_stat02, ↓cs_q_stat12, ↓cs_q_virt3, ↓cs_q_stat03, ↓cs_q_stat13, ↓cs_q_virt4, ↓cs_q_stat04, ↓cs_q_stat14, ↓cs_q_oinit, ↓cs_q_spec, ↓cs_q_max, ↓cs_q_min, ↓cs_q_copy, ↓cs_q_iret, ↓cs_q_zret, ↓cs_q_aret, ↓cs_q_vret, ↓cs_q_J, ↓cs_q_l8_0, ↓cs_q_l8_1, ↓cs_q_l8_2, ↓cs_q_l8_3, ↓cs_q_l8_4, ↓cs_q_l8_5, ↓cs_q_l8_6, rX2_dropOldest, qX2_dropOldest_0, qX2_dropOldest_1, qX2_dropOldest_2, qX2_dropOldest_3, true_and, and_true, true_or, or_true, Option.isSome_some, Option.getD_some, cs_bz, cs_bn, cs_bi, cs_bo, not_false_eq_true, not_true_eq_false, true_implies, false_implies, implies_true, Decidable.not_not, cs_em, cs_sw_c, cs_sw_n, false_or, or_false, false_and, and_false, cs_inT, Int.toNat_natCast, cs_tn0, cs_tn01, cs_tn1, cs_tn6, cs_tn11, cs_tn16, cs_tn21, cs_tn154, Int.reduceToNat, Int.reduceAdd, Int.reduceSub, Int.reduceNeg, Int.reduceLT, Int.reduceLE, Int.reduceEq, Nat.reduceAdd, ob, ix, rc0, rc1, rc2, rc3, r185, h0, h1, h2, h3, cs_u2_row, cs_u2_col]
  refine cs_enter kX2_dropOldest 3 (by decide) rfl 9 ?_
  try simp (disch := omega) only [↓cs_pad0, ↓cs_pad1, ↓cs_pad2, ↓cs_q_iconst, ↓cs_q_bipush, ↓cs_q_sipush, ↓cs_q_ldc, ↓cs_q_fall, ↓cs_q_stop, ↓cs_q_iload_n0, ↓cs_q_aload_n0, ↓cs_q_istore_n0, ↓cs_q_astore_n0, ↓cs_q_iinc0, ↓cs_q_iload_n1, ↓cs_q_aload_n1, ↓cs_q_istore_n1, ↓cs_q_astore_n1, ↓cs_q_iinc1, ↓cs_q_iload_n2, ↓cs_q_aload_n2, ↓cs_q_istore_n2, ↓cs_q_astore_n2, ↓cs_q_iinc2, ↓cs_q_iload_n3, ↓cs_q_aload_n3, ↓cs_q_istore_n3, ↓cs_q_astore_n3, ↓cs_q_iinc3, ↓cs_q_iload4, ↓cs_q_aload4, ↓cs_q_istore4, ↓cs_q_astore4, ↓cs_q_iinc4, ↓cs_q_iload5, ↓cs_q_aload5, ↓cs_q_istore5, ↓cs_q_astore5, ↓cs_q_iinc5, ↓cs_q_iload6, ↓cs_q_aload6, ↓cs_q_istore6, ↓cs_q_astore6, ↓cs_q_iinc6, ↓cs_q_iload7, ↓cs_q_aload7, ↓cs_q_istore7, ↓cs_q_astore7, ↓cs_q_iinc7, ↓cs_q_aload_nZ0, ↓cs_q_astore_nZ0, ↓cs_q_aload_nZ1, ↓cs_q_astore_nZ1, ↓cs_q_aload_nZ2, ↓cs_q_astore_nZ2, ↓cs_q_aload_nZ3, ↓cs_q_astore_nZ3, ↓cs_q_aloadZ4, ↓cs_q_astoreZ4, ↓cs_q_aloadZ5, ↓cs_q_astoreZ5, ↓cs_q_aloadZ6, ↓cs_q_astoreZ6, ↓cs_q_aloadZ7, ↓cs_q_astoreZ7, ↓cs_q_null, ↓cs_q_ifnullR, ↓cs_q_ifnullZ, ↓cs_q_ifnonnullR, ↓cs_q_ifnonnullZ, ↓cs_q_aretZ, ↓cs_q_aload_nT, ↓cs_q_iadd, ↓cs_q_isub, ↓cs_q_imul, ↓cs_q_iand, ↓cs_q_ior, ↓cs_q_ishl, ↓cs_q_ishr, ↓cs_q_idiv, ↓cs_q_irem, ↓cs_q_iload8, ↓cs_q_istore8, ↓cs_q_iinc8, ↓cs_q_iload9, ↓cs_q_istore9, ↓cs_q_iinc9, ↓cs_q_iload10, ↓cs_q_istore10, ↓cs_q_iinc10, ↓cs_q_iload11, ↓cs_q_istore11, ↓cs_q_iinc11, ↓cs_q_iload12, ↓cs_q_istore12, ↓cs_q_iinc12, ↓cs_q_iload13, ↓cs_q_istore13, ↓cs_q_iinc13, ↓cs_q_iload14, ↓cs_q_istore14, ↓cs_q_iinc14, ↓cs_q_iload15, ↓cs_q_istore15, ↓cs_q_iinc15, ↓cs_q_iload16, ↓cs_q_istore16, ↓cs_q_iinc16, ↓cs_q_iload17, ↓cs_q_istore17, ↓cs_q_iinc17, ↓cs_q_iload18, ↓cs_q_istore18, ↓cs_q_iinc18, ↓cs_q_i2c, ↓cs_q_dup, ↓cs_q_pop, ↓cs_q_dup2, ↓cs_q_goto, ↓cs_q_if_eq, ↓cs_q_if_ne, ↓cs_q_if_lt, ↓cs_q_if_ge, ↓cs_q_if_gt, ↓cs_q_if_le, ↓cs_q_icmp_eq, ↓cs_q_icmp_ne, ↓cs_q_icmp_lt, ↓cs_q_icmp_ge, ↓cs_q_icmp_gt, ↓cs_q_icmp_le, ↓cs_q_table, ↓cs_q_lookup, ↓cs_q_getI, ↓cs_q_getR, ↓cs_q_putI, ↓cs_q_putZ, ↓cs_q_putR, ↓cs_q_gets, ↓cs_q_iald, ↓cs_q_taload, ↓cs_q_cald, ↓cs_q_iast, ↓cs_q_cast, ↓cs_q_aald, ↓cs_q_aast, ↓cs_q_tlen, ↓cs_q_alen, ↓cs_q_new, ↓cs_q_newa, ↓cs_q_anew, ↓cs_q_virt0, ↓cs_q_stat00, ↓cs_q_stat10, ↓cs_q_virt1, ↓cs_q_stat01, ↓cs_q_stat11, ↓cs_q_virt2, ↓cs_q_stat02, ↓cs_q_stat12, ↓cs_q_virt3, ↓cs_q_stat03, ↓cs_q_stat13, ↓cs_q_virt4, ↓cs_q_stat04, ↓cs_q_stat14, ↓cs_q_oinit, ↓cs_q_spec, ↓cs_q_max, ↓cs_q_min, ↓cs_q_copy, ↓cs_q_iret, ↓cs_q_zret, ↓cs_q_aret, ↓cs_q_vret, ↓cs_q_J, ↓cs_q_l8_0, ↓cs_q_l8_1, ↓cs_q_l8_2, ↓cs_q_l8_3, ↓cs_q_l8_4, ↓cs_q_l8_5, ↓cs_q_l8_6, rX2_dropOldest, qX2_dropOldest_0, qX2_dropOldest_1, qX2_dropOldest_2, qX2_dropOldest_3, true_and, and_true, true_or, or_true, Option.isSome_some, Option.getD_some, cs_bz, cs_bn, cs_bi, cs_bo, not_false_eq_true, not_true_eq_false, true_implies, false_implies, implies_true, Decidable.not_not, cs_em, cs_sw_c, cs_sw_n, false_or, or_false, false_and, and_false, cs_inT, Int.toNat_natCast, cs_tn0, cs_tn01, cs_tn1, cs_tn6, cs_tn11, cs_tn16, cs_tn21, cs_tn154, Int.reduceToNat, Int.reduceAdd, Int.reduceSub, Int.reduceNeg, Int.reduceLT, Int.reduceLE, Int.reduceEq, Nat.reduceAdd, ob, ix, rc0, rc1, rc2, rc3, r185, h0, h1, h2, h3, cs_u2_row, cs_u2_col]
  rw [cs_u2_us]
  exact rfl
end
