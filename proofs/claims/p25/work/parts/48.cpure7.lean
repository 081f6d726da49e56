section
variable {S S' E : Nat → Int} {K K' : Nat → Nat → Int} {k s b : Nat} {l u n : Int}
theorem kRel_blk (h : kRel K S) (hW : gW S) (hb : (b : Int) < S 150) (hk : k < 5)
    (sO : ∀ i, ¬ i = 11 + k → (i < 21 + 8 * b ∨ 29 + 8 * b ≤ i) → ¬ i = 151 → S' i = S i) (s11 : S' (11 + k) = S (11 + k) + 1)
    (e0 : ∀ i, ¬ i = 5 → K' 0 i = K 0 i) (eA : K' 0 5 = K 0 5 + (gArrN S' (gMany S) - gArrN S (gMany S)))
    (e1 : K' 1 = K 1) (e2 : K' 2 = K 2) (eL : K' (5 + 5 * k) = cs_u1 (K (5 + 5 * k)) 3 (K (5 + 5 * k) 3 + 1)) (eL' : ∀ j, j < 5 → ¬ j = k → K' (5 + 5 * j) = K (5 + 5 * j))
    (hB : kBoat (K' (30 + b)) S' b) (eB : ∀ i, i < 16 → ¬ i = b → K' (30 + i) = K (30 + i)) (hq : kQs K' S') : kRel K' S' := by
  obtain ⟨⟨c4, c5, c6, c7, c8, cw⟩, hd, hs, hl, _, hbt⟩ := h
  have h150 := hW.1
  have hb16 : b < 16 := by omega
  have s150 : S' 150 = S 150 := sO 150 (by omega) (by omega) (by omega)
  have sM : gMany S' = gMany S := by unfold gMany; rw [s150]
  refine ⟨⟨?_, ?_, ?_, ?_, ?_, ?_⟩, fun j hj => ?_, fun j hj => ?_, fun j hj => ?_, kQs_to hq, fun i hi => ?_⟩
  · rw [e0 4 (by decide), s150]; exact c4
  · rw [eA, sM]; omega
  · rw [e0 6 (by decide), sO 149 (by omega) (by omega) (by omega)]; exact c6
  · rw [e0 7 (by decide), sO 152 (by omega) (by omega) (by omega)]; exact c7
  · rw [e0 8 (by decide), sO 153 (by omega) (by omega) (by omega)]; exact c8
  · rw [e0 8 (by decide), e0 9 (by decide), e0 7 (by decide), e0 10 (by decide), gWat_same 11 (fun i hi => sO i (by omega) (by omega) (by omega))]; exact cw
  · rw [e1, sO j (by omega) (by omega) (by omega)]; exact hd j hj
  · rw [e2, sO (154 + j) (by omega) (by omega) (by omega)]; exact hs j hj
  · obtain ⟨l1, l2, l3⟩ := hl j hj
    rw [sO (6 + j) (by omega) (by omega) (by omega), sO (16 + j) (by omega) (by omega) (by omega)]
    by_cases hjk : j = k
    · subst hjk
      rw [eL, s11, cs_u1_ne (by decide), cs_u1_at, cs_u1_ne (by decide)]
      exact ⟨l1, by omega, l3⟩
    · rw [eL' j hj hjk, sO (11 + j) (by omega) (by omega) (by omega)]
      exact ⟨l1, l2, l3⟩
  · by_cases hib : i = b
    · subst hib; exact hB
    · have := hbt i (by omega)
      have hF : ∀ w, w < 8 → gF S' i w = gF S i w := fun w hw => sO _ (by omega) (by omega) (by omega)
      unfold kBoat at this ⊢
      rw [eB i (by omega) hib, hF 0 (by decide), hF 1 (by decide), hF 2 (by decide), hF 3 (by decide), hF 4 (by decide), hF 5 (by decide), hF 6 (by decide)]
      exact this
theorem gGo_out (hl : gLk S b = k) {i : Nat} (h1 : ¬ i = 11 + k) (h2 : i < 21 + 8 * b ∨ 29 + 8 * b ≤ i) (h3 : ¬ i = 151) : gGo S b i = S i := by
  unfold gGo gJoin gGo1
  rw [hl, Int.toNat_natCast]
  split
  · simp (disch := omega) only [cs_u1_ne]
  · split <;> simp (disch := omega) only [cs_u1_ne]
theorem gGo_11 (hl : gLk S b = k) (hk : k < 5) (hb : b < 16) : gGo S b (11 + k) = S (11 + k) + 1 := by
  unfold gGo gJoin gGo1
  rw [hl, Int.toNat_natCast]
  split
  · simp (disch := omega) only [cs_u1_ne, cs_u1_at]
  · split <;> simp (disch := omega) only [cs_u1_ne, cs_u1_at]
/-- the boat's numbers behind a passage -/
theorem gGo_A (hl : gLk S b = k) (hk : k < 5) (hb : b < 16) (h : S 155 < gF S b 0 - gF S b 4) :
    gF (gGo S b) b 0 = gF S b 0 ∧ gF (gGo S b) b 1 = gF S b 1 ∧ gF (gGo S b) b 2 = gF S b 2 ∧ gF (gGo S b) b 3 = gF S b 3 ∧ gF (gGo S b) b 4 = gF S b 4 + S 155 ∧ gF (gGo S b) b 5 = gF S b 5 ∧ gF (gGo S b) b 6 = gF S b 6 + 1 ∧ gF (gGo S b) b 7 = gF S b 7 ∧ gGo S b 151 = S 151 := by
  unfold gGo gGo1
  rw [hl, Int.toNat_natCast, if_pos h]
  unfold gF
  refine ⟨?_, ?_, ?_, ?_, ?_, ?_, ?_, ?_, ?_⟩ <;> simp (disch := omega) only [cs_u1_ne, cs_u1_at]
theorem gGo_B (hl : gLk S b = k) (hk : k < 5) (hb : b < 16) (h : ¬ S 155 < gF S b 0 - gF S b 4) (hg : gNx S b = gF S b 3) :
    gF (gGo S b) b 0 = gF S b 0 ∧ gF (gGo S b) b 1 = gF S b 1 ∧ gF (gGo S b) b 2 = gNx S b ∧ gF (gGo S b) b 3 = gF S b 3 ∧ gF (gGo S b) b 4 = 0 ∧ gF (gGo S b) b 5 = S 149 ∧ gF (gGo S b) b 6 = gF S b 6 + 1 ∧ gF (gGo S b) b 7 = gF S b 7 ∧ gGo S b 151 = S 151 := by
  obtain ⟨X, hX⟩ : ∃ X, gNx S b = X := ⟨_, rfl⟩
  unfold gGo gGo1
  rw [hl, Int.toNat_natCast, if_neg h, if_pos hg, hX]
  unfold gF
  refine ⟨?_, ?_, ?_, ?_, ?_, ?_, ?_, ?_, ?_⟩ <;> simp (disch := omega) only [cs_u1_ne, cs_u1_at]
theorem gGo_C (hl : gLk S b = k) (hk : k < 5) (hb : b < 16) (h : ¬ S 155 < gF S b 0 - gF S b 4) (hg : ¬ gNx S b = gF S b 3) :
    gF (gGo S b) b 0 = gF S b 0 ∧ gF (gGo S b) b 1 = gF S b 1 ∧ gF (gGo S b) b 2 = gNx S b ∧ gF (gGo S b) b 3 = gF S b 3 ∧ gF (gGo S b) b 4 = 0 ∧ gF (gGo S b) b 5 = gF S b 5 ∧ gF (gGo S b) b 6 = gF S b 6 + 1 ∧ gF (gGo S b) b 7 = S 151 ∧ gGo S b 151 = S 151 + 1 := by
  obtain ⟨X, hX⟩ : ∃ X, gNx S b = X := ⟨_, rfl⟩
  unfold gGo gGo1 gJoin
  rw [hl, Int.toNat_natCast, if_neg h, if_neg hg, hX]
  unfold gF
  refine ⟨?_, ?_, ?_, ?_, ?_, ?_, ?_, ?_, ?_⟩ <;> simp (disch := omega) only [cs_u1_ne, cs_u1_at]
theorem gGo_same (hl : gLk S b = k) (hk : k < 5) (hb : b < 16) : ∀ b' : Nat, b' < 16 → ¬ b' = b → ∀ w, w < 8 → gF (gGo S b) b' w = gF S b' w :=
  fun b' hb' hne w hw => gGo_out hl (by omega) (by omega) (by omega)
theorem kI_go (hW : gW S) (hI : kI S) (hb : (b : Int) < S 150) (hn : ¬ gArr S b) : kI (gGo S b) := by
  have hB := hW.2.2.2.2.2.2 b hb
  have h150 := hW.1
  have hs := hW.2.2.2.1
  obtain ⟨k, hk⟩ : ∃ k : Nat, gLk S b = k := ⟨(gLk S b).toNat, by have := gLk_range0 hB hn; omega⟩
  have hk5 := (gLk_pos hB hn hk).1
  have e150 : gGo S b 150 = S 150 := gGo_out hk (by omega) (by omega) (by omega)
  have h5 : gF S b 5 = -5 := Decidable.not_not.mp hn
  unfold gB at hB
  intro i hi
  rw [e150] at hi
  have h151 : S 151 ≤ gGo S b 151 := (gGo_151 (hW.2.2.2.2.2.2 b hb) hn (by omega)).1
  by_cases hib : i = b
  · subst hib
    have hIb := hI i hi
    unfold gArr
    by_cases h : S 155 < gF S i 0 - gF S i 4
    · obtain ⟨a0, a1, a2, a3, a4, a5, a6, a7, a8⟩ := gGo_A hk hk5 (by omega) h
      rw [a0, a2, a3, a4, a5, a7, a8]
      exact ⟨hIb.1, by omega, hIb.2.2⟩
    · by_cases hg : gNx S i = gF S i 3
      · obtain ⟨a0, a1, a2, a3, a4, a5, a6, a7, a8⟩ := gGo_B hk hk5 (by omega) h hg
        rw [a0, a2, a3, a4, a5, a7, a8]
        exact ⟨fun _ => hg, by omega, hIb.2.2⟩
      · obtain ⟨a0, a1, a2, a3, a4, a5, a6, a7, a8⟩ := gGo_C hk hk5 (by omega) h hg
        rw [a0, a2, a3, a4, a5, a7, a8]
        exact ⟨fun z => absurd h5 z, by omega, by omega⟩
  · have hF := gGo_same hk hk5 (b := b) (by omega) i (by omega) hib
    have := hI i hi
    unfold gArr
    rw [hF 0 (by decide), hF 2 (by decide), hF 3 (by decide), hF 4 (by decide), hF 5 (by decide), hF 7 (by decide)]
    exact ⟨this.1, this.2.1, by omega⟩
end
