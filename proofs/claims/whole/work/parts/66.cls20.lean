/-! THE CLASS: the whole object against the reference's rows R S H P T -/
section
variable {sh : List (Nat × Nat × Nat)} {rm rm' : Nat → Nat → Option Nat} {im im' : Nat → Nat → Int} {R S S' H P T R' H' P' T' : Nat → Int} {c e k s i b q n N M mi op : Nat} {args : List cs_A} {v : Option cs_A} {V : Int} {j : Int} {sc : Nat × (Nat → Int)} {o : Nat × Nat} {Q : Option cs_A → cs_H → Prop}
def kInv (sh : List (Nat × Nat × Nat)) (rm : Nat → Nat → Option Nat) (im : Nat → Nat → Int) (R S H P T : Nat → Int) : Prop :=
  cs_LB sh rm ∧ (∃ Pm, kPm rm Pm ∧ kHi im Pm H (R 3).toNat) ∧ kAt im 1 S ∧ (R 5 = 1 → kAt im 139 P) ∧ (im 185 1 = R 3 ∧ im 0 6 = R 5 ∧ im 0 7 = R 8 ∧ im 0 8 = R 9 ∧ im 371 1 = R 7) ∧ ∀ k, k < 60 → im 372 k = T k
def gAll (R S H P T : Nat → Int) : Prop :=
  (gV S ∧ kI S) ∧ (0 ≤ R 3 ∧ R 3 ≤ 4) ∧ (∀ i : Nat, (i : Int) < R 3 → gV (gRow H i) ∧ kI (gRow H i)) ∧ (R 5 = 0 ∨ R 5 = 1) ∧ (R 5 = 1 → gV P ∧ kI P) ∧ gTx T (R 7) ∧ (R 10 = -5 ∧ cs_in (R 11)) ∧ gWy (R 16) (R 17) (R 18)
def kLI (sh : List (Nat × Nat × Nat)) (rm : Nat → Nat → Option Nat) (im : Nat → Nat → Int) : Prop := kInv sh rm im (im 394) (im 395) (im 397) (im 398) (im 399) ∧ gAll (im 394) (im 395) (im 397) (im 398) (im 399)
theorem kAt_low (h : kAt im c S) (hW : gW S) (hf : ∀ a, a < 394 → im' a = im a) (hc : c + 46 ≤ 394) : kAt im' c S := kRel_cells h hW (fun d hd => hf _ (by omega))
theorem kInv_fr (h : kInv sh rm im R S H P T) (hA : gAll R S H P T) (hf : ∀ a, a < 394 → im' a = im a) : kInv sh rm im' R S H P T := by
  obtain ⟨h1, ⟨Pm, h2, h3⟩, h4, h5, h6, h7⟩ := h
  obtain ⟨⟨a1, a2⟩, a3, a4, a5, a6, a7, a8, a9⟩ := hA
  refine ⟨h1, ⟨Pm, h2, fun i hi => ?_⟩, kAt_low h4 a1.1 hf (by decide), fun z => kAt_low (h5 z) (a6 z).1.1 hf (by decide), ?_, ?_⟩
  · have := (h2.1 i (by omega)).2
    exact kAt_low (h3 i hi) (a4 i (by omega)).1.1 hf (by omega)
  · rw [hf 185 (by decide), hf 0 (by decide), hf 371 (by decide)]; exact h6
  · rw [hf 372 (by decide)]; exact h7
/-- rows that agree where they are looked at -/
theorem kInv_rows (h : kInv sh rm im R S H P T) (hA : gAll R S H P T) (r3 : R' 3 = R 3) (r5 : R' 5 = R 5) (r7 : R' 7 = R 7) (r8 : R' 8 = R 8) (r9 : R' 9 = R 9) (hS : gEq S' S) : kInv sh rm im R' S' H P T := by
  obtain ⟨h1, ⟨Pm, h2, h3⟩, h4, h5, h6, h7⟩ := h
  refine ⟨h1, ⟨Pm, h2, by rw [r3]; exact h3⟩, kAt_eq h4 hA.1.1.1 hS, by rw [r5]; exact h5, by rw [r3, r5, r7, r8, r9]; exact h6, h7⟩
theorem h7_act {w : Option cs_A} (h : kInv sh rm im R S H P T) (hA : gAll R S H P T) (hW' : gW S') (hV : cs_in V)
    (hop : ∀ im1, kAt im1 1 S → kFr im1 im 47 → ∃ im2, kAt im2 1 S' ∧ kFr im2 im1 1 ∧ cs_Det op (cs_R 1 :: args) (sh, im1, rm) w (sh, im2, rm)) :
    ∃ im1 im2 im3 rm3, cs_Det iX1_copyFrom [cs_R 47, cs_R 1] (sh, im, rm) none (sh, im1, rm) ∧ cs_Det op (cs_R 1 :: args) (sh, im1, rm) w (sh, im2, rm) ∧ cs_Det iX7_recorded [cs_R 0, .inl V] (sh, im2, rm) (some (.inl V)) (sh, im3, rm3) ∧
      kInv sh rm3 im3 (if 0 ≤ V then cs_u1 R 3 (gRecN (R 3)) else R) S' (if 0 ≤ V then gRecH H S (R 3) else H) P T ∧ (∀ a, 394 ≤ a → im3 a = im a) ∧ kAt im2 1 S' := by
  obtain ⟨h1, ⟨Pm, h2, h3⟩, h4, h5, ⟨h185, h06, h07, h08, h371⟩, h7⟩ := h
  obtain ⟨⟨a1, a2⟩, a3, a4, a5, a6, a7, a8, a9⟩ := hA
  have hc1 := h1.2.2.1.1
  have hc47 := h1.2.2.1.2.1
  obtain ⟨im1, g1, g2, g3⟩ := h1_copy (rm := rm) hc47 hc1 (by omega) h4 a1.1
  have h4' : kAt im1 1 S := kAt_fr h4 a1.1 g2 (by omega)
  obtain ⟨im2, b1, b2, b3⟩ := hop im1 h4' g2
  have e2 : ∀ a, 93 ≤ a ∨ a = 0 → im2 a = im a := fun a ha => by rw [b2 a (by omega), g2 a (by omega)]
  obtain ⟨n, hn⟩ : ∃ n : Nat, R 3 = n := ⟨(R 3).toNat, by omega⟩
  have hnN : (R 3).toNat = n := by omega
  have k47 : kAt im2 47 S := kAt_fr g1 a1.1 b2 (by omega)
  have hH2 : kHi im2 Pm H n := fun i hi => by
    have := (h2.1 i (by omega)).2
    exact kRel_cells (h3 i (by omega)) (a4 i (by omega)).1.1 (fun d hd => e2 _ (by omega))
  obtain ⟨im3, rm3, P3, c1, c2, c3, c4, c5, c6⟩ := h7_recorded (im := im2) h1 h2 (n := n) (by rw [e2 185 (by omega), h185, hn]) (by omega) hH2 (fun i hi => (a4 i (by omega)).1.1) k47 a1.1 V hV
  have e3 : ∀ a, 371 ≤ a ∨ a = 0 → im3 a = im a := fun a ha => by rw [c4 a (by omega), e2 a (by omega)]
  refine ⟨im1, im2, im3, rm3, g3, b3, c6, ⟨c1, ⟨P3, c2, ?_⟩, ?_, ?_, ?_, ?_⟩, fun a ha => e3 a (by omega), b1⟩
  · by_cases h0 : 0 ≤ V
    · rw [if_pos h0, if_pos h0] at c3 ⊢
      rw [cs_u1_at, hn]
      exact c3
    · rw [if_neg h0, if_neg h0] at c3 ⊢
      rw [hnN]
      exact c3
  · exact kRel_cells b1 hW' (fun d hd => c4 _ (by omega))
  · intro z
    have z' : R 5 = 1 := by
      by_cases h0 : 0 ≤ V
      · rw [if_pos h0, cs_u1_ne (by decide)] at z; exact z
      · rw [if_neg h0] at z; exact z
    exact kRel_cells (h5 z') (a6 z').1.1 (fun d hd => by
      show im3 (139 + d) = im (139 + d)
      rw [c4 _ (by omega), e2 _ (by omega)])
  · rw [c5, e3 0 (by omega), e3 371 (by omega), h06, h07, h08, h371]
    by_cases h0 : 0 ≤ V
    · rw [if_pos h0, if_pos h0, cs_u1_at, cs_u1_ne (by decide), cs_u1_ne (by decide), cs_u1_ne (by decide), cs_u1_ne (by decide), hn]
      exact ⟨rfl, rfl, rfl, rfl, rfl⟩
    · rw [if_neg h0, if_neg h0, hn]
      exact ⟨rfl, rfl, rfl, rfl, rfl⟩
  · rw [e3 372 (by omega)]; exact h7
/-- the reference's rows behind a record -/
theorem gAll_rec (hA : gAll R S H P T) (hV : gV S') (hI : kI S') : gAll (cs_u1 R 3 (gRecN (R 3))) S' (gRecH H S (R 3)) P T := by
  obtain ⟨⟨a1, a2⟩, a3, a4, a5, a6, a7, a8, a9⟩ := hA
  have e : ∀ k, ¬ k = 3 → cs_u1 R 3 (gRecN (R 3)) k = R k := fun k hk => cs_u1_ne hk
  refine ⟨⟨hV, hI⟩, ?_, fun i hi => ?_, ?_, ?_, ?_, ?_, ?_⟩
  · rw [cs_u1_at]; unfold gRecN; split <;> omega
  · rw [cs_u1_at] at hi
    unfold gRecN at hi
    unfold gRecH
    by_cases h4 : R 3 = 4
    · rw [if_pos h4] at hi
      rw [if_pos h4]
      by_cases h3 : i = 3
      · subst h3
        have hq : gEq (gRow (gPutH (gSh H) S 3) 3) S := gRow_at
        exact ⟨gV_eq a1 hq, kI_eq a1.1 a2 hq⟩
      · have hw := a4 (i + 1) (by omega)
        have hq : gEq (gRow (gPutH (gSh H) S 3) i) (gRow H (i + 1)) := gEq_trans (gRow_ne h3) (gRow_sh (by omega))
        exact ⟨gV_eq hw.1 hq, kI_eq hw.1.1 hw.2 hq⟩
    · rw [if_neg h4] at hi
      rw [if_neg h4]
      by_cases h3 : i = (R 3).toNat
      · subst h3
        have hq : gEq (gRow (gPutH H S (R 3).toNat) (R 3).toNat) S := gRow_at
        exact ⟨gV_eq a1 hq, kI_eq a1.1 a2 hq⟩
      · have hw := a4 i (by omega)
        have hq : gEq (gRow (gPutH H S (R 3).toNat) i) (gRow H i) := gRow_ne h3
        exact ⟨gV_eq hw.1 hq, kI_eq hw.1.1 hw.2 hq⟩
  · rw [e 5 (by decide)]; exact a5
  · rw [e 5 (by decide)]; exact a6
  · rw [e 7 (by decide)]; exact a7
  · rw [e 10 (by decide), e 11 (by decide)]; exact a8
  · rw [e 16 (by decide), e 17 (by decide), e 18 (by decide)]; exact a9
/-- both sides of an act: the class's, then the reference's rows -/
theorem kLI_act (h : kLI sh rm im) {im3 : Nat → Nat → Int} {rm3 : Nat → Nat → Option Nat} (hV' : gV S') (hI' : kI S')
    (hk : kInv sh rm3 im3 (if 0 ≤ V then cs_u1 (im 394) 3 (gRecN (im 394 3)) else im 394) S' (if 0 ≤ V then gRecH (im 397) (im 395) (im 394 3) else im 397) (im 398) (im 399)) (hf : ∀ a, 394 ≤ a → im3 a = im a) (hno : ¬ 0 ≤ V → S' = im 395) :
    kLI sh rm3 (if 0 ≤ V then cs_us (gRecI im3 394) (394 + 1) S' else im3) := by
  obtain ⟨hi, hA⟩ := h
  by_cases h0 : 0 ≤ V
  · rw [if_pos h0] at hk ⊢
    rw [if_pos h0] at hk
    have hA' := gAll_rec hA hV' hI'
    obtain ⟨im4, him⟩ : ∃ r, cs_us (gRecI im3 394) (394 + 1) S' = r := ⟨_, rfl⟩
    have e394 : im4 394 = cs_u1 (im 394) 3 (gRecN (im 394 3)) := by
      rw [← him, cs_us_ne (by decide)]; unfold gRecI
      rw [cs_us_at, hf 394 (by decide)]
    have e395 : im4 395 = S' := by rw [← him, cs_us_at]
    have e397 : im4 397 = gRecH (im 397) (im 395) (im 394 3) := by
      rw [← him, cs_us_ne (by decide)]; unfold gRecI
      rw [cs_us_ne (by decide), show (397 : Nat) = 394 + 3 from rfl, cs_us_at, hf _ (by decide), hf _ (by decide), hf _ (by decide)]
    have eo : ∀ a, ¬ a = 394 → ¬ a = 395 → ¬ a = 397 → im4 a = im3 a := fun a h1 h2 h3 => by
      rw [← him, cs_us_ne h2]; unfold gRecI
      rw [cs_us_ne h1, cs_us_ne h3]
    rw [him]
    unfold kLI
    rw [e394, e395, e397, eo 398 (by decide) (by decide) (by decide), eo 399 (by decide) (by decide) (by decide), hf 398 (by decide), hf 399 (by decide)]
    exact ⟨kInv_fr hk hA' (fun a ha => eo a (by omega) (by omega) (by omega)), hA'⟩
  · rw [if_neg h0] at hk ⊢
    rw [if_neg h0, hno h0] at hk
    unfold kLI
    rw [hf 394 (by decide), hf 395 (by decide), hf 397 (by decide), hf 398 (by decide), hf 399 (by decide)]
    exact ⟨hk, hA⟩
theorem kLI_eq {im : Nat → Nat → Int} (h : kLI sh rm (cs_us im (394 + 1) S)) (he : gEq S' S) : kLI sh rm (cs_us im (394 + 1) S') := by
  have e : ∀ a X, ¬ a = 395 → cs_us im (394 + 1) X a = im a := fun a X ha => cs_us_ne ha
  have f : ∀ X, cs_us im (394 + 1) X 395 = X := fun X => cs_us_at
  unfold kLI at h ⊢
  rw [e 394 S (by decide), e 397 S (by decide), e 398 S (by decide), e 399 S (by decide), f S] at h
  rw [e 394 S' (by decide), e 397 S' (by decide), e 398 S' (by decide), e 399 S' (by decide), f S']
  obtain ⟨hi, hA⟩ := h
  refine ⟨kInv_fr (im := cs_us im (394 + 1) S) (kInv_rows hi hA rfl rfl rfl rfl rfl he) ⟨⟨gV_eq hA.1.1 he, kI_eq hA.1.1.1 hA.1.2 he⟩, hA.2⟩ (fun a ha => by rw [e a S (by omega), e a S' (by omega)]), ⟨gV_eq hA.1.1 he, kI_eq hA.1.1.1 hA.1.2 he⟩, hA.2⟩
end
