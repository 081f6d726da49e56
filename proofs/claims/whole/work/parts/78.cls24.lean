section
variable {sh : List (Nat × Nat × Nat)} {rm : Nat → Nat → Option Nat} {im : Nat → Nat → Int} {R R' T X S : Nat → Int} {L : Int} {a t k q : Nat} {v x p e f g h e' f' g' h' : Int} {sc : Nat × (Nat → Int)} {o : Nat × Nat} {Q : Option cs_A → cs_H → Prop}
/-- what is read does not hang on what was there before -/
theorem gOne_ind : gOne R T L x e f g h 12 = gOne R' T L x e' f' g' h' 12 ∧ gOne R T L x e f g h 13 = gOne R' T L x e' f' g' h' 13 ∧ gOne R T L x e f g h 14 = gOne R' T L x e' f' g' h' 14 ∧ gOne R T L x e f g h 15 = gOne R' T L x e' f' g' h' 15 := by
  unfold gOne
  by_cases z1 : gLet T L x = 98
  · simp only [if_pos z1, cs_8_12, cs_8_13, cs_8_14, cs_8_15, and_self]
  · by_cases z2 : gLet T L x = 114
    · simp only [if_neg z1, if_pos z2, cs_8_12, cs_8_13, cs_8_14, cs_8_15, and_self]
    · by_cases z3 : gLet T L x = 120
      · simp only [if_neg z1, if_neg z2, if_pos z3, cs_8_12, cs_8_13, cs_8_14, cs_8_15, and_self]
      · by_cases z4 : gLet T L x = 46
        · simp only [if_neg z1, if_neg z2, if_neg z3, if_pos z4, cs_8_12, cs_8_13, cs_8_14, cs_8_15, and_self]
        · simp only [if_neg z1, if_neg z2, if_neg z3, if_neg z4, cs_8_12, cs_8_13, cs_8_14, cs_8_15, and_self]
theorem gOne_ind2 (hc : gOne R T L x e f g h 14 = 98 ∨ gOne R T L x e f g h 14 = 114) : gOne R T L x e f g h 16 = gOne R' T L x e' f' g' h' 16 ∧ gOne R T L x e f g h 17 = gOne R' T L x e' f' g' h' 17 ∧ gOne R T L x e f g h 18 = gOne R' T L x e' f' g' h' 18 := by
  unfold gOne at hc ⊢
  by_cases z1 : gLet T L x = 98
  · simp only [if_pos z1, cs_8_16, cs_8_17, cs_8_18, and_self]
  · by_cases z2 : gLet T L x = 114
    · simp only [if_neg z1, if_pos z2, cs_8_16, cs_8_17, cs_8_18, and_self]
    · by_cases z3 : gLet T L x = 120
      · simp only [if_neg z1, if_neg z2, if_pos z3, cs_8_14] at hc
        omega
      · by_cases z4 : gLet T L x = 46
        · simp only [if_neg z1, if_neg z2, if_neg z3, if_pos z4, cs_8_14] at hc
          omega
        · simp only [if_neg z1, if_neg z2, if_neg z3, if_neg z4, cs_8_14] at hc
          omega
def kO (T : Nat → Int) (L x : Int) : Nat → Int := gOne (fun _ => 0) T L x 0 0 0 0
/-- the thing X is what stands at x -/
def kThO (X T : Nat → Int) (L x : Int) : Prop := kThing X (kO T L x 14) (kO T L x 15) (kO T L x 16) (kO T L x 17) (kO T L x 18)
theorem kThO_of (hk : kThing X (gOne R T L x e f g h 14) (gOne R T L x e f g h 15) (gOne R T L x e f g h 16) (gOne R T L x e f g h 17) (gOne R T L x e f g h 18)) : kThO X T L x := by
  obtain ⟨i12, i13, i14, i15⟩ := gOne_ind (R := R) (R' := fun _ => 0) (T := T) (L := L) (x := x) (e := e) (f := f) (g := g) (h := h) (e' := 0) (f' := 0) (g' := 0) (h' := 0)
  unfold kThO kO
  unfold kThing at hk ⊢
  rcases hk with ⟨hc, h0, h1, h2, h3, h4⟩ | ⟨hc, h0, h5⟩ | ⟨hc, h0, h6⟩
  · obtain ⟨j16, j17, j18⟩ := gOne_ind2 (R' := fun _ => 0) (e' := 0) (f' := 0) (g' := 0) (h' := 0) hc
    exact Or.inl ⟨by rw [← i14]; exact hc, h0, h1.trans i15, h2.trans j16, h3.trans j17, h4.trans j18⟩
  · exact Or.inr (Or.inl ⟨i14.symm.trans hc, h0, h5.trans i15⟩)
  · exact Or.inr (Or.inr ⟨i14.symm.trans hc, h0, h6.trans i15⟩)
theorem kThO_to (hk : kThO X T L x) : kThing X (gOne R T L x e f g h 14) (gOne R T L x e f g h 15) (gOne R T L x e f g h 16) (gOne R T L x e f g h 17) (gOne R T L x e f g h 18) := by
  obtain ⟨i12, i13, i14, i15⟩ := gOne_ind (R' := R) (R := fun _ => 0) (T := T) (L := L) (x := x) (e' := e) (f' := f) (g' := g) (h' := h) (e := 0) (f := 0) (g := 0) (h := 0)
  unfold kThO kO at hk
  unfold kThing at hk ⊢
  rcases hk with ⟨hc, h0, h1, h2, h3, h4⟩ | ⟨hc, h0, h5⟩ | ⟨hc, h0, h6⟩
  · obtain ⟨j16, j17, j18⟩ := gOne_ind2 (R' := R) (e' := e) (f' := f) (g' := g) (h' := h) hc
    exact Or.inl ⟨by rw [← i14]; exact hc, h0, h1.trans i15, h2.trans j16, h3.trans j17, h4.trans j18⟩
  · exact Or.inr (Or.inl ⟨i14.symm.trans hc, h0, h5.trans i15⟩)
  · exact Or.inr (Or.inr ⟨i14.symm.trans hc, h0, h6.trans i15⟩)
theorem gWayA_adv (hb : gWayB T L x 0 = 0) : x + 1 ≤ gWayA T L x 0 := by
  by_cases z : gIs T L x 0 48 53
  · have h1 := (gTk_y z).1
    have h2 : gTkA T L x 0 48 53 ≤ gW2A T L x 0 := gTkA_ge
    have h3 : gW2A T L x 0 ≤ gW3A T L x 0 := gTkA_ge
    have h4 : gW3A T L x 0 ≤ gW4A T L x 0 := gTkA_ge
    have h5 : gW4A T L x 0 ≤ gWayA T L x 0 := gNmA_ge
    omega
  · obtain ⟨a1, b1⟩ := gTk_n z
    have eB : gWayB T L x 0 = 1 := by unfold gWayB gW4B gW4A gW3B gW3A gW2B gW2A; simp only [a1, b1, gTk_1.1, gTk_1.2, gNm_1.2]
    omega
theorem kO_adv (hx : gTx T L) (hp : 0 ≤ p ∧ p ≤ L) (h0 : kO T L p 13 = 0) : p + 2 ≤ kO T L p 12 := by
  unfold kO gOne at h0 ⊢
  by_cases z1 : gLet T L p = 98
  · simp only [if_pos z1, cs_8_12, cs_8_13] at h0 ⊢
    have := gWayA_adv h0
    omega
  · by_cases z2 : gLet T L p = 114
    · simp only [if_neg z1, if_pos z2, cs_8_12, cs_8_13] at h0 ⊢
      by_cases z : gIs T L (p + 1) 0 50 54
      · have h1 := (gTk_y z).1
        have h2 : gTkA T L (p + 1) 0 50 54 ≤ gR2A T L (p + 1) 0 := gTkA_ge
        have h3 : gR2A T L (p + 1) 0 ≤ gWayA T L (gR2A T L (p + 1) 0) (gR2B T L (p + 1) 0) := gWayA_ge
        omega
      · obtain ⟨a1, b1⟩ := gTk_n z
        have e2 : gR2B T L (p + 1) 0 = 1 := by unfold gR2B; rw [a1, b1, gTk_1.2]
        rw [e2, gWay_1.2] at h0
        exact absurd h0 (by decide)
    · by_cases z3 : gLet T L p = 120
      · simp only [if_neg z1, if_neg z2, if_pos z3, cs_8_12, cs_8_13] at h0 ⊢
        by_cases z : gIs T L (p + 1) 0 48 52
        · rw [(gTk_y z).1]; omega
        · rw [(gTk_n z).2] at h0
          exact absurd h0 (by decide)
      · by_cases z4 : gLet T L p = 46
        · simp only [if_neg z1, if_neg z2, if_neg z3, if_pos z4, cs_8_12, cs_8_13] at h0 ⊢
          by_cases z : gIs T L (p + 1) 0 49 57
          · obtain ⟨b, hb⟩ : ∃ b : Nat, p + 1 = b := ⟨(p + 1).toNat, by omega⟩
            rw [hb] at z ⊢
            have hk := kRN_num (T := T) (L := L) (a := b) (hi := 99) (by decide) (by decide)
            rw [if_pos z] at hk
            have hr := kDg_r (T := T) (L := L) (a := b)
            have h2 : (gNmA T L (b : Int) 0 99).toNat = (kRN T L 1 99 b).2 := by rw [hk]
            have h3 : b + 1 ≤ (kRN T L 1 99 b).2 := by
              unfold kRN
              split
              · rename_i w
                have : (kRN T L 1 99 b).1 = -1 := by unfold kRN; rw [if_pos w]
                have h4 : gNmV T L (b : Int) 0 99 = -1 := by have h5 : (kRN T L 1 99 b).1 = gNmV T L (b : Int) 0 99 := by rw [hk]
                                                             omega
                have := gNmV_pos z hx (by omega) (show (9 : Int) ≤ 99 ∧ (99 : Int) ≤ 99 by decide)
                omega
              · split
                · exact Nat.le_refl _
                · show b + 1 ≤ b + 2; omega
            omega
          · rw [(gNm_0 (most := 99) z).2] at h0
            exact absurd h0 (by decide)
        · simp only [if_neg z1, if_neg z2, if_neg z3, if_neg z4, cs_8_12, cs_8_13] at h0
          exact absurd h0 (by decide)
/-- r things stand in Z from i on, the first of them at x -/
def kPs (T : Nat → Int) (L : Int) (Z : Nat → Nat → Int) : Nat → Nat → Int → Prop
  | 0, _, _ => False
  | r + 1, i, x => kO T L x 13 = 0 ∧ kThO (Z i) T L x ∧ ((r = 0 ∧ ¬ kO T L x 12 < L) ∨ (kO T L x 12 < L ∧ gIs T L (kO T L x 12) 0 59 59 ∧ kPs T L Z r (i + 1) (kO T L x 12 + 1)))
theorem kPs_cong {Z Z' : Nat → Nat → Int} : ∀ (r i : Nat) (x : Int), (∀ j, i ≤ j → Z' j = Z j) → kPs T L Z r i x → kPs T L Z' r i x
  | 0, _, _, _, h => h
  | r + 1, i, x, hz, h => by
    obtain ⟨h1, h2, h3⟩ := h
    refine ⟨h1, by rw [hz i (Nat.le_refl i)]; exact h2, ?_⟩
    rcases h3 with h3 | ⟨h3, h4, h5⟩
    · exact Or.inl h3
    · exact Or.inr ⟨h3, h4, kPs_cong r (i + 1) _ (fun j hj => hz j (by omega)) h5⟩
end
