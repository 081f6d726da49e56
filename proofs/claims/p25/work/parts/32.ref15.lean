/-! THE REFERENCE: the whole text read and done -/
/-- reads(): the object's row (h = 0 before it), how many things, and the row they leave -/
def gRd (D : Bool) (R T : Nat → Int) (L : Int) : Nat → Int → Int → Int → Int → Int → (Nat → Int) → (Nat → Int) × Int × (Nat → Int)
  | 0, n, _, _, _, _, S => (R, n, S)
  | k + 1, n, a, e, f, g, S =>
    if gOne R T L a e f g 0 13 = 0 ∧ (if D then gErr S (gOne R T L a e f g 0 14) (gOne R T L a e f g 0 15) (gOne R T L a e f g 0 16) (gOne R T L a e f g 0 17) (gOne R T L a e f g 0 18) else 0) = 0 then
      (if gOne R T L a e f g 0 12 < L then
        (if gIs T L (gOne R T L a e f g 0 12) 0 59 59 then gRd D R T L k (n + 1) (gOne R T L a e f g 0 12 + 1) (gOne R T L a e f g 0 16) (gOne R T L a e f g 0 17) (gOne R T L a e f g 0 18) (if D then gDo S (gOne R T L a e f g 0 14) (gOne R T L a e f g 0 15) (gOne R T L a e f g 0 16) (gOne R T L a e f g 0 17) (gOne R T L a e f g 0 18) else S)
        else (cs_u1 (gOne R T L a e f g 0) 13 1, n + 1, if D then gDo S (gOne R T L a e f g 0 14) (gOne R T L a e f g 0 15) (gOne R T L a e f g 0 16) (gOne R T L a e f g 0 17) (gOne R T L a e f g 0 18) else S))
      else (gOne R T L a e f g 0, n + 1, if D then gDo S (gOne R T L a e f g 0 14) (gOne R T L a e f g 0 15) (gOne R T L a e f g 0 16) (gOne R T L a e f g 0 17) (gOne R T L a e f g 0 18) else S))
    else (cs_u1 (gOne R T L a e f g 0) 19 (if D then gErr S (gOne R T L a e f g 0 14) (gOne R T L a e f g 0 15) (gOne R T L a e f g 0 16) (gOne R T L a e f g 0 17) (gOne R T L a e f g 0 18) else 0), n, S)
section
variable {sh : List (Nat × Nat × Nat)} {rm : Nat → Nat → Option Nat} {im : Nat → Nat → Int} {m : Nat} {S : Nat → Int} {sc : Nat × (Nat → Int)} {o : Nat × Nat} {Q : Option cs_A → cs_H → Prop} {R X Y T : Nat → Int} {L a b c d e f g h v : Int}
/-- what the numbers of a way hold -/
abbrev gWy (e f g : Int) : Prop := (0 ≤ e ∧ e ≤ 5) ∧ (0 ≤ f ∧ f ≤ 5) ∧ (0 ≤ g ∧ g ≤ 99)
theorem gTkA_ge {lo hi : Int} : a ≤ gTkA T L a b lo hi := by
  unfold gTkA; split <;> omega
theorem gNum_ge {most : Int} : ∀ (n : Nat) (v a : Int), a ≤ (gNum T L b most n v a).2
  | 0, _, _ => Int.le_refl _
  | n + 1, v, a => by
    unfold gNum
    split
    · have := gNum_ge (most := most) n (10 * v + T a.toNat - 48) (a + 1); omega
    · exact Int.le_refl _
theorem gNmA_ge {most : Int} : a ≤ gNmA T L a b most := by
  have h1 := gTkA_ge (T := T) (L := L) (a := a) (b := b) (lo := 49) (hi := 57)
  have h2 := gNum_ge (T := T) (L := L) (b := gTkB T L a b 49 57) (most := most) 60 (1 + gTkV T L a b 49 57) (gTkA T L a b 49 57)
  exact Int.le_trans h1 h2
theorem gWayA_ge : a ≤ gWayA T L a b := by
  have h1 := gTkA_ge (T := T) (L := L) (a := a) (b := b) (lo := 48) (hi := 53)
  have h2 : gTkA T L a b 48 53 ≤ gW2A T L a b := gTkA_ge
  have h3 : gW2A T L a b ≤ gW3A T L a b := gTkA_ge
  have h4 : gW3A T L a b ≤ gW4A T L a b := gTkA_ge
  have h5 : gW4A T L a b ≤ gWayA T L a b := gNmA_ge
  omega
theorem gOne_ok (hx : gTx T L) (ha : 0 ≤ a ∧ a ≤ L) (hy : gWy e f g) :
    ((0 ≤ gOne R T L a e f g h 12 ∧ gOne R T L a e f g h 12 ≤ L) ∧ a ≤ gOne R T L a e f g h 12) ∧ (gOne R T L a e f g h 13 = 0 ∨ gOne R T L a e f g h 13 = 1) ∧ (0 ≤ gOne R T L a e f g h 14 ∧ gOne R T L a e f g h 14 ≤ 65535) ∧ (0 ≤ gOne R T L a e f g h 15 ∧ gOne R T L a e f g h 15 ≤ 99) ∧ gWy (gOne R T L a e f g h 16) (gOne R T L a e f g h 17) (gOne R T L a e f g h 18) ∧ (gOne R T L a e f g h 13 = 0 → a < gOne R T L a e f g h 12) := by
  have hL := hx.1
  have hgl : 0 ≤ gLet T L a ∧ gLet T L a ≤ 65535 := by
    unfold gLet
    by_cases hq : a < L
    · rw [if_pos hq]; exact hx.2 _ (by omega)
    · rw [if_neg hq]; exact ⟨by decide, by decide⟩
  have hlt : ¬ gLet T L a = 0 → a < L := fun hq => by
    by_cases hq' : a < L
    · exact hq'
    · exact absurd (if_neg hq') hq
  unfold gOne
  by_cases h1 : gLet T L a = 98
  · simp only [if_pos h1]
    have ha1 : 0 ≤ a + 1 ∧ a + 1 ≤ L := by have := hlt (by omega); omega
    obtain ⟨k1, k2, k3, k4, k5⟩ := gWay_ok (b := 0) hx ha1
    have k6 := gWayA_ge (T := T) (L := L) (a := a + 1) (b := 0)
    exact ⟨⟨k1, by show a ≤ gWayA T L (a + 1) 0; omega⟩, k2, ⟨by show (0:Int) ≤ 98; decide, by show (98:Int) ≤ 65535; decide⟩, ⟨by show (0:Int) ≤ 1; decide, by show (1:Int) ≤ 99; decide⟩, ⟨k3, k4, k5⟩, fun _ => by show a < gWayA T L (a + 1) 0; omega⟩
  by_cases h2 : gLet T L a = 114
  · simp only [if_neg h1, if_pos h2]
    have ha1 : 0 ≤ a + 1 ∧ a + 1 ≤ L := by have := hlt (by omega); omega
    obtain ⟨a1, b1, c1⟩ := gTk_ok (T := T) (L := L) (b := 0) (lo := 50) (hi := 54) ha1
    have c1 := c1 (by decide)
    obtain ⟨a2, b2, c2⟩ := gTk_ok (T := T) (L := L) (b := gTkB T L (a + 1) 0 50 54) (lo := 58) (hi := 58) a1
    have g1 := gTkA_ge (T := T) (L := L) (a := a + 1) (b := 0) (lo := 50) (hi := 54)
    have g2 : gTkA T L (a + 1) 0 50 54 ≤ gR2A T L (a + 1) 0 := gTkA_ge
    obtain ⟨k1, k2, k3, k4, k5⟩ := gWay_ok (b := gR2B T L (a + 1) 0) hx (show 0 ≤ gR2A T L (a + 1) 0 ∧ gR2A T L (a + 1) 0 ≤ L from a2)
    have k6 := gWayA_ge (T := T) (L := L) (a := gR2A T L (a + 1) 0) (b := gR2B T L (a + 1) 0)
    exact ⟨⟨k1, by show a ≤ gWayA T L _ _; omega⟩, k2, ⟨by show (0:Int) ≤ 114; decide, by show (114:Int) ≤ 65535; decide⟩, ⟨by show 0 ≤ 2 + gTkV T L (a + 1) 0 50 54; omega, by show 2 + gTkV T L (a + 1) 0 50 54 ≤ 99; omega⟩, ⟨k3, k4, k5⟩, fun _ => by show a < gWayA T L _ _; omega⟩
  by_cases h3 : gLet T L a = 120
  · simp only [if_neg h1, if_neg h2, if_pos h3]
    have ha1 : 0 ≤ a + 1 ∧ a + 1 ≤ L := by have := hlt (by omega); omega
    obtain ⟨a1, b1, c1⟩ := gTk_ok (T := T) (L := L) (b := 0) (lo := 48) (hi := 52) ha1
    have c1 := c1 (by decide)
    have g1 := gTkA_ge (T := T) (L := L) (a := a + 1) (b := 0) (lo := 48) (hi := 52)
    exact ⟨⟨a1, by show a ≤ gTkA T L _ _ _ _; omega⟩, b1, ⟨by show (0:Int) ≤ 120; decide, by show (120:Int) ≤ 65535; decide⟩, ⟨by show 0 ≤ gTkV T L (a + 1) 0 48 52; omega, by show gTkV T L (a + 1) 0 48 52 ≤ 99; omega⟩, hy, fun _ => by show a < gTkA T L _ _ _ _; omega⟩
  by_cases h4 : gLet T L a = 46
  · simp only [if_neg h1, if_neg h2, if_neg h3, if_pos h4]
    have ha1 : 0 ≤ a + 1 ∧ a + 1 ≤ L := by have := hlt (by omega); omega
    obtain ⟨k1, k2, k3⟩ := gNm_ok (b := 0) (most := 99) hx ⟨by decide, by decide⟩ ha1
    have g1 := gNmA_ge (T := T) (L := L) (a := a + 1) (b := 0) (most := 99)
    exact ⟨⟨k2, by show a ≤ gNmA T L _ _ _; omega⟩, k3, ⟨by show (0:Int) ≤ 46; decide, by show (46:Int) ≤ 65535; decide⟩, k1, hy, fun _ => by show a < gNmA T L _ _ _; omega⟩
  · simp only [if_neg h1, if_neg h2, if_neg h3, if_neg h4]
    exact ⟨⟨ha, Int.le_refl _⟩, Or.inr rfl, hgl, ⟨by show (0:Int) ≤ 0; decide, by show (0:Int) ≤ 99; decide⟩, hy, fun z => absurd (show (1 : Int) = 0 from z) (by decide)⟩
end
