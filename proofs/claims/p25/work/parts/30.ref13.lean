/-! THE REFERENCE: one command read -/
section
variable (T : Nat → Int) (L a b : Int)
def gNmV (most : Int) : Int := (gNum T L (gTkB T L a b 49 57) most 60 (1 + gTkV T L a b 49 57) (gTkA T L a b 49 57)).1
def gNmA (most : Int) : Int := (gNum T L (gTkB T L a b 49 57) most 60 (1 + gTkV T L a b 49 57) (gTkA T L a b 49 57)).2
abbrev gNmB : Int := gTkB T L a b 49 57
def gW2A : Int := gTkA T L (gTkA T L a b 48 53) (gTkB T L a b 48 53) 62 62
def gW2B : Int := gTkB T L (gTkA T L a b 48 53) (gTkB T L a b 48 53) 62 62
def gW3A : Int := gTkA T L (gW2A T L a b) (gW2B T L a b) 48 53
def gW3B : Int := gTkB T L (gW2A T L a b) (gW2B T L a b) 48 53
def gW4A : Int := gTkA T L (gW3A T L a b) (gW3B T L a b) 64 64
def gW4B : Int := gTkB T L (gW3A T L a b) (gW3B T L a b) 64 64
def gWayE : Int := gTkV T L a b 48 53
def gWayF : Int := gTkV T L (gW2A T L a b) (gW2B T L a b) 48 53
def gWayG : Int := gNmV T L (gW4A T L a b) (gW4B T L a b) 60
def gWayA : Int := gNmA T L (gW4A T L a b) (gW4B T L a b) 60
def gWayB : Int := gNmB T L (gW4A T L a b) (gW4B T L a b)
def gR2A : Int := gTkA T L (gTkA T L a b 50 54) (gTkB T L a b 50 54) 58 58
def gR2B : Int := gTkB T L (gTkA T L a b 50 54) (gTkB T L a b 50 54) 58 58
end
def gLet (T : Nat → Int) (L a : Int) : Int := if a < L then T a.toNat else 0
/-- the object's row behind readOne(), where nothing was wrong before it -/
def gOne (R T : Nat → Int) (L a e f g h : Int) : Nat → Int :=
  if gLet T L a = 98 then cs_8 R (gWayA T L (a + 1) 0) (gWayB T L (a + 1) 0) 98 1 (gWayE T L (a + 1) 0) (gWayF T L (a + 1) 0) (gWayG T L (a + 1) 0) h
  else if gLet T L a = 114 then cs_8 R (gWayA T L (gR2A T L (a + 1) 0) (gR2B T L (a + 1) 0)) (gWayB T L (gR2A T L (a + 1) 0) (gR2B T L (a + 1) 0)) 114 (2 + gTkV T L (a + 1) 0 50 54) (gWayE T L (gR2A T L (a + 1) 0) (gR2B T L (a + 1) 0)) (gWayF T L (gR2A T L (a + 1) 0) (gR2B T L (a + 1) 0)) (gWayG T L (gR2A T L (a + 1) 0) (gR2B T L (a + 1) 0)) h
  else if gLet T L a = 120 then cs_8 R (gTkA T L (a + 1) 0 48 52) (gTkB T L (a + 1) 0 48 52) 120 (gTkV T L (a + 1) 0 48 52) e f g h
  else if gLet T L a = 46 then cs_8 R (gNmA T L (a + 1) 0 99) (gNmB T L (a + 1) 0) 46 (gNmV T L (a + 1) 0 99) e f g h
  else cs_8 R a 1 (gLet T L a) 0 e f g h
section
variable {sh : List (Nat × Nat × Nat)} {rm : Nat → Nat → Option Nat} {im : Nat → Nat → Int} {m : Nat} {S : Nat → Int} {sc : Nat × (Nat → Int)} {o : Nat × Nat} {Q : Option cs_A → cs_H → Prop} {R X Y T : Nat → Int} {L a b c d e f g h v : Int}
theorem gNm_ok {most : Int} (hx : gTx T L) (hmost : 0 ≤ most ∧ most ≤ 99) (ha : 0 ≤ a ∧ a ≤ L) : (0 ≤ gNmV T L a b most ∧ gNmV T L a b most ≤ 99) ∧ (0 ≤ gNmA T L a b most ∧ gNmA T L a b most ≤ L) ∧ (gNmB T L a b = 0 ∨ gNmB T L a b = 1) := by
  obtain ⟨k1, k2, k3⟩ := gTk_ok (T := T) (L := L) (b := b) (lo := 49) (hi := 57) ha
  have k3 := k3 (by decide)
  obtain ⟨j1, j2⟩ := gNum_ok (b := gTkB T L a b 49 57) hmost.2 hx 60 (1 + gTkV T L a b 49 57) _ ⟨by omega, by omega⟩ k1
  exact ⟨j1, j2, k2⟩
theorem gWay_ok (hx : gTx T L) (ha : 0 ≤ a ∧ a ≤ L) : (0 ≤ gWayA T L a b ∧ gWayA T L a b ≤ L) ∧ (gWayB T L a b = 0 ∨ gWayB T L a b = 1) ∧ (0 ≤ gWayE T L a b ∧ gWayE T L a b ≤ 5) ∧ (0 ≤ gWayF T L a b ∧ gWayF T L a b ≤ 5) ∧ (0 ≤ gWayG T L a b ∧ gWayG T L a b ≤ 99) := by
  obtain ⟨a1, b1, c1⟩ := gTk_ok (T := T) (L := L) (b := b) (lo := 48) (hi := 53) ha
  obtain ⟨a2, b2, c2⟩ := gTk_ok (T := T) (L := L) (b := gTkB T L a b 48 53) (lo := 62) (hi := 62) a1
  obtain ⟨a3, b3, c3⟩ := gTk_ok (T := T) (L := L) (b := gW2B T L a b) (lo := 48) (hi := 53) (show 0 ≤ gW2A T L a b ∧ gW2A T L a b ≤ L from a2)
  obtain ⟨a4, b4, c4⟩ := gTk_ok (T := T) (L := L) (b := gW3B T L a b) (lo := 64) (hi := 64) (show 0 ≤ gW3A T L a b ∧ gW3A T L a b ≤ L from a3)
  obtain ⟨n1, n2, n3⟩ := gNm_ok (b := gW4B T L a b) (most := 60) hx ⟨by decide, by decide⟩ (show 0 ≤ gW4A T L a b ∧ gW4A T L a b ≤ L from a4)
  exact ⟨n2, n3, c1 (by decide), c3 (by decide), n1⟩
theorem cs_lk_c {v k i : Int} {J : Nat → Prop} {x t : Nat} {ps : List (Int × Int)} {r : List Nat} : cs_lk v J x ((k, i) :: ps) (t :: r) = ((k = v → J t) ∧ (¬ k = v → cs_lk v J x ps r)) := rfl
theorem cs_lk_n {v : Int} {J : Nat → Prop} {x : Nat} : cs_lk v J x [] [] = J x := rfl
end
