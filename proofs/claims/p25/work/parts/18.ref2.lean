/-! THE REFERENCE: queues -/
def gQue (S : Nat → Int) (l u : Int) : Nat → Int
  | 0 => 0
  | n + 1 => gQue S l u n + if gWt S n l u then 1 else 0
def gFst (S : Nat → Int) (l u : Int) : Nat → Int
  | 0 => -5
  | n + 1 => if gWt S n l u ∧ (gFst S l u n = -5 ∨ gF S n 7 < gF S (gFst S l u n).toNat 7) then (n : Int) else gFst S l u n
def gPl (S : Nat → Int) (b : Nat) : Nat → Int
  | 0 => 0
  | n + 1 => gPl S b n + if gWt S n (gLk S b) (if gUp S b then 1 else 0) ∧ gF S n 7 < gF S b 7 then 1 else 0
theorem gFst_range (S : Nat → Int) (l u : Int) : ∀ n : Nat, gFst S l u n = -5 ∨ (0 ≤ gFst S l u n ∧ gFst S l u n < n)
  | 0 => Or.inl rfl
  | n + 1 => by
    have ih := gFst_range S l u n
    simp only [gFst]
    split
    · right; omega
    · rcases ih with h | h
      · left; exact h
      · right; omega
theorem gQue_range (S : Nat → Int) (l u : Int) : ∀ n : Nat, 0 ≤ gQue S l u n ∧ gQue S l u n ≤ n
  | 0 => ⟨Int.le_refl 0, Int.le_refl 0⟩
  | n + 1 => by
    have ih := gQue_range S l u n
    simp only [gQue]
    split <;> omega
theorem gPl_range (S : Nat → Int) (b : Nat) : ∀ n : Nat, 0 ≤ gPl S b n ∧ gPl S b n ≤ n
  | 0 => ⟨Int.le_refl 0, Int.le_refl 0⟩
  | n + 1 => by
    have ih := gPl_range S b n
    simp only [gPl]
    split <;> omega
section
variable {sh : List (Nat × Nat × Nat)} {rm : Nat → Nat → Option Nat} {im : Nat → Nat → Int} {m : Nat} {S : Nat → Int} {sc : Nat × (Nat → Int)} {o : Nat × Nat} {Q : Option cs_A → cs_H → Prop}
theorem gLk_range {S : Nat → Int} {b : Nat} (hB : gB S b) : -1 ≤ gLk S b ∧ gLk S b ≤ 5 := by
  unfold gB at hB
  unfold gLk
  split <;> omega
theorem gNx_range {S : Nat → Int} {b : Nat} (hB : gB S b) (hn : ¬ gArr S b) : 0 ≤ gNx S b ∧ gNx S b ≤ 5 := by
  unfold gB at hB
  have h5 : gF S b 5 = -5 := Decidable.not_not.mp hn
  have hne := hB.2.2.2.2.2.2.2 h5
  unfold gNx
  split
  · rename_i h
    unfold gUp at h
    omega
  · rename_i h
    unfold gUp at h
    omega
end
