/-! THE REFERENCE, its small readers. S is its row of numbers. -/
def gF (S : Nat → Int) (b w : Nat) : Int := S (21 + 8 * b + w)
abbrev gArr (S : Nat → Int) (b : Nat) : Prop := ¬ gF S b 5 = -5
abbrev gUp (S : Nat → Int) (b : Nat) : Prop := gF S b 2 < gF S b 3
def gNx (S : Nat → Int) (b : Nat) : Int := gF S b 2 + (if gUp S b then 1 else -1)
def gLk (S : Nat → Int) (b : Nat) : Int := if gUp S b then gF S b 2 else gF S b 2 - 1
abbrev gAg (S : Nat → Int) (b : Nat) : Prop := S (gF S b 2).toNat < gF S b 1 ∨ S (gNx S b).toNat < gF S b 1
abbrev gWt (S : Nat → Int) (b : Nat) (l u : Int) : Prop := ¬ gArr S b ∧ gLk S b = l ∧ (if gUp S b then (1 : Int) else 0) = u
/-- what is known of a boat's numbers -/
def gB (S : Nat → Int) (b : Nat) : Prop :=
  (1 ≤ gF S b 0 ∧ gF S b 0 ≤ 6) ∧ (1 ≤ gF S b 1 ∧ gF S b 1 ≤ 60) ∧ (0 ≤ gF S b 2 ∧ gF S b 2 ≤ 5) ∧ (0 ≤ gF S b 3 ∧ gF S b 3 ≤ 5) ∧ (0 ≤ gF S b 4 ∧ gF S b 4 ≤ 6) ∧ (gF S b 5 = -5 ∨ (0 ≤ gF S b 5 ∧ gF S b 5 ≤ 200000)) ∧ (0 ≤ gF S b 7 ∧ gF S b 7 ≤ 2000000) ∧ (gF S b 5 = -5 → ¬ gF S b 2 = gF S b 3)
/-- what is known of the row -/
def gW (S : Nat → Int) : Prop :=
  (0 ≤ S 150 ∧ S 150 ≤ 16) ∧ (∀ k, k < 6 → 0 ≤ S k ∧ S k ≤ 90) ∧ (∀ k, k < 5 → 0 ≤ S (6 + k) ∧ S (6 + k) ≤ 20) ∧ (1 ≤ S 154 ∧ S 154 ≤ 20 ∧ 1 ≤ S 155 ∧ S 155 ≤ 6 ∧ 0 ≤ S 156 ∧ S 156 ≤ 20) ∧ (0 ≤ S 149 ∧ S 149 ≤ 200000) ∧ (0 ≤ S 151 ∧ S 151 ≤ 2000000) ∧ ∀ b : Nat, (b : Int) < S 150 → gB S b
section
variable {sh : List (Nat × Nat × Nat)} {rm : Nat → Nat → Option Nat} {im : Nat → Nat → Int} {m : Nat} {S : Nat → Int}
end
