/-! THE REFERENCE: the pounds, what would come -/
def gPoM (S : Nat → Int) (p : Int) : Nat → Int
  | 0 => 0
  | n + 1 => cs_or (gPoM S p n) (if gHas S n p then cs_shl 1 n else 0)
def gPoA (S : Nat → Int) (p : Int) : Nat → Int
  | 0 => 0
  | n + 1 => cs_or (gPoA S p n) (if gArr S n ∧ gF S n 2 = p then cs_shl 1 n else 0)
def gPoD (S : Nat → Int) (p : Int) : Nat → Int
  | 0 => 0
  | n + 1 => if gHas S n p ∧ gPoD S p n < gF S n 1 then gF S n 1 else gPoD S p n
def gPound (S : Nat → Int) (p : Nat) (w : Int) : Int :=
  if w = 0 then S p else if w = 1 then gPoM S p (gMany S) else if w = 2 then gPoA S p (gMany S) else gPoD S p (gMany S)
theorem gPoD_in {S : Nat → Int} {p : Int} (hW : gW S) : ∀ n : Nat, n ≤ gMany S → 0 ≤ gPoD S p n ∧ gPoD S p n ≤ 60
  | 0, _ => ⟨Int.le_refl 0, show (0 : Int) ≤ 60 by decide⟩
  | n + 1, h => by
    have ih := gPoD_in (p := p) hW n (by omega)
    have h150 := hW.1
    have hB := hW.2.2.2.2.2.2 n (by unfold gMany at h; omega)
    unfold gB at hB
    unfold gPoD
    split <;> omega
section
variable {sh : List (Nat × Nat × Nat)} {rm : Nat → Nat → Option Nat} {im : Nat → Nat → Int} {m : Nat} {S : Nat → Int} {sc : Nat × (Nat → Int)} {o : Nat × Nat} {Q : Option cs_A → cs_H → Prop}
end
