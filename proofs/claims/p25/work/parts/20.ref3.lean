/-! THE REFERENCE: what changes its row -/
section
variable {sh : List (Nat × Nat × Nat)} {rm : Nat → Nat → Option Nat} {im : Nat → Nat → Int} {m : Nat} {S : Nat → Int} {sc : Nat × (Nat → Int)} {o : Nat × Nat} {Q : Option cs_A → cs_H → Prop}
theorem cs_dummy20 : True := trivial
end
