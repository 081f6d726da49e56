section
variable {sh : List (Nat × Nat × Nat)} {rm : Nat → Nat → Option Nat} {im : Nat → Nat → Int} {m : Nat} {S : Nat → Int} {sc : Nat × (Nat → Int)} {o : Nat × Nat} {Q : Option cs_A → cs_H → Prop} {R X Y T : Nat → Int} {L a b c d e f g h v : Int}
theorem gErr_in (S : Nat → Int) (c d e f g : Int) : cs_in (gErr S c d e f g) := by
  unfold gErr gEB
  have h1 := gEP_in S d
  have h2 := gET_in S d
  repeat' split
  all_goals first | assumption | exact ⟨by decide, by decide⟩
end
