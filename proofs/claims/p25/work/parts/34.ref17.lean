section
variable {sh : List (Nat × Nat × Nat)} {rm : Nat → Nat → Option Nat} {im : Nat → Nat → Int} {m : Nat} {S : Nat → Int} {sc : Nat × (Nat → Int)} {o : Nat × Nat} {Q : Option cs_A → cs_H → Prop} {R X Y T : Nat → Int} {L a b c d e f g h v : Int}
theorem cs_3_rec : gRecI (cs_3 im m R X Y) m = cs_3 (cs_us im (m + 3) (gRecH (im (m + 3)) X (R 3))) m (cs_u1 R 3 (gRecN (R 3))) X Y := by
  unfold gRecI
  rw [cs_3_0, cs_3_1, show cs_3 im m R X Y (m + 3) = im (m + 3) by simp [cs_3]]
  funext q
  unfold cs_us cs_3
  by_cases h0 : q = m
  · subst h0; simp
  · by_cases h3 : q = m + 3
    · subst h3; simp
    · simp [h0, h3]
end
