/-! THE REFERENCE: settings, pass, characters, undo, keep, restore -/
def gSetOk (w v : Int) : Prop := if w = 1 then (1 ≤ v ∧ v ≤ 6) else if w = 0 then (1 ≤ v ∧ v ≤ 20) else (0 ≤ v ∧ v ≤ 20)
theorem cs_mix1 (X Y : Nat → Int) (i : Nat) : cs_u1 (fun k => if k < i then X k else Y k) i (X i) = fun k => if k < i + 1 then X k else Y k := by
  funext k
  by_cases hk : k = i
  · subst hk; rw [cs_u1_at, if_pos (by omega)]
  · rw [cs_u1_ne hk]
    by_cases h1 : k < i
    · rw [if_pos h1, if_pos (by omega)]
    · rw [if_neg h1, if_neg (by omega)]
theorem cs_mix0 (X Y : Nat → Int) : (fun k => if k < 0 then X k else Y k) = Y := by funext k; rw [if_neg (by omega)]
section
variable {sh : List (Nat × Nat × Nat)} {rm : Nat → Nat → Option Nat} {im : Nat → Nat → Int} {m : Nat} {S : Nat → Int} {sc : Nat × (Nat → Int)} {o : Nat × Nat} {Q : Option cs_A → cs_H → Prop}
end
