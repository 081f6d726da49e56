/-! THE REFERENCE: acts by hand -/
def gEB (S : Nat → Int) (p f t d : Int) : Int := if ¬ (0 ≤ f ∧ f ≤ 5) ∨ ¬ (0 ≤ t ∧ t ≤ 5) then -1 else if ¬ (1 ≤ p ∧ p ≤ 6) ∨ ¬ (1 ≤ d ∧ d ≤ 60) ∨ f = t then -2 else if S 150 = 16 then -3 else 0
def gCome (S : Nat → Int) (b : Nat) (p f t d : Int) : Nat → Int :=
  gJoin (cs_u1 (cs_u1 (cs_u1 (cs_u1 (cs_u1 (cs_u1 (cs_u1 (cs_u1 S 150 (S 150 + 1)) (21 + 8 * b + 0) p) (21 + 8 * b + 1) d) (21 + 8 * b + 2) f) (21 + 8 * b + 3) t) (21 + 8 * b + 4) 0) (21 + 8 * b + 5) (-5)) (21 + 8 * b + 6) 0) b
def gRecI (im : Nat → Nat → Int) (m : Nat) : Nat → Nat → Int := cs_us (cs_us im (m + 3) (gRecH (im (m + 3)) (im (m + 1)) (im m 3))) m (cs_u1 (im m) 3 (gRecN (im m 3)))
def gET (S : Nat → Int) (k : Int) : Int := if ¬ (0 ≤ k ∧ k ≤ 4) then -1 else if gCan S k.toNat then 0 else -4
def gEP (S : Nat → Int) (t : Int) : Int := if ¬ (1 ≤ t ∧ t ≤ 99) then -2 else if 99999 < S 149 + t then -3 else 0
section
variable {sh : List (Nat × Nat × Nat)} {rm : Nat → Nat → Option Nat} {im : Nat → Nat → Int} {m : Nat} {S : Nat → Int} {sc : Nat × (Nat → Int)} {o : Nat × Nat} {Q : Option cs_A → cs_H → Prop}
theorem gRecI_S : gRecI im m (m + 1) = im (m + 1) := by
  unfold gRecI
  rw [cs_us_ne (by omega), cs_us_ne (by omega)]
theorem gET_in (S : Nat → Int) (k : Int) : cs_in (gET S k) := by
  unfold gET; repeat' split
  all_goals decide
theorem gEP_in (S : Nat → Int) (k : Int) : cs_in (gEP S k) := by
  unfold gEP; repeat' split
  all_goals decide
theorem gET_0 {S : Nat → Int} {k : Int} (h : gET S k = 0) : (0 ≤ k ∧ k ≤ 4) ∧ gCan S k.toNat := by
  unfold gET at h
  split at h
  · exact absurd h (by decide)
  · rename_i h1
    split at h
    · rename_i h2
      exact ⟨Decidable.not_not.mp h1, h2⟩
    · exact absurd h (by decide)
theorem gEP_0 {S : Nat → Int} {t : Int} (h : gEP S t = 0) : (1 ≤ t ∧ t ≤ 99) ∧ S 149 + t ≤ 99999 := by
  unfold gEP at h
  split at h
  · exact absurd h (by decide)
  · rename_i h1
    split at h
    · exact absurd h (by decide)
    · exact ⟨Decidable.not_not.mp h1, by omega⟩
end
