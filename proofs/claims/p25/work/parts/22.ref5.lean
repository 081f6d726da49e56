/-! THE REFERENCE: a tick, ticks, arrivals -/
section
variable {sh : List (Nat × Nat × Nat)} {rm : Nat → Nat → Option Nat} {im : Nat → Nat → Int} {m : Nat} {S : Nat → Int} {sc : Nat × (Nat → Int)} {o : Nat × Nat} {Q : Option cs_A → cs_H → Prop}
theorem cs_tnm {q : Nat} : ((0 : Int) + ((q : Int) + 1) - 1).toNat = q := by omega
theorem cs_tnm1 {q : Nat} : ((0 : Int) + ((q : Int) + 1)).toNat = q + 1 := by omega
/-- the told field as a row -/
def gO (O : Nat → Int) (t : Int) : Nat → Int := cs_u1 O 11 t
theorem gO_gO {O : Nat → Int} {t t' : Int} : gO (gO O t) t' = gO O t' := cs_u1_u1
theorem gO_at {O : Nat → Int} {t : Int} : gO O t 11 = t := cs_u1_at
theorem gO_ne {O : Nat → Int} {t : Int} {j : Nat} (h : ¬ j = 11) : gO O t j = O j := cs_u1_ne h
theorem gO_self {O : Nat → Int} : gO O (O 11) = O := by
  funext j
  by_cases h : j = 11 <;> simp [gO, cs_u1, h]
theorem gTold_in {S : Nat → Int} {a t : Int} {k : Nat} (ht : cs_in t) : cs_in (gTold S a t k) := by
  unfold gTold gHind
  split
  · split
    · decide
    · split
      · decide
      · split
        · decide
        · split <;> decide
  · exact ht
theorem gTolds_in {S : Nat → Int} {a t : Int} (ht : cs_in t) : ∀ n : Nat, cs_in (gTolds S a t n)
  | 0 => ht
  | n + 1 => gTold_in (gTolds_in ht n)
end
