/-! THE REFERENCE: passing ticks, the row copied, put aside, exchanged, recorded -/
def gMix (A S : Nat → Int) : Nat → Int := fun k => if k < 157 then A k else S k
theorem gTolds_none {S : Nat → Int} {t : Int} : ∀ n : Nat, gTolds S (-5) t n = t
  | 0 => rfl
  | n + 1 => by simp only [gTolds, gTold, gTolds_none n]; rw [if_neg (fun q => q.1 trivial)]
def gSh (H : Nat → Int) : Nat → Int := fun k => if k < 471 then H (k + 157) else H k
def gPutH (H S : Nat → Int) (n : Nat) : Nat → Int := fun j => if 157 * n ≤ j ∧ j < 157 * n + 157 then S (j - 157 * n) else H j
/-- the history row and its number behind record() -/
def gRecH (H S : Nat → Int) (kn : Int) : Nat → Int := if kn = 4 then gPutH (gSh H) S 3 else gPutH H S kn.toNat
def gRecN (kn : Int) : Int := if kn = 4 then 4 else kn + 1
section
variable {sh : List (Nat × Nat × Nat)} {rm : Nat → Nat → Option Nat} {im : Nat → Nat → Int} {m : Nat} {S : Nat → Int} {sc : Nat × (Nat → Int)} {o : Nat × Nat} {Q : Option cs_A → cs_H → Prop}
theorem cs_tnh {n k : Nat} : ((157 : Int) * (n : Int) + (k : Int)).toNat = 157 * n + k := by omega
theorem cs_tnk {k : Nat} : ((k : Int) + 157).toNat = k + 157 := by omega
end
