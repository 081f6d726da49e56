/-! THE REFERENCE: what would come, the row put back -/
def cs_3 (im : Nat → Nat → Int) (m : Nat) (R X Y : Nat → Int) : Nat → Nat → Int := fun a => if a = m then R else if a = m + 1 then X else if a = m + 2 then Y else im a
section
variable {im : Nat → Nat → Int} {m : Nat} {R R' X X' Y Y' A B C : Nat → Int}
theorem cs_3_0 : cs_3 im m R X Y m = R := by simp [cs_3]
theorem cs_3_1 : cs_3 im m R X Y (m + 1) = X := by simp [cs_3]
theorem cs_3_2 : cs_3 im m R X Y (m + 2) = Y := by simp [cs_3]
theorem cs_3_s0 : cs_us (cs_3 im m R X Y) m R' = cs_3 im m R' X Y := by
  funext a; unfold cs_us cs_3; by_cases h : a = m <;> simp [h]
theorem cs_3_s1 : cs_us (cs_3 im m R X Y) (m + 1) X' = cs_3 im m R X' Y := by
  funext a; unfold cs_us cs_3; by_cases h : a = m + 1
  · subst h; simp
  · simp [h]
theorem cs_3_s2 : cs_us (cs_3 im m R X Y) (m + 2) Y' = cs_3 im m R X Y' := by
  funext a; unfold cs_us cs_3; by_cases h : a = m + 2
  · subst h; simp
  · simp [h]
theorem cs_3_self : cs_3 im m (im m) (im (m + 1)) (im (m + 2)) = im := by
  funext a; unfold cs_3
  by_cases h : a = m
  · simp [h]
  · by_cases h1 : a = m + 1
    · simp [h1]
    · by_cases h2 : a = m + 2 <;> simp [h, h1, h2]
theorem gMix_gMix : gMix A (gMix B C) = gMix A C := by
  funext k; unfold gMix; by_cases h : k < 157 <;> simp [h]
theorem gMix_back (h : ∀ k, 157 ≤ k → X k = A k) : gMix (gMix A C) X = A := by
  funext k; unfold gMix; by_cases hk : k < 157
  · simp [hk]
  · simp [hk, h k (by omega)]
end
def gTry (S : Nat → Int) (k : Int) : Nat → Int := if k = -5 then S else gTurn S k.toNat
def gWould (S : Nat → Int) (k : Int) : Int := gArrN (gTicks (gTry S k) 40) (gMany S) - gArrN (gTry S k) (gMany S)
def gBest (S : Nat → Int) : Nat → Int × Int
  | 0 => (-5, gWould S (-5))
  | n + 1 => if (gBest S n).2 < (if gCan S n then gWould S n else 0) then ((n : Int), (if gCan S n then gWould S n else 0)) else gBest S n
def gBestY (S Y : Nat → Int) : Nat → Nat → Int
  | 0 => gMix (gTicks S 40) Y
  | n + 1 => if gCan S n then gMix (gTicks (gTry S n) 40) Y else gBestY S Y n
def gAin (S : Nat → Int) (b : Nat) : Nat → Nat → Nat
  | 0, i => i
  | f + 1, i => if gArr (gTicks S i) b then i else gAin S b f (i + 1)
def gCount (S : Nat → Int) (kn len : Int) (w : Int) : Int :=
  if w = 0 then S 149 else if w = 1 then S 150 else if w = 2 then gArrN S (gMany S) else if w = 3 then gAgN S (gMany S) else if w = 4 then gSum S 11 5 else if w = 5 then gSum S 16 5 else if w = 6 then S 152 else if w = 7 then S 153 else if w = 8 then gSum S 6 5 else if w = 9 then S 154 else if w = 10 then S 155 else if w = 11 then S 156 else if w = 12 then kn else if w = 13 then len else -2
def gIf (S : Nat → Int) (t : Nat) (w : Int) : Int :=
  if w = 0 then gArrN (gTicks S t) (gMany S) - gArrN S (gMany S) else if w = 1 then gSum (gTicks S t) 11 5 - gSum S 11 5 else if w = 2 then gTicks S t 152 - S 152 else gAgN (gTicks S t) (gMany S)
section
variable {sh : List (Nat × Nat × Nat)} {rm : Nat → Nat → Option Nat} {im : Nat → Nat → Int} {m : Nat} {S : Nat → Int} {sc : Nat × (Nat → Int)} {o : Nat × Nat} {Q : Option cs_A → cs_H → Prop} {R X Y : Nat → Int}
theorem gTry_ok {k : Int} (hW : gW S) (hk : k = -5 ∨ ∃ j : Nat, k = j ∧ j < 5 ∧ gCan S j) : gW (gTry S k) ∧ ∀ i, 149 ≤ i → ¬ i = 152 → gTry S k i = S i := by
  unfold gTry
  rcases hk with rfl | ⟨j, rfl, hj, hc⟩
  · exact ⟨hW, fun _ _ _ => rfl⟩
  · rw [if_neg (by omega), Int.toNat_natCast]
    exact ⟨gW_turn hW hj hc, fun i h1 h2 => gTurn_hi hj h1 h2⟩
theorem gTryT_ok {k : Int} (hW : gW S) (hk : k = -5 ∨ ∃ j : Nat, k = j ∧ j < 5 ∧ gCan S j) (t : Nat) (hj : S 151 + 5 * t ≤ 2000000) (h9 : S 149 + t ≤ 200000) : ∀ i, 154 ≤ i → gTicks (gTry S k) t i = S i := by
  obtain ⟨a, b⟩ := gTry_ok hW hk
  intro i hi
  obtain ⟨_, _, c, _, _⟩ := gTicks_ok a t (by rw [b 151 (by decide) (by decide)]; exact hj) (by rw [b 149 (by decide) (by decide)]; exact h9)
  rw [c i (by omega) (by omega) (by omega) (by omega), b i (by omega) (by omega)]
theorem gArrN_in {S : Nat → Int} : ∀ n : Nat, 0 ≤ gArrN S n ∧ gArrN S n ≤ n
  | 0 => ⟨Int.le_refl 0, Int.le_refl 0⟩
  | n + 1 => by
    have := gArrN_in (S := S) n
    unfold gArrN
    split <;> omega
theorem gWould_in {k : Int} (hk : k = -5 ∨ ∃ j : Nat, k = j ∧ j < 5 ∧ gCan S j) (hW : gW S) (hj : S 151 + 200 ≤ 2000000) (h9 : S 149 + 40 ≤ 200000) : -16 ≤ gWould S k ∧ gWould S k ≤ 16 := by
  have h150 := hW.1
  have a := gArrN_in (S := gTicks (gTry S k) 40) (gMany S)
  have b := gArrN_in (S := gTry S k) (gMany S)
  unfold gWould
  have : gMany S ≤ 16 := by unfold gMany; omega
  omega
theorem gBest_in (hW : gW S) (hj : S 151 + 200 ≤ 2000000) (h9 : S 149 + 40 ≤ 200000) : ∀ n : Nat, n ≤ 5 → (-5 ≤ (gBest S n).1 ∧ (gBest S n).1 ≤ 4) ∧ (-16 ≤ (gBest S n).2 ∧ (gBest S n).2 ≤ 16)
  | 0, _ => ⟨⟨Int.le_refl _, show (-5 : Int) ≤ 4 by decide⟩, gWould_in (Or.inl rfl) hW hj h9⟩
  | n + 1, h => by
    have ih := gBest_in hW hj h9 n (by omega)
    simp only [gBest]
    have key : -16 ≤ (if gCan S n then gWould S n else 0) ∧ (if gCan S n then gWould S n else 0) ≤ 16 := by
      by_cases hc : gCan S n
      · rw [if_pos hc]; exact gWould_in (Or.inr ⟨n, rfl, by omega, hc⟩) hW hj h9
      · rw [if_neg hc]; exact ⟨by decide, by decide⟩
    by_cases hl : (gBest S n).2 < (if gCan S n then gWould S n else 0)
    · rw [if_pos hl]; exact ⟨⟨by show (-5 : Int) ≤ n; omega, by show (n : Int) ≤ 4; omega⟩, key⟩
    · rw [if_neg hl]; exact ih
theorem gBestY_mix {A : Nat → Int} : ∀ n : Nat, gMix A (gBestY S Y n) = gMix A Y
  | 0 => gMix_gMix
  | n + 1 => by
    unfold gBestY
    by_cases hc : gCan S n
    · rw [if_pos hc]; exact gMix_gMix
    · rw [if_neg hc]; exact gBestY_mix n
theorem gAin_le {b : Nat} : ∀ f i : Nat, i ≤ gAin S b f i ∧ gAin S b f i ≤ i + f
  | 0, i => ⟨Nat.le_refl _, Nat.le_refl _⟩
  | f + 1, i => by
    have := gAin_le (b := b) f (i + 1)
    unfold gAin
    split <;> omega
theorem gAsk {q T : Int} (ha : R 10 = -5) : cs_u1 (cs_u1 (cs_u1 R 10 q) 11 T) 10 (-5) = cs_u1 R 11 T := by
  funext k
  unfold cs_u1
  by_cases h : k = 10
  · subst h; simp [ha]
  · by_cases h1 : k = 11 <;> simp [h, h1]
end
