/-! THE REFERENCE: the text's reading -/
def cs_8 (R : Nat → Int) (a b c d e f g h : Int) : Nat → Int := fun k => if k = 12 then a else if k = 13 then b else if k = 14 then c else if k = 15 then d else if k = 16 then e else if k = 17 then f else if k = 18 then g else if k = 19 then h else R k
section
variable {R : Nat → Int} {a b c d e f g h v : Int}
end
/-- the next letter lies between -/
abbrev gIs (T : Nat → Int) (L a b lo hi : Int) : Prop := b = 0 ∧ a < L ∧ lo ≤ T a.toNat ∧ T a.toNat ≤ hi
def gTkV (T : Nat → Int) (L a b lo hi : Int) : Int := if gIs T L a b lo hi then T a.toNat - lo else 0
def gTkA (T : Nat → Int) (L a b lo hi : Int) : Int := if gIs T L a b lo hi then a + 1 else a
def gTkB (T : Nat → Int) (L a b lo hi : Int) : Int := if gIs T L a b lo hi then 0 else 1
def gNum (T : Nat → Int) (L b most : Int) : Nat → Int → Int → Int × Int
  | 0, v, a => (v, a)
  | n + 1, v, a => if gIs T L a b 48 57 ∧ 10 * v + T a.toNat - 48 ≤ most then gNum T L b most n (10 * v + T a.toNat - 48) (a + 1) else (v, a)
/-- what the text's row holds -/
def gTx (T : Nat → Int) (L : Int) : Prop := (0 ≤ L ∧ L ≤ 60) ∧ ∀ k : Nat, k < 60 → 0 ≤ T k ∧ T k ≤ 65535
section
variable {sh : List (Nat × Nat × Nat)} {rm : Nat → Nat → Option Nat} {im : Nat → Nat → Int} {m : Nat} {S : Nat → Int} {sc : Nat × (Nat → Int)} {o : Nat × Nat} {Q : Option cs_A → cs_H → Prop} {R X Y T : Nat → Int} {L a b c d e f g h v : Int}
theorem cs_3_5 : cs_3 im m R X Y (m + 5) = im (m + 5) := by simp [cs_3]
theorem gTk_ok {lo hi : Int} (ha : 0 ≤ a ∧ a ≤ L) : (0 ≤ gTkA T L a b lo hi ∧ gTkA T L a b lo hi ≤ L) ∧ (gTkB T L a b lo hi = 0 ∨ gTkB T L a b lo hi = 1) ∧ (lo ≤ hi → 0 ≤ gTkV T L a b lo hi ∧ gTkV T L a b lo hi ≤ hi - lo) := by
  unfold gTkA gTkB gTkV
  by_cases hq : gIs T L a b lo hi
  · rw [if_pos hq, if_pos hq, if_pos hq]
    obtain ⟨_, h1, h2, h3⟩ := hq
    exact ⟨⟨by omega, by omega⟩, Or.inl rfl, fun _ => ⟨by omega, by omega⟩⟩
  · rw [if_neg hq, if_neg hq, if_neg hq]
    exact ⟨ha, Or.inr rfl, fun _ => ⟨by omega, by omega⟩⟩
theorem gNum_ok {most : Int} (hm : most ≤ 99) (hx : gTx T L) : ∀ (n : Nat) (v a : Int), 0 ≤ v ∧ v ≤ 99 → 0 ≤ a ∧ a ≤ L → (0 ≤ (gNum T L b most n v a).1 ∧ (gNum T L b most n v a).1 ≤ 99) ∧ (0 ≤ (gNum T L b most n v a).2 ∧ (gNum T L b most n v a).2 ≤ L)
  | 0, v, a, hv, ha => ⟨hv, ha⟩
  | n + 1, v, a, hv, ha => by
    unfold gNum
    by_cases hq : gIs T L a b 48 57 ∧ 10 * v + T a.toNat - 48 ≤ most
    · rw [if_pos hq]
      obtain ⟨⟨h0, h1, h2, h3⟩, h4⟩ := hq
      exact gNum_ok hm hx n _ _ ⟨by omega, by omega⟩ ⟨by omega, by omega⟩
    · rw [if_neg hq]
      exact ⟨hv, ha⟩
end
