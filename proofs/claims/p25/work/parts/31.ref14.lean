/-! THE REFERENCE: one command judged and done -/
/-- the row's bounds, as every call keeps them -/
def gV (S : Nat → Int) : Prop := gW S ∧ S 151 ≤ S 150 + 5 * S 149 ∧ S 149 ≤ 99999
def gErr (S : Nat → Int) (c d e f g : Int) : Int := if c = 46 then gEP S d else if c = 120 then gET S d else gEB S d e f g
def gDo (S : Nat → Int) (c d e f g : Int) : Nat → Int := if c = 46 then gTicks S d.toNat else if c = 120 then gTurn S d.toNat else gCome S (gMany S) d e f g
def gDoV (S : Nat → Int) (c d : Int) : Int := if c = 46 then gArrN (gTicks S d.toNat) (gMany S) - gArrN S (gMany S) else if c = 120 then (if 0 < gTurn S d.toNat (6 + d.toNat) then 1 else 0) else S 150
section
variable {S : Nat → Int} {p f t d c e g : Int} {b : Nat}
theorem gEB_0 (h : gEB S p f t d = 0) : (0 ≤ f ∧ f ≤ 5) ∧ (0 ≤ t ∧ t ≤ 5) ∧ (1 ≤ p ∧ p ≤ 6) ∧ (1 ≤ d ∧ d ≤ 60) ∧ ¬ f = t ∧ ¬ S 150 = 16 := by
  unfold gEB at h
  by_cases h1 : ¬ (0 ≤ f ∧ f ≤ 5) ∨ ¬ (0 ≤ t ∧ t ≤ 5)
  · rw [if_pos h1] at h; exact absurd h (by decide)
  rw [if_neg h1] at h
  by_cases h2 : ¬ (1 ≤ p ∧ p ≤ 6) ∨ ¬ (1 ≤ d ∧ d ≤ 60) ∨ f = t
  · rw [if_pos h2] at h; exact absurd h (by decide)
  rw [if_neg h2] at h
  by_cases h3 : S 150 = 16
  · rw [if_pos h3] at h; exact absurd h (by decide)
  · exact ⟨by omega, by omega, by omega, by omega, by omega, h3⟩
theorem gCome_out (hb : b < 16) {i : Nat} (hi : i < 21 + 8 * b ∨ 29 + 8 * b ≤ i) (h0 : ¬ i = 150) (h1 : ¬ i = 151) : gCome S b p f t d i = S i := by
  unfold gCome gJoin
  simp (disch := omega) only [cs_u1_ne]
theorem gCome_150 (hb : b < 16) : gCome S b p f t d 150 = S 150 + 1 := by
  unfold gCome gJoin
  simp (disch := omega) only [cs_u1_ne, cs_u1_at]
theorem gCome_151 (hb : b < 16) : gCome S b p f t d 151 = S 151 + 1 := by
  unfold gCome gJoin
  simp (disch := omega) only [cs_u1_ne, cs_u1_at]
theorem gV_come (hV : gV S) (h : gEB S p f t d = 0) : gV (gCome S (gMany S) p f t d) := by
  obtain ⟨hW, h151, h149⟩ := hV
  obtain ⟨e1, e2, e3, e4, e5, e6⟩ := gEB_0 h
  obtain ⟨w1, w2, w3, w4, w5, w6, w7⟩ := hW
  obtain ⟨q, hq⟩ : ∃ q : Nat, S 150 = q := ⟨(S 150).toNat, by omega⟩
  have hqq : gMany S = q := by unfold gMany; omega
  rw [hqq]
  have hq16 : q < 16 := by omega
  have out := fun i hi h0 h1 => gCome_out (S := S) (p := p) (f := f) (t := t) (d := d) hq16 (i := i) hi h0 h1
  have e150 := gCome_150 (S := S) (p := p) (f := f) (t := t) (d := d) hq16
  have e151 := gCome_151 (S := S) (p := p) (f := f) (t := t) (d := d) hq16
  refine ⟨⟨by omega, fun k hk => ?_, fun k hk => ?_, ?_, ?_, by omega, fun b hb => ?_⟩, ?_, ?_⟩
  · rw [out k (by omega) (by omega) (by omega)]; exact w2 k hk
  · rw [out (6 + k) (by omega) (by omega) (by omega)]; exact w3 k hk
  · rw [out 154 (by omega) (by omega) (by omega), out 155 (by omega) (by omega) (by omega), out 156 (by omega) (by omega) (by omega)]; exact w4
  · rw [out 149 (by omega) (by omega) (by omega)]; exact w5
  · rw [e150] at hb
    by_cases hbq : b = q
    · subst hbq
      unfold gB gF gCome gJoin
      simp (disch := omega) only [cs_u1_ne, cs_u1_at]
      exact ⟨e3, e4, e1, e2, ⟨by decide, by decide⟩, Or.inl trivial, by omega, fun _ => e5⟩
    · have := w7 b (by omega)
      unfold gB gF at this ⊢
      rw [out _ (by omega) (by omega) (by omega), out _ (by omega) (by omega) (by omega), out _ (by omega) (by omega) (by omega), out _ (by omega) (by omega) (by omega), out _ (by omega) (by omega) (by omega), out _ (by omega) (by omega) (by omega), out _ (by omega) (by omega) (by omega)]
      exact this
  · rw [e150, e151, out 149 (by omega) (by omega) (by omega)]; omega
  · rw [out 149 (by omega) (by omega) (by omega)]; exact h149
theorem gV_turn {k : Nat} (hV : gV S) (hk : k < 5) (hc : gCan S k) : gV (gTurn S k) := by
  obtain ⟨hW, h151, h149⟩ := hV
  refine ⟨gW_turn hW hk hc, ?_, ?_⟩
  · rw [gTurn_hi hk (by decide) (by decide), gTurn_hi hk (by decide) (by decide), gTurn_hi hk (by decide) (by decide)]; exact h151
  · rw [gTurn_hi hk (by decide) (by decide)]; exact h149
theorem gV_ticks {n : Nat} (hV : gV S) (hn : S 149 + n ≤ 99999) : gV (gTicks S n) := by
  obtain ⟨hW, h151, h149⟩ := hV
  have h150 := hW.1
  have h149' := hW.2.2.2.2.1
  obtain ⟨b1, b2, b3, b4, b5⟩ := gTicks_ok hW n (by omega) (by omega)
  have b6 := b3 150 (by decide) (by decide) (by decide) (by decide)
  exact ⟨b1, by omega, by omega⟩
theorem gDo_ok (hV : gV S) (h : gErr S c d e f g = 0) : gV (gDo S c d e f g) ∧ ∀ i, 157 ≤ i → gDo S c d e f g i = S i := by
  unfold gErr at h
  unfold gDo
  by_cases h46 : c = 46
  · rw [if_pos h46] at h ⊢
    obtain ⟨h1, h2⟩ := gEP_0 h
    refine ⟨gV_ticks hV (by omega), fun i hi => ?_⟩
    have h150 := hV.1.1
    have h149' := hV.1.2.2.2.2.1
    have h151 := hV.2.1
    obtain ⟨b1, b2, b3, b4, b5⟩ := gTicks_ok hV.1 d.toNat (by omega) (by omega)
    exact b3 i (by omega) (by omega) (by omega) (by omega)
  rw [if_neg h46] at h ⊢
  by_cases h120 : c = 120
  · rw [if_pos h120] at h ⊢
    obtain ⟨h1, h2⟩ := gET_0 h
    exact ⟨gV_turn hV (by omega) h2, fun i hi => gTurn_hi (by omega) (by omega) (by omega)⟩
  · rw [if_neg h120] at h ⊢
    have h150 := hV.1.1
    have := gEB_0 h
    exact ⟨gV_come hV h, fun i hi => gCome_out (by unfold gMany; omega) (by unfold gMany; omega) (by omega) (by omega)⟩
end
section
variable {sh : List (Nat × Nat × Nat)} {rm : Nat → Nat → Option Nat} {im : Nat → Nat → Int} {m : Nat} {S : Nat → Int} {sc : Nat × (Nat → Int)} {o : Nat × Nat} {Q : Option cs_A → cs_H → Prop} {R X Y T : Nat → Int} {L a b c d e f g h v : Int}
theorem gOne_8 : gOne R T L a e f g h = cs_8 R (gOne R T L a e f g h 12) (gOne R T L a e f g h 13) (gOne R T L a e f g h 14) (gOne R T L a e f g h 15) (gOne R T L a e f g h 16) (gOne R T L a e f g h 17) (gOne R T L a e f g h 18) h := by
  unfold gOne
  by_cases h1 : gLet T L a = 98
  · simp only [if_pos h1]; rfl
  by_cases h2 : gLet T L a = 114
  · simp only [if_neg h1, if_pos h2]; rfl
  by_cases h3 : gLet T L a = 120
  · simp only [if_neg h1, if_neg h2, if_pos h3]; rfl
  by_cases h4 : gLet T L a = 46
  · simp only [if_neg h1, if_neg h2, if_neg h3, if_pos h4]; rfl
  · simp only [if_neg h1, if_neg h2, if_neg h3, if_neg h4]; rfl
end
