section
variable {S S' E : Nat → Int} {l u n : Int}
def kSame (S S' : Nat → Int) (b : Nat) : Prop := gF S' b 2 = gF S b 2 ∧ gF S' b 3 = gF S b 3 ∧ gF S' b 5 = gF S b 5 ∧ gF S' b 7 = gF S b 7
theorem kSame_wt {b : Nat} (h : kSame S S' b) : gWt S' b l u ↔ gWt S b l u := by
  obtain ⟨h2, h3, h5, h7⟩ := h
  unfold gWt gArr gLk gUp
  rw [h2, h3, h5]
theorem kQ_same (h : kQ n E S l u) (h150 : S' 150 = S 150) (hs : ∀ b : Nat, (b : Int) < S 150 → kSame S S' b) : kQ n E S' l u := by
  obtain ⟨N, h1, h2, h3, h4, h5⟩ := h
  refine ⟨N, h1, h2, fun i hi => ?_, fun i j hij hj => ?_, fun b hb hw => ?_⟩
  · obtain ⟨b, e1, e2, e3⟩ := h3 i hi
    exact ⟨b, e1, by omega, (kSame_wt (hs b e2)).mpr e3⟩
  · obtain ⟨b, e1, e2, e3⟩ := h3 i (by omega)
    obtain ⟨b', f1, f2, f3⟩ := h3 j hj
    have := h4 i j hij hj
    rw [e1, f1, Int.toNat_natCast, Int.toNat_natCast] at this ⊢
    rw [(hs b e2).2.2.2, (hs b' f2).2.2.2]
    exact this
  · exact h5 b (by omega) ((kSame_wt (hs b (by omega))).mp hw)
theorem kQ_join {b N : Nat} (h : kQ n E S l u) (hn : n = N) (hN : N < 16) (h150 : S 150 ≤ S' 150) (hb : (b : Int) < S' 150)
    (hs : ∀ b' : Nat, (b' : Int) < S' 150 → ¬ b' = b → (b' : Int) < S 150 ∧ kSame S S' b') (hw : gWt S' b l u) (hnw : ¬ ((b : Int) < S 150 ∧ gWt S b l u)) (hj : ∀ b' : Nat, (b' : Int) < S 150 → gF S b' 7 < gF S' b 7) :
    kQ (n + 1) (cs_u1 E N b) S' l u := by
  obtain ⟨N', h1, h2, h3, h4, h5⟩ := h
  have : N' = N := by omega
  subst this
  have hEn : ∀ i, i < N' → cs_u1 E N' (b : Int) i = E i := fun i hi => cs_u1_ne (by omega)
  have hEN : cs_u1 E N' (b : Int) N' = b := cs_u1_at
  have hin : ∀ i, i < N' → ∃ b' : Nat, E i = b' ∧ (b' : Int) < S 150 ∧ ¬ b' = b ∧ gWt S b' l u := fun i hi => by
    obtain ⟨b', e1, e2, e3⟩ := h3 i hi
    refine ⟨b', e1, e2, fun hq => ?_, e3⟩
    subst hq
    exact hnw ⟨e2, e3⟩
  refine ⟨N' + 1, by omega, by omega, fun i hi => ?_, fun i j hij hj' => ?_, fun b' hb' hw' => ?_⟩
  · by_cases hq : i = N'
    · subst hq; exact ⟨b, hEN, hb, hw⟩
    · obtain ⟨b', e1, e2, e3, e4⟩ := hin i (by omega)
      exact ⟨b', (hEn i (by omega)).trans e1, by omega, (kSame_wt (hs b' (by omega) e3).2).mpr e4⟩
  · obtain ⟨b', e1, e2, e3, e4⟩ := hin i (by omega)
    rw [hEn i (by omega)]
    by_cases hq : j = N'
    · subst hq
      rw [hEN, e1, Int.toNat_natCast, Int.toNat_natCast, (hs b' (by omega) e3).2.2.2.2]
      exact hj b' e2
    · obtain ⟨b'', f1, f2, f3, f4⟩ := hin j (by omega)
      have := h4 i j hij (by omega)
      rw [hEn j (by omega)]
      rw [e1, f1, Int.toNat_natCast, Int.toNat_natCast] at this ⊢
      rw [(hs b' (by omega) e3).2.2.2.2, (hs b'' (by omega) f3).2.2.2.2]
      exact this
  · by_cases hq : b' = b
    · subst hq; exact ⟨N', by omega, hEN⟩
    · obtain ⟨g1, g2⟩ := hs b' hb' hq
      obtain ⟨i, hi, hE⟩ := h5 b' g1 ((kSame_wt g2).mp hw')
      exact ⟨i, by omega, (hEn i hi).trans hE⟩
theorem kQ_drop {b N : Nat} (h : kQ n E S l u) (hn : n = N) (h0 : 0 < N) (hE : E 0 = b) (h150 : S' 150 = S 150)
    (hs : ∀ b' : Nat, (b' : Int) < S 150 → ¬ b' = b → kSame S S' b') (hw : ¬ gWt S' b l u) : kQ (n - 1) (kDrop E N) S' l u := by
  obtain ⟨N', h1, h2, h3, h4, h5⟩ := h
  have : N' = N := by omega
  subst this
  have hD : ∀ i, i + 1 < N' → kDrop E N' i = E (i + 1) := fun i hi => if_pos hi
  have hin : ∀ i, 0 < i → i < N' → ∃ b' : Nat, E i = b' ∧ (b' : Int) < S 150 ∧ ¬ b' = b ∧ gWt S b' l u := fun i hi0 hi => by
    obtain ⟨b', e1, e2, e3⟩ := h3 i hi
    refine ⟨b', e1, e2, fun hq => ?_, e3⟩
    have := h4 0 i hi0 hi
    subst hq
    rw [hE, e1] at this
    omega
  refine ⟨N' - 1, by omega, by omega, fun i hi => ?_, fun i j hij hj' => ?_, fun b' hb' hw' => ?_⟩
  · obtain ⟨b', e1, e2, e3, e4⟩ := hin (i + 1) (by omega) (by omega)
    exact ⟨b', (hD i (by omega)).trans e1, by omega, (kSame_wt (hs b' e2 e3)).mpr e4⟩
  · obtain ⟨b', e1, e2, e3, e4⟩ := hin (i + 1) (by omega) (by omega)
    obtain ⟨b'', f1, f2, f3, f4⟩ := hin (j + 1) (by omega) (by omega)
    have := h4 (i + 1) (j + 1) (by omega) (by omega)
    rw [hD i (by omega), hD j (by omega)]
    rw [e1, f1, Int.toNat_natCast, Int.toNat_natCast] at this ⊢
    rw [(hs b' e2 e3).2.2.2, (hs b'' f2 f3).2.2.2]
    exact this
  · by_cases hq : b' = b
    · subst hq; exact absurd hw' hw
    · obtain ⟨i, hi, hEi⟩ := h5 b' (by omega) ((kSame_wt (hs b' (by omega) hq)).mp hw')
      have : ¬ i = 0 := fun hz => by subst hz; omega
      exact ⟨i - 1, by omega, by rw [hD (i - 1) (by omega), show i - 1 + 1 = i by omega]; exact hEi⟩
end
