/-! THE CLASS: queues against the reference's row -/
section
variable {S E : Nat → Int} {l u n : Int}
theorem gFst_min : ∀ n : Nat, (gFst S l u n = -5 → ∀ b, b < n → ¬ gWt S b l u) ∧ (∀ f : Nat, gFst S l u n = f → f < n ∧ gWt S f l u ∧ ∀ b, b < n → gWt S b l u → gF S f 7 ≤ gF S b 7)
  | 0 => ⟨fun _ b hb => absurd hb (by omega), fun f hf => absurd (show (-5 : Int) = f from hf) (by omega)⟩
  | n + 1 => by
    obtain ⟨i1, i2⟩ := gFst_min n
    have hr := gFst_range S l u n
    simp only [gFst]
    by_cases hc : gWt S n l u ∧ (gFst S l u n = -5 ∨ gF S n 7 < gF S (gFst S l u n).toNat 7)
    · rw [if_pos hc]
      refine ⟨fun h => absurd h (by omega), fun f hf => ?_⟩
      have : f = n := by omega
      subst this
      refine ⟨by omega, hc.1, fun b hb hw => ?_⟩
      by_cases hbn : b = f
      · subst hbn; exact Int.le_refl _
      · rcases hc.2 with h | h
        · exact absurd hw (i1 h b (by omega))
        · rcases hr with h' | ⟨h', h''⟩
          · exact absurd hw (i1 h' b (by omega))
          · obtain ⟨q, hq⟩ : ∃ q : Nat, gFst S l u f = q := ⟨(gFst S l u f).toNat, by omega⟩
            rw [hq, Int.toNat_natCast] at h
            have := (i2 q hq).2.2 b (by omega) hw
            omega
    · rw [if_neg hc]
      refine ⟨fun h b hb hw => ?_, fun f hf => ?_⟩
      · by_cases hbn : b = n
        · subst hbn; exact hc ⟨hw, Or.inl h⟩
        · exact i1 h b (by omega) hw
      · obtain ⟨j1, j2, j3⟩ := i2 f hf
        refine ⟨by omega, j2, fun b hb hw => ?_⟩
        by_cases hbn : b = n
        · subst hbn
          have : ¬ gF S b 7 < gF S (gFst S l u b).toNat 7 := fun h => hc ⟨hw, Or.inr h⟩
          rw [hf, Int.toNat_natCast] at this
          omega
        · exact j3 b (by omega) hw
theorem kQ_first (h : kQ n E S l u) (hW : 0 ≤ S 150) : gFst S l u (gMany S) = if 0 < n then E 0 else -5 := by
  obtain ⟨N, h1, h2, h3, h4, h5⟩ := h
  obtain ⟨i1, i2⟩ := gFst_min (S := S) (l := l) (u := u) (gMany S)
  have hr := gFst_range S l u (gMany S)
  by_cases hn : 0 < n
  · rw [if_pos hn]
    obtain ⟨b, hb, hb1, hb2⟩ := h3 0 (by omega)
    have hbm : b < gMany S := by unfold gMany; omega
    rcases hr with h | ⟨ha, hc⟩
    · exact absurd hb2 (i1 h b hbm)
    · obtain ⟨q, hq⟩ : ∃ q : Nat, gFst S l u (gMany S) = q := ⟨(gFst S l u (gMany S)).toNat, by omega⟩
      obtain ⟨j1, j2, j3⟩ := i2 q hq
      obtain ⟨i, hi, hEi⟩ := h5 q (by unfold gMany at j1; omega) j2
      by_cases hi0 : i = 0
      · subst hi0; rw [hq, hEi]
      · have h6 := h4 0 i (by omega) hi
        rw [hEi, hb, Int.toNat_natCast, Int.toNat_natCast] at h6
        have h7 := j3 b hbm hb2
        omega
  · rw [if_neg hn]
    rcases hr with h | ⟨ha, hc⟩
    · exact h
    · obtain ⟨q, hq⟩ : ∃ q : Nat, gFst S l u (gMany S) = q := ⟨(gFst S l u (gMany S)).toNat, by omega⟩
      obtain ⟨j1, j2, j3⟩ := i2 q hq
      obtain ⟨i, hi, _⟩ := h5 q (by unfold gMany at j1; omega) j2
      omega
end
