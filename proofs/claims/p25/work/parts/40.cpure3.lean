section
variable {S E : Nat → Int} {l u n : Int}
theorem kPlc_at {w : Int} {i0 : Nat} (he : E i0 = w) : ∀ (f i : Nat), i ≤ i0 → i0 < i + f → (∀ j, i ≤ j → j < i0 → ¬ E j = w) → kPlc E w f i = i0
  | 0, i, h1, h2, _ => absurd h2 (by omega)
  | f + 1, i, h1, h2, h3 => by
    unfold kPlc
    by_cases hi : i = i0
    · subst hi; rw [if_pos he]
    · rw [if_neg (h3 i (by omega) (by omega))]
      exact kPlc_at he f (i + 1) (by omega) (by omega) (fun j hj hj' => h3 j (by omega) hj')
theorem kQ_place {b : Nat} {N : Nat} (h : kQ n E S (gLk S b) (if gUp S b then 1 else 0)) (hn : n = N) (hW : 0 ≤ S 150) (hb : (b : Int) < S 150) (ha : ¬ gArr S b) : kPlc E b N 0 = gPl S b (gMany S) := by
  obtain ⟨N', h1, h2, h3, h4, h5⟩ := h
  have : N' = N := by omega
  subst this
  have hinj : ∀ i j, i < N' → j < N' → E i = E j → i = j := fun i j hi hj he => by
    rcases Nat.lt_trichotomy i j with h | h | h
    · have := h4 i j h hj; rw [he] at this; omega
    · exact h
    · have := h4 j i h hi; rw [he] at this; omega
  obtain ⟨i0, hi0, hE0⟩ := h5 b hb ⟨ha, rfl, rfl⟩
  rw [kPlc_at hE0 N' 0 (by omega) (by omega) (fun j _ hj hE => by have := hinj j i0 (by omega) hi0 (hE.trans hE0.symm); omega)]
  have hlt : ∀ i, i < N' → (gF S (E i).toNat 7 < gF S b 7 ↔ i < i0) := fun i hi => by
    have hb' : (E i0).toNat = b := by omega
    constructor
    · intro hh
      rcases Nat.lt_trichotomy i i0 with h | h | h
      · exact h
      · subst h; rw [hb'] at hh; omega
      · have := h4 i0 i h hi; rw [hb'] at this; omega
    · intro hh
      have := h4 i i0 hh hi0
      rw [hb'] at this
      exact this
  have key : ∀ m : Nat, m ≤ gMany S → gPl S b m = kCt E m i0 := by
    intro m
    induction m with
    | zero =>
      intro _
      rw [show ((0 : Nat) : Int) = 0 from rfl, kCt_none i0 (fun i hi => by obtain ⟨b, hb, _⟩ := h3 i (by omega); omega)]
      rfl
    | succ m ih =>
      intro hm
      have ih := ih (by omega)
      have hmS : (m : Int) < S 150 := by unfold gMany at hm; omega
      unfold gPl
      rw [ih, show ((m + 1 : Nat) : Int) = (m : Int) + 1 by omega]
      by_cases hw : gWt S m (gLk S b) (if gUp S b then 1 else 0) ∧ gF S m 7 < gF S b 7
      · rw [if_pos hw]
        obtain ⟨i, hi, hE⟩ := h5 m hmS hw.1
        have hii : i < i0 := (hlt i hi).mp (by rw [hE, Int.toNat_natCast]; exact hw.2)
        rw [kCt_b i0 i hii hE (fun j hj hEj => hinj j i (by omega) hi (hEj.trans hE.symm))]
      · rw [if_neg hw, kCt_a i0 (fun i hi hE => by
          obtain ⟨b', hb', _, hb2⟩ := h3 i (by omega)
          have : b' = m := by omega
          subst this
          have h7 := (hlt i (by omega)).mpr hi
          rw [hE, Int.toNat_natCast] at h7
          exact hw ⟨hb2, h7⟩)]
        omega
  rw [key _ (Nat.le_refl _), kCt_all i0 (fun i hi => by obtain ⟨b, hb, hb1, _⟩ := h3 i (by omega); unfold gMany; omega)]
end
