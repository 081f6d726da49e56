section
variable {S E : Nat → Int} {l u n : Int}
def kCt (E : Nat → Int) (m : Int) : Nat → Int
  | 0 => 0
  | i + 1 => kCt E m i + if E i < m then 1 else 0
theorem kCt_a {m : Int} : ∀ N : Nat, (∀ i, i < N → ¬ E i = m) → kCt E (m + 1) N = kCt E m N
  | 0, _ => rfl
  | N + 1, h => by
    have ih := kCt_a N (fun i hi => h i (by omega))
    have hN := h N (by omega)
    unfold kCt
    rw [ih]
    by_cases h1 : E N < m
    · rw [if_pos h1, if_pos (by omega)]
    · rw [if_neg h1, if_neg (by omega)]
theorem kCt_b {m : Int} : ∀ (N i0 : Nat), i0 < N → E i0 = m → (∀ i, i < N → E i = m → i = i0) → kCt E (m + 1) N = kCt E m N + 1
  | 0, i0, h, _, _ => absurd h (by omega)
  | N + 1, i0, h, he, hu => by
    unfold kCt
    by_cases hi : i0 = N
    · subst hi
      rw [kCt_a i0 (fun i hi hE => by have := hu i (by omega) hE; omega), if_pos (by omega), if_neg (by omega)]
      omega
    · have ih := kCt_b N i0 (by omega) he (fun i hi hE => hu i (by omega) hE)
      have hN : ¬ E N = m := fun hE => hi (hu N (by omega) hE).symm
      rw [ih]
      by_cases h1 : E N < m
      · rw [if_pos h1, if_pos (by omega)]
      · rw [if_neg h1, if_neg (by omega)]
        try omega
  theorem kCt_all {m : Int} : ∀ N : Nat, (∀ i, i < N → E i < m) → kCt E m N = N
  | 0, _ => rfl
  | N + 1, h => by
    unfold kCt
    rw [kCt_all N (fun i hi => h i (by omega)), if_pos (h N (by omega))]
    omega
theorem kCt_none : ∀ N : Nat, (∀ i, i < N → 0 ≤ E i) → kCt E 0 N = 0
  | 0, _ => rfl
  | N + 1, h => by
    unfold kCt
    have := h N (by omega)
    rw [kCt_none N (fun i hi => h i (by omega)), if_neg (by omega)]
    rfl
theorem kQ_que (h : kQ n E S l u) (hW : 0 ≤ S 150) : gQue S l u (gMany S) = n := by
  obtain ⟨N, h1, h2, h3, h4, h5⟩ := h
  have hinj : ∀ i j, i < N → j < N → E i = E j → i = j := fun i j hi hj he => by
    rcases Nat.lt_trichotomy i j with h | h | h
    · have := h4 i j h hj; rw [he] at this; omega
    · exact h
    · have := h4 j i h hi; rw [he] at this; omega
  have key : ∀ m : Nat, m ≤ gMany S → gQue S l u m = kCt E m N := by
    intro m
    induction m with
    | zero =>
      intro _
      rw [show ((0 : Nat) : Int) = 0 from rfl, kCt_none N (fun i hi => by obtain ⟨b, hb, _⟩ := h3 i hi; omega)]
      rfl
    | succ m ih =>
      intro hm
      have ih := ih (by omega)
      have hmS : (m : Int) < S 150 := by unfold gMany at hm; omega
      unfold gQue
      rw [ih, show ((m + 1 : Nat) : Int) = (m : Int) + 1 by omega]
      by_cases hw : gWt S m l u
      · rw [if_pos hw]
        obtain ⟨i, hi, hE⟩ := h5 m hmS hw
        rw [kCt_b N i hi hE (fun j hj hEj => hinj j i hj hi (hEj.trans hE.symm))]
      · rw [if_neg hw, kCt_a N (fun i hi hE => by
          obtain ⟨b, hb, _, hb2⟩ := h3 i hi
          have : b = m := by omega
          subst this
          exact hw hb2)]
        omega
  rw [key _ (Nat.le_refl _), kCt_all N (fun i hi => by obtain ⟨b, hb, hb1, _⟩ := h3 i hi; unfold gMany; omega), h1]
end
