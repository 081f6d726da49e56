/-! THE CLASS: a boat through a lock, pure -/
section
variable {S S' E : Nat → Int} {K : Nat → Nat → Int} {k s b : Nat} {l u n : Int}
def kI (S : Nat → Int) : Prop := ∀ i : Nat, (i : Int) < S 150 → (gArr S i → gF S i 2 = gF S i 3) ∧ gF S i 4 < gF S i 0 ∧ gF S i 7 < S 151
/-- all queues: s is 0 below, 1 above -/
def kQs (K : Nat → Nat → Int) (S : Nat → Int) : Prop := ∀ k s, k < 5 → s < 2 → kQ (K (6 + 2 * s + 5 * k) 1) (K (7 + 2 * s + 5 * k)) S k (1 - (s : Int))
theorem kQs_of (h : ∀ k, k < 5 → kQ (K (6 + 5 * k) 1) (K (7 + 5 * k)) S k 1 ∧ kQ (K (8 + 5 * k) 1) (K (9 + 5 * k)) S k 0) : kQs K S := by
  intro k s hk hs
  have : s = 0 ∨ s = 1 := by omega
  rcases this with rfl | rfl
  · exact (h k hk).1
  · exact (h k hk).2
theorem kQs_to (h : kQs K S) : ∀ k, k < 5 → kQ (K (6 + 5 * k) 1) (K (7 + 5 * k)) S k 1 ∧ kQ (K (8 + 5 * k) 1) (K (9 + 5 * k)) S k 0 :=
  fun k hk => ⟨h k 0 hk (by decide), h k 1 hk (by decide)⟩
theorem gQue_lt : ∀ n : Nat, b < n → ¬ gWt S b l u → gQue S l u n < n
  | 0, h, _ => absurd h (by omega)
  | n + 1, h, hw => by
    have := gQue_range S l u n
    unfold gQue
    by_cases hb : b = n
    · subst hb; rw [if_neg hw]; omega
    · have := gQue_lt n (by omega) hw
      split <;> omega
theorem kQ_room (h : kQ n E S l u) (hW : gW S) (hb : (b : Int) < S 150) (hw : ¬ gWt S b l u) : n < 16 := by
  have h150 := hW.1
  have h1 := kQ_que h h150.1
  have h2 := gQue_lt (gMany S) (show b < gMany S by unfold gMany; omega) hw
  unfold gMany at h2
  unfold gMany at h1
  omega
theorem kQ_away (h : kQ n E S l u) (h150 : S' 150 = S 150) (hs : ∀ b' : Nat, (b' : Int) < S 150 → ¬ b' = b → kSame S S' b') (hw : ¬ gWt S b l u) (hw' : ¬ gWt S' b l u) : kQ n E S' l u := by
  obtain ⟨N, h1, h2, h3, h4, h5⟩ := h
  have hin : ∀ i, i < N → ∃ b' : Nat, E i = b' ∧ (b' : Int) < S 150 ∧ ¬ b' = b ∧ gWt S b' l u := fun i hi => by
    obtain ⟨b', e1, e2, e3⟩ := h3 i hi
    exact ⟨b', e1, e2, fun hq => by subst hq; exact hw e3, e3⟩
  refine ⟨N, h1, h2, fun i hi => ?_, fun i j hij hj => ?_, fun b' hb' hw'' => ?_⟩
  · obtain ⟨b', e1, e2, e3, e4⟩ := hin i hi
    exact ⟨b', e1, by omega, (kSame_wt (hs b' e2 e3)).mpr e4⟩
  · obtain ⟨b', e1, e2, e3, e4⟩ := hin i (by omega)
    obtain ⟨b'', f1, f2, f3, f4⟩ := hin j hj
    have := h4 i j hij hj
    rw [e1, f1, Int.toNat_natCast, Int.toNat_natCast] at this ⊢
    rw [(hs b' e2 e3).2.2.2, (hs b'' f2 f3).2.2.2]
    exact this
  · by_cases hq : b' = b
    · subst hq; exact absurd hw'' hw'
    · exact h5 b' (by omega) ((kSame_wt (hs b' (by omega) hq)).mp hw'')
theorem gArrN_one : ∀ n : Nat, b < n → ¬ gArr S b → gArr S' b → (∀ b', b' < n → ¬ b' = b → gF S' b' 5 = gF S b' 5) → gArrN S' n = gArrN S n + 1
  | 0, h, _, _, _ => absurd h (by omega)
  | n + 1, h, h1, h2, h3 => by
    unfold gArrN
    by_cases hb : b = n
    · subst hb
      rw [if_neg h1, if_pos h2, gArrN_same b (fun b' hb' => h3 b' (by omega) (by omega))]
      omega
    · rw [gArrN_one n (by omega) h1 h2 (fun b' hb' hn => h3 b' (by omega) hn)]
      have e : gF S' n 5 = gF S n 5 := h3 n (by omega) (by omega)
      unfold gArr
      rw [e]
      omega
theorem gWat_same : ∀ n : Nat, (∀ i, i < n → S' i = S i) → gWat S' n = gWat S n
  | 0, _ => rfl
  | n + 1, h => by
    unfold gWat
    rw [gWat_same n (fun i hi => h i (by omega)), h n (by omega)]
/-- where a boat stands before its lock -/
theorem gLk_pos (hB : gB S b) (hn : ¬ gArr S b) (hk : gLk S b = k) : k < 5 ∧ (gUp S b → gF S b 2 = k ∧ gNx S b = k + 1) ∧ (¬ gUp S b → gF S b 2 = k + 1 ∧ gNx S b = k ∧ gF S b 3 ≤ k) := by
  have hl := gLk_range0 hB hn
  unfold gB at hB
  have hne := hB.2.2.2.2.2.2.2 (Decidable.not_not.mp hn)
  unfold gLk at hk hl
  unfold gNx
  refine ⟨?_, fun h => ?_, fun h => ?_⟩
  · split at hk <;> omega
  · rw [if_pos h] at hk ⊢; omega
  · rw [if_neg h] at hk ⊢; unfold gUp at h; omega
end
