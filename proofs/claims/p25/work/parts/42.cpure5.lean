section
variable {S S' : Nat → Int} {K : Nat → Nat → Int} {k : Nat}
theorem gArrN_same : ∀ n : Nat, (∀ b, b < n → gF S' b 5 = gF S b 5) → gArrN S' n = gArrN S n
  | 0, _ => rfl
  | n + 1, h => by
    unfold gArrN gArr
    rw [gArrN_same n (fun b hb => h b (by omega)), h n (by omega)]
theorem gWat_u1 {i : Nat} {v : Int} : ∀ n : Nat, gWat (cs_u1 S i v) n = gWat S n + if i < n then v - S i else 0
  | 0 => by rw [if_neg (by omega)]; rfl
  | n + 1 => by
    unfold gWat
    rw [gWat_u1 n]
    by_cases h : i = n
    · subst h
      rw [if_neg (by omega), if_pos (by omega), cs_u1_at]; omega
    · rw [cs_u1_ne (by omega)]
      by_cases h' : i < n
      · rw [if_pos h', if_pos (by omega)]; omega
      · rw [if_neg h', if_neg (by omega)]; omega
theorem kRel_turn (h : kRel K S) (hk : k < 5) (hW : gW S) : kRel (kTurn K k) (gTurn S k) := by
  obtain ⟨⟨c4, c5, c6, c7, c8, cw⟩, hd, hs, hl, hq, hb⟩ := h
  have h150 := hW.1
  have e150 : gTurn S k 150 = S 150 := gTurn_hi hk (by decide) (by decide)
  have hF : ∀ b w, b < 16 → w < 8 → gF (gTurn S k) b w = gF S b w := fun b w h1 h2 => gTurn_F hk h1 h2
  have hA : gArrN (gTurn S k) (gMany (gTurn S k)) = gArrN S (gMany S) := by
    unfold gMany; rw [e150]
    exact gArrN_same _ (fun b hb => hF b 5 (by omega) (by decide))
  have hsame : ∀ b : Nat, (b : Int) < S 150 → kSame S (gTurn S k) b := fun b hb => ⟨hF b 2 (by omega) (by decide), hF b 3 (by omega) (by decide), hF b 5 (by omega) (by decide), hF b 7 (by omega) (by decide)⟩
  have hl2 := (hl k hk).1
  have hQ : ∀ k', k' < 5 → kQ (K (6 + 5 * k') 1) (K (7 + 5 * k')) (gTurn S k) k' 1 ∧ kQ (K (8 + 5 * k') 1) (K (9 + 5 * k')) (gTurn S k) k' 0 := fun k' hk' => ⟨kQ_same (hq k' hk').1 e150 hsame, kQ_same (hq k' hk').2 e150 hsame⟩
  have hB : ∀ i : Nat, (i : Int) < gTurn S k 150 → kBoat (K (30 + i)) (gTurn S k) i := fun i hi => by
    have := hb i (by omega)
    unfold kBoat at this ⊢
    rw [hF i 0 (by omega) (by decide), hF i 1 (by omega) (by decide), hF i 2 (by omega) (by decide), hF i 3 (by omega) (by decide), hF i 4 (by omega) (by decide), hF i 6 (by omega) (by decide), hF i 5 (by omega) (by decide)]
    exact this
  have e149 : gTurn S k 149 = S 149 := gTurn_hi hk (by decide) (by decide)
  have e153 : gTurn S k 153 = S 153 := gTurn_hi hk (by decide) (by decide)
  have e154 : ∀ j, j < 3 → gTurn S k (154 + j) = S (154 + j) := fun j hj => gTurn_hi hk (by omega) (by omega)
  have hW2 := hW.2.1 k (by omega)
  have hW3 := hW.2.2.1 k hk
  by_cases hp : 0 < S (6 + k)
  · have hov : kOv K k (K (5 + 5 * k) 2) = if 90 < S k + S (6 + k) then S k + S (6 + k) - 90 else 0 := by
      unfold kOv
      rw [hl2, hd k (by omega)]
      by_cases ho : 90 < S k + S (6 + k)
      · rw [if_pos ho, if_pos (by omega)]
      · rw [if_neg ho, if_neg (by omega)]
    have eK : kTurn K k = cs_us (cs_us (cs_us K 1 (cs_u1 (K 1) k (K 1 k + (K (5 + 5 * k) 2 - kOv K k (K (5 + 5 * k) 2))))) 0 (cs_u1 (K 0) 7 (K 0 7 + kOv K k (K (5 + 5 * k) 2)))) (5 + 5 * k) (cs_u1 (K (5 + 5 * k)) 2 0) := by
      unfold kTurn; rw [if_pos (by omega)]
    have eS : gTurn S k = cs_u1 (cs_u1 (cs_u1 S (6 + k) 0) k (if 90 < S k + S (6 + k) then 90 else S k + S (6 + k))) 152 (S 152 + (if 90 < S k + S (6 + k) then S k + S (6 + k) - 90 else 0)) := by
      unfold gTurn; rw [if_pos hp]
    obtain ⟨ov, hov'⟩ : ∃ ov, (if 90 < S k + S (6 + k) then S k + S (6 + k) - 90 else 0) = ov := ⟨_, rfl⟩
    have h90 : (if 90 < S k + S (6 + k) then 90 else S k + S (6 + k)) = S k + S (6 + k) - ov := by
      rw [← hov']; split <;> omega
    rw [hov, hov'] at eK
    rw [hov', h90] at eS
    rw [hl2, hd k (by omega)] at eK
    have a0 : kTurn K k 0 = cs_u1 (K 0) 7 (K 0 7 + ov) := by rw [eK, cs_us_ne (by omega), cs_us_at]
    have a1 : kTurn K k 1 = cs_u1 (K 1) k (S k + (S (6 + k) - ov)) := by rw [eK, cs_us_ne (by omega), cs_us_ne (by omega), cs_us_at]
    have a5 : kTurn K k (5 + 5 * k) = cs_u1 (K (5 + 5 * k)) 2 0 := by rw [eK, cs_us_at]
    have aO : ∀ d, ¬ d = 0 → ¬ d = 1 → ¬ d = 5 + 5 * k → kTurn K k d = K d := fun d h0 h1 h2 => by rw [eK, cs_us_ne h2, cs_us_ne h0, cs_us_ne h1]
    refine ⟨⟨?_, ?_, ?_, ?_, ?_, ?_⟩, fun j hj => ?_, fun j hj => ?_, fun j hj => ?_, fun j hj => ?_, fun i hi => ?_⟩
    · rw [a0, cs_u1_ne (by decide), e150]; exact c4
    · rw [a0, cs_u1_ne (by decide), hA]; exact c5
    · rw [a0, cs_u1_ne (by decide), e149]; exact c6
    · rw [a0, cs_u1_at, eS, cs_u1_at, c7]
    · rw [a0, cs_u1_ne (by decide), e153]; exact c8
    · rw [a0, cs_u1_at, cs_u1_ne (by decide), cs_u1_ne (by decide), cs_u1_ne (by decide), eS, gWat_u1, if_neg (show ¬ (152 < 11) by decide), gWat_u1, if_pos (show k < 11 by omega), gWat_u1, if_pos (show 6 + k < 11 by omega), cs_u1_ne (show k ≠ 6 + k by omega)]
      omega
    · rw [a1, eS, cs_u1_ne (show j ≠ 152 by omega)]
      by_cases hjk : j = k
      · subst hjk; rw [cs_u1_at, cs_u1_at]; omega
      · rw [cs_u1_ne hjk, cs_u1_ne hjk, cs_u1_ne (by omega)]; exact hd j hj
    · rw [aO 2 (by omega) (by omega) (by omega), e154 j hj]; exact hs j hj
    · obtain ⟨l1, l2, l3⟩ := hl j hj
      rw [eS]
      by_cases hjk : j = k
      · subst hjk
        rw [a5, cs_u1_at, cs_u1_ne (show (3 : Nat) ≠ 2 by decide), cs_u1_ne (show (4 : Nat) ≠ 2 by decide)]
        simp (disch := omega) only [cs_u1_ne, cs_u1_at]
        exact ⟨trivial, l2, l3⟩
      · rw [aO (5 + 5 * j) (by omega) (by omega) (by omega)]
        simp (disch := omega) only [cs_u1_ne]
        exact ⟨l1, l2, l3⟩
    · rw [aO (6 + 5 * j) (by omega) (by omega) (by omega), aO (7 + 5 * j) (by omega) (by omega) (by omega), aO (8 + 5 * j) (by omega) (by omega) (by omega), aO (9 + 5 * j) (by omega) (by omega) (by omega)]
      exact hQ j hj
    · rw [aO (30 + i) (by omega) (by omega) (by omega)]; exact hB i hi
  · have hl6 : S (6 + k) = 0 := by omega
    have hs0 : K 2 0 = S 154 := hs 0 (by decide)
    have hd1 := hd (k + 1) (by omega)
    have hl4 := (hl k hk).2.2
    have eK : kTurn K k = cs_us (cs_us K 1 (cs_u1 (K 1) (k + 1) (S (k + 1) - S 154))) (5 + 5 * k) (cs_u1 (cs_u1 (K (5 + 5 * k)) 2 (S 154)) 4 (S (16 + k) + 1)) := by
      unfold kTurn; rw [if_neg (by omega), hs0, hd1, hl4]
    have eS : gTurn S k = cs_u1 (cs_u1 (cs_u1 S (k + 1) (S (k + 1) - S 154)) (6 + k) (S 154)) (16 + k) (S (16 + k) + 1) := by
      unfold gTurn; rw [if_neg hp]
    have a0 : kTurn K k 0 = K 0 := by rw [eK, cs_us_ne (by omega), cs_us_ne (by omega)]
    have a1 : kTurn K k 1 = cs_u1 (K 1) (k + 1) (S (k + 1) - S 154) := by rw [eK, cs_us_ne (by omega), cs_us_at]
    have a5 : kTurn K k (5 + 5 * k) = cs_u1 (cs_u1 (K (5 + 5 * k)) 2 (S 154)) 4 (S (16 + k) + 1) := by rw [eK, cs_us_at]
    have aO : ∀ d, ¬ d = 1 → ¬ d = 5 + 5 * k → kTurn K k d = K d := fun d h1 h2 => by rw [eK, cs_us_ne h2, cs_us_ne h1]
    refine ⟨⟨?_, ?_, ?_, ?_, ?_, ?_⟩, fun j hj => ?_, fun j hj => ?_, fun j hj => ?_, fun j hj => ?_, fun i hi => ?_⟩
    · rw [a0, e150]; exact c4
    · rw [a0, hA]; exact c5
    · rw [a0, e149]; exact c6
    · rw [a0, eS]; simp (disch := omega) only [cs_u1_ne]; exact c7
    · rw [a0, e153]; exact c8
    · rw [a0, eS, gWat_u1, if_neg (show ¬ (16 + k < 11) by omega), gWat_u1, if_pos (show 6 + k < 11 by omega), gWat_u1, if_pos (show k + 1 < 11 by omega), cs_u1_ne (show 6 + k ≠ k + 1 by omega)]
      omega
    · rw [a1, eS, cs_u1_ne (show j ≠ 16 + k by omega), cs_u1_ne (show j ≠ 6 + k by omega)]
      by_cases hjk : j = k + 1
      · subst hjk; rw [cs_u1_at, cs_u1_at]
      · rw [cs_u1_ne hjk, cs_u1_ne hjk]; exact hd j hj
    · rw [aO 2 (by omega) (by omega), e154 j hj]; exact hs j hj
    · obtain ⟨l1, l2, l3⟩ := hl j hj
      rw [eS]
      by_cases hjk : j = k
      · subst hjk
        rw [a5]
        simp (disch := omega) only [cs_u1_ne, cs_u1_at]
        exact ⟨trivial, l2, trivial⟩
      · rw [aO (5 + 5 * j) (by omega) (by omega)]
        simp (disch := omega) only [cs_u1_ne]
        exact ⟨l1, l2, l3⟩
    · rw [aO (6 + 5 * j) (by omega) (by omega), aO (7 + 5 * j) (by omega) (by omega), aO (8 + 5 * j) (by omega) (by omega), aO (9 + 5 * j) (by omega) (by omega)]
      exact hQ j hj
    · rw [aO (30 + i) (by omega) (by omega)]; exact hB i hi
end
