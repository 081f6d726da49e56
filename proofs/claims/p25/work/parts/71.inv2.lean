/-! PURE: what else the row keeps -/
section
variable {S S' : Nat → Int} {b c k f n M : Nat} {l u t t' : Int}
/-- the passages of the boats below n -/
def pSum (S : Nat → Int) : Nat → Int
  | 0 => 0
  | n + 1 => pSum S n + gF S n 6
def pJ (S : Nat → Int) (t : Int) : Prop :=
  (∀ b : Nat, (b : Int) < S 150 → gF S b 5 < t) ∧
  (∀ b c : Nat, (b : Int) < S 150 → (c : Int) < S 150 → ¬ gArr S b → 0 < gF S b 4 → gWt S c (gLk S b) (gSd S b) → gF S b 7 ≤ gF S c 7) ∧
  pSum S (gMany S) = gSum S 11 5 ∧
  (∀ k, k < 5 → 0 ≤ S (11 + k) ∧ S (11 + k) + (if 0 < S (6 + k) then 1 else 0) ≤ 2 * S (16 + k)) ∧
  (∀ b : Nat, (b : Int) < S 150 → 0 ≤ gF S b 6) ∧ pD S
theorem gSum_11 : gSum S 11 5 = S 11 + S 12 + S 13 + S 14 + S 15 := by simp [gSum]
theorem gSum_16 : gSum S 16 5 = S 16 + S 17 + S 18 + S 19 + S 20 := by simp [gSum]
theorem pSum_same : ∀ n : Nat, (∀ b, b < n → gF S' b 6 = gF S b 6) → pSum S' n = pSum S n
  | 0, _ => rfl
  | n + 1, h => by
    simp only [pSum]
    rw [pSum_same n (fun b hb => h b (by omega)), h n (by omega)]
theorem pSum_one : ∀ n : Nat, b < n → gF S' b 6 = gF S b 6 + 1 → (∀ c, c < n → ¬ c = b → gF S' c 6 = gF S c 6) → pSum S' n = pSum S n + 1
  | 0, h, _, _ => absurd h (by omega)
  | n + 1, h, h1, h2 => by
    simp only [pSum]
    by_cases e : b = n
    · subst e
      rw [pSum_same b (fun c hc => h2 c (by omega) (by omega)), h1]
      omega
    · rw [pSum_one n (by omega) h1 (fun c hc hne => h2 c (by omega) hne), h2 n (by omega) (fun q => e q.symm)]
      omega
theorem pSum_ge : ∀ n : Nat, (∀ c, c < n → 0 ≤ gF S c 6) → 0 ≤ pSum S n ∧ ∀ c, c < n → gF S c 6 ≤ pSum S n
  | 0, _ => ⟨Int.le_refl 0, fun c hc => absurd hc (by omega)⟩
  | n + 1, h => by
    obtain ⟨i1, i2⟩ := pSum_ge n (fun c hc => h c (by omega))
    have hn := h n (by omega)
    simp only [pSum]
    refine ⟨by omega, fun c hc => ?_⟩
    by_cases e : c = n
    · subst e; omega
    · have := i2 c (by omega); omega
theorem gWt_cg (h2 : gF S' b 2 = gF S b 2) (h3 : gF S' b 3 = gF S b 3) (h5 : gF S' b 5 = gF S b 5) : (gWt S' b l u ↔ gWt S b l u) ∧ gLk S' b = gLk S b ∧ gSd S' b = gSd S b := by
  unfold gWt gArr gLk gSd gUp
  rw [h2, h3, h5]
  exact ⟨Iff.rfl, rfl, rfl⟩
theorem pJ_cg (h : pJ S t) (h16 : S 150 ≤ 16) (h150 : S' 150 = S 150) (hF : ∀ b, b < 16 → ∀ w, 2 ≤ w → w < 8 → gF S' b w = gF S b w) (hl : ∀ i, 6 ≤ i → i < 21 → S' i = S i) (ht : t ≤ t') : pJ S' t' := by
  obtain ⟨j1, j2, j3, j4, j5, j6⟩ := h
  have hw : ∀ (b : Nat) (l u : Int), b < 16 → (gWt S' b l u ↔ gWt S b l u) ∧ gLk S' b = gLk S b ∧ gSd S' b = gSd S b := fun b l u hb => gWt_cg (hF b hb 2 (by decide) (by decide)) (hF b hb 3 (by decide) (by decide)) (hF b hb 5 (by decide) (by decide))
  refine ⟨fun b hb => ?_, fun b c hb hc ha h4 hwc => ?_, ?_, fun k hk => ?_, fun b hb => ?_, fun b c hb hc e => ?_⟩
  · rw [h150] at hb
    rw [hF b (by omega) 5 (by decide) (by decide)]
    have := j1 b hb; omega
  · rw [h150] at hb hc
    have hb16 : b < 16 := by omega
    have hc16 : c < 16 := by omega
    rw [(hw b 0 0 hb16).2.1, (hw b 0 0 hb16).2.2] at hwc
    unfold gArr at ha
    rw [hF b hb16 5 (by decide) (by decide)] at ha
    rw [hF b hb16 4 (by decide) (by decide)] at h4
    rw [hF b hb16 7 (by decide) (by decide), hF c hc16 7 (by decide) (by decide)]
    exact j2 b c hb hc ha h4 ((hw c _ _ hc16).1.mp hwc)
  · rw [gSum_11] at j3 ⊢
    rw [hl 11 (by decide) (by decide), hl 12 (by decide) (by decide), hl 13 (by decide) (by decide), hl 14 (by decide) (by decide), hl 15 (by decide) (by decide), ← j3]
    unfold gMany
    rw [h150]
    exact pSum_same _ (fun b hb => hF b (by omega) 6 (by decide) (by decide))
  · rw [hl (11 + k) (by omega) (by omega), hl (6 + k) (by omega) (by omega), hl (16 + k) (by omega) (by omega)]
    exact j4 k hk
  · rw [h150] at hb
    rw [hF b (by omega) 6 (by decide) (by decide)]
    exact j5 b hb
  · rw [h150] at hb hc
    rw [hF b (by omega) 7 (by decide) (by decide), hF c (by omega) 7 (by decide) (by decide)] at e
    exact j6 b c hb hc e
theorem gTurn_11 (hk : k < 5) {j : Nat} (hj : j < 5) : gTurn S k (11 + j) = S (11 + j) := by
  unfold gTurn
  split <;> simp (disch := omega) only [cs_u1_ne]
theorem gTurn_6 (hk : k < 5) {j : Nat} (hj : j < 5) (h : ¬ j = k) : gTurn S k (6 + j) = S (6 + j) := by
  unfold gTurn
  split <;> simp (disch := omega) only [cs_u1_ne]
theorem gTurn_6k (hk : k < 5) : gTurn S k (6 + k) = if 0 < S (6 + k) then 0 else S 154 := by
  unfold gTurn
  by_cases h : 0 < S (6 + k)
  · rw [if_pos h, if_pos h]; simp (disch := omega) only [cs_u1_ne, cs_u1_at]
  · rw [if_neg h, if_neg h]; simp (disch := omega) only [cs_u1_ne, cs_u1_at]
theorem gTurn_16 (hk : k < 5) {j : Nat} (hj : j < 5) : gTurn S k (16 + j) = S (16 + j) + if j = k ∧ ¬ 0 < S (6 + k) then 1 else 0 := by
  unfold gTurn
  by_cases h : 0 < S (6 + k)
  · rw [if_pos h, if_neg (show ¬ (j = k ∧ ¬ 0 < S (6 + k)) from fun q => q.2 h)]; simp (disch := omega) only [cs_u1_ne]; omega
  · rw [if_neg h]
    by_cases e : j = k
    · subst e; rw [if_pos (show j = j ∧ ¬ 0 < S (6 + j) from ⟨rfl, h⟩)]; simp (disch := omega) only [cs_u1_at]
    · rw [if_neg (show ¬ (j = k ∧ ¬ 0 < S (6 + k)) from fun q => e q.1)]; simp (disch := omega) only [cs_u1_ne]; omega
theorem pJ_turn (hW : gW S) (h : pJ S t) (hk : k < 5) : pJ (gTurn S k) t ∧ gTurn S k (11 + k) + (if 0 < gTurn S k (6 + k) then 1 else 0) + 1 ≤ 2 * gTurn S k (16 + k) := by
  have h150 := hW.1
  have hs := hW.2.2.2.1
  obtain ⟨j1, j2, j3, j4, j5, j6⟩ := h
  have e150 : gTurn S k 150 = S 150 := gTurn_hi hk (by decide) (by decide)
  have hF : ∀ b, b < 16 → ∀ w, w < 8 → gF (gTurn S k) b w = gF S b w := fun b hb w hw => gTurn_F hk hb hw
  have hw : ∀ (b : Nat) (l u : Int), b < 16 → (gWt (gTurn S k) b l u ↔ gWt S b l u) ∧ gLk (gTurn S k) b = gLk S b ∧ gSd (gTurn S k) b = gSd S b := fun b l u hb => gWt_cg (hF b hb 2 (by decide)) (hF b hb 3 (by decide)) (hF b hb 5 (by decide))
  have key : ∀ j, j < 5 → 0 ≤ gTurn S k (11 + j) ∧ gTurn S k (11 + j) + (if 0 < gTurn S k (6 + j) then 1 else 0) + (if j = k then 1 else 0) ≤ 2 * gTurn S k (16 + j) := fun j hj => by
    have := j4 j hj
    rw [gTurn_11 hk hj, gTurn_16 hk hj]
    by_cases e : j = k
    · subst e
      rw [gTurn_6k hk, if_pos rfl]
      by_cases hp : 0 < S (6 + j)
      · rw [if_pos hp] at this
        rw [if_pos hp, if_neg (by omega), if_neg (show ¬ (j = j ∧ ¬ 0 < S (6 + j)) from fun q => q.2 hp)]
        omega
      · rw [if_neg hp] at this
        rw [if_neg hp, if_pos (by omega), if_pos ⟨rfl, hp⟩]
        omega
    · rw [gTurn_6 hk hj e, if_neg e, if_neg (show ¬ (j = k ∧ ¬ 0 < S (6 + k)) from fun q => e q.1)]
      omega
  refine ⟨⟨fun b hb => ?_, fun b c hb hc ha h4 hwc => ?_, ?_, fun j hj => ?_, fun b hb => ?_, fun b c hb hc e => ?_⟩, ?_⟩
  · rw [e150] at hb
    rw [hF b (by omega) 5 (by decide)]
    exact j1 b hb
  · rw [e150] at hb hc
    have hb16 : b < 16 := by omega
    have hc16 : c < 16 := by omega
    rw [(hw b 0 0 hb16).2.1, (hw b 0 0 hb16).2.2] at hwc
    unfold gArr at ha
    rw [hF b hb16 5 (by decide)] at ha
    rw [hF b hb16 4 (by decide)] at h4
    rw [hF b hb16 7 (by decide), hF c hc16 7 (by decide)]
    exact j2 b c hb hc ha h4 ((hw c _ _ hc16).1.mp hwc)
  · rw [gSum_11] at j3 ⊢
    rw [show (11 : Nat) = 11 + 0 from rfl, show (12 : Nat) = 11 + 1 from rfl, show (13 : Nat) = 11 + 2 from rfl, show (14 : Nat) = 11 + 3 from rfl, show (15 : Nat) = 11 + 4 from rfl, gTurn_11 hk (by decide), gTurn_11 hk (by decide), gTurn_11 hk (by decide), gTurn_11 hk (by decide), gTurn_11 hk (by decide), ← j3]
    unfold gMany
    rw [e150]
    exact pSum_same _ (fun b hb => hF b (by omega) 6 (by decide))
  · have := key j hj
    refine ⟨this.1, ?_⟩
    have h2 := this.2
    by_cases e : j = k
    · rw [if_pos e] at h2; omega
    · rw [if_neg e] at h2; omega
  · rw [e150] at hb
    rw [hF b (by omega) 6 (by decide)]
    exact j5 b hb
  · rw [e150] at hb hc
    rw [hF b (by omega) 7 (by decide), hF c (by omega) 7 (by decide)] at e
    exact j6 b c hb hc e
  · have := (key k hk).2
    rw [if_pos rfl] at this
    exact this
end
