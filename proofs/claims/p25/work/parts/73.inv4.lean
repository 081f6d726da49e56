/-! PURE: what a tick does -/
section
variable {S S' : Nat → Int} {b c k f n M j : Nat} {l u t t' : Int}
/-- passages and fillings of the locks in a lock's work -/
theorem gAct_pf (hW : gW S) (hk : k < 5) (hj : j < 5) : (S (11 + j) ≤ gAct S k (11 + j) ∧ gAct S k (11 + j) ≤ S (11 + j) + (if j = k then 1 else 0)) ∧ (S (16 + j) ≤ gAct S k (16 + j) ∧ gAct S k (16 + j) ≤ S (16 + j) + (if j = k then 1 else 0)) := by
  have h150 := hW.1
  have h0 : (0 : Int) ≤ if j = k then 1 else 0 := by split <;> decide
  have t16 : S (16 + j) ≤ gTurn S k (16 + j) ∧ gTurn S k (16 + j) ≤ S (16 + j) + (if j = k then 1 else 0) := by
    rw [gTurn_16 hk hj]
    by_cases e : j = k
    · rw [if_pos e]; split <;> omega
    · rw [if_neg e, if_neg (show ¬ (j = k ∧ ¬ 0 < S (6 + k)) from fun q => e q.1)]; omega
  rcases gAct_cases (k := k) hW with e | ⟨hc, e⟩ | ⟨f, hf, hc, e1, e2, e3, e⟩
  · rw [e]; omega
  · rw [e, gTurn_11 hk hj]; exact ⟨⟨by omega, by omega⟩, t16⟩
  · rw [e]
    have hf16 : f < 16 := by omega
    have hlk : gLk (gTurn S k) f = k := by rw [(gTurn_lk hk hf16).1]; exact e2.2.1
    rw [gGo_out hlk (i := 16 + j) (by omega) (by omega) (by omega)]
    refine ⟨?_, t16⟩
    by_cases q : j = k
    · subst q; rw [gGo_11 hlk hk hf16, gTurn_11 hk hj, if_pos rfl]; omega
    · rw [gGo_out hlk (by omega) (by omega) (by omega), gTurn_11 hk hj]; omega
theorem gActs_pf (hW : gW S) (hjj : S 151 + 5 ≤ 2000000) (hj : j < 5) : ∀ n : Nat, n ≤ 5 → (S (11 + j) ≤ gActs S n (11 + j) ∧ gActs S n (11 + j) ≤ S (11 + j) + (if j < n then 1 else 0)) ∧ (S (16 + j) ≤ gActs S n (16 + j) ∧ gActs S n (16 + j) ≤ S (16 + j) + (if j < n then 1 else 0))
  | 0, _ => by rw [if_neg (by omega)]; simp only [gActs]; omega
  | n + 1, hn => by
    obtain ⟨g1, g2, g3, g4⟩ := gActs_ok hW hjj n (by omega)
    have ih := gActs_pf hW hjj hj n (by omega)
    have a := gAct_pf g1 (show n < 5 by omega) hj
    simp only [gActs]
    by_cases e : j = n
    · rw [if_pos e] at a
      rw [if_neg (by omega)] at ih
      rw [if_pos (by omega)]
      omega
    · rw [if_neg e] at a
      by_cases e2 : j < n
      · rw [if_pos e2] at ih; rw [if_pos (by omega)]; omega
      · rw [if_neg e2] at ih; rw [if_neg (by omega)]; omega
theorem gTick_o (hW : gW S) (hjj : S 151 + 5 ≤ 2000000) {i : Nat} (a1 : 6 ≤ i) (a2 : ¬ i = 149) (a3 : ¬ i = 152) (a4 : ¬ i = 153) : gTick S i = gActs S 5 i := by
  obtain ⟨f1, f2⟩ := gFlow_ok (gActs_ok hW hjj 5 (by decide)).1
  unfold gTick
  rw [cs_u1_ne a2, f2 i a1 a3 a4]
theorem gTick_pf (hW : gW S) (hjj : S 151 + 5 ≤ 2000000) (hj : j < 5) : (S (11 + j) ≤ gTick S (11 + j) ∧ gTick S (11 + j) ≤ S (11 + j) + 1) ∧ (S (16 + j) ≤ gTick S (16 + j) ∧ gTick S (16 + j) ≤ S (16 + j) + 1) := by
  have h := gActs_pf hW hjj hj 5 (by decide)
  rw [if_pos hj] at h
  rw [gTick_o hW hjj (by omega) (by omega) (by omega) (by omega), gTick_o hW hjj (by omega) (by omega) (by omega) (by omega)]
  exact h
theorem gTicks_pf (hW : gW S) (hj : j < 5) : ∀ n : Nat, S 151 + 5 * n ≤ 2000000 → S 149 + n ≤ 200000 → (S (11 + j) ≤ gTicks S n (11 + j) ∧ gTicks S n (11 + j) ≤ S (11 + j) + n) ∧ (S (16 + j) ≤ gTicks S n (16 + j) ∧ gTicks S n (16 + j) ≤ S (16 + j) + n)
  | 0, _, _ => by simp only [gTicks]; omega
  | n + 1, hjj, ht => by
    obtain ⟨h1, h2, h3, h4, h5⟩ := gTicks_ok hW n (by omega) (by omega)
    have ih := gTicks_pf hW hj n (by omega) (by omega)
    have a := gTick_pf h1 (by omega) hj
    simp only [gTicks]
    omega
theorem gSum_pf (hW : gW S) (hjj : S 151 + 5 * n ≤ 2000000) (ht : S 149 + n ≤ 200000) : gSum S 11 5 ≤ gSum (gTicks S n) 11 5 ∧ gSum (gTicks S n) 11 5 ≤ gSum S 11 5 + 5 * n := by
  have q0 := (gTicks_pf (j := 0) hW (by decide) n hjj ht).1
  have q1 := (gTicks_pf (j := 1) hW (by decide) n hjj ht).1
  have q2 := (gTicks_pf (j := 2) hW (by decide) n hjj ht).1
  have q3 := (gTicks_pf (j := 3) hW (by decide) n hjj ht).1
  have q4 := (gTicks_pf (j := 4) hW (by decide) n hjj ht).1
  simp only [Nat.reduceAdd] at q0 q1 q2 q3 q4
  rw [gSum_11, gSum_11]
  omega
/-- water: what a lock's work, a flow, a tick make of it -/
theorem gTurn_wat (hW : gW S) (hk : k < 5) : gWat (gTurn S k) 11 + gTurn S k 152 = gWat S 11 + S 152 := by
  have h6 := hW.2.2.1 k hk
  unfold gTurn
  by_cases h : 0 < S (6 + k)
  · rw [if_pos h, cs_u1_at, gWat_u1, gWat_u1, gWat_u1]
    simp (disch := omega) only [cs_u1_ne]
    rw [if_neg (show ¬ (152 : Nat) < 11 by decide), if_pos (show k < 11 by omega), if_pos (show 6 + k < 11 by omega)]
    split <;> omega
  · rw [if_neg h, gWat_u1, gWat_u1, gWat_u1]
    simp (disch := omega) only [cs_u1_ne]
    rw [if_neg (show ¬ 16 + k < 11 by omega), if_pos (show 6 + k < 11 by omega), if_pos (show k + 1 < 11 by omega)]
    omega
theorem gAct_wat (hW : gW S) (hk : k < 5) : gWat (gAct S k) 11 + gAct S k 152 = gWat S 11 + S 152 := by
  have h150 := hW.1
  rcases gAct_cases (k := k) hW with e | ⟨hc, e⟩ | ⟨f, hf, hc, e1, e2, e3, e⟩
  · rw [e]
  · rw [e]; exact gTurn_wat hW hk
  · rw [e]
    have hlk : gLk (gTurn S k) f = k := by rw [(gTurn_lk hk (show f < 16 by omega)).1]; exact e2.2.1
    rw [gWat_same (S := gTurn S k) 11 (fun i hi => gGo_out hlk (by omega) (by omega) (by omega)), gGo_out hlk (by omega) (by omega) (by omega)]
    exact gTurn_wat hW hk
theorem gActs_wat (hW : gW S) (hjj : S 151 + 5 ≤ 2000000) : ∀ n : Nat, n ≤ 5 → gWat (gActs S n) 11 + gActs S n 152 = gWat S 11 + S 152
  | 0, _ => rfl
  | n + 1, hn => by
    obtain ⟨g1, g2, g3, g4⟩ := gActs_ok hW hjj n (by omega)
    simp only [gActs]
    rw [gAct_wat g1 (by omega)]
    exact gActs_wat hW hjj n (by omega)
theorem gTick_wat (hW : gW S) (hjj : S 151 + 5 ≤ 2000000) : gWat (gTick S) 11 + gTick S 152 = gWat S 11 + S 152 + S 156 := by
  have h := gActs_wat hW hjj 5 (by decide)
  have e156 : gActs S 5 156 = S 156 := (gActs_ok hW hjj 5 (by decide)).2.1 156 (by decide) (by decide) (by decide)
  obtain ⟨A, hA⟩ : ∃ A, gActs S 5 = A := ⟨_, rfl⟩
  rw [hA] at h e156
  have hf := gFlN_wat 6 (cs_u1 (cs_u1 A 5 (A 5 + A 156)) 153 (A 153 + A 156)) (by decide)
  have e1 : gWat (gTick S) 11 = gWat (gFlow A) 11 := by
    unfold gTick
    rw [hA]
    exact gWat_same 11 (fun i hi => cs_u1_ne (by omega))
  have e2 : gTick S 152 = gFlow A 152 := by
    unfold gTick
    rw [hA]
    exact cs_u1_ne (by decide)
  rw [e1, e2]
  unfold gFlow
  rw [hf, gWat_u1, gWat_u1, cs_u1_ne (by decide), if_neg (show ¬ (153 : Nat) < 11 by decide), if_pos (show (5 : Nat) < 11 by decide), cs_u1_ne (by decide), cs_u1_ne (by decide)]
  omega
/-- boats: who goes, who stays -/
theorem gAct_stay (hW : gW S) (hk : k < 5) (hb : (b : Int) < S 150) (ha : gArr S b) : ∀ w, w < 8 → gF (gAct S k) b w = gF S b w := by
  have h150 := hW.1
  intro w hw
  rcases gAct_cases (k := k) hW with e | ⟨hc, e⟩ | ⟨f, hf, hc, e1, e2, e3, e⟩
  · rw [e]
  · rw [e]; exact gTurn_F hk (by omega) hw
  · rw [e]
    have hlk : gLk (gTurn S k) f = k := by rw [(gTurn_lk hk (show f < 16 by omega)).1]; exact e2.2.1
    rw [gGo_same hlk hk (by omega) b (by omega) (fun z => e2.1 (by rw [← z]; exact ha)) w hw, gTurn_F hk (by omega) hw]
theorem gAct_6 (hW : gW S) (hk : k < 5) (hb : (b : Int) < S 150) : gF S b 6 ≤ gF (gAct S k) b 6 := by
  have h150 := hW.1
  rcases gAct_cases (k := k) hW with e | ⟨hc, e⟩ | ⟨f, hf, hc, e1, e2, e3, e⟩
  · rw [e]; exact Int.le_refl _
  · rw [e, gTurn_F hk (by omega) (by decide)]; exact Int.le_refl _
  · rw [e]
    have hf16 : f < 16 := by omega
    have hlk : gLk (gTurn S k) f = k := by rw [(gTurn_lk hk hf16).1]; exact e2.2.1
    by_cases q : b = f
    · subst q
      have t6 : gF (gTurn S k) b 6 = gF S b 6 := gTurn_F hk hf16 (by decide)
      have : gF (gGo (gTurn S k) b) b 6 = gF (gTurn S k) b 6 + 1 := by
        by_cases z : gTurn S k 155 < gF (gTurn S k) b 0 - gF (gTurn S k) b 4
        · exact (gGo_A hlk hk hf16 z).2.2.2.2.2.2.1
        · by_cases z2 : gNx (gTurn S k) b = gF (gTurn S k) b 3
          · exact (gGo_B hlk hk hf16 z z2).2.2.2.2.2.2.1
          · exact (gGo_C hlk hk hf16 z z2).2.2.2.2.2.2.1
      omega
    · rw [gGo_same hlk hk hf16 b (by omega) q 6 (by decide), gTurn_F hk (by omega) (by decide)]; exact Int.le_refl _
/-- the boat at its own lock's turn -/
theorem gAct_own (hW : gW S) (hD : pD S) (hk : k < 5) (hb : (b : Int) < S 150) (hn : ¬ gArr S b) (hl : gLk S b = k) :
    (gHind S b = 0 → gF S b 6 < gF (gAct S k) b 6) ∧ (¬ gHind S b = 0 → ∀ w, w < 8 → gF (gAct S k) b w = gF S b w) := by
  have h150 := hW.1
  have hb16 : b < 16 := by omega
  have hwb : gWt S b k (gSd S b) := ⟨hn, hl, rfl⟩
  have hf0 := gFst_0 hW hD hb hwb
  unfold gHind
  rw [hl, Int.toNat_natCast]
  have hside : gU S k = gSd S b ↔ ¬ (0 < S (6 + k) ↔ gUp S b) := by
    unfold gU gSd
    by_cases h1 : 0 < S (6 + k) <;> by_cases h2 : gUp S b
    · rw [if_pos h1, if_pos h2]; simp only [h1, h2]; simp
    · rw [if_pos h1, if_neg h2]; simp only [h1, h2]; simp
    · rw [if_neg h1, if_pos h2]; simp only [h1, h2]; simp
    · rw [if_neg h1, if_neg h2]; simp only [h1, h2]; simp
  constructor
  · intro h
    by_cases a1 : gAg S b
    · rw [if_pos a1] at h; exact absurd h (by decide)
    · rw [if_neg a1] at h
      by_cases a2 : 0 < gPl S b (gMany S)
      · rw [if_pos a2] at h; exact absurd h (by decide)
      · rw [if_neg a2] at h
        by_cases a3 : 0 < S (6 + k) ↔ gUp S b
        · rw [if_pos a3] at h; exact absurd h (by decide)
        · rw [if_neg a3] at h
          by_cases a4 : gCan S k
          · have hu := hside.mpr a3
            have hF : gFst S k (gU S k) (gMany S) = b := by rw [hu]; exact hf0.mpr a2
            have e : gAct S k = gGo (gTurn S k) b := by
              unfold gAct
              rw [hF, if_neg (by omega), Int.toNat_natCast, if_pos ⟨a1, a4⟩]
            have hlk : gLk (gTurn S k) b = k := by rw [(gTurn_lk hk hb16).1]; exact hl
            have t6 : gF (gTurn S k) b 6 = gF S b 6 := gTurn_F hk hb16 (by decide)
            have : gF (gGo (gTurn S k) b) b 6 = gF (gTurn S k) b 6 + 1 := by
              by_cases z : gTurn S k 155 < gF (gTurn S k) b 0 - gF (gTurn S k) b 4
              · exact (gGo_A hlk hk hb16 z).2.2.2.2.2.2.1
              · by_cases z2 : gNx (gTurn S k) b = gF (gTurn S k) b 3
                · exact (gGo_B hlk hk hb16 z z2).2.2.2.2.2.2.1
                · exact (gGo_C hlk hk hb16 z z2).2.2.2.2.2.2.1
            rw [e]; omega
          · rw [if_neg a4] at h; exact absurd h (by decide)
  · intro h w hw
    rcases gAct_cases (k := k) hW with e | ⟨hc, e⟩ | ⟨f, hf, hc, e1, e2, e3, e⟩
    · rw [e]
    · rw [e]; exact gTurn_F hk hb16 hw
    · rw [e]
      have hf16 : f < 16 := by omega
      have hlk : gLk (gTurn S k) f = k := by rw [(gTurn_lk hk hf16).1]; exact e2.2.1
      by_cases q : b = f
      · exfalso
        subst q
        apply h
        have hu : gU S k = gSd S b := e2.2.2.symm
        rw [if_neg e3, if_neg (hf0.mp (by rw [← hu]; exact e1)), if_neg (hside.mp hu), if_pos hc]
      · rw [gGo_same hlk hk hf16 b (by omega) q w hw, gTurn_F hk hb16 hw]
end
