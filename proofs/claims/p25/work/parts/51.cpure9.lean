/-! THE CLASS: flow, tick, settings, depths; pure -/
section
variable {S S' R : Nat → Int} {K K' : Nat → Nat → Int} {k s b : Nat} {n : Int}
/-- depths and what comes down behind the pounds from n - 1 to 0 -/
def kFl (d : Nat → Int) (f : Int) : Nat → (Nat → Int) × Int
  | 0 => (d, f)
  | n + 1 => kFl (cs_u1 d n (d n + (f - (if 0 < d n + f - 90 then d n + f - 90 else 0)))) (if 0 < d n + f - 90 then d n + f - 90 else 0) n
theorem kFl_ok : ∀ (n : Nat) (d R : Nat → Int) (f L : Int), n ≤ 6 → (∀ j, j < 6 → R j = d j + if j + 1 = n then f else 0) → (R 152 = L + if n = 0 then f else 0) → (∀ j, j < 6 → gFlN R n j = (kFl d f n).1 j) ∧ gFlN R n 152 = L + (kFl d f n).2
  | 0, d, R, f, L, _, h1, h2 => by
    refine ⟨fun j hj => ?_, ?_⟩
    · have := h1 j hj
      rw [if_neg (by omega)] at this
      show R j = d j
      omega
    · rw [if_pos rfl] at h2
      exact h2
  | n + 1, d, R, f, L, hn, h1, h2 => by
    simp only [gFlN, kFl]
    have hRn := h1 n (by omega)
    rw [if_pos rfl] at hRn
    rw [if_neg (by omega)] at h2
    obtain ⟨ov, hov⟩ : ∃ ov, (if 0 < d n + f - 90 then d n + f - 90 else 0) = ov := ⟨_, rfl⟩
    have hov' : (if 90 < R n then R n - 90 else 0) = ov := by
      rw [← hov, hRn]
      by_cases h : 90 < d n + f
      · rw [if_pos h, if_pos (by omega)]
      · rw [if_neg h, if_neg (by omega)]
    rw [hov]
    refine kFl_ok n _ _ ov L (by omega) (fun j hj => ?_) ?_
    · have hj1 := h1 j hj
      unfold gFlS
      by_cases hn0 : n = 0
      · subst hn0
        rw [if_pos rfl, hov', cs_u1_ne (by omega)]
        by_cases hj0 : j = 0
        · subst hj0
          rw [cs_u1_at, cs_u1_at, if_neg (by omega)]
          omega
        · rw [cs_u1_ne hj0, cs_u1_ne hj0, if_neg (by omega)]
          rw [if_neg (by omega)] at hj1
          exact hj1
      · rw [if_neg hn0, hov']
        by_cases hj0 : j = n - 1
        · subst hj0
          rw [cs_u1_at, cs_u1_ne (by omega), if_pos (by omega)]
          rw [if_neg (by omega)] at hj1
          omega
        · rw [cs_u1_ne hj0]
          by_cases hjn : j = n
          · subst hjn
            rw [cs_u1_at, cs_u1_at, if_neg (by omega)]
            omega
          · rw [cs_u1_ne hjn, cs_u1_ne hjn, if_neg (by omega)]
            rw [if_neg (by omega)] at hj1
            exact hj1
    · unfold gFlS
      by_cases hn0 : n = 0
      · subst hn0
        rw [if_pos rfl, if_pos rfl, hov', cs_u1_at]
        omega
      · rw [if_neg hn0, if_neg hn0, cs_u1_ne (by omega), cs_u1_ne (by omega)]
        omega
theorem gFlN_wat : ∀ (n : Nat) (R : Nat → Int), n ≤ 6 → gWat (gFlN R n) 11 + gFlN R n 152 = gWat R 11 + R 152
  | 0, R, _ => rfl
  | n + 1, R, hn => by
    simp only [gFlN]
    rw [gFlN_wat n _ (by omega)]
    unfold gFlS
    obtain ⟨ov, hov⟩ : ∃ ov, (if 90 < R n then R n - 90 else 0) = ov := ⟨_, rfl⟩
    rw [hov]
    by_cases hn0 : n = 0
    · rw [if_pos hn0]
      subst hn0
      rw [hov, gWat_u1, if_neg (by decide), gWat_u1, if_pos (by decide), cs_u1_at]
      omega
    · rw [if_neg hn0, gWat_u1, if_pos (by omega), gWat_u1, if_pos (by omega), cs_u1_ne (show 152 ≠ n - 1 by omega), cs_u1_ne (show 152 ≠ n by omega), cs_u1_ne (show n - 1 ≠ n by omega)]
      omega
/-- depths, settings, counters change -/
theorem kRel_low (h : kRel K S) (hW : gW S) (sO : ∀ i, 6 ≤ i → ¬ i = 149 → ¬ i = 152 → ¬ i = 153 → ¬ i = 154 → ¬ i = 155 → ¬ i = 156 → S' i = S i)
    (a4 : K' 0 4 = K 0 4) (a5 : K' 0 5 = K 0 5) (a6 : K' 0 6 = S' 149) (a7 : K' 0 7 = S' 152) (a8 : K' 0 8 = S' 153) (aw : 240 + K' 0 8 + K' 0 9 - K' 0 7 - K' 0 10 = gWat S' 11)
    (d1 : ∀ k, k < 6 → K' 1 k = S' k) (d2 : ∀ k, k < 3 → K' 2 k = S' (154 + k)) (eO : ∀ d, 3 ≤ d → K' d = K d) : kRel K' S' := by
  obtain ⟨⟨c4, c5, c6, c7, c8, cw⟩, hd, hs, hl, hq, hb⟩ := h
  have h150 := hW.1
  have s150 : S' 150 = S 150 := sO 150 (by omega) (by omega) (by omega) (by omega) (by omega) (by omega) (by omega)
  have hF : ∀ b w, b < 16 → w < 8 → gF S' b w = gF S b w := fun b w hb hw => sO _ (by omega) (by omega) (by omega) (by omega) (by omega) (by omega) (by omega)
  have hsame : ∀ b : Nat, (b : Int) < S 150 → kSame S S' b := fun b hb => ⟨hF b 2 (by omega) (by decide), hF b 3 (by omega) (by decide), hF b 5 (by omega) (by decide), hF b 7 (by omega) (by decide)⟩
  refine ⟨⟨by rw [a4, s150]; exact c4, ?_, a6, a7, a8, aw⟩, d1, d2, fun j hj => ?_, fun j hj => ?_, fun i hi => ?_⟩
  · unfold gMany
    rw [a5, s150, gArrN_same (S := S) _ (fun b hb => hF b 5 (by omega) (by decide))]
    exact c5
  · rw [eO _ (by omega), sO (6 + j) (by omega) (by omega) (by omega) (by omega) (by omega) (by omega) (by omega), sO (11 + j) (by omega) (by omega) (by omega) (by omega) (by omega) (by omega) (by omega), sO (16 + j) (by omega) (by omega) (by omega) (by omega) (by omega) (by omega) (by omega)]
    exact hl j hj
  · rw [eO (6 + 5 * j) (by omega), eO (7 + 5 * j) (by omega), eO (8 + 5 * j) (by omega), eO (9 + 5 * j) (by omega)]
    exact ⟨kQ_same (hq j hj).1 s150 hsame, kQ_same (hq j hj).2 s150 hsame⟩
  · have := hb i (by omega)
    unfold kBoat at this ⊢
    rw [eO (30 + i) (by omega), hF i 0 (by omega) (by decide), hF i 1 (by omega) (by decide), hF i 2 (by omega) (by decide), hF i 3 (by omega) (by decide), hF i 4 (by omega) (by decide), hF i 5 (by omega) (by decide), hF i 6 (by omega) (by decide)]
    exact this
theorem kI_low (h : kI S) (h150 : S 150 ≤ 16) (sO : ∀ i, 6 ≤ i → ¬ i = 149 → ¬ i = 152 → ¬ i = 153 → ¬ i = 154 → ¬ i = 155 → ¬ i = 156 → S' i = S i) : kI S' := by
  have s150 : S' 150 = S 150 := sO 150 (by omega) (by omega) (by omega) (by omega) (by omega) (by omega) (by omega)
  have s151 : S' 151 = S 151 := sO 151 (by omega) (by omega) (by omega) (by omega) (by omega) (by omega) (by omega)
  intro i hi
  rw [s150] at hi
  have hF : ∀ w, w < 8 → gF S' i w = gF S i w := fun w hw => sO _ (by omega) (by omega) (by omega) (by omega) (by omega) (by omega) (by omega)
  unfold gArr
  rw [hF 0 (by decide), hF 2 (by decide), hF 3 (by decide), hF 4 (by decide), hF 5 (by decide), hF 7 (by decide), s151]
  exact h i hi
/-- the canal behind flowFromSpring -/
def kFlow (K : Nat → Nat → Int) : Nat → Nat → Int := cs_us (cs_us K 1 (kFl (K 1) (K 2 2) 6).1) 0 (cs_u1 (cs_u1 (K 0) 8 (K 0 8 + K 2 2)) 7 (K 0 7 + (kFl (K 1) (K 2 2) 6).2))
theorem kRel_flow (h : kRel K S) (hW : gW S) : kRel (kFlow K) (gFlow S) := by
  obtain ⟨f1, f2⟩ := gFlow_ok hW
  have hd := h.2.1
  have hs2 : K 2 2 = S 156 := h.2.2.1 2 (by decide)
  obtain ⟨c4, c5, c6, c7, c8, cw⟩ := h.1
  obtain ⟨r1, r2⟩ := kFl_ok 6 (K 1) (cs_u1 (cs_u1 S 5 (S 5 + S 156)) 153 (S 153 + S 156)) (K 2 2) (S 152) (Nat.le_refl 6) (fun j hj => by
      rw [cs_u1_ne (by omega), hd j hj]
      by_cases h5 : j = 5
      · subst h5; rw [cs_u1_at, if_pos rfl, hs2]
      · rw [cs_u1_ne h5, if_neg (by omega)]; omega) (by rw [cs_u1_ne (by decide), cs_u1_ne (by decide), if_neg (by decide)]; omega)
  have r3 := gFlN_wat 6 (cs_u1 (cs_u1 S 5 (S 5 + S 156)) 153 (S 153 + S 156)) (Nat.le_refl 6)
  have e153 : gFlow S 153 = S 153 + S 156 := by
    obtain ⟨z1, z2⟩ := gFlow0 hW
    unfold gFlow
    rw [(gFlN_ok 6 _ (Nat.le_refl 6) z1 z2 (fun j h1 h2 => absurd h2 (by omega))).2 153 (by decide) (by decide), cs_u1_at]
  rw [gWat_u1, if_neg (by decide), gWat_u1, if_pos (by decide), cs_u1_ne (by decide), cs_u1_ne (by decide), r2] at r3
  have k0 : kFlow K 0 = cs_u1 (cs_u1 (K 0) 8 (K 0 8 + K 2 2)) 7 (K 0 7 + (kFl (K 1) (K 2 2) 6).2) := cs_us_at
  have k1 : kFlow K 1 = (kFl (K 1) (K 2 2) 6).1 := by unfold kFlow; rw [cs_us_ne (by decide), cs_us_at]
  have kO : ∀ d, 2 ≤ d → kFlow K d = K d := fun d hd => by unfold kFlow; rw [cs_us_ne (by omega), cs_us_ne (by omega)]
  refine kRel_low h hW (fun i h1 h2 h3 h4 h5 h6 h7 => f2 i h1 h3 h4) ?_ ?_ ?_ ?_ ?_ ?_ (fun j hj => ?_) (fun j hj => ?_) (fun d hd => kO d (by omega))
  · rw [k0, cs_u1_ne (by decide), cs_u1_ne (by decide)]
  · rw [k0, cs_u1_ne (by decide), cs_u1_ne (by decide)]
  · rw [k0, cs_u1_ne (by decide), cs_u1_ne (by decide), f2 149 (by decide) (by decide) (by decide)]; exact c6
  · rw [k0, cs_u1_at, c7]; exact r2.symm
  · rw [k0, cs_u1_ne (by decide), cs_u1_at, e153, c8, hs2]
  · rw [k0, cs_u1_ne (show (8 : Nat) ≠ 7 by decide), cs_u1_at, cs_u1_at, cs_u1_ne (show (9 : Nat) ≠ 7 by decide), cs_u1_ne (show (9 : Nat) ≠ 8 by decide), cs_u1_ne (show (10 : Nat) ≠ 7 by decide), cs_u1_ne (show (10 : Nat) ≠ 8 by decide)]
    unfold gFlow
    omega
  · rw [k1]; exact (r1 j hj).symm
  · rw [kO 2 (by decide), f2 (154 + j) (by omega) (by omega) (by omega)]; exact h.2.2.1 j hj
theorem kI_flow (h : kI S) (hW : gW S) : kI (gFlow S) := kI_low h hW.1.2 (fun i h1 h2 h3 h4 h5 h6 h7 => (gFlow_ok hW).2 i h1 h3 h4)
theorem kRel_tick (h : kRel K S) (hW : gW S) : kRel (cs_us K 0 (cs_u1 (K 0) 6 (K 0 6 + 1))) (cs_u1 S 149 (S 149 + 1)) := by
  obtain ⟨c4, c5, c6, c7, c8, cw⟩ := h.1
  refine kRel_low h hW (fun i h1 h2 h3 h4 h5 h6 h7 => cs_u1_ne h2) ?_ ?_ ?_ ?_ ?_ ?_ (fun j hj => ?_) (fun j hj => ?_) (fun d hd => cs_us_ne (by omega))
  · rw [cs_us_at, cs_u1_ne (by decide)]
  · rw [cs_us_at, cs_u1_ne (by decide)]
  · rw [cs_us_at, cs_u1_at, cs_u1_at, c6]
  · rw [cs_us_at, cs_u1_ne (by decide), cs_u1_ne (by decide)]; exact c7
  · rw [cs_us_at, cs_u1_ne (by decide), cs_u1_ne (by decide)]; exact c8
  · rw [cs_us_at, cs_u1_ne (show (8 : Nat) ≠ 6 by decide), cs_u1_ne (show (9 : Nat) ≠ 6 by decide), cs_u1_ne (show (7 : Nat) ≠ 6 by decide), cs_u1_ne (show (10 : Nat) ≠ 6 by decide), gWat_u1, if_neg (by decide)]
    omega
  · rw [cs_us_ne (by decide), cs_u1_ne (by omega)]; exact h.2.1 j hj
  · rw [cs_us_ne (by decide), cs_u1_ne (by omega)]; exact h.2.2.1 j hj
theorem kI_tick (h : kI S) (hW : gW S) : kI (cs_u1 S 149 (S 149 + 1)) := kI_low h hW.1.2 (fun i h1 h2 h3 h4 h5 h6 h7 => cs_u1_ne h2)
theorem kI_turn (h : kI S) (hW : gW S) (hk : k < 5) : kI (gTurn S k) := by
  have h150 := hW.1
  intro i hi
  rw [gTurn_hi hk (by decide) (by decide)] at hi
  unfold gArr
  rw [gTurn_F hk (by omega) (by decide), gTurn_F hk (by omega) (by decide), gTurn_F hk (by omega) (by decide), gTurn_F hk (by omega) (by decide), gTurn_F hk (by omega) (by decide), gTurn_F hk (by omega) (by decide), gTurn_hi hk (by decide) (by decide)]
  exact h i hi
end
