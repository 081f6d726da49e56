/-! PURE: the whole of what the row keeps behind N acts, and each act -/
section
variable {S S' : Nat → Int} {b c k f n M j N : Nat} {l u t t' : Int}
theorem gW_set {w : Nat} {v : Int} (hW : gW S) (hw : w ≤ 2) (hok : gSetOk w v) : gW (cs_u1 S (154 + w) v) := by
  obtain ⟨h1, h2, h3, h4, h5, h6, h7⟩ := hW
  have e : ∀ j, ¬ j = 154 + w → cs_u1 S (154 + w) v j = S j := fun j hj => cs_u1_ne hj
  unfold gSetOk at hok
  refine ⟨by rw [e _ (by omega)]; exact h1, fun j hj => by rw [e _ (by omega)]; exact h2 j hj, fun j hj => by rw [e _ (by omega)]; exact h3 j hj, ?_, by rw [e _ (by omega)]; exact h5, by rw [e _ (by omega)]; exact h6, fun b hb => ?_⟩
  · rcases (show w = 0 ∨ w = 1 ∨ w = 2 by omega) with h | h | h <;> subst h
    · rw [show cs_u1 S (154 + 0) v 154 = v from cs_u1_at, e 155 (by decide), e 156 (by decide)]
      rw [if_neg (by decide), if_pos (by decide)] at hok
      omega
    · rw [show cs_u1 S (154 + 1) v 155 = v from cs_u1_at, e 154 (by decide), e 156 (by decide)]
      rw [if_pos (by decide)] at hok
      omega
    · rw [show cs_u1 S (154 + 2) v 156 = v from cs_u1_at, e 154 (by decide), e 155 (by decide)]
      rw [if_neg (by decide), if_neg (by decide)] at hok
      omega
  · rw [e _ (by omega)] at hb
    rw [gB_out (by omega) (by omega)]; exact h7 b hb
def pI (S : Nat → Int) (N : Nat) : Prop := gV S ∧ kI S ∧ pJ S (S 149) ∧ S 149 ≤ 90 * N ∧ ∀ k, k < 5 → S (16 + k) ≤ 91 * N
theorem pI_mono (h : pI S N) (hN : N ≤ M) : pI S M := ⟨h.1, h.2.1, h.2.2.1, by have := h.2.2.2.1; omega, fun k hk => by have := h.2.2.2.2 k hk; omega⟩
theorem pI_eq (h : pI S N) (he : gEq S' S) : pI S' N := by
  obtain ⟨hV, hI, hJ, h9, h16⟩ := h
  have h150 := hV.1.1
  refine ⟨gV_eq hV he, kI_eq hV.1 hI he, ?_, by rw [he 149 (by decide)]; exact h9, fun k hk => by rw [he (16 + k) (by omega)]; exact h16 k hk⟩
  rw [he 149 (by decide)]
  exact pJ_cg hJ h150.2 (he 150 (by decide)) (fun b hb w _ hw => he _ (by omega)) (fun i _ hi => he i (by omega)) (Int.le_refl _)
theorem pJ_come {p f t d : Int} (hW : gW S) (hI : kI S) (h : pJ S (S 149)) (h0 : gEB S p f t d = 0) : pJ (gCome S (gMany S) p f t d) (gCome S (gMany S) p f t d 149) := by
  obtain ⟨e1, e2, e3, e4, e5, e6⟩ := gEB_0 h0
  have h150 := hW.1
  have h149 := hW.2.2.2.2.1
  obtain ⟨b, hb⟩ : ∃ b, gMany S = b := ⟨_, rfl⟩
  have hb16 : b < 16 := by unfold gMany at hb; omega
  have hbS : S 150 = b := by unfold gMany at hb; omega
  obtain ⟨j1, j2, j3, j4, j5, j6⟩ := h
  rw [hb] at j3 ⊢
  obtain ⟨a0, a1, a2, a3, a4, a5, a6, a7⟩ := gCome_b (S := S) (b := b) (p := p) (f := f) (t := t) (d := d) hb16
  have s150 : gCome S b p f t d 150 = S 150 + 1 := gCome_150 hb16
  have hF : ∀ c w, c < b → w < 8 → gF (gCome S b p f t d) c w = gF S c w := fun c w h1 h2 => gCome_out hb16 (by omega) (by omega) (by omega)
  have ho : ∀ i, i < 21 → gCome S b p f t d i = S i := fun i hi => gCome_out hb16 (by omega) (by omega) (by omega)
  have e149 : gCome S b p f t d 149 = S 149 := gCome_out hb16 (by omega) (by omega) (by omega)
  have hw : ∀ (c : Nat) (l u : Int), c < b → (gWt (gCome S b p f t d) c l u ↔ gWt S c l u) ∧ gLk (gCome S b p f t d) c = gLk S c ∧ gSd (gCome S b p f t d) c = gSd S c := fun c l u hc => gWt_cg (hF c 2 hc (by decide)) (hF c 3 hc (by decide)) (hF c 5 hc (by decide))
  rw [e149]
  refine ⟨fun c hc => ?_, fun c d' hc hd ha h4 hwd => ?_, ?_, fun k hk => ?_, fun c hc => ?_, fun c d' hc hd e => ?_⟩
  · rw [s150] at hc
    by_cases q : c = b
    · subst q; rw [a5]; omega
    · rw [hF c 5 (by omega) (by decide)]; exact j1 c (by omega)
  · rw [s150] at hc hd
    by_cases q : c = b
    · subst q; rw [a4] at h4; exact absurd h4 (by decide)
    · have hcb : c < b := by omega
      rw [(hw c 0 0 hcb).2.1, (hw c 0 0 hcb).2.2] at hwd
      unfold gArr at ha
      rw [hF c 5 hcb (by decide)] at ha
      rw [hF c 4 hcb (by decide)] at h4
      rw [hF c 7 hcb (by decide)]
      by_cases q2 : d' = b
      · subst q2; rw [a7]; have := (hI c (by omega)).2.2; omega
      · rw [hF d' 7 (by omega) (by decide)]
        exact j2 c d' (by omega) (by omega) ha h4 ((hw d' _ _ (by omega)).1.mp hwd)
  · have hM : gMany (gCome S b p f t d) = b + 1 := by unfold gMany; rw [s150, hbS]; omega
    rw [hM, gSum_11, ho 11 (by decide), ho 12 (by decide), ho 13 (by decide), ho 14 (by decide), ho 15 (by decide)]
    rw [gSum_11] at j3
    simp only [pSum]
    rw [a6, pSum_same b (fun c hc => hF c 6 hc (by decide)), j3]
    omega
  · rw [ho (11 + k) (by omega), ho (6 + k) (by omega), ho (16 + k) (by omega)]; exact j4 k hk
  · rw [s150] at hc
    by_cases q : c = b
    · subst q; rw [a6]; exact Int.le_refl 0
    · rw [hF c 6 (by omega) (by decide)]; exact j5 c (by omega)
  · rw [s150] at hc hd
    by_cases q : c = b
    · by_cases q2 : d' = b
      · rw [q, q2]
      · subst q
        rw [a7, hF d' 7 (by omega) (by decide)] at e
        have := (hI d' (by omega)).2.2; omega
    · rw [hF c 7 (by omega) (by decide)] at e
      by_cases q2 : d' = b
      · subst q2
        rw [a7] at e
        have := (hI c (by omega)).2.2; omega
      · rw [hF d' 7 (by omega) (by decide)] at e
        exact j6 c d' (by omega) (by omega) e
theorem pI_come {p f t d : Int} (h : pI S N) (h0 : gEB S p f t d = 0) : pI (gCome S (gMany S) p f t d) (N + 1) := by
  obtain ⟨hV, hI, hJ, h9, h16⟩ := h
  have h150 := hV.1.1
  have e6 := (gEB_0 h0).2.2.2.2.2
  have hb16 : gMany S < 16 := by unfold gMany; omega
  refine ⟨gV_come hV h0, kI_come hV.1 hI h0, pJ_come hV.1 hI hJ h0, ?_, fun k hk => ?_⟩
  · rw [gCome_out hb16 (by omega) (by omega) (by omega)]; omega
  · rw [gCome_out hb16 (by omega) (by omega) (by omega)]; have := h16 k hk; omega
theorem pI_load {d : Int} (h : pI S N) (hb : (b : Int) < S 150) (hd : 1 ≤ d ∧ d ≤ 60) : pI (cs_u1 S (21 + 8 * b + 1) d) (N + 1) := by
  obtain ⟨hV, hI, hJ, h9, h16⟩ := h
  have h150 := hV.1.1
  have hb16 : b < 16 := by omega
  have o : ∀ i, ¬ i = 21 + 8 * b + 1 → cs_u1 S (21 + 8 * b + 1) d i = S i := fun i hi => cs_u1_ne hi
  refine ⟨⟨?_, ?_, ?_⟩, kI_load hI hV.1 hb, ?_, ?_, fun k hk => ?_⟩
  · refine gW_blk (b := b) hV.1 hb16 (fun i hi => cs_u1_ne (by omega)) ?_
    have hB := hV.1.2.2.2.2.2.2 b hb
    unfold gB at hB ⊢
    simp (disch := omega) only [gF_ne, gF_at]
    exact ⟨hB.1, hd, hB.2.2⟩
  · rw [o _ (by omega), o _ (by omega), o _ (by omega)]; exact hV.2.1
  · rw [o _ (by omega)]; exact hV.2.2
  · rw [o 149 (by omega)]
    exact pJ_cg hJ h150.2 (o _ (by omega)) (fun c hc w hw1 hw2 => o _ (by omega)) (fun i _ hi => o i (by omega)) (Int.le_refl _)
  · rw [o 149 (by omega)]; omega
  · rw [o _ (by omega)]; have := h16 k hk; omega
theorem pI_turn (h : pI S N) (hk : k < 5) (hc : gCan S k) : pI (gTurn S k) (N + 1) := by
  obtain ⟨hV, hI, hJ, h9, h16⟩ := h
  have e149 : gTurn S k 149 = S 149 := gTurn_hi hk (by decide) (by decide)
  refine ⟨gV_turn hV hk hc, kI_turn hI hV.1 hk, by rw [e149]; exact (pJ_turn hV.1 hJ hk).1, by rw [e149]; omega, fun j hj => ?_⟩
  rw [gTurn_16 hk hj]
  have := h16 j hj
  split <;> omega
theorem pI_depth {p : Nat} {v : Int} (h : pI S N) (hp : p < 6) (hv : 0 ≤ v ∧ v ≤ 90) : pI (cs_u1 S p v) (N + 1) := by
  obtain ⟨hV, hI, hJ, h9, h16⟩ := h
  have h150 := hV.1.1
  have o : ∀ i, 6 ≤ i → cs_u1 S p v i = S i := fun i hi => cs_u1_ne (by omega)
  refine ⟨⟨gW_dep hV.1 hp hv, ?_, ?_⟩, kI_low hI h150.2 (fun i h1 _ _ _ _ _ _ => o i h1), ?_, ?_, fun k hk => ?_⟩
  · rw [o _ (by omega), o _ (by omega), o _ (by omega)]; exact hV.2.1
  · rw [o _ (by omega)]; exact hV.2.2
  · rw [o 149 (by omega)]
    exact pJ_cg hJ h150.2 (o _ (by omega)) (fun c hc w _ _ => o _ (by omega)) (fun i hi _ => o i hi) (Int.le_refl _)
  · rw [o 149 (by omega)]; omega
  · rw [o _ (by omega)]; have := h16 k hk; omega
theorem pI_set {w : Nat} {v : Int} (h : pI S N) (hw : w ≤ 2) (hok : gSetOk w v) : pI (cs_u1 S (154 + w) v) (N + 1) := by
  obtain ⟨hV, hI, hJ, h9, h16⟩ := h
  have h150 := hV.1.1
  have o : ∀ i, i < 154 → cs_u1 S (154 + w) v i = S i := fun i hi => cs_u1_ne (by omega)
  refine ⟨⟨gW_set hV.1 hw hok, ?_, ?_⟩, kI_low hI h150.2 (fun i h1 h2 h3 h4 h5 h6 h7 => cs_u1_ne (by omega)), ?_, ?_, fun k hk => ?_⟩
  · rw [o _ (by omega), o _ (by omega), o _ (by omega)]; exact hV.2.1
  · rw [o _ (by omega)]; exact hV.2.2
  · rw [o 149 (by omega)]
    exact pJ_cg hJ h150.2 (o _ (by omega)) (fun c hc w _ _ => o _ (by omega)) (fun i hi hi2 => o i (by omega)) (Int.le_refl _)
  · rw [o 149 (by omega)]; omega
  · rw [o _ (by omega)]; have := h16 k hk; omega
/-- bounds that hold up to sixty acts -/
theorem pI_bd (h : pI S N) (hN : N ≤ 60) : (0 ≤ S 149 ∧ S 149 ≤ 5400) ∧ (0 ≤ S 151 ∧ S 151 ≤ 27016) ∧ (0 ≤ S 150 ∧ S 150 ≤ 16) := by
  obtain ⟨hV, hI, hJ, h9, h16⟩ := h
  have h150 := hV.1.1
  have h149 := hV.1.2.2.2.2.1
  have h151 := hV.1.2.2.2.2.2.1
  have := hV.2.1
  omega
theorem pI_ticks (h : pI S N) (hN : N ≤ 60) (hn : n ≤ 90) : pI (gTicks S n) (N + 1) := by
  have hb := pI_bd h hN
  obtain ⟨hV, hI, hJ, h9, h16⟩ := h
  obtain ⟨t1, t2, t3, t4, t5⟩ := gTicks_ok hV.1 n (by omega) (by omega)
  refine ⟨gV_ticks hV (by omega), gTicks_in hV.1 hI n (by omega) (by omega), pJ_ticks hV.1 hI hJ n (by omega) (by omega), by omega, fun k hk => ?_⟩
  have := (gTicks_pf (j := k) hV.1 hk n (by omega) (by omega)).2
  have := h16 k hk
  omega
theorem pI_0 : pI cS0 0 := by
  refine ⟨gV_0, kI_0, ⟨fun b hb => absurd hb (by show ¬ (b : Int) < 0; omega), fun b c hb => absurd hb (by show ¬ (b : Int) < 0; omega), rfl, fun k hk => ?_, fun b hb => absurd hb (by show ¬ (b : Int) < 0; omega), fun b c hb => absurd hb (by show ¬ (b : Int) < 0; omega)⟩, Int.le_refl 0, fun k hk => ?_⟩
  · rcases (show k = 0 ∨ k = 1 ∨ k = 2 ∨ k = 3 ∨ k = 4 by omega) with rfl | rfl | rfl | rfl | rfl <;> decide
  · rcases (show k = 0 ∨ k = 1 ∨ k = 2 ∨ k = 3 ∨ k = 4 by omega) with rfl | rfl | rfl | rfl | rfl <;> decide
end
