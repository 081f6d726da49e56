/-! PURE: what else the row keeps, a boat's going, a lock's work, ticks -/
section
variable {S S' : Nat → Int} {b c k f n M : Nat} {l u t t' : Int}
theorem pJ_go (hW : gW S) (hI : kI S) (h : pJ S t) (hb : (b : Int) < S 150) (hn : ¬ gArr S b) (hl : gLk S b = k) (ht : S 149 < t) (hsl : S (11 + k) + (if 0 < S (6 + k) then 1 else 0) + 1 ≤ 2 * S (16 + k))
    (hf : ∀ c : Nat, (c : Int) < S 150 → gWt S c (gLk S b) (gSd S b) → gF S b 7 ≤ gF S c 7) : pJ (gGo S b) t := by
  obtain ⟨j1, j2, j3, j4, j5, j6⟩ := h
  have hB := hW.2.2.2.2.2.2 b hb
  have h150 := hW.1
  have hs := hW.2.2.2.1
  have hk5 := (gLk_pos hB hn hl).1
  have hb16 : b < 16 := by omega
  have e150 : gGo S b 150 = S 150 := gGo_out hl (by omega) (by omega) (by omega)
  have hsame := gGo_same hl hk5 hb16
  have e11 := gGo_11 hl hk5 hb16
  have o6 : ∀ j, j < 5 → gGo S b (6 + j) = S (6 + j) := fun j hj => gGo_out hl (by omega) (by omega) (by omega)
  have o16 : ∀ j, j < 5 → gGo S b (16 + j) = S (16 + j) := fun j hj => gGo_out hl (by omega) (by omega) (by omega)
  have o11 : ∀ j, j < 5 → ¬ j = k → gGo S b (11 + j) = S (11 + j) := fun j hj hne => gGo_out hl (by omega) (by omega) (by omega)
  have hw : ∀ (c : Nat) (l u : Int), c < 16 → ¬ c = b → (gWt (gGo S b) c l u ↔ gWt S c l u) ∧ gLk (gGo S b) c = gLk S c ∧ gSd (gGo S b) c = gSd S c := fun c l u hc hne => gWt_cg (hsame c hc hne 2 (by decide)) (hsame c hc hne 3 (by decide)) (hsame c hc hne 5 (by decide))
  -- the boat's own numbers
  have own : gF (gGo S b) b 6 = gF S b 6 + 1 ∧ gF (gGo S b) b 5 < t ∧ (gF (gGo S b) b 7 = gF S b 7 ∨ gF (gGo S b) b 7 = S 151) ∧
      (¬ gArr (gGo S b) b → 0 < gF (gGo S b) b 4 → gF (gGo S b) b 7 = gF S b 7 ∧ gLk (gGo S b) b = gLk S b ∧ gSd (gGo S b) b = gSd S b) ∧
      (∀ l u : Int, gWt (gGo S b) b l u → (gF (gGo S b) b 7 = gF S b 7 ∧ gWt S b l u) ∨ gF (gGo S b) b 7 = S 151) := by
    have jb := j1 b hb
    by_cases h : S 155 < gF S b 0 - gF S b 4
    · obtain ⟨a0, a1, a2, a3, a4, a5, a6, a7, a8⟩ := gGo_A hl hk5 hb16 h
      have w := fun l u : Int => gWt_cg (S := S) (S' := gGo S b) (b := b) (l := l) (u := u) a2 a3 a5
      exact ⟨a6, by rw [a5]; exact jb, Or.inl a7, fun _ _ => ⟨a7, (w 0 0).2.1, (w 0 0).2.2⟩, fun l u q => Or.inl ⟨a7, (w l u).1.mp q⟩⟩
    · by_cases hg : gNx S b = gF S b 3
      · obtain ⟨a0, a1, a2, a3, a4, a5, a6, a7, a8⟩ := gGo_B hl hk5 hb16 h hg
        have h149 := hW.2.2.2.2.1
        have harr : gArr (gGo S b) b := by unfold gArr; rw [a5]; omega
        exact ⟨a6, by rw [a5]; exact ht, Or.inl a7, fun q => absurd harr q, fun l u q => absurd harr q.1⟩
      · obtain ⟨a0, a1, a2, a3, a4, a5, a6, a7, a8⟩ := gGo_C hl hk5 hb16 h hg
        exact ⟨a6, by rw [a5]; exact jb, Or.inr a7, fun _ q => absurd q (by omega), fun l u q => Or.inr a7⟩
  obtain ⟨o1, o2, o3, o4, o5⟩ := own
  refine ⟨fun c hc => ?_, fun c d hc hd ha h4 hwd => ?_, ?_, fun j hj => ?_, fun c hc => ?_, fun c d hc hd e => ?_⟩
  · rw [e150] at hc
    by_cases e : c = b
    · subst e; exact o2
    · rw [hsame c (by omega) e 5 (by decide)]; exact j1 c hc
  · rw [e150] at hc hd
    by_cases e : c = b
    · subst e
      obtain ⟨p1, p2, p3⟩ := o4 ha h4
      rw [p2, p3] at hwd
      rw [p1]
      by_cases e2 : d = c
      · subst e2; rw [p1]; exact Int.le_refl _
      · rw [hsame d (by omega) e2 7 (by decide)]
        exact hf d hd ((hw d _ _ (by omega) e2).1.mp hwd)
    · have hc16 : c < 16 := by omega
      rw [(hw c 0 0 hc16 e).2.1, (hw c 0 0 hc16 e).2.2] at hwd
      unfold gArr at ha
      rw [hsame c hc16 e 5 (by decide)] at ha
      rw [hsame c hc16 e 4 (by decide)] at h4
      rw [hsame c hc16 e 7 (by decide)]
      by_cases e2 : d = b
      · subst e2
        rcases o5 _ _ hwd with ⟨q1, q2⟩ | q
        · rw [q1]; exact j2 c d hc hd ha h4 q2
        · rw [q]; have := (hI c hc).2.2; omega
      · rw [hsame d (by omega) e2 7 (by decide)]
        exact j2 c d hc hd ha h4 ((hw d _ _ (by omega) e2).1.mp hwd)
  · have hM : gMany (gGo S b) = gMany S := by unfold gMany; rw [e150]
    rw [hM, pSum_one (S := S) (b := b) (gMany S) (by unfold gMany; omega) o1 (fun c hc hne => hsame c (by unfold gMany at hc; omega) hne 6 (by decide)), j3, gSum_11, gSum_11]
    have q : ∀ j, j < 5 → gGo S b (11 + j) = S (11 + j) + if j = k then 1 else 0 := fun j hj => by
      by_cases e : j = k
      · subst e; rw [if_pos rfl]; exact e11
      · rw [if_neg e, o11 j hj e]; omega
    have q0 := q 0 (by decide)
    have q1 := q 1 (by decide)
    have q2 := q 2 (by decide)
    have q3 := q 3 (by decide)
    have q4 := q 4 (by decide)
    simp only [Nat.reduceAdd] at q0 q1 q2 q3 q4
    rw [q0, q1, q2, q3, q4]
    rcases (show k = 0 ∨ k = 1 ∨ k = 2 ∨ k = 3 ∨ k = 4 by omega) with rfl | rfl | rfl | rfl | rfl <;> simp <;> omega
  · rw [o6 j hj, o16 j hj]
    have := j4 j hj
    by_cases e : j = k
    · subst e; rw [e11]; omega
    · rw [o11 j hj e]; exact this
  · rw [e150] at hc
    by_cases e : c = b
    · subst e; rw [o1]; have := j5 c hc; omega
    · rw [hsame c (by omega) e 6 (by decide)]; exact j5 c hc
  · rw [e150] at hc hd
    have ic := (hI c hc).2.2
    have id := (hI d hd).2.2
    by_cases e1 : c = b
    · by_cases e2 : d = b
      · rw [e1, e2]
      · subst e1
        rw [hsame d (by omega) e2 7 (by decide)] at e
        rcases o3 with q | q
        · rw [q] at e; exact j6 c d hc hd e
        · omega
    · rw [hsame c (by omega) e1 7 (by decide)] at e
      by_cases e2 : d = b
      · subst e2
        rcases o3 with q | q
        · rw [q] at e; exact j6 c d hc hd e
        · omega
      · rw [hsame d (by omega) e2 7 (by decide)] at e
        exact j6 c d hc hd e
/-- what a lock's work may be -/
theorem gAct_cases (hW : gW S) : gAct S k = S ∨ (gCan S k ∧ gAct S k = gTurn S k) ∨ ∃ f : Nat, (f : Int) < S 150 ∧ gCan S k ∧ gFst S k (gU S k) (gMany S) = f ∧ gWt S f k (gU S k) ∧ ¬ gAg S f ∧ gAct S k = gGo (gTurn S k) f := by
  have h150 := hW.1
  unfold gAct
  split
  · split
    · rename_i h; exact Or.inr (Or.inl ⟨h.2, rfl⟩)
    · exact Or.inl rfl
  · rename_i hne
    obtain ⟨f, e1, e2, e3⟩ := (gFst_wt S k (gU S k) (gMany S)).resolve_left hne
    rw [e1, Int.toNat_natCast]
    split
    · rename_i h
      exact Or.inr (Or.inr ⟨f, by unfold gMany at e2; omega, h.2, rfl, e3, h.1, rfl⟩)
    · exact Or.inl rfl
theorem gTurn_lk (hk : k < 5) (hb : b < 16) : gLk (gTurn S k) b = gLk S b ∧ gSd (gTurn S k) b = gSd S b ∧ (gArr (gTurn S k) b ↔ gArr S b) ∧ ∀ l u : Int, gWt (gTurn S k) b l u ↔ gWt S b l u := by
  have w := fun l u : Int => gWt_cg (S := S) (S' := gTurn S k) (b := b) (l := l) (u := u) (gTurn_F hk hb (by decide)) (gTurn_F hk hb (by decide)) (gTurn_F hk hb (by decide))
  refine ⟨(w 0 0).2.1, (w 0 0).2.2, ?_, fun l u => (w l u).1⟩
  unfold gArr
  rw [gTurn_F hk hb (by decide)]
theorem pJ_act (hW : gW S) (hI : kI S) (h : pJ S t) (hk : k < 5) (ht : S 149 < t) : pJ (gAct S k) t := by
  have h150 := hW.1
  rcases gAct_cases (k := k) hW with e | ⟨hc, e⟩ | ⟨f, hf, hc, e1, e2, e3, e⟩
  · rw [e]; exact h
  · rw [e]; exact (pJ_turn hW h hk).1
  · rw [e]
    have hf16 : f < 16 := by omega
    obtain ⟨t1, t2⟩ := pJ_turn hW h hk
    obtain ⟨l1, l2, l3, l4⟩ := gTurn_lk (S := S) (b := f) hk hf16
    have e150 : gTurn S k 150 = S 150 := gTurn_hi hk (by decide) (by decide)
    have hlk : gLk (gTurn S k) f = k := by rw [l1]; exact e2.2.1
    obtain ⟨m1, m2⟩ := gFst_min (S := S) (l := k) (u := gU S k) (gMany S)
    obtain ⟨a1, a2, a3⟩ := m2 f e1
    refine pJ_go (gW_turn hW hk hc) (kI_turn hI hW hk) t1 (by rw [e150]; exact hf) (fun q => e2.1 (l3.mp q)) hlk (by rw [gTurn_hi hk (by decide) (by decide)]; exact ht) t2 (fun c hcc hwc => ?_)
    rw [e150] at hcc
    have hc16 : c < 16 := by omega
    rw [gTurn_F hk hf16 (by decide), gTurn_F hk hc16 (by decide)]
    rw [l1, l2] at hwc
    have hwc' := ((gTurn_lk (S := S) (b := c) hk hc16).2.2.2 _ _).mp hwc
    have hsd : gSd S f = gU S k := e2.2.2
    rw [e2.2.1, hsd] at hwc'
    exact a3 c (by unfold gMany; omega) hwc'
theorem pJ_acts (hW : gW S) (hI : kI S) (hj : S 151 + 5 ≤ 2000000) (h : pJ S t) (ht : S 149 < t) : ∀ n : Nat, n ≤ 5 → pJ (gActs S n) t
  | 0, _ => h
  | n + 1, hn => by
    obtain ⟨g1, g2, g3, g4⟩ := gActs_ok hW hj n (by omega)
    simp only [gActs]
    exact pJ_act g1 (kI_acts hW hj hI n (by omega)) (pJ_acts hW hI hj h ht n (by omega)) (by omega) (by rw [g2 149 (by decide) (by decide) (by decide)]; exact ht)
theorem pJ_tick (hW : gW S) (hI : kI S) (hj : S 151 + 5 ≤ 2000000) (h : pJ S (S 149)) : pJ (gTick S) (gTick S 149) := by
  have h150 := hW.1
  obtain ⟨g1, g2, g3, g4⟩ := gActs_ok hW hj 5 (by decide)
  obtain ⟨f1, f2⟩ := gFlow_ok g1
  have e149 : gTick S 149 = S 149 + 1 := by
    unfold gTick
    rw [cs_u1_at, f2 149 (by decide) (by decide) (by decide), g2 149 (by decide) (by decide) (by decide)]
  have h0 : pJ S (S 149 + 1) := pJ_cg h (by omega) rfl (fun _ _ _ _ _ => rfl) (fun _ _ _ => rfl) (by omega)
  have h1 := pJ_acts hW hI hj h0 (by omega) 5 (by decide)
  have o : ∀ i, 6 ≤ i → ¬ i = 149 → ¬ i = 152 → ¬ i = 153 → gTick S i = gActs S 5 i := fun i a1 a2 a3 a4 => by
    unfold gTick
    rw [cs_u1_ne a2, f2 i a1 a3 a4]
  rw [e149]
  exact pJ_cg h1 (by rw [g2 150 (by decide) (by decide) (by decide)]; omega) (o 150 (by decide) (by decide) (by decide) (by decide)) (fun b hb w _ hw => o _ (by omega) (by omega) (by omega) (by omega)) (fun i hi hi2 => o i (by omega) (by omega) (by omega) (by omega)) (Int.le_refl _)
theorem pJ_ticks (hW : gW S) (hI : kI S) (h : pJ S (S 149)) : ∀ n : Nat, S 151 + 5 * n ≤ 2000000 → S 149 + n ≤ 200000 → pJ (gTicks S n) (gTicks S n 149)
  | 0, _, _ => h
  | n + 1, hj, ht => by
    obtain ⟨h1, h2, h3, h4, h5⟩ := gTicks_ok hW n (by omega) (by omega)
    exact pJ_tick h1 (gTicks_in hW hI n (by omega) (by omega)) (by omega) (pJ_ticks hW hI h n (by omega) (by omega))
end
