/-! THE REFERENCE'S ROW as a pure value: what its acts make of it, and that it stays within its bounds -/
def gJoin (S : Nat → Int) (b : Nat) : Nat → Int := cs_u1 (cs_u1 S (21 + 8 * b + 7) (S 151)) 151 (S 151 + 1)
abbrev gCan (S : Nat → Int) (k : Nat) : Prop := 0 < S (6 + k) ∨ S 154 ≤ S (k + 1)
def gTurn (S : Nat → Int) (k : Nat) : Nat → Int :=
  if 0 < S (6 + k) then cs_u1 (cs_u1 (cs_u1 S (6 + k) 0) k (if 90 < S k + S (6 + k) then 90 else S k + S (6 + k))) 152 (S 152 + (if 90 < S k + S (6 + k) then S k + S (6 + k) - 90 else 0))
  else cs_u1 (cs_u1 (cs_u1 S (k + 1) (S (k + 1) - S 154)) (6 + k) (S 154)) (16 + k) (S (16 + k) + 1)
def gGo1 (S : Nat → Int) (b : Nat) : Nat → Int := cs_u1 (cs_u1 S (11 + (gLk S b).toNat) (S (11 + (gLk S b).toNat) + 1)) (21 + 8 * b + 6) (gF S b 6 + 1)
def gGo (S : Nat → Int) (b : Nat) : Nat → Int :=
  if S 155 < gF S b 0 - gF S b 4 then cs_u1 (gGo1 S b) (21 + 8 * b + 4) (gF S b 4 + S 155)
  else if gNx S b = gF S b 3 then cs_u1 (cs_u1 (cs_u1 (gGo1 S b) (21 + 8 * b + 4) 0) (21 + 8 * b + 2) (gNx S b)) (21 + 8 * b + 5) (S 149)
  else gJoin (cs_u1 (cs_u1 (gGo1 S b) (21 + 8 * b + 4) 0) (21 + 8 * b + 2) (gNx S b)) b
abbrev gMany (S : Nat → Int) : Nat := (S 150).toNat
def gHind (S : Nat → Int) (b : Nat) : Int :=
  if gAg S b then 2 else if 0 < gPl S b (gMany S) then 3 else if (0 < S (6 + (gLk S b).toNat) ↔ gUp S b) then 4 else if gCan S (gLk S b).toNat then 0 else 5
/-- the told field behind a lock's turn -/
def gTold (S : Nat → Int) (a t : Int) (k : Nat) : Int := if ¬ a = -5 ∧ ¬ gArr S a.toNat ∧ gLk S a.toNat = k ∧ t = -5 then gHind S a.toNat else t
def gU (S : Nat → Int) (k : Nat) : Int := if 0 < S (6 + k) then 0 else 1
def gAct (S : Nat → Int) (k : Nat) : Nat → Int :=
  if gFst S k (gU S k) (gMany S) = -5 then (if 0 < gQue S k (1 - gU S k) (gMany S) ∧ gCan S k then gTurn S k else S)
  else (if ¬ gAg S (gFst S k (gU S k) (gMany S)).toNat ∧ gCan S k then gGo (gTurn S k) (gFst S k (gU S k) (gMany S)).toNat else S)
def gActs (S : Nat → Int) : Nat → (Nat → Int)
  | 0 => S
  | n + 1 => gAct (gActs S n) n
def gTolds (S : Nat → Int) (a t : Int) : Nat → Int
  | 0 => t
  | n + 1 => gTold (gActs S n) a (gTolds S a t n) n
def gFlS (S : Nat → Int) (p : Nat) : Nat → Int :=
  if p = 0 then cs_u1 (cs_u1 S 0 (S 0 - (if 90 < S 0 then S 0 - 90 else 0))) 152 (S 152 + (if 90 < S 0 then S 0 - 90 else 0))
  else cs_u1 (cs_u1 S p (S p - (if 90 < S p then S p - 90 else 0))) (p - 1) (S (p - 1) + (if 90 < S p then S p - 90 else 0))
def gFlN (S : Nat → Int) : Nat → (Nat → Int)
  | 0 => S
  | n + 1 => gFlN (gFlS S n) n
def gFlow (S : Nat → Int) : Nat → Int := gFlN (cs_u1 (cs_u1 S 5 (S 5 + S 156)) 153 (S 153 + S 156)) 6
def gTick (S : Nat → Int) : Nat → Int := cs_u1 (gFlow (gActs S 5)) 149 (gFlow (gActs S 5) 149 + 1)
def gTicks (S : Nat → Int) : Nat → (Nat → Int)
  | 0 => S
  | n + 1 => gTick (gTicks S n)
def gArrN (S : Nat → Int) : Nat → Int
  | 0 => 0
  | n + 1 => gArrN S n + if gArr S n then 1 else 0
/-! bounds -/
section
variable {S S' : Nat → Int} {i b k w : Nat} {v : Int}
theorem gF_out (hi : i < 21 ∨ 149 ≤ i) (hb : b < 16) (hw : w < 8) : gF (cs_u1 S i v) b w = gF S b w := by
  unfold gF
  exact cs_u1_ne (by omega)
theorem gB_out (hi : i < 21 ∨ 149 ≤ i) (hb : b < 16) : gB (cs_u1 S i v) b = gB S b := by
  simp only [gB, gF_out hi hb (show 0 < 8 by decide), gF_out hi hb (show 1 < 8 by decide), gF_out hi hb (show 2 < 8 by decide), gF_out hi hb (show 3 < 8 by decide), gF_out hi hb (show 4 < 8 by decide), gF_out hi hb (show 5 < 8 by decide), gF_out hi hb (show 7 < 8 by decide)]
theorem gW_dep (hW : gW S) (hk : k < 6) (hv : 0 ≤ v ∧ v ≤ 90) : gW (cs_u1 S k v) := by
  obtain ⟨h1, h2, h3, h4, h5, h6, h7⟩ := hW
  have e : ∀ j, 6 ≤ j → cs_u1 S k v j = S j := fun j hj => cs_u1_ne (by omega)
  refine ⟨by rw [e _ (by decide)]; exact h1, fun j hj => ?_, fun j hj => by rw [e _ (by omega)]; exact h3 j hj, ?_, ?_, ?_, fun b hb => ?_⟩
  · by_cases hjk : j = k
    · subst hjk; rw [cs_u1_at]; exact hv
    · rw [cs_u1_ne hjk]; exact h2 j hj
  · rw [e _ (by decide), e _ (by decide), e _ (by decide)]; exact h4
  · rw [e _ (by decide)]; exact h5
  · rw [e _ (by decide)]; exact h6
  · rw [e _ (by decide)] at hb
    rw [gB_out (by omega) (by omega)]; exact h7 b hb
theorem gW_cha (hW : gW S) (hk : k < 5) (hv : 0 ≤ v ∧ v ≤ 20) : gW (cs_u1 S (6 + k) v) := by
  obtain ⟨h1, h2, h3, h4, h5, h6, h7⟩ := hW
  have e : ∀ j, j < 6 ∨ 11 ≤ j → cs_u1 S (6 + k) v j = S j := fun j hj => cs_u1_ne (by omega)
  refine ⟨by rw [e _ (by decide)]; exact h1, fun j hj => by rw [e _ (by omega)]; exact h2 j hj, fun j hj => ?_, ?_, ?_, ?_, fun b hb => ?_⟩
  · by_cases hjk : j = k
    · subst hjk; rw [cs_u1_at]; exact hv
    · rw [cs_u1_ne (by omega)]; exact h3 j hj
  · rw [e _ (by decide), e _ (by decide), e _ (by decide)]; exact h4
  · rw [e _ (by decide)]; exact h5
  · rw [e _ (by decide)]; exact h6
  · rw [e _ (by decide)] at hb
    rw [gB_out (by omega) (by omega)]; exact h7 b hb
theorem gW_fre (hW : gW S) (hi : (11 ≤ i ∧ i ≤ 20) ∨ i = 152 ∨ i = 153) : gW (cs_u1 S i v) := by
  obtain ⟨h1, h2, h3, h4, h5, h6, h7⟩ := hW
  have e : ∀ j, ¬ ((11 ≤ j ∧ j ≤ 20) ∨ j = 152 ∨ j = 153) → cs_u1 S i v j = S j := fun j hj => cs_u1_ne (by omega)
  refine ⟨by rw [e _ (by decide)]; exact h1, fun j hj => by rw [e _ (by omega)]; exact h2 j hj, fun j hj => by rw [e _ (by omega)]; exact h3 j hj, ?_, ?_, ?_, fun b hb => ?_⟩
  · rw [e _ (by decide), e _ (by decide), e _ (by decide)]; exact h4
  · rw [e _ (by decide)]; exact h5
  · rw [e _ (by decide)]; exact h6
  · rw [e _ (by decide)] at hb
    rw [gB_out (by omega) (by omega)]; exact h7 b hb
theorem gW_tic (hW : gW S) (hv : 0 ≤ v ∧ v ≤ 200000) : gW (cs_u1 S 149 v) := by
  obtain ⟨h1, h2, h3, h4, h5, h6, h7⟩ := hW
  have e : ∀ j, j ≠ 149 → cs_u1 S 149 v j = S j := fun j hj => cs_u1_ne hj
  refine ⟨by rw [e _ (by decide)]; exact h1, fun j hj => by rw [e _ (by omega)]; exact h2 j hj, fun j hj => by rw [e _ (by omega)]; exact h3 j hj, ?_, by rw [cs_u1_at]; exact hv, ?_, fun b hb => ?_⟩
  · rw [e _ (by decide), e _ (by decide), e _ (by decide)]; exact h4
  · rw [e _ (by decide)]; exact h6
  · rw [e _ (by decide)] at hb
    rw [gB_out (by omega) (by omega)]; exact h7 b hb
theorem gW_joi (hW : gW S) (hv : 0 ≤ v ∧ v ≤ 2000000) : gW (cs_u1 S 151 v) := by
  obtain ⟨h1, h2, h3, h4, h5, h6, h7⟩ := hW
  have e : ∀ j, j ≠ 151 → cs_u1 S 151 v j = S j := fun j hj => cs_u1_ne hj
  refine ⟨by rw [e _ (by decide)]; exact h1, fun j hj => by rw [e _ (by omega)]; exact h2 j hj, fun j hj => by rw [e _ (by omega)]; exact h3 j hj, ?_, ?_, by rw [cs_u1_at]; exact hv, fun b hb => ?_⟩
  · rw [e _ (by decide), e _ (by decide), e _ (by decide)]; exact h4
  · rw [e _ (by decide)]; exact h5
  · rw [e _ (by decide)] at hb
    rw [gB_out (by omega) (by omega)]; exact h7 b hb
/-- a boat's eight numbers change -/
theorem gW_blk (hW : gW S) (hb : b < 16) (he : ∀ i, i < 21 + 8 * b ∨ 29 + 8 * b ≤ i → S' i = S i) (hB : gB S' b) : gW S' := by
  obtain ⟨h1, h2, h3, h4, h5, h6, h7⟩ := hW
  refine ⟨by rw [he _ (by omega)]; exact h1, fun j hj => by rw [he _ (by omega)]; exact h2 j hj, fun j hj => by rw [he _ (by omega)]; exact h3 j hj, ?_, ?_, ?_, fun q hq => ?_⟩
  · rw [he _ (by omega), he _ (by omega), he _ (by omega)]; exact h4
  · rw [he _ (by omega)]; exact h5
  · rw [he _ (by omega)]; exact h6
  · rw [he _ (by omega)] at hq
    by_cases hqb : q = b
    · subst hqb; exact hB
    · have hF : ∀ w, w < 8 → gF S' q w = gF S q w := fun w hw => he _ (by omega)
      have := h7 q hq
      unfold gB at this ⊢
      rw [hF 0 (by decide), hF 1 (by decide), hF 2 (by decide), hF 3 (by decide), hF 4 (by decide), hF 5 (by decide), hF 7 (by decide)]
      exact this
theorem gF_at {v : Int} : gF (cs_u1 S (21 + 8 * b + w) v) b w = v := cs_u1_at
theorem gF_ne {w' b' : Nat} (hw : w < 8) (hw' : w' < 8) (h : ¬ (b = b' ∧ w = w')) : gF (cs_u1 S (21 + 8 * b' + w') v) b w = gF S b w := by
  unfold gF
  exact cs_u1_ne (by omega)
theorem gTurn_F (hk : k < 5) (hb : b < 16) (hw : w < 8) : gF (gTurn S k) b w = gF S b w := by
  unfold gTurn
  split <;> simp (disch := omega) only [gF_out]
theorem gTurn_hi (hk : k < 5) (hi : 149 ≤ i) (h2 : ¬ i = 152) : gTurn S k i = S i := by
  unfold gTurn
  split <;> simp (disch := omega) only [cs_u1_ne]
theorem gW_turn (hW : gW S) (hk : k < 5) (hc : gCan S k) : gW (gTurn S k) := by
  have d0 := hW.2.1 k (by omega)
  have d1 := hW.2.1 (k + 1) (by omega)
  have c0 := hW.2.2.1 k hk
  have hs := hW.2.2.2.1
  unfold gTurn
  split
  · refine gW_fre (gW_dep (gW_cha hW hk (by decide)) (by omega) ?_) (by omega)
    split <;> omega
  · rename_i h
    have hc2 := hc.resolve_left h
    exact gW_fre (gW_cha (gW_dep hW (by omega) (by omega)) hk (by omega)) (by omega)
theorem gFst_wt (S : Nat → Int) (l u : Int) : ∀ n : Nat, gFst S l u n = -5 ∨ ∃ f : Nat, gFst S l u n = f ∧ f < n ∧ gWt S f l u
  | 0 => Or.inl rfl
  | n + 1 => by
    simp only [gFst]
    split
    · rename_i h
      exact Or.inr ⟨n, rfl, by omega, h.1⟩
    · rcases gFst_wt S l u n with h | ⟨f, h1, h2, h3⟩
      · exact Or.inl h
      · exact Or.inr ⟨f, h1, by omega, h3⟩
theorem gLk_range0 (hB : gB S b) (hn : ¬ gArr S b) : 0 ≤ gLk S b ∧ gLk S b ≤ 4 := by
  unfold gB at hB
  have h5 : gF S b 5 = -5 := Decidable.not_not.mp hn
  have hne := hB.2.2.2.2.2.2.2 h5
  unfold gLk
  split
  · rename_i h
    unfold gUp at h
    omega
  · rename_i h
    unfold gUp at h
    omega
theorem gGo1_F (hB : gB S b) (hn : ¬ gArr S b) (hb : b < 16) (hw : w < 8) (h6 : ¬ w = 6) : gF (gGo1 S b) b w = gF S b w := by
  have := gLk_range0 hB hn
  unfold gGo1
  rw [gF_ne hw (by decide) (by omega), gF_out (by omega) hb hw]
theorem gW_go1 (hW : gW S) (hb : (b : Int) < S 150) (hn : ¬ gArr S b) : gW (gGo1 S b) := by
  have hB := hW.2.2.2.2.2.2 b hb
  have h150 := hW.1
  have hl := gLk_range0 hB hn
  have hb16 : b < 16 := by omega
  have h1 : gW (cs_u1 S (11 + (gLk S b).toNat) (S (11 + (gLk S b).toNat) + 1)) := gW_fre hW (by omega)
  refine gW_blk (b := b) h1 hb16 (fun i hi => cs_u1_ne (by omega)) ?_
  have hF : ∀ w, w < 8 → ¬ w = 6 → gF (gGo1 S b) b w = gF S b w := fun w hw h6 => gGo1_F hB hn hb16 hw h6
  unfold gB at hB ⊢
  rw [hF 0 (by decide) (by decide), hF 1 (by decide) (by decide), hF 2 (by decide) (by decide), hF 3 (by decide) (by decide), hF 4 (by decide) (by decide), hF 5 (by decide) (by decide), hF 7 (by decide) (by decide)]
  exact hB
theorem gGo_hi (hB : gB S b) (hn : ¬ gArr S b) (hb : b < 16) (hi : 149 ≤ i) (h2 : ¬ i = 151) : gGo S b i = S i := by
  have := gLk_range0 hB hn
  unfold gGo gJoin gGo1
  split
  · simp (disch := omega) only [cs_u1_ne]
  · split <;> simp (disch := omega) only [cs_u1_ne]
theorem gGo_151 (hB : gB S b) (hn : ¬ gArr S b) (hb : b < 16) : S 151 ≤ gGo S b 151 ∧ gGo S b 151 ≤ S 151 + 1 := by
  have := gLk_range0 hB hn
  unfold gGo gJoin gGo1
  split
  · simp (disch := omega) only [cs_u1_ne]
    omega
  · split
    · simp (disch := omega) only [cs_u1_ne]
      omega
    · rw [cs_u1_at]
      simp (disch := omega) only [cs_u1_ne]
      omega
theorem gW_go (hW : gW S) (hb : (b : Int) < S 150) (hn : ¬ gArr S b) (hj : S 151 < 2000000) : gW (gGo S b) := by
  have hB := hW.2.2.2.2.2.2 b hb
  have h150 := hW.1
  have hl := gLk_range0 hB hn
  have hnx := gNx_range hB hn
  have hb16 : b < 16 := by omega
  have hs := hW.2.2.2.1
  have ht := hW.2.2.2.2.1
  have h151 := hW.2.2.2.2.2.1
  have h1 := gW_go1 hW hb hn
  have hF : ∀ w, w < 8 → ¬ w = 6 → gF (gGo1 S b) b w = gF S b w := fun w hw h6 => gGo1_F hB hn hb16 hw h6
  have f0 := hF 0 (by decide) (by decide)
  have f1 := hF 1 (by decide) (by decide)
  have f2 := hF 2 (by decide) (by decide)
  have f3 := hF 3 (by decide) (by decide)
  have f4 := hF 4 (by decide) (by decide)
  have f5 := hF 5 (by decide) (by decide)
  have f7 := hF 7 (by decide) (by decide)
  have g151 : gGo1 S b 151 = S 151 := by unfold gGo1; simp (disch := omega) only [cs_u1_ne]
  unfold gB at hB
  unfold gGo
  split
  · rename_i hlt
    refine gW_blk (b := b) h1 hb16 (fun i hi => cs_u1_ne (by omega)) ?_
    unfold gB
    simp (disch := omega) only [gF_ne, gF_at, f0, f1, f2, f3, f5, f7]
    omega
  · split
    · rename_i hg
      refine gW_blk (b := b) h1 hb16 (fun i hi => by simp (disch := omega) only [cs_u1_ne]) ?_
      unfold gB
      simp (disch := omega) only [gF_ne, gF_at, f0, f1, f3, f7]
      omega
    · rename_i hg
      unfold gJoin
      have e151 : cs_u1 (cs_u1 (gGo1 S b) (21 + 8 * b + 4) 0) (21 + 8 * b + 2) (gNx S b) 151 = S 151 := by simp (disch := omega) only [cs_u1_ne, g151]
      rw [e151]
      refine gW_joi (gW_blk (b := b) h1 hb16 (fun i hi => by simp (disch := omega) only [cs_u1_ne]) ?_) (by omega)
      unfold gB
      simp (disch := omega) only [gF_ne, gF_at, f0, f1, f3, f5]
      have h5 : gF S b 5 = -5 := Decidable.not_not.mp hn
      omega
theorem gAct_ok (hW : gW S) (hk : k < 5) (hj : S 151 < 2000000) : gW (gAct S k) ∧ (∀ i, 149 ≤ i → ¬ i = 151 → ¬ i = 152 → gAct S k i = S i) ∧ S 151 ≤ gAct S k 151 ∧ gAct S k 151 ≤ S 151 + 1 := by
  have h150 := hW.1
  have hid : gW S ∧ (∀ i, 149 ≤ i → ¬ i = 151 → ¬ i = 152 → S i = S i) ∧ S 151 ≤ S 151 ∧ S 151 ≤ S 151 + 1 := ⟨hW, fun _ _ _ _ => rfl, by omega, by omega⟩
  have hturn : gCan S k → gW (gTurn S k) ∧ (∀ i, 149 ≤ i → ¬ i = 151 → ¬ i = 152 → gTurn S k i = S i) ∧ S 151 ≤ gTurn S k 151 ∧ gTurn S k 151 ≤ S 151 + 1 := fun hc => ⟨gW_turn hW hk hc, fun i h1 _ h2 => gTurn_hi hk h1 h2, by rw [gTurn_hi hk (by decide) (by decide)]; omega, by rw [gTurn_hi hk (by decide) (by decide)]; omega⟩
  unfold gAct
  split
  · split
    · rename_i h
      exact hturn h.2
    · exact hid
  · rename_i hne
    obtain ⟨f, e1, e2, e3⟩ := (gFst_wt S k (gU S k) (gMany S)).resolve_left hne
    have e2' : (f : Int) < S 150 := by unfold gMany at e2; omega
    rw [e1, Int.toNat_natCast]
    split
    · rename_i h
      obtain ⟨t1, t2, t3, t4⟩ := hturn h.2
      have hf16 : f < 16 := by omega
      have hn : ¬ gArr (gTurn S k) f := by
        unfold gArr
        rw [gTurn_F hk hf16 (by decide)]
        exact e3.1
      have hfb : (f : Int) < gTurn S k 150 := by rw [gTurn_hi hk (by decide) (by decide)]; omega
      have hB := t1.2.2.2.2.2.2 f hfb
      have g1 := gGo_151 hB hn hf16
      have e151 : gTurn S k 151 = S 151 := gTurn_hi hk (by decide) (by decide)
      refine ⟨gW_go t1 hfb hn (by omega), fun i h1 h2 h3 => by rw [gGo_hi hB hn hf16 h1 h2]; exact t2 i h1 h2 h3, by omega, by omega⟩
    · exact hid
theorem gActs_ok (hW : gW S) (hj : S 151 + 5 ≤ 2000000) : ∀ n : Nat, n ≤ 5 → gW (gActs S n) ∧ (∀ i, 149 ≤ i → ¬ i = 151 → ¬ i = 152 → gActs S n i = S i) ∧ S 151 ≤ gActs S n 151 ∧ gActs S n 151 ≤ S 151 + n
  | 0, _ => ⟨hW, fun _ _ _ _ => rfl, by show S 151 ≤ S 151; omega, by show S 151 ≤ S 151 + 0; omega⟩
  | n + 1, hn => by
    obtain ⟨h1, h2, h3, h4⟩ := gActs_ok hW hj n (by omega)
    obtain ⟨g1, g2, g3, g4⟩ := gAct_ok h1 (k := n) (by omega) (by omega)
    simp only [gActs]
    exact ⟨g1, fun i a b c => (g2 i a b c).trans (h2 i a b c), by omega, by omega⟩
/-- within a flow: the pounds below n are in bounds but the highest of them, which may have the spring's water -/
theorem gFlN_ok : ∀ (n : Nat) (S : Nat → Int), n ≤ 6 → (∀ j, j < n → 0 ≤ S j ∧ S j ≤ 110) → (∀ j, j + 1 < n → S j ≤ 90) → (∀ j, n ≤ j → j < 6 → 0 ≤ S j ∧ S j ≤ 90) → (∀ j, j < 6 → 0 ≤ gFlN S n j ∧ gFlN S n j ≤ 90) ∧ ∀ i, 6 ≤ i → ¬ i = 152 → gFlN S n i = S i
  | 0, S, _, _, _, h3 => ⟨fun j hj => h3 j (by omega) hj, fun _ _ _ => rfl⟩
  | n + 1, S, hn, h1, h2, h3 => by
    simp only [gFlN]
    have a0 := h1 n (by omega)
    have key : (∀ j, j < n → 0 ≤ gFlS S n j ∧ gFlS S n j ≤ 110) ∧ (∀ j, j + 1 < n → gFlS S n j ≤ 90) ∧ (∀ j, n ≤ j → j < 6 → 0 ≤ gFlS S n j ∧ gFlS S n j ≤ 90) ∧ ∀ i, 6 ≤ i → ¬ i = 152 → gFlS S n i = S i := by
      unfold gFlS
      by_cases hn0 : n = 0
      · subst hn0
        simp only [if_true]
        refine ⟨fun j hj => absurd hj (by omega), fun j hj => absurd hj (by omega), fun j _ hj => ?_, fun i hi h => by simp (disch := omega) only [cs_u1_ne]⟩
        rw [cs_u1_ne (by omega)]
        by_cases hj0 : j = 0
        · subst hj0
          rw [cs_u1_at]
          split <;> omega
        · rw [cs_u1_ne hj0]
          exact h3 j (by omega) hj
      · rw [if_neg hn0]
        have b0 := h1 (n - 1) (by omega)
        have b1 := h2 (n - 1) (by omega)
        refine ⟨fun j hj => ?_, fun j hj => ?_, fun j h4 hj => ?_, fun i hi h => by simp (disch := omega) only [cs_u1_ne]⟩
        · by_cases hj1 : j = n - 1
          · subst hj1
            rw [cs_u1_at]
            split <;> omega
          · rw [cs_u1_ne hj1, cs_u1_ne (by omega)]
            exact h1 j (by omega)
        · rw [cs_u1_ne (by omega), cs_u1_ne (by omega)]
          exact h2 j (by omega)
        · rw [cs_u1_ne (by omega)]
          by_cases hjn : j = n
          · subst hjn
            rw [cs_u1_at]
            split <;> omega
          · rw [cs_u1_ne hjn]
            exact h3 j (by omega) hj
    obtain ⟨k1, k2, k3, k4⟩ := key
    obtain ⟨r1, r2⟩ := gFlN_ok n (gFlS S n) (by omega) k1 k2 k3
    exact ⟨r1, fun i a b => (r2 i a b).trans (k4 i a b)⟩
theorem gFlow0 (hW : gW S) : (∀ j, j < 6 → 0 ≤ cs_u1 (cs_u1 S 5 (S 5 + S 156)) 153 (S 153 + S 156) j ∧ cs_u1 (cs_u1 S 5 (S 5 + S 156)) 153 (S 153 + S 156) j ≤ 110) ∧ (∀ j, j + 1 < 6 → cs_u1 (cs_u1 S 5 (S 5 + S 156)) 153 (S 153 + S 156) j ≤ 90) := by
  have hs := hW.2.2.2.1
  refine ⟨fun j hj => ?_, fun j hj => ?_⟩
  · have := hW.2.1 j hj
    rw [cs_u1_ne (by omega)]
    by_cases h5 : j = 5
    · subst h5
      rw [cs_u1_at]
      omega
    · rw [cs_u1_ne h5]
      omega
  · rw [cs_u1_ne (by omega), cs_u1_ne (by omega)]
    exact (hW.2.1 j (by omega)).2
theorem gFlow_ok (hW : gW S) : gW (gFlow S) ∧ ∀ i, 6 ≤ i → ¬ i = 152 → ¬ i = 153 → gFlow S i = S i := by
  obtain ⟨z1, z2⟩ := gFlow0 hW
  obtain ⟨r1, r2⟩ := gFlN_ok 6 _ (Nat.le_refl 6) z1 z2 (fun j h1 h2 => absurd h2 (by omega))
  have he : ∀ i, 6 ≤ i → ¬ i = 152 → ¬ i = 153 → gFlow S i = S i := fun i a b c => by
    unfold gFlow
    rw [r2 i a b, cs_u1_ne c, cs_u1_ne (by omega)]
  refine ⟨?_, he⟩
  obtain ⟨h1, h2, h3, h4, h5, h6, h7⟩ := hW
  refine ⟨by rw [he _ (by decide) (by decide) (by decide)]; exact h1, r1, fun k hk => by rw [he _ (by omega) (by omega) (by omega)]; exact h3 k hk, ?_, ?_, ?_, fun b hb => ?_⟩
  · rw [he _ (by decide) (by decide) (by decide), he _ (by decide) (by decide) (by decide), he _ (by decide) (by decide) (by decide)]; exact h4
  · rw [he _ (by decide) (by decide) (by decide)]; exact h5
  · rw [he _ (by decide) (by decide) (by decide)]; exact h6
  · rw [he _ (by decide) (by decide) (by decide)] at hb
    have hF : ∀ w, w < 8 → gF (gFlow S) b w = gF S b w := fun w hw => he _ (by omega) (by omega) (by omega)
    have := h7 b hb
    unfold gB at this ⊢
    rw [hF 0 (by decide), hF 1 (by decide), hF 2 (by decide), hF 3 (by decide), hF 4 (by decide), hF 5 (by decide), hF 7 (by decide)]
    exact this
theorem gTick_ok (hW : gW S) (hj : S 151 + 5 ≤ 2000000) (ht : S 149 + 1 ≤ 200000) : gW (gTick S) ∧ gTick S 149 = S 149 + 1 ∧ (∀ i, 150 ≤ i → ¬ i = 151 → ¬ i = 152 → ¬ i = 153 → gTick S i = S i) ∧ S 151 ≤ gTick S 151 ∧ gTick S 151 ≤ S 151 + 5 := by
  obtain ⟨a1, a2, a3, a4⟩ := gActs_ok hW hj 5 (Nat.le_refl 5)
  obtain ⟨f1, f2⟩ := gFlow_ok a1
  have e149 : gFlow (gActs S 5) 149 = S 149 := (f2 149 (by decide) (by decide) (by decide)).trans (a2 149 (by decide) (by decide) (by decide))
  have h149 := hW.2.2.2.2.1
  unfold gTick
  refine ⟨gW_tic f1 (by omega), by rw [cs_u1_at, e149], fun i h1 h2 h3 h4 => by rw [cs_u1_ne (by omega), f2 i (by omega) h3 h4, a2 i (by omega) h2 h3], ?_, ?_⟩
  · rw [cs_u1_ne (by decide), f2 151 (by decide) (by decide) (by decide)]; exact a3
  · rw [cs_u1_ne (by decide), f2 151 (by decide) (by decide) (by decide)]; exact a4
theorem gTicks_ok (hW : gW S) : ∀ n : Nat, S 151 + 5 * n ≤ 2000000 → S 149 + n ≤ 200000 → gW (gTicks S n) ∧ gTicks S n 149 = S 149 + n ∧ (∀ i, 150 ≤ i → ¬ i = 151 → ¬ i = 152 → ¬ i = 153 → gTicks S n i = S i) ∧ S 151 ≤ gTicks S n 151 ∧ gTicks S n 151 ≤ S 151 + 5 * n
  | 0, _, _ => ⟨hW, by show S 149 = S 149 + 0; omega, fun _ _ _ _ _ => rfl, by show S 151 ≤ S 151; omega, by show S 151 ≤ S 151 + 5 * 0; omega⟩
  | n + 1, hj, ht => by
    obtain ⟨h1, h2, h3, h4, h5⟩ := gTicks_ok hW n (by omega) (by omega)
    obtain ⟨g1, g2, g3, g4, g5⟩ := gTick_ok h1 (by omega) (by omega)
    simp only [gTicks]
    exact ⟨g1, by omega, fun i a b c d => (g3 i a b c d).trans (h3 i a b c d), by omega, by omega⟩
end
