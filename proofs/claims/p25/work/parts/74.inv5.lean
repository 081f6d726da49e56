/-! PURE: boats over a tick, when a boat arrives, sets of boats -/
section
variable {S S' : Nat → Int} {b c k f n M j : Nat} {l u t t' : Int}
theorem gActs_stayA (hW : gW S) (hj : S 151 + 5 ≤ 2000000) (hb : (b : Int) < S 150) (ha : gArr S b) : ∀ n : Nat, n ≤ 5 → ∀ w, w < 8 → gF (gActs S n) b w = gF S b w
  | 0, _ => fun _ _ => rfl
  | n + 1, hn => by
    obtain ⟨g1, g2, g3, g4⟩ := gActs_ok hW hj n (by omega)
    have e150 : gActs S n 150 = S 150 := g2 150 (by decide) (by decide) (by decide)
    have ih := gActs_stayA hW hj hb ha n (by omega)
    have ha' : gArr (gActs S n) b := by unfold gArr; rw [ih 5 (by decide)]; exact ha
    intro w hw
    simp only [gActs]
    rw [gAct_stay g1 (by omega) (by omega) ha' w hw]
    exact ih w hw
theorem gActs_6 (hW : gW S) (hj : S 151 + 5 ≤ 2000000) (hb : (b : Int) < S 150) (m : Nat) : ∀ n : Nat, m + n ≤ 5 → gF (gActs S m) b 6 ≤ gF (gActs S (m + n)) b 6
  | 0, _ => Int.le_refl _
  | n + 1, hn => by
    obtain ⟨g1, g2, g3, g4⟩ := gActs_ok hW hj (m + n) (by omega)
    have e150 : gActs S (m + n) 150 = S 150 := g2 150 (by decide) (by decide) (by decide)
    have ih := gActs_6 hW hj hb m n (by omega)
    have a := gAct_6 (k := m + n) (b := b) g1 (by omega) (by omega)
    show gF (gActs S m) b 6 ≤ gF (gAct (gActs S (m + n)) (m + n)) b 6
    omega
theorem gTick_gF (hW : gW S) (hj : S 151 + 5 ≤ 2000000) (hb : b < 16) {w : Nat} (hw : w < 8) : gF (gTick S) b w = gF (gActs S 5) b w := gTick_o hW hj (by omega) (by omega) (by omega) (by omega)
/-- a tick and the boat b: as its reason tells -/
theorem gTick_b (hW : gW S) (hI : kI S) (hj : S 151 + 5 ≤ 2000000) (h : pJ S (S 149)) (hb : (b : Int) < S 150) :
    (gArr S b → ∀ w, w < 8 → gF (gTick S) b w = gF S b w) ∧ (¬ gArr S b → (gHind (gActs S (gLk S b).toNat) b = 0 → gF S b 6 < gF (gTick S) b 6) ∧ (¬ gHind (gActs S (gLk S b).toNat) b = 0 → ∀ w, w < 8 → gF (gTick S) b w = gF S b w)) := by
  have h150 := hW.1
  have hb16 : b < 16 := by omega
  refine ⟨fun ha w hw => by rw [gTick_gF hW hj hb16 hw]; exact gActs_stayA hW hj hb ha 5 (by decide) w hw, fun hn => ?_⟩
  have hB := hW.2.2.2.2.2.2 b hb
  have hlr := gLk_range0 hB hn
  obtain ⟨k, hk⟩ : ∃ k : Nat, gLk S b = k := ⟨(gLk S b).toNat, by omega⟩
  rw [hk, Int.toNat_natCast]
  have keep := gActs_keep hW hj hb hn k (by omega)
  obtain ⟨g1, g2, g3, g4⟩ := gActs_ok hW hj k (by omega)
  have e150 : gActs S k 150 = S 150 := g2 150 (by decide) (by decide) (by decide)
  have h0 : pJ S (S 149 + 1) := pJ_cg h (by omega) rfl (fun _ _ _ _ _ => rfl) (fun _ _ _ => rfl) (by omega)
  have hJ := pJ_acts hW hI hj h0 (by omega) k (by omega)
  have hn' : ¬ gArr (gActs S k) b := by unfold gArr; rw [keep 5 (by decide)]; exact hn
  have hl' : gLk (gActs S k) b = k := by rw [(gWt_cg (l := 0) (u := 0) (keep 2 (by decide)) (keep 3 (by decide)) (keep 5 (by decide))).2.1]; exact hk
  obtain ⟨o1, o2⟩ := gAct_own g1 hJ.2.2.2.2.2 (show k < 5 by omega) (by omega) hn' hl'
  refine ⟨fun hz => ?_, fun hz w hw => ?_⟩
  · have a := o1 hz
    rw [keep 6 (by decide)] at a
    have m := gActs_6 hW hj hb (k + 1) (4 - k) (by omega)
    rw [show k + 1 + (4 - k) = 5 by omega] at m
    rw [gTick_gF hW hj hb16 (by decide)]
    have : gActs S (k + 1) = gAct (gActs S k) k := rfl
    rw [this] at m
    omega
  · have a := o2 hz
    have all : ∀ n : Nat, k + 1 + n ≤ 5 → ∀ w, w < 8 → gF (gActs S (k + 1 + n)) b w = gF S b w := by
      intro n
      induction n with
      | zero =>
        intro _ w hw
        show gF (gAct (gActs S k) k) b w = _
        rw [a w hw]; exact keep w hw
      | succ n ih =>
        intro hn2 w hw
        have ih' := ih (by omega)
        obtain ⟨q1, q2, q3, q4⟩ := gActs_ok hW hj (k + 1 + n) (by omega)
        have e1 : gActs S (k + 1 + n) 150 = S 150 := q2 150 (by decide) (by decide) (by decide)
        have hl2 : gLk (gActs S (k + 1 + n)) b = k := by rw [(gWt_cg (l := 0) (u := 0) (ih' 2 (by decide)) (ih' 3 (by decide)) (ih' 5 (by decide))).2.1]; exact hk
        show gF (gAct (gActs S (k + 1 + n)) (k + 1 + n)) b w = _
        rw [gAct_keep q1 (by omega) (by omega) (by rw [hl2]; omega) w hw]
        exact ih' w hw
    rw [gTick_gF hW hj hb16 hw]
    have := all (4 - k) (by omega) w hw
    rw [show k + 1 + (4 - k) = 5 by omega] at this
    exact this
/-! when a boat arrives -/
def rA (S : Nat → Int) (b : Nat) : Int := if 500 < (gAin S b 501 0 : Int) then -5 else (gAin S b 501 0 : Int)
theorem gAin_s : ∀ f i : Nat, gAin S b f (i + 1) = gAin (gTick S) b f i + 1
  | 0, i => rfl
  | f + 1, i => by
    unfold gAin
    rw [gTicks_s i]
    by_cases h : gArr (gTicks S (i + 1)) b
    · rw [if_pos h, if_pos h]
    · rw [if_neg h, if_neg h]; exact gAin_s f (i + 1)
theorem gAin_more : ∀ f i : Nat, gAin S b f i < i + f → gAin S b (f + 1) i = gAin S b f i
  | 0, i, h => absurd h (by show ¬ i < i + 0; omega)
  | f + 1, i, h => by
    unfold gAin at h
    show (if gArr (gTicks S i) b then i else gAin S b (f + 1) (i + 1)) = (if gArr (gTicks S i) b then i else gAin S b f (i + 1))
    by_cases h1 : gArr (gTicks S i) b
    · rw [if_pos h1, if_pos h1]
    · rw [if_neg h1] at h
      rw [if_neg h1, if_neg h1]
      exact gAin_more f (i + 1) (by omega)
theorem gAin_0 : (gArr S b → gAin S b 501 0 = 0) ∧ (¬ gArr S b → gAin S b 501 0 = gAin (gTick S) b 500 0 + 1) := by
  refine ⟨fun h => ?_, fun h => ?_⟩
  · show (if gArr S b then 0 else gAin S b 500 1) = 0
    rw [if_pos h]
  · show (if gArr S b then 0 else gAin S b 500 1) = _
    rw [if_neg h]; exact gAin_s 500 0
theorem gAin_500 : gAin S b 500 0 = 0 ↔ gArr S b := by
  have e : gAin S b 500 0 = if gArr S b then 0 else gAin S b 499 1 := rfl
  rw [e]
  have := (gAin_le (S := S) (b := b) 499 1).1
  by_cases h : gArr S b
  · rw [if_pos h]; exact ⟨fun _ => h, fun _ => rfl⟩
  · rw [if_neg h]; exact ⟨fun q => by omega, fun q => absurd q h⟩
theorem rA_range : (rA S b = -5 ∨ 0 ≤ rA S b) ∧ rA S b ≤ 500 := by
  unfold rA
  split <;> omega
theorem rA_0 : rA S b = 0 ↔ gArr S b := by
  unfold rA
  by_cases h : gArr S b
  · rw [gAin_0.1 h]; exact ⟨fun _ => h, fun _ => rfl⟩
  · rw [gAin_0.2 h]
    refine ⟨fun q => ?_, fun q => absurd q h⟩
    split at q <;> omega
theorem rA_1 : rA S b = 1 ↔ ¬ gArr S b ∧ gArr (gTick S) b := by
  by_cases h : gArr S b
  · have := rA_0.mpr h
    exact ⟨fun q => by omega, fun q => absurd h q.1⟩
  · unfold rA
    rw [gAin_0.2 h]
    have z := gAin_500 (S := gTick S) (b := b)
    refine ⟨fun q => ⟨h, z.mp (by split at q <;> omega)⟩, fun q => ?_⟩
    rw [z.mpr q.2]; rfl
theorem rA_s (h : 1 ≤ rA S b) : rA (gTick S) b = rA S b - 1 := by
  have hn : ¬ gArr S b := fun q => by have := rA_0.mpr q; omega
  have hle := (gAin_le (S := gTick S) (b := b) 500 0).2
  have e : rA S b = if 500 < ((gAin (gTick S) b 500 0 + 1 : Nat) : Int) then -5 else ((gAin (gTick S) b 500 0 + 1 : Nat) : Int) := by unfold rA; rw [gAin_0.2 hn]
  by_cases h5 : 500 < ((gAin (gTick S) b 500 0 + 1 : Nat) : Int)
  · rw [if_pos h5] at e; omega
  · rw [if_neg h5] at e
    have m := gAin_more (S := gTick S) (b := b) 500 0 (by omega)
    unfold rA at e ⊢
    rw [m, if_neg (by omega)]
    omega
/-! sets of boats -/
def pBt (x : Int) (i : Nat) : Bool := (Int32.ofInt x).toBitVec.getLsbD i
theorem pBt_or (x y : Int) (i : Nat) : pBt (cs_or x y) i = (pBt x i || pBt y i) := by
  unfold pBt cs_or
  rw [cs_ofToInt, Int32.toBitVec_or, BitVec.getLsbD_or]
theorem pBt_shl : ∀ n, n < 16 → ∀ i, i < 16 → pBt (cs_shl 1 ((n : Nat) : Int)) i = decide (i = n) := by decide +kernel
theorem pBt_0 (i : Nat) : pBt 0 i = false := BitVec.getLsbD_zero
theorem p_amt : ∀ n, n < 16 → ((Int32.ofInt ((n : Nat) : Int) &&& 31).toBitVec.smod 32).toNat = n := by decide +kernel
theorem p_shr {x : Int} (hb : b < 16) : cs_and (cs_shr x (b : Int)) 1 = if pBt x b = true then 1 else 0 := by
  have key : (Int32.ofInt x >>> (Int32.ofInt (b : Int) &&& 31)) &&& 1 = if pBt x b = true then (1 : Int32) else 0 := by
    apply Int32.toBitVec_inj.mp
    apply BitVec.eq_of_getLsbD_eq
    intro i hi
    rw [Int32.toBitVec_and, BitVec.getLsbD_and, Int32.toBitVec_shiftRight]
    show (((Int32.ofInt x).toBitVec.sshiftRight ((Int32.ofInt (b : Int) &&& 31).toBitVec.smod 32).toNat).getLsbD i && (1 : Int32).toBitVec.getLsbD i) = _
    rw [p_amt b hb, BitVec.getLsbD_sshiftRight]
    unfold pBt
    by_cases h0 : i = 0
    · subst h0
      have e1 : (1 : Int32).toBitVec.getLsbD 0 = true := by decide
      have e0 : (0 : Int32).toBitVec.getLsbD 0 = false := by decide
      rw [e1]
      by_cases hx : (Int32.ofInt x).toBitVec.getLsbD b = true
      · rw [if_pos hx, if_pos (show b + 0 < 32 by omega), Nat.add_zero, hx, e1]; rfl
      · rw [if_neg hx, if_pos (show b + 0 < 32 by omega), Nat.add_zero, e0]
        simp only [Bool.not_eq_true] at hx
        rw [hx]; rfl
    · have e1 : (1 : Int32).toBitVec.getLsbD i = false := (by decide +kernel : ∀ i, i < 32 → ¬ i = 0 → (1 : Int32).toBitVec.getLsbD i = false) i hi h0
      have e0 : (0 : Int32).toBitVec.getLsbD i = false := BitVec.getLsbD_zero
      rw [e1, Bool.and_false]
      by_cases hx : (Int32.ofInt x).toBitVec.getLsbD b = true
      · rw [if_pos hx, e1]
      · rw [if_neg hx, e0]
  unfold cs_and cs_shr
  rw [cs_ofToInt, show Int32.ofInt 1 = (1 : Int32) from rfl, key]
  split <;> rfl
theorem gPoM_bt {p : Int} (hb : b < 16) : ∀ n : Nat, n ≤ 16 → pBt (gPoM S p n) b = decide (b < n ∧ gHas S b p)
  | 0, _ => by unfold gPoM; rw [pBt_0]; simp
  | n + 1, hn => by
    have ih := gPoM_bt (p := p) hb n (by omega)
    unfold gPoM
    rw [pBt_or, ih]
    by_cases h : gHas S n p
    · rw [if_pos h, pBt_shl n (by omega) b hb]
      by_cases e : b = n
      · subst e; simp [h]
      · have : (b < n + 1) = (b < n) := propext ⟨fun q => by omega, fun q => by omega⟩
        simp [e, this]
    · rw [if_neg h, pBt_0, Bool.or_false]
      by_cases e : b = n
      · subst e; simp [h]
      · have : (b < n + 1) = (b < n) := propext ⟨fun q => by omega, fun q => by omega⟩
        simp [this]
theorem gPoA_bt {p : Int} (hb : b < 16) : ∀ n : Nat, n ≤ 16 → pBt (gPoA S p n) b = decide (b < n ∧ (gArr S b ∧ gF S b 2 = p))
  | 0, _ => by unfold gPoA; rw [pBt_0]; simp
  | n + 1, hn => by
    have ih := gPoA_bt (p := p) hb n (by omega)
    unfold gPoA
    rw [pBt_or, ih]
    by_cases h : gArr S n ∧ gF S n 2 = p
    · rw [if_pos h, pBt_shl n (by omega) b hb]
      by_cases e : b = n
      · subst e; simp [h]
      · have : (b < n + 1) = (b < n) := propext ⟨fun q => by omega, fun q => by omega⟩
        simp [e, this]
    · rw [if_neg h, pBt_0, Bool.or_false]
      by_cases e : b = n
      · subst e; simp only [Nat.lt_irrefl, false_and, decide_false, h, and_false]
      · have : (b < n + 1) = (b < n) := propext ⟨fun q => by omega, fun q => by omega⟩
        simp [this]
end
