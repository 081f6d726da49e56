/-! PURE: queues counted -/
section
variable {S S' : Nat → Int} {b c k f n M : Nat} {l u t : Int}
theorem gQue_fst : ∀ n : Nat, gQue S l u n = 0 ↔ gFst S l u n = -5
  | 0 => ⟨fun _ => rfl, fun _ => rfl⟩
  | n + 1 => by
    have ih := gQue_fst n
    have hr := gQue_range S l u n
    simp only [gQue, gFst]
    by_cases hw : gWt S n l u
    · rw [if_pos hw]
      constructor
      · intro h; omega
      · intro h
        exfalso
        by_cases hz : gFst S l u n = -5 ∨ gF S n 7 < gF S (gFst S l u n).toNat 7
        · rw [if_pos ⟨hw, hz⟩] at h; omega
        · rw [if_neg (fun q => hz q.2)] at h
          exact hz (Or.inl h)
    · rw [if_neg hw, if_neg (fun q => hw q.1)]
      omega
/-- the side of a boat -/
abbrev gSd (S : Nat → Int) (b : Nat) : Int := if gUp S b then 1 else 0
theorem gPl_0 : ∀ n : Nat, gPl S b n = 0 ↔ ∀ c, c < n → gWt S c (gLk S b) (gSd S b) → ¬ gF S c 7 < gF S b 7
  | 0 => ⟨fun _ c hc => absurd hc (by omega), fun _ => rfl⟩
  | n + 1 => by
    have ih := gPl_0 n
    have hr := gPl_range S b n
    simp only [gPl]
    by_cases hw : gWt S n (gLk S b) (gSd S b) ∧ gF S n 7 < gF S b 7
    · rw [if_pos hw]
      constructor
      · intro h; omega
      · intro h; exact absurd hw.2 (h n (by omega) hw.1)
    · rw [if_neg hw]
      constructor
      · intro h c hc hwc
        by_cases e : c = n
        · subst e; exact fun q => hw ⟨hwc, q⟩
        · exact ih.mp (by omega) c (by omega) hwc
      · intro h
        have := ih.mpr (fun c hc hwc => h c (by omega) hwc)
        omega
/-- the boats' places: who has joined earlier stands ahead -/
theorem gPl_le (hl : gLk S c = gLk S b) (hu : gSd S c = gSd S b) (h7 : gF S c 7 < gF S b 7) (hc : gWt S c (gLk S b) (gSd S b)) : ∀ n : Nat, gPl S c n + (if c < n then 1 else 0) ≤ gPl S b n
  | 0 => by rw [if_neg (by omega)]; exact Int.le_refl _
  | n + 1 => by
    have ih := gPl_le hl hu h7 hc n
    simp only [gPl]
    rw [hl]
    have e1 : (gWt S n (gLk S b) (if gUp S c then 1 else 0) ∧ gF S n 7 < gF S c 7) → (gWt S n (gLk S b) (if gUp S b then 1 else 0) ∧ gF S n 7 < gF S b 7) := fun q => ⟨⟨q.1.1, q.1.2.1, q.1.2.2.trans hu⟩, by have := q.2; omega⟩
    by_cases hcn : c = n
    · subst hcn
      rw [if_neg (show ¬ (gWt S c (gLk S b) (if gUp S c then 1 else 0) ∧ gF S c 7 < gF S c 7) from fun q => absurd q.2 (Int.lt_irrefl _)), if_pos (show gWt S c (gLk S b) (if gUp S b then 1 else 0) ∧ gF S c 7 < gF S b 7 from ⟨hc, h7⟩), if_pos (by omega)]
      rw [if_neg (by omega)] at ih
      omega
    · have e2 : (c < n + 1) = (c < n) := propext ⟨fun q => by omega, fun q => by omega⟩
      simp only [e2]
      by_cases h1 : gWt S n (gLk S b) (if gUp S c then 1 else 0) ∧ gF S n 7 < gF S c 7
      · rw [if_pos h1, if_pos (e1 h1)]; omega
      · rw [if_neg h1]
        split <;> omega
theorem gPl_que : ∀ n : Nat, b < n → gWt S b (gLk S b) (gSd S b) → gPl S b n < gQue S (gLk S b) (gSd S b) n
  | 0, h, _ => absurd h (by omega)
  | n + 1, h, hw => by
    have le : ∀ m : Nat, gPl S b m ≤ gQue S (gLk S b) (gSd S b) m := by
      intro m
      induction m with
      | zero => exact Int.le_refl _
      | succ m ih =>
        simp only [gPl, gQue]
        by_cases h1 : gWt S m (gLk S b) (if gUp S b then 1 else 0)
        · rw [if_pos (show gWt S m (gLk S b) (gSd S b) from h1)]
          by_cases h2 : gF S m 7 < gF S b 7
          · rw [if_pos ⟨h1, h2⟩]; omega
          · rw [if_neg (fun q => h2 q.2)]; omega
        · rw [if_neg (fun q => h1 q.1), if_neg (show ¬ gWt S m (gLk S b) (gSd S b) from h1)]
          omega
    simp only [gPl, gQue]
    by_cases e : b = n
    · subst e
      rw [if_neg (fun q => absurd q.2 (Int.lt_irrefl _)), if_pos hw]
      have := le b
      omega
    · have ih := gPl_que n (by omega) hw
      by_cases h1 : gWt S n (gLk S b) (if gUp S b then 1 else 0)
      · rw [if_pos (show gWt S n (gLk S b) (gSd S b) from h1)]
        by_cases h2 : gF S n 7 < gF S b 7
        · rw [if_pos ⟨h1, h2⟩]; omega
        · rw [if_neg (fun q => h2 q.2)]; omega
      · rw [if_neg (fun q => h1 q.1), if_neg (show ¬ gWt S n (gLk S b) (gSd S b) from h1)]
        omega
/-- joined numbers are apart -/
def pD (S : Nat → Int) : Prop := ∀ b c : Nat, (b : Int) < S 150 → (c : Int) < S 150 → gF S b 7 = gF S c 7 → b = c
theorem gFst_0 (hW : gW S) (hD : pD S) (hb : (b : Int) < S 150) (hw : gWt S b l u) : gFst S l u (gMany S) = b ↔ ¬ 0 < gPl S b (gMany S) := by
  have h150 := hW.1
  have hl := hw.2.1
  have hu := hw.2.2
  have hbM : b < gMany S := by unfold gMany; omega
  obtain ⟨m1, m2⟩ := gFst_min (S := S) (l := l) (u := u) (gMany S)
  have hr := gPl_range S b (gMany S)
  have z := gPl_0 (S := S) (b := b) (gMany S)
  rw [hl] at z
  have hu' : gSd S b = u := hu
  rw [hu'] at z
  constructor
  · intro h
    obtain ⟨a1, a2, a3⟩ := m2 b h
    have := z.mpr (fun c hc hwc => by have := a3 c hc hwc; omega)
    omega
  · intro h
    have hz := z.mp (by omega)
    rcases gFst_wt S l u (gMany S) with e | ⟨f, e1, e2, e3⟩
    · exact absurd hw (m1 e b hbM)
    · obtain ⟨a1, a2, a3⟩ := m2 f e1
      have g1 := a3 b hbM hw
      have g2 := hz f e2 e3
      have : f = b := hD f b (by unfold gMany at e2; omega) hb (by omega)
      rw [e1, this]
/-- boats that wait, all queues together -/
def gWaN (S : Nat → Int) (n : Nat) : Nat → Int
  | 0 => 0
  | k + 1 => gWaN S n k + (gQue S k 1 n + gQue S k 0 n)
theorem gWaN_5 : gWaN S n 5 = (gQue S 0 1 n + gQue S 0 0 n) + (gQue S 1 1 n + gQue S 1 0 n) + (gQue S 2 1 n + gQue S 2 0 n) + (gQue S 3 1 n + gQue S 3 0 n) + (gQue S 4 1 n + gQue S 4 0 n) := by
  simp only [gWaN]
  rw [Int.zero_add]
  rfl
theorem gWaN_all (hW : gW S) : ∀ n : Nat, n ≤ gMany S → gWaN S n 5 + gArrN S n = n
  | 0, _ => rfl
  | n + 1, h => by
    have ih := gWaN_all hW n (by omega)
    rw [gWaN_5] at ih ⊢
    have h150 := hW.1
    have hb : (n : Int) < S 150 := by unfold gMany at h; omega
    simp only [gQue, gArrN]
    by_cases ha : gArr S n
    · have e : ∀ l u : Int, ¬ gWt S n l u := fun l u q => q.1 ha
      rw [if_pos ha, if_neg (e 0 1), if_neg (e 0 0), if_neg (e 1 1), if_neg (e 1 0), if_neg (e 2 1), if_neg (e 2 0), if_neg (e 3 1), if_neg (e 3 0), if_neg (e 4 1), if_neg (e 4 0)]
      omega
    · have hr := gLk_range0 (hW.2.2.2.2.2.2 n hb) ha
      rw [if_neg ha]
      have e : ∀ (l u : Int) [Decidable (gWt S n l u)], (if gWt S n l u then (1 : Int) else 0) = if gLk S n = l ∧ gSd S n = u then 1 else 0 := fun l u _ => by
        by_cases q : gLk S n = l ∧ gSd S n = u
        · rw [if_pos q, if_pos ⟨ha, q.1, q.2⟩]
        · rw [if_neg q, if_neg (fun z => q ⟨z.2.1, z.2.2⟩)]
      simp only [e]
      obtain ⟨L, hL⟩ : ∃ L, gLk S n = L := ⟨_, rfl⟩
      obtain ⟨U, hU⟩ : ∃ U, gSd S n = U := ⟨_, rfl⟩
      rw [hL] at hr
      simp only [hL, hU]
      have hU2 : U = 0 ∨ U = 1 := by rw [← hU]; unfold gSd; split <;> simp
      rcases hU2 with rfl | rfl <;> rcases (show L = 0 ∨ L = 1 ∨ L = 2 ∨ L = 3 ∨ L = 4 by omega) with rfl | rfl | rfl | rfl | rfl <;> simp <;> omega
end
