section
variable {S S' E : Nat → Int} {K K' : Nat → Nat → Int} {k s b N M k2 : Nat} {l u n : Int}
/-- the boat b, first of the queue on the side s of the lock k, goes -/
def kGg (K : Nat → Nat → Int) (S : Nat → Int) (k s b N : Nat) : Prop :=
  kRel K S ∧ gW S ∧ kI S ∧ (b : Int) < S 150 ∧ ¬ gArr S b ∧ gLk S b = k ∧ (1 - (s : Int)) = (if gUp S b then 1 else 0) ∧ s < 2 ∧ K (6 + 2 * s + 5 * k) 1 = N ∧ 0 < N ∧ K (7 + 2 * s + 5 * k) 0 = b
def kBt (B' B : Nat → Int) (p t a : Int) : Prop := B' 0 = B 0 ∧ B' 1 = B 1 ∧ B' 2 = p ∧ B' 3 = B 3 ∧ B' 4 = t ∧ B' 5 = B 5 + 1 ∧ B' 6 = a
/-- the lock has counted the passage; the rest of canal and boats as it was -/
def kLb (K' K : Nat → Nat → Int) (k b : Nat) : Prop :=
  K' 1 = K 1 ∧ K' 2 = K 2 ∧ K' (5 + 5 * k) = cs_u1 (K (5 + 5 * k)) 3 (K (5 + 5 * k) 3 + 1) ∧ (∀ j, j < 5 → ¬ j = k → K' (5 + 5 * j) = K (5 + 5 * j)) ∧ ∀ i, i < 16 → ¬ i = b → K' (30 + i) = K (30 + i)
theorem kRel_goA (hG : kGg K S k s b N) (hA : S 155 < gF S b 0 - gF S b 4) (hL : kLb K' K k b) (e0 : K' 0 = K 0) (eB : kBt (K' (30 + b)) (K (30 + b)) (K (30 + b) 2) (K (30 + b) 4 + K 2 1) (K (30 + b) 6))
    (eQ : ∀ j t, j < 5 → t < 2 → K' (6 + 2 * t + 5 * j) = K (6 + 2 * t + 5 * j) ∧ K' (7 + 2 * t + 5 * j) = K (7 + 2 * t + 5 * j)) : kRel K' (gGo S b) := by
  obtain ⟨h, hW, hI, hb, hn, hl, hu, hs2, hN, h0, hE⟩ := hG
  obtain ⟨e1, e2, eL, eL', eBo⟩ := hL
  have hB := hW.2.2.2.2.2.2 b hb
  have h150 := hW.1
  have hk5 := (gLk_pos hB hn hl).1
  have hb16 : b < 16 := by omega
  have hsm := gGo_same hl hk5 hb16
  obtain ⟨a0, a1, a2, a3, a4, a5, a6, a7, a8⟩ := gGo_A hl hk5 hb16 hA
  have e150 : gGo S b 150 = S 150 := gGo_out hl (by omega) (by omega) (by omega)
  have hst : K 2 1 = S 155 := h.2.2.1 1 (by decide)
  have hkb := h.2.2.2.2.2 b hb
  refine kRel_blk h hW hb hk5 (fun i => gGo_out hl) (gGo_11 hl hk5 hb16) (fun i _ => by rw [e0]) ?_ e1 e2 eL eL' ?_ eBo (fun j t hj ht => ?_)
  · rw [e0, gArrN_same (S' := gGo S b) (S := S) (gMany S) (fun b' hb' => ?_)]
    · omega
    · by_cases hq : b' = b
      · subst hq; exact a5
      · exact hsm b' (by unfold gMany at hb'; omega) hq 5 (by decide)
  · unfold kBoat at hkb ⊢
    unfold kBt at eB
    rw [a0, a1, a2, a3, a4, a5, a6]
    omega
  · rw [(eQ j t hj ht).1, (eQ j t hj ht).2]
    refine kQ_same (kQs_of h.2.2.2.2.1 j t hj ht) e150 (fun b' hb' => ?_)
    by_cases hq : b' = b
    · subst hq; exact ⟨a2, a3, a5, a7⟩
    · exact ⟨hsm b' (by omega) hq 2 (by decide), hsm b' (by omega) hq 3 (by decide), hsm b' (by omega) hq 5 (by decide), hsm b' (by omega) hq 7 (by decide)⟩
theorem kRel_goB (hG : kGg K S k s b N) (hA : ¬ S 155 < gF S b 0 - gF S b 4) (hg : gNx S b = gF S b 3) (hL : kLb K' K k b) (e0 : ∀ i, ¬ i = 5 → K' 0 i = K 0 i) (e5 : K' 0 5 = K 0 5 + 1) (eB : kBt (K' (30 + b)) (K (30 + b)) (gNx S b) 0 (K 0 6))
    (eq1 : K' (6 + 2 * s + 5 * k) 1 = (N : Int) - 1) (eq2 : K' (7 + 2 * s + 5 * k) = kDrop (K (7 + 2 * s + 5 * k)) N)
    (eQ : ∀ j t, j < 5 → t < 2 → ¬ (j = k ∧ t = s) → K' (6 + 2 * t + 5 * j) = K (6 + 2 * t + 5 * j) ∧ K' (7 + 2 * t + 5 * j) = K (7 + 2 * t + 5 * j)) : kRel K' (gGo S b) := by
  obtain ⟨h, hW, hI, hb, hn, hl, hu, hs2, hN, h0, hE⟩ := hG
  obtain ⟨e1, e2, eL, eL', eBo⟩ := hL
  have hB := hW.2.2.2.2.2.2 b hb
  have h150 := hW.1
  have h149 := hW.2.2.2.2.1
  have hk5 := (gLk_pos hB hn hl).1
  have hb16 : b < 16 := by omega
  have hsm := gGo_same hl hk5 hb16
  obtain ⟨a0, a1, a2, a3, a4, a5, a6, a7, a8⟩ := gGo_B hl hk5 hb16 hA hg
  have e150 : gGo S b 150 = S 150 := gGo_out hl (by omega) (by omega) (by omega)
  have hkb := h.2.2.2.2.2 b hb
  have hk6 := h.1.2.2.1
  have hsame : ∀ b' : Nat, (b' : Int) < S 150 → ¬ b' = b → kSame S (gGo S b) b' := fun b' hb' hq => ⟨hsm b' (by omega) hq 2 (by decide), hsm b' (by omega) hq 3 (by decide), hsm b' (by omega) hq 5 (by decide), hsm b' (by omega) hq 7 (by decide)⟩
  have harr : gArr (gGo S b) b := by unfold gArr; rw [a5]; omega
  refine kRel_blk h hW hb hk5 (fun i => gGo_out hl) (gGo_11 hl hk5 hb16) e0 ?_ e1 e2 eL eL' ?_ eBo (fun j t hj ht => ?_)
  · rw [e5, gArrN_one (S' := gGo S b) (S := S) (b := b) (gMany S) (by unfold gMany; omega) hn harr (fun b' hb' hq => hsm b' (by unfold gMany at hb'; omega) hq 5 (by decide))]
    omega
  · unfold kBoat at hkb ⊢
    unfold kBt at eB
    rw [a0, a1, a2, a3, a4, a5, a6]
    omega
  · have hq := kQs_of h.2.2.2.2.1 j t hj ht
    by_cases hjt : j = k ∧ t = s
    · obtain ⟨rfl, rfl⟩ := hjt
      rw [eq1, eq2]
      have := kQ_drop (b := b) hq hN h0 hE e150 hsame (fun z => z.1 harr)
      rw [hN] at this
      exact this
    · rw [(eQ j t hj ht hjt).1, (eQ j t hj ht hjt).2]
      refine kQ_away hq e150 hsame (fun z => hjt ?_) (fun z => z.1 harr)
      obtain ⟨z1, z2, z3⟩ := z
      constructor <;> omega
theorem kRel_goC (hG : kGg K S k s b N) (hA : ¬ S 155 < gF S b 0 - gF S b 4) (hg : ¬ gNx S b = gF S b 3) (hk2 : (k2 : Int) = if gUp S b then (k : Int) + 1 else (k : Int) - 1) (hL : kLb K' K k b) (e0 : K' 0 = K 0) (eB : kBt (K' (30 + b)) (K (30 + b)) (gNx S b) 0 (K (30 + b) 6))
    (eq1 : K' (6 + 2 * s + 5 * k) 1 = (N : Int) - 1) (eq2 : K' (7 + 2 * s + 5 * k) = kDrop (K (7 + 2 * s + 5 * k)) N)
    (hM : K (6 + 2 * s + 5 * k2) 1 = M) (ej1 : K' (6 + 2 * s + 5 * k2) 1 = (M : Int) + 1) (ej2 : K' (7 + 2 * s + 5 * k2) = cs_u1 (K (7 + 2 * s + 5 * k2)) M b)
    (eQ : ∀ j t, j < 5 → t < 2 → ¬ (j = k ∧ t = s) → ¬ (j = k2 ∧ t = s) → K' (6 + 2 * t + 5 * j) = K (6 + 2 * t + 5 * j) ∧ K' (7 + 2 * t + 5 * j) = K (7 + 2 * t + 5 * j)) : kRel K' (gGo S b) := by
  obtain ⟨h, hW, hI, hb, hn, hl, hu, hs2, hN, h0, hE⟩ := hG
  obtain ⟨e1, e2, eL, eL', eBo⟩ := hL
  have hB := hW.2.2.2.2.2.2 b hb
  have h150 := hW.1
  obtain ⟨hk5, hup, hdn⟩ := gLk_pos hB hn hl
  have hb16 : b < 16 := by omega
  have hsm := gGo_same hl hk5 hb16
  obtain ⟨a0, a1, a2, a3, a4, a5, a6, a7, a8⟩ := gGo_C hl hk5 hb16 hA hg
  have e150 : gGo S b 150 = S 150 := gGo_out hl (by omega) (by omega) (by omega)
  have hkb := h.2.2.2.2.2 b hb
  have hk6 := h.1.2.2.1
  have h5 : gF S b 5 = -5 := Decidable.not_not.mp hn
  have hsame : ∀ b' : Nat, (b' : Int) < S 150 → ¬ b' = b → kSame S (gGo S b) b' := fun b' hb' hq => ⟨hsm b' (by omega) hq 2 (by decide), hsm b' (by omega) hq 3 (by decide), hsm b' (by omega) hq 5 (by decide), hsm b' (by omega) hq 7 (by decide)⟩
  have hn' : ¬ gArr (gGo S b) b := by unfold gArr; rw [a5]; exact hn
  have hup' : gUp (gGo S b) b ↔ gUp S b := by
    show gF (gGo S b) b 2 < gF (gGo S b) b 3 ↔ gF S b 2 < gF S b 3
    rw [a2, a3]
    by_cases z : gUp S b
    · have := hup z; unfold gUp at z; omega
    · have := hdn z; unfold gUp at z; omega
  have hlk' : gLk (gGo S b) b = k2 := by
    unfold gLk
    by_cases z : gUp S b
    · rw [if_pos (hup'.mpr z), a2]
      rw [if_pos z] at hk2
      have := hup z; omega
    · rw [if_neg (fun y => z (hup'.mp y)), a2]
      rw [if_neg z] at hk2
      have := hdn z; omega
  have hk2n : ¬ k2 = k := by split at hk2 <;> omega
  have hu' : (if gUp (gGo S b) b then (1 : Int) else 0) = 1 - (s : Int) := by
    rw [hu]
    by_cases z : gUp S b
    · rw [if_pos z, if_pos (hup'.mpr z)]
    · rw [if_neg z, if_neg (fun y => z (hup'.mp y))]
  have hk25 : k2 < 5 := by
    have hgoal := hB.2.2.2.1
    by_cases z : gUp S b
    · rw [if_pos z] at hk2
      have := hup z
      unfold gUp at z
      omega
    · rw [if_neg z] at hk2
      omega
  refine kRel_blk h hW hb hk5 (fun i => gGo_out hl) (gGo_11 hl hk5 hb16) (fun i _ => by rw [e0]) ?_ e1 e2 eL eL' ?_ eBo (fun j t hj ht => ?_)
  · rw [e0, gArrN_same (S' := gGo S b) (S := S) (gMany S) (fun b' hb' => ?_)]
    · omega
    · by_cases hq : b' = b
      · subst hq; exact a5
      · exact hsm b' (by unfold gMany at hb'; omega) hq 5 (by decide)
  · unfold kBoat at hkb ⊢
    unfold kBt at eB
    rw [a0, a1, a2, a3, a4, a5, a6]
    omega
  · have hq := kQs_of h.2.2.2.2.1 j t hj ht
    by_cases hjt : j = k ∧ t = s
    · obtain ⟨rfl, rfl⟩ := hjt
      rw [eq1, eq2]
      have := kQ_drop (b := b) hq hN h0 hE e150 hsame (fun z => hk2n (by have := z.2.1; omega))
      rw [hN] at this
      exact this
    · have hnw : ¬ gWt S b j (1 - (t : Int)) := fun z => hjt (by obtain ⟨z1, z2, z3⟩ := z; constructor <;> omega)
      by_cases hjt2 : j = k2 ∧ t = s
      · obtain ⟨rfl, rfl⟩ := hjt2
        rw [ej1, ej2]
        have hroom := kQ_room hq hW hb hnw
        have := kQ_join (b := b) (S' := gGo S b) hq hM (by omega) (by omega) (by omega) (fun b' hb' hq' => ⟨by omega, hsame b' (by omega) hq'⟩) ⟨hn', hlk', hu'⟩ (fun z => hnw z.2) (fun b' hb' => by rw [a7]; exact (hI b' hb').2.2)
        rw [hM] at this
        exact this
      · rw [(eQ j t hj ht hjt hjt2).1, (eQ j t hj ht hjt hjt2).2]
        refine kQ_away hq e150 hsame hnw (fun z => hjt2 ?_)
        obtain ⟨z1, z2, z3⟩ := z
        constructor <;> omega
end
