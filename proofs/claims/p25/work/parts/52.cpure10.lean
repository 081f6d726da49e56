/-! THE CLASS: copies, a boat that comes, a boat that is loaded; pure -/
section
variable {S S' E E' : Nat → Int} {K K' F : Nat → Nat → Int} {k s b N M : Nat} {l u n : Int}
def kCp (K' F : Nat → Nat → Int) : Prop :=
  (∀ i, 4 ≤ i → i ≤ 10 → K' 0 i = F 0 i) ∧ (∀ k, k < 6 → K' 1 k = F 1 k) ∧ (∀ k, k < 3 → K' 2 k = F 2 k) ∧ (∀ k, k < 5 → K' (5 + 5 * k) 2 = F (5 + 5 * k) 2 ∧ K' (5 + 5 * k) 3 = F (5 + 5 * k) 3 ∧ K' (5 + 5 * k) 4 = F (5 + 5 * k) 4) ∧
  (∀ k s, k < 5 → s < 2 → K' (6 + 2 * s + 5 * k) 1 = F (6 + 2 * s + 5 * k) 1 ∧ ∀ i, i < 16 → K' (7 + 2 * s + 5 * k) i = F (7 + 2 * s + 5 * k) i) ∧ ∀ i : Nat, (i : Int) < F 0 4 → ∀ w, w < 7 → K' (30 + i) w = F (30 + i) w
theorem kQ_cong (h : kQ n E S l u) (hE : ∀ i, i < 16 → E' i = E i) : kQ n E' S l u := by
  obtain ⟨N, h1, h2, h3, h4, h5⟩ := h
  refine ⟨N, h1, h2, fun i hi => ?_, fun i j hij hj => ?_, fun b hb hw => ?_⟩
  · rw [hE i (by omega)]; exact h3 i hi
  · rw [hE i (by omega), hE j (by omega)]; exact h4 i j hij hj
  · obtain ⟨i, hi, e⟩ := h5 b hb hw
    exact ⟨i, hi, by rw [hE i (by omega)]; exact e⟩
theorem kRel_cp (h : kRel F S) (hc : kCp K' F) : kRel K' S := by
  obtain ⟨⟨c4, c5, c6, c7, c8, cw⟩, hd, hs, hl, hq, hb⟩ := h
  obtain ⟨p0, p1, p2, p3, p4, p5⟩ := hc
  refine ⟨⟨?_, ?_, ?_, ?_, ?_, ?_⟩, fun j hj => ?_, fun j hj => ?_, fun j hj => ?_, kQs_to (fun j t hj ht => ?_), fun i hi => ?_⟩
  · rw [p0 4 (by decide) (by decide)]; exact c4
  · rw [p0 5 (by decide) (by decide)]; exact c5
  · rw [p0 6 (by decide) (by decide)]; exact c6
  · rw [p0 7 (by decide) (by decide)]; exact c7
  · rw [p0 8 (by decide) (by decide)]; exact c8
  · rw [p0 8 (by decide) (by decide), p0 9 (by decide) (by decide), p0 7 (by decide) (by decide), p0 10 (by decide) (by decide)]; exact cw
  · rw [p1 j hj]; exact hd j hj
  · rw [p2 j hj]; exact hs j hj
  · rw [(p3 j hj).1, (p3 j hj).2.1, (p3 j hj).2.2]; exact hl j hj
  · rw [(p4 j t hj ht).1]
    exact kQ_cong (kQs_of hq j t hj ht) (p4 j t hj ht).2
  · have := hb i hi
    have p := p5 i (by omega)
    unfold kBoat at this ⊢
    rw [p 0 (by decide), p 1 (by decide), p 2 (by decide), p 3 (by decide), p 4 (by decide), p 5 (by decide), p 6 (by decide)]
    exact this
theorem kQ_new (h : kQ n E S l u) (h150 : S 150 = b) (h150' : S' 150 = b + 1) (hs : ∀ b' : Nat, (b' : Int) < S 150 → kSame S S' b') (hw' : ¬ gWt S' b l u) : kQ n E S' l u := by
  obtain ⟨N, h1, h2, h3, h4, h5⟩ := h
  refine ⟨N, h1, h2, fun i hi => ?_, fun i j hij hj => ?_, fun b' hb' hw'' => ?_⟩
  · obtain ⟨b', e1, e2, e3⟩ := h3 i hi
    exact ⟨b', e1, by omega, (kSame_wt (hs b' e2)).mpr e3⟩
  · obtain ⟨b', e1, e2, e3⟩ := h3 i (by omega)
    obtain ⟨b'', f1, f2, f3⟩ := h3 j hj
    have := h4 i j hij hj
    rw [e1, f1, Int.toNat_natCast, Int.toNat_natCast] at this ⊢
    rw [(hs b' e2).2.2.2, (hs b'' f2).2.2.2]
    exact this
  · by_cases hq : b' = b
    · subst hq; exact absurd hw'' hw'
    · exact h5 b' (by omega) ((kSame_wt (hs b' (by omega))).mp hw'')
theorem gCome_b {p f t d : Int} (hb : b < 16) : gF (gCome S b p f t d) b 0 = p ∧ gF (gCome S b p f t d) b 1 = d ∧ gF (gCome S b p f t d) b 2 = f ∧ gF (gCome S b p f t d) b 3 = t ∧ gF (gCome S b p f t d) b 4 = 0 ∧ gF (gCome S b p f t d) b 5 = -5 ∧ gF (gCome S b p f t d) b 6 = 0 ∧ gF (gCome S b p f t d) b 7 = S 151 := by
  unfold gCome gJoin gF
  refine ⟨?_, ?_, ?_, ?_, ?_, ?_, ?_, ?_⟩ <;> simp (disch := omega) only [cs_u1_ne, cs_u1_at]
theorem kRel_come {p f t d : Int} (h : kRel K S) (hW : gW S) (hI : kI S) (hb : S 150 = b) (hb16 : b < 16) (hf : 0 ≤ f ∧ f ≤ 5) (ht : 0 ≤ t ∧ t ≤ 5) (hft : ¬ f = t) (hp1 : 1 ≤ p) (hs : s = if f < t then 0 else 1) (hk : (k : Int) = if f < t then f else f - 1)
    (e0 : ∀ i, ¬ i = 4 → K' 0 i = K 0 i) (e4 : K' 0 4 = K 0 4 + 1) (e1 : K' 1 = K 1) (e2 : K' 2 = K 2) (eL : ∀ j, j < 5 → K' (5 + 5 * j) = K (5 + 5 * j))
    (eB : K' (30 + b) 0 = p ∧ K' (30 + b) 1 = d ∧ K' (30 + b) 2 = f ∧ K' (30 + b) 3 = t ∧ K' (30 + b) 4 = 0 ∧ K' (30 + b) 5 = 0 ∧ K' (30 + b) 6 = -5) (eBo : ∀ i, i < 16 → ¬ i = b → K' (30 + i) = K (30 + i))
    (hM : K (6 + 2 * s + 5 * k) 1 = M) (ej1 : K' (6 + 2 * s + 5 * k) 1 = (M : Int) + 1) (ej2 : K' (7 + 2 * s + 5 * k) = cs_u1 (K (7 + 2 * s + 5 * k)) M b)
    (eQ : ∀ j t, j < 5 → t < 2 → ¬ (j = k ∧ t = s) → K' (6 + 2 * t + 5 * j) = K (6 + 2 * t + 5 * j) ∧ K' (7 + 2 * t + 5 * j) = K (7 + 2 * t + 5 * j)) : kRel K' (gCome S b p f t d) ∧ kI (gCome S b p f t d) := by
  obtain ⟨⟨c4, c5, c6, c7, c8, cw⟩, hd, hst, hl, hq, hbt⟩ := h
  obtain ⟨a0, a1, a2, a3, a4, a5, a6, a7⟩ := gCome_b (S := S) (b := b) (p := p) (f := f) (t := t) (d := d) hb16
  have hO : ∀ i, (i < 21 + 8 * b ∨ 29 + 8 * b ≤ i) → ¬ i = 150 → ¬ i = 151 → gCome S b p f t d i = S i := fun i h1 h2 h3 => gCome_out hb16 h1 h2 h3
  have s150 : gCome S b p f t d 150 = S 150 + 1 := gCome_150 hb16
  have s151 : gCome S b p f t d 151 = S 151 + 1 := gCome_151 hb16
  have hF : ∀ b' w, b' < b → w < 8 → gF (gCome S b p f t d) b' w = gF S b' w := fun b' w h1 h2 => hO _ (by omega) (by omega) (by omega)
  have hsame : ∀ b' : Nat, (b' : Int) < S 150 → kSame S (gCome S b p f t d) b' := fun b' hb' => ⟨hF b' 2 (by omega) (by decide), hF b' 3 (by omega) (by decide), hF b' 5 (by omega) (by decide), hF b' 7 (by omega) (by decide)⟩
  have hup : gUp (gCome S b p f t d) b ↔ f < t := by unfold gUp; rw [a2, a3]
  have hlk : gLk (gCome S b p f t d) b = k := by
    unfold gLk
    by_cases z : f < t
    · rw [if_pos (hup.mpr z), a2, hk, if_pos z]
    · rw [if_neg (fun y => z (hup.mp y)), a2, hk, if_neg z]
  have hu : (if gUp (gCome S b p f t d) b then (1 : Int) else 0) = 1 - (s : Int) := by
    by_cases z : f < t
    · rw [if_pos (hup.mpr z), hs, if_pos z]; rfl
    · rw [if_neg (fun y => z (hup.mp y)), hs, if_neg z]; rfl
  have hn : ¬ gArr (gCome S b p f t d) b := by unfold gArr; rw [a5]; exact fun z => z rfl
  have hM' : gMany (gCome S b p f t d) = gMany S + 1 := by unfold gMany; rw [s150]; omega
  have hMb : gMany S = b := by unfold gMany; omega
  refine ⟨⟨⟨?_, ?_, ?_, ?_, ?_, ?_⟩, fun j hj => ?_, fun j hj => ?_, fun j hj => ?_, kQs_to (fun j r hj hr => ?_), fun i hi => ?_⟩, fun i hi => ?_⟩
  · rw [e4, s150, c4]
  · rw [e0 5 (by decide), hM', hMb]
    unfold gArrN
    rw [if_neg hn, gArrN_same (S := S) b (fun b' hb' => hF b' 5 hb' (by decide))]
    rw [hMb] at c5
    omega
  · rw [e0 6 (by decide), hO 149 (by omega) (by omega) (by omega)]; exact c6
  · rw [e0 7 (by decide), hO 152 (by omega) (by omega) (by omega)]; exact c7
  · rw [e0 8 (by decide), hO 153 (by omega) (by omega) (by omega)]; exact c8
  · rw [e0 8 (by decide), e0 9 (by decide), e0 7 (by decide), e0 10 (by decide), gWat_same 11 (fun i hi => hO i (by omega) (by omega) (by omega))]; exact cw
  · rw [e1, hO j (by omega) (by omega) (by omega)]; exact hd j hj
  · rw [e2, hO (154 + j) (by omega) (by omega) (by omega)]; exact hst j hj
  · rw [eL j hj, hO (6 + j) (by omega) (by omega) (by omega), hO (11 + j) (by omega) (by omega) (by omega), hO (16 + j) (by omega) (by omega) (by omega)]; exact hl j hj
  · have hqq := kQs_of hq j r hj hr
    by_cases hjr : j = k ∧ r = s
    · obtain ⟨rfl, rfl⟩ := hjr
      have hlen := kQ_que hqq (by omega)
      have hrg := gQue_range S j (1 - (r : Int)) (gMany S)
      rw [ej1, ej2]
      have := kQ_join (b := b) (S' := gCome S b p f t d) hqq hM (by omega) (by omega) (by omega) (fun b' hb' hq' => ⟨by omega, hsame b' (by omega)⟩) ⟨hn, hlk, hu⟩ (fun z => by have := z.1; omega) (fun b' hb' => by rw [a7]; exact (hI b' hb').2.2)
      rw [hM] at this
      exact this
    · rw [(eQ j r hj hr hjr).1, (eQ j r hj hr hjr).2]
      refine kQ_new hqq hb (by omega) hsame (fun z => hjr ?_)
      obtain ⟨z1, z2, z3⟩ := z
      constructor <;> omega
  · by_cases hib : i = b
    · subst hib
      unfold kBoat
      rw [a0, a1, a2, a3, a4, a5, a6]
      exact ⟨eB.1, eB.2.1, eB.2.2.1, eB.2.2.2.1, eB.2.2.2.2.1, eB.2.2.2.2.2.1, eB.2.2.2.2.2.2⟩
    · have := hbt i (by omega)
      unfold kBoat at this ⊢
      rw [eBo i (by omega) hib, hF i 0 (by omega) (by decide), hF i 1 (by omega) (by decide), hF i 2 (by omega) (by decide), hF i 3 (by omega) (by decide), hF i 4 (by omega) (by decide), hF i 5 (by omega) (by decide), hF i 6 (by omega) (by decide)]
      exact this
  · rw [s150] at hi
    rw [s151]
    unfold gArr
    by_cases hib : i = b
    · subst hib
      rw [a0, a2, a3, a4, a5, a7]
      exact ⟨fun z => absurd rfl z, by omega, by omega⟩
    · rw [hF i 0 (by omega) (by decide), hF i 2 (by omega) (by decide), hF i 3 (by omega) (by decide), hF i 4 (by omega) (by decide), hF i 5 (by omega) (by decide), hF i 7 (by omega) (by decide)]
      have := hI i (by omega)
      exact ⟨this.1, this.2.1, by omega⟩
theorem kRel_load {d : Int} (h : kRel K S) (hW : gW S) (hb : (b : Int) < S 150) : kRel (cs_us K (30 + b) (cs_u1 (K (30 + b)) 1 d)) (cs_u1 S (21 + 8 * b + 1) d) := by
  obtain ⟨⟨c4, c5, c6, c7, c8, cw⟩, hd, hs, hl, hq, hbt⟩ := h
  have h150 := hW.1
  have hO : ∀ i, ¬ i = 21 + 8 * b + 1 → cs_u1 S (21 + 8 * b + 1) d i = S i := fun i hi => cs_u1_ne hi
  have hF : ∀ b' w, b' < 16 → w < 8 → ¬ (b' = b ∧ w = 1) → gF (cs_u1 S (21 + 8 * b + 1) d) b' w = gF S b' w := fun b' w h1 h2 h3 => hO _ (by omega)
  have s150 : cs_u1 S (21 + 8 * b + 1) d 150 = S 150 := hO 150 (by omega)
  have hsame : ∀ b' : Nat, (b' : Int) < S 150 → kSame S (cs_u1 S (21 + 8 * b + 1) d) b' := fun b' hb' => ⟨hF b' 2 (by omega) (by decide) (by omega), hF b' 3 (by omega) (by decide) (by omega), hF b' 5 (by omega) (by decide) (by omega), hF b' 7 (by omega) (by decide) (by omega)⟩
  have kO : ∀ d', ¬ d' = 30 + b → cs_us K (30 + b) (cs_u1 (K (30 + b)) 1 d) d' = K d' := fun d' h => cs_us_ne h
  refine ⟨⟨?_, ?_, ?_, ?_, ?_, ?_⟩, fun j hj => ?_, fun j hj => ?_, fun j hj => ?_, fun j hj => ?_, fun i hi => ?_⟩
  · rw [kO 0 (by omega), s150]; exact c4
  · unfold gMany
    rw [kO 0 (by omega), s150, gArrN_same (S := S) _ (fun b' hb' => hF b' 5 (by omega) (by decide) (by omega))]; exact c5
  · rw [kO 0 (by omega), hO 149 (by omega)]; exact c6
  · rw [kO 0 (by omega), hO 152 (by omega)]; exact c7
  · rw [kO 0 (by omega), hO 153 (by omega)]; exact c8
  · rw [kO 0 (by omega), gWat_same 11 (fun i hi => hO i (by omega))]; exact cw
  · rw [kO 1 (by omega), hO j (by omega)]; exact hd j hj
  · rw [kO 2 (by omega), hO (154 + j) (by omega)]; exact hs j hj
  · rw [kO (5 + 5 * j) (by omega), hO (6 + j) (by omega), hO (11 + j) (by omega), hO (16 + j) (by omega)]; exact hl j hj
  · rw [kO (6 + 5 * j) (by omega), kO (7 + 5 * j) (by omega), kO (8 + 5 * j) (by omega), kO (9 + 5 * j) (by omega)]
    exact ⟨kQ_same (hq j hj).1 s150 hsame, kQ_same (hq j hj).2 s150 hsame⟩
  · have := hbt i (by omega)
    unfold kBoat at this ⊢
    by_cases hib : i = b
    · subst hib
      have e1 : gF (cs_u1 S (21 + 8 * i + 1) d) i 1 = d := cs_u1_at
      rw [cs_us_at, e1, hF i 0 (by omega) (by decide) (by omega), hF i 2 (by omega) (by decide) (by omega), hF i 3 (by omega) (by decide) (by omega), hF i 4 (by omega) (by decide) (by omega), hF i 5 (by omega) (by decide) (by omega), hF i 6 (by omega) (by decide) (by omega), cs_u1_at, cs_u1_ne (by decide), cs_u1_ne (by decide), cs_u1_ne (by decide), cs_u1_ne (by decide), cs_u1_ne (by decide), cs_u1_ne (by decide)]
      exact ⟨this.1, rfl, this.2.2⟩
    · rw [kO (30 + i) (by omega), hF i 0 (by omega) (by decide) (by omega), hF i 1 (by omega) (by decide) (by omega), hF i 2 (by omega) (by decide) (by omega), hF i 3 (by omega) (by decide) (by omega), hF i 4 (by omega) (by decide) (by omega), hF i 5 (by omega) (by decide) (by omega), hF i 6 (by omega) (by decide) (by omega)]
      exact this
theorem kI_load {d : Int} (h : kI S) (hW : gW S) (hb : (b : Int) < S 150) : kI (cs_u1 S (21 + 8 * b + 1) d) := by
  have h150 := hW.1
  have hO : ∀ i, ¬ i = 21 + 8 * b + 1 → cs_u1 S (21 + 8 * b + 1) d i = S i := fun i hi => cs_u1_ne hi
  have hF : ∀ b' w, b' < 16 → w < 8 → ¬ w = 1 → gF (cs_u1 S (21 + 8 * b + 1) d) b' w = gF S b' w := fun b' w h1 h2 h3 => hO _ (by omega)
  intro i hi
  rw [hO 150 (by omega)] at hi
  unfold gArr
  rw [hF i 0 (by omega) (by decide) (by decide), hF i 2 (by omega) (by decide) (by decide), hF i 3 (by omega) (by decide) (by decide), hF i 4 (by omega) (by decide) (by decide), hF i 5 (by omega) (by decide) (by decide), hF i 7 (by omega) (by decide) (by decide), hO 151 (by omega)]
  exact h i hi
end
