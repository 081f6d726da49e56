/-! EACH ACT of an object: its answer and state are the row's alone -/
section
variable {S S' : Nat → Int} {b c k f n M j N x : Nat} {l u t t' V : Int} {sh : List (Nat × Nat × Nat)} {rm : Nat → Nat → Option Nat} {im : Nat → Nat → Int} {H : Nat → Int}
def aRes (S : Nat → Int) (N m : Nat) (args : List cs_A) : Prop :=
  ∃ (V : Int) (S' : Nat → Int), pI S' (N + 1) ∧ cs_in V ∧ (¬ 0 ≤ V → S' = S) ∧ ∀ (x : Nat) (sh : List (Nat × Nat × Nat)) (rm : Nat → Nat → Option Nat) (im : Nat → Nat → Int) (H : Nat → Int) (n : Nat), kO x sh rm im S H n → oStep x sh rm im m args V S' (if 0 ≤ V then gRecH H S n else H) (if 0 ≤ V then oN n else n)
theorem gEB_neg {p f t d : Int} (h : ¬ gEB S p f t d = 0) : ¬ 0 ≤ gEB S p f t d := by
  unfold gEB at h ⊢
  split <;> (try split) <;> (try split) <;> (first | decide | skip)
  all_goals (rename_i a b c; exact absurd (by rw [if_neg a, if_neg b, if_neg c]) h)
theorem gET_neg {k : Int} (h : ¬ gET S k = 0) : ¬ 0 ≤ gET S k := by
  unfold gET at h ⊢
  by_cases a : ¬ (0 ≤ k ∧ k ≤ 4)
  · rw [if_pos a]; decide
  · rw [if_neg a] at h ⊢
    by_cases b : gCan S k.toNat
    · rw [if_pos b] at h; exact absurd rfl h
    · rw [if_neg b]; decide
theorem gEP_neg {k : Int} (h : ¬ gEP S k = 0) : ¬ 0 ≤ gEP S k := by
  unfold gEP at h ⊢
  by_cases a : ¬ (1 ≤ k ∧ k ≤ 99)
  · rw [if_pos a]; decide
  · rw [if_neg a] at h ⊢
    by_cases b : 99999 < S 149 + k
    · rw [if_pos b]; decide
    · rw [if_neg b] at h; exact absurd rfl h
theorem gEB_in {p f t d : Int} : cs_in (gEB S p f t d) := by
  unfold gEB
  split
  · decide
  · split
    · decide
    · split <;> decide
theorem a_boat (h : pI S N) (hN : N ≤ 60) (p f t d : Int) (hp : cs_in p) (hf : cs_in f) (ht : cs_in t) (hd : cs_in d) : aRes S N iX7_boat [.inl p, .inl f, .inl t, .inl d] := by
  have hb := pI_bd h hN
  refine ⟨if gEB S p f t d = 0 then S 150 else gEB S p f t d, if gEB S p f t d = 0 then gCome S (gMany S) p f t d else S, ?_, ?_, ?_, fun x sh rm im H n hk => ?_⟩
  · by_cases z : gEB S p f t d = 0
    · rw [if_pos z]; exact pI_come h z
    · rw [if_neg z]; exact pI_mono h (by omega)
  · by_cases z : gEB S p f t d = 0
    · rw [if_pos z]; exact ⟨by omega, by omega⟩
    · rw [if_neg z]; exact gEB_in
  · intro q
    by_cases z : gEB S p f t d = 0
    · rw [if_pos z] at q; omega
    · rw [if_neg z]
  · refine o_boat hk h.1.1 h.2.1 p f t d hp hf ht hd rfl rfl ?_ ?_
    · by_cases z : gEB S p f t d = 0
      · rw [if_pos z]; exact (pI_come h z).1.1
      · rw [if_neg z]; exact h.1.1
    · by_cases z : gEB S p f t d = 0
      · rw [if_pos z]; exact ⟨by omega, by omega⟩
      · rw [if_neg z]; exact gEB_in
theorem a_load (h : pI S N) (hN : N ≤ 60) (b d : Int) (hb : cs_in b) (hd : cs_in d) : aRes S N iX7_load [.inl b, .inl d] := by
  have h150 := h.1.1.1
  obtain ⟨V, hV⟩ : ∃ V, V = if ¬ (0 ≤ b ∧ b ≤ S 150 - 1) then -1 else if ¬ (1 ≤ d ∧ d ≤ 60) then -2 else if gArr S b.toNat then -4 else if gF S b.toNat 1 = d then -5 else gF S b.toNat 1 := ⟨_, rfl⟩
  obtain ⟨S', hS'⟩ : ∃ S', S' = if (0 ≤ b ∧ b ≤ S 150 - 1) ∧ (1 ≤ d ∧ d ≤ 60) ∧ ¬ gArr S b.toNat ∧ ¬ gF S b.toNat 1 = d then cs_u1 S (21 + 8 * b.toNat + 1) d else S := ⟨_, rfl⟩
  have hiff : (0 ≤ V ↔ (0 ≤ b ∧ b ≤ S 150 - 1) ∧ (1 ≤ d ∧ d ≤ 60) ∧ ¬ gArr S b.toNat ∧ ¬ gF S b.toNat 1 = d) ∧ cs_in V := by
    by_cases z1 : 0 ≤ b ∧ b ≤ S 150 - 1
    · rw [if_neg (fun y => y z1)] at hV
      by_cases z2 : 1 ≤ d ∧ d ≤ 60
      · rw [if_neg (fun y => y z2)] at hV
        by_cases z3 : gArr S b.toNat
        · rw [if_pos z3] at hV
          exact ⟨⟨fun y => by omega, fun y => absurd z3 y.2.2.1⟩, by rw [hV]; decide⟩
        · rw [if_neg z3] at hV
          have hB := h.1.1.2.2.2.2.2.2 b.toNat (by omega)
          unfold gB at hB
          by_cases z4 : gF S b.toNat 1 = d
          · rw [if_pos z4] at hV
            exact ⟨⟨fun y => by omega, fun y => absurd z4 y.2.2.2⟩, by rw [hV]; decide⟩
          · rw [if_neg z4] at hV
            exact ⟨⟨fun y => ⟨z1, z2, z3, z4⟩, fun y => by omega⟩, by rw [hV]; exact ⟨by omega, by omega⟩⟩
      · rw [if_pos z2] at hV
        exact ⟨⟨fun y => by omega, fun y => absurd y.2.1 z2⟩, by rw [hV]; decide⟩
    · rw [if_pos z1] at hV
      exact ⟨⟨fun y => by omega, fun y => absurd y.1 z1⟩, by rw [hV]; decide⟩
  have hP : pI S' (N + 1) := by
    rw [hS']
    split
    · rename_i z; exact pI_load h (by omega) z.2.1
    · exact pI_mono h (by omega)
  exact ⟨V, S', hP, hiff.2, fun q => by rw [hS', if_neg (fun z => q (hiff.1.mpr z))], fun x sh rm im H n hk => o_load hk h.1.1 hP.1.1 hiff.2 (fun im1 h1 => t1_loadBoat (im := im1) (K := fun d => im1 (x + 1 + d)) hk.1.2.2.1 h1 h.1.1 h.2.1 b d hb hd hV hS')⟩
theorem a_setDepth (h : pI S N) (hN : N ≤ 60) (k v : Int) (hk_ : cs_in k) (hv : cs_in v) : aRes S N iX7_setDepth [.inl k, .inl v] := by
  obtain ⟨V, hV⟩ : ∃ V, V = if ¬ (0 ≤ k ∧ k ≤ 5) then -1 else if ¬ (0 ≤ v ∧ v ≤ 90) then -2 else if S k.toNat = v then -5 else S k.toNat := ⟨_, rfl⟩
  obtain ⟨S', hS'⟩ : ∃ S', S' = if (0 ≤ k ∧ k ≤ 5) ∧ (0 ≤ v ∧ v ≤ 90) ∧ ¬ S k.toNat = v then cs_u1 S k.toNat v else S := ⟨_, rfl⟩
  have hiff : (0 ≤ V ↔ (0 ≤ k ∧ k ≤ 5) ∧ (0 ≤ v ∧ v ≤ 90) ∧ ¬ S k.toNat = v) ∧ cs_in V := by
    by_cases z1 : 0 ≤ k ∧ k ≤ 5
    · rw [if_neg (fun y => y z1)] at hV
      by_cases z2 : 0 ≤ v ∧ v ≤ 90
      · rw [if_neg (fun y => y z2)] at hV
        have hd := h.1.1.2.1 k.toNat (by omega)
        by_cases z4 : S k.toNat = v
        · rw [if_pos z4] at hV
          exact ⟨⟨fun y => by omega, fun y => absurd z4 y.2.2⟩, by rw [hV]; decide⟩
        · rw [if_neg z4] at hV
          exact ⟨⟨fun y => ⟨z1, z2, z4⟩, fun y => by omega⟩, by rw [hV]; exact ⟨by omega, by omega⟩⟩
      · rw [if_pos z2] at hV
        exact ⟨⟨fun y => by omega, fun y => absurd y.2.1 z2⟩, by rw [hV]; decide⟩
    · rw [if_pos z1] at hV
      exact ⟨⟨fun y => by omega, fun y => absurd y.1 z1⟩, by rw [hV]; decide⟩
  have hP : pI S' (N + 1) := by
    rw [hS']
    split
    · rename_i z; exact pI_depth h (by omega) z.2.1
    · exact pI_mono h (by omega)
  exact ⟨V, S', hP, hiff.2, fun q => by rw [hS', if_neg (fun z => q (hiff.1.mpr z))], fun x sh rm im H n hk => o_setDepth hk h.1.1 hP.1.1 hiff.2 (fun im1 h1 => t1_changeDepth (im := im1) (K := fun d => im1 (x + 1 + d)) hk.1.2.2.1 h1 h.1.1 k v hk_ hv hV hS')⟩
theorem a_set (h : pI S N) (hN : N ≤ 60) (w v : Int) (hw : cs_in w) (hv : cs_in v) : aRes S N iX7_set [.inl w, .inl v] := by
  have w3 := h.1.1.2.2.2.1
  by_cases z1 : 0 ≤ w ∧ w ≤ 2
  · by_cases z2 : gSetOk w v
    · obtain ⟨W, rfl⟩ : ∃ W : Nat, w = W := ⟨w.toNat, by omega⟩
      have hin : 0 ≤ S (154 + W) ∧ S (154 + W) ≤ 20 := by
        rcases (show W = 0 ∨ W = 1 ∨ W = 2 by omega) with h | h | h <;> subst h
        · exact (⟨by omega, by omega⟩ : 0 ≤ S 154 ∧ S 154 ≤ 20)
        · exact (⟨by omega, by omega⟩ : 0 ≤ S 155 ∧ S 155 ≤ 20)
        · exact (⟨by omega, by omega⟩ : 0 ≤ S 156 ∧ S 156 ≤ 20)
      obtain ⟨V, hV⟩ : ∃ V, V = if S (154 + W) = v then -5 else S (154 + W) := ⟨_, rfl⟩
      obtain ⟨S', hS'⟩ : ∃ S', S' = if S (154 + W) = v then S else cs_u1 S (154 + W) v := ⟨_, rfl⟩
      have hiff : (0 ≤ V ↔ ¬ S (154 + W) = v) ∧ cs_in V := by
        by_cases z4 : S (154 + W) = v
        · rw [if_pos z4] at hV
          exact ⟨⟨fun y => by omega, fun y => absurd z4 y⟩, by rw [hV]; decide⟩
        · rw [if_neg z4] at hV
          exact ⟨⟨fun _ => z4, fun y => by omega⟩, by rw [hV]; exact ⟨by omega, by omega⟩⟩
      have hP : pI S' (N + 1) := by
        rw [hS']
        split
        · exact pI_mono h (by omega)
        · exact pI_set h (by omega) z2
      exact ⟨V, S', hP, hiff.2, fun q => by rw [hS', if_pos (Decidable.not_not.mp (fun z => q (hiff.1.mpr z)))], fun x sh rm im H n hk => o_set hk h.1.1 hP.1.1 hiff.2 (fun im1 h1 => t1_changeSetting (im := im1) (K := fun d => im1 (x + 1 + d)) hk.1.2.2.1 h1 h.1.1 (W : Int) v hw hv (fun q => absurd z1 q) (fun _ q => absurd z2 q) (fun _ _ => by rw [Int.toNat_natCast]; exact ⟨hV, hS'⟩))⟩
    · exact ⟨-2, S, pI_mono h (by omega), by decide, fun _ => rfl, fun x sh rm im H n hk => o_set hk h.1.1 h.1.1 (by decide) (fun im1 h1 => t1_changeSetting (im := im1) (K := fun d => im1 (x + 1 + d)) hk.1.2.2.1 h1 h.1.1 w v hw hv (fun q => absurd z1 q) (fun _ _ => ⟨rfl, rfl⟩) (fun _ q => absurd q z2))⟩
  · exact ⟨-1, S, pI_mono h (by omega), by decide, fun _ => rfl, fun x sh rm im H n hk => o_set hk h.1.1 h.1.1 (by decide) (fun im1 h1 => t1_changeSetting (im := im1) (K := fun d => im1 (x + 1 + d)) hk.1.2.2.1 h1 h.1.1 w v hw hv (fun _ => ⟨rfl, rfl⟩) (fun q _ => absurd q z1) (fun q _ => absurd q z1))⟩
/-- a lock turned by hand, where it can be -/
theorem a_turn1 (h : pI S N) (hk : k < 5) (hc : gCan S k) (hko : kO x sh rm im S H n) : oStep x sh rm im iX7_turnLock [.inl (k : Int)] (if 0 < S (6 + k) then 0 else 1) (gTurn S k) (gRecH H S n) (oN n) := by
  have hs := h.1.1.2.2.2.1
  have e : gET S (k : Int) = 0 := by unfold gET; rw [if_neg (by omega), Int.toNat_natCast, if_pos hc]
  have v0 : (0 : Int) ≤ (if 0 < S (6 + k) then 0 else 1) := by split <;> decide
  have r := o_turnLock (V := if 0 < S (6 + k) then 0 else 1) (S' := gTurn S k) hko h.1.1 (gW_turn h.1.1 hk hc) (by split <;> decide) (a0 := (k : Int)) (fun im1 h1 => by
    have q := t1_turnByHand (rm := rm) (sh := sh) (im := im1) (K := fun d => im1 (x + 1 + d)) hko.1.2.2.1 h1 h.1.1 (k : Int) ⟨by omega, by omega⟩
    rw [if_pos e, if_pos e, Int.toNat_natCast, gTurn_6k hk] at q
    have ev : (if 0 < (if 0 < S (6 + k) then 0 else S 154) then (1 : Int) else 0) = if 0 < S (6 + k) then 0 else 1 := by
      by_cases z : 0 < S (6 + k)
      · rw [if_pos z, if_pos z, if_neg (by omega)]
      · rw [if_neg z, if_neg z, if_pos (by omega)]
    rw [ev] at q
    exact q)
  rw [if_pos v0, if_pos v0] at r
  exact r
theorem a_turn0 (h : pI S N) {k : Int} (hk : cs_in k) (hc : ¬ gET S k = 0) (hko : kO x sh rm im S H n) : oStep x sh rm im iX7_turnLock [.inl k] (gET S k) S H n := by
  have r := o_turnLock (V := gET S k) (S' := S) hko h.1.1 h.1.1 (gET_in S k) (a0 := k) (fun im1 h1 => by
    have q := t1_turnByHand (rm := rm) (sh := sh) (im := im1) (K := fun d => im1 (x + 1 + d)) hko.1.2.2.1 h1 h.1.1 k hk
    rw [if_neg hc, if_neg hc] at q
    exact q)
  rw [if_neg (gET_neg hc), if_neg (gET_neg hc)] at r
  exact r
theorem a_turnLock (h : pI S N) (hN : N ≤ 60) (k : Int) (hk : cs_in k) : aRes S N iX7_turnLock [.inl k] := by
  by_cases z : gET S k = 0
  · obtain ⟨z1, z2⟩ := gET_0 z
    obtain ⟨K, rfl⟩ : ∃ K : Nat, k = K := ⟨k.toNat, by omega⟩
    rw [Int.toNat_natCast] at z2
    have v0 : (0 : Int) ≤ (if 0 < S (6 + K) then 0 else 1) := by split <;> decide
    refine ⟨if 0 < S (6 + K) then 0 else 1, gTurn S K, pI_turn h (by omega) z2, by split <;> decide, fun q => absurd v0 q, fun x sh rm im H n hko => ?_⟩
    rw [if_pos v0, if_pos v0]
    exact a_turn1 h (by omega) z2 hko
  · refine ⟨gET S k, S, pI_mono h (by omega), gET_in S k, fun _ => rfl, fun x sh rm im H n hko => ?_⟩
    rw [if_neg (gET_neg z), if_neg (gET_neg z)]
    exact a_turn0 h hk z hko
/-- ticks that pass -/
theorem a_pass1 (h : pI S N) (hN : N ≤ 60) {t : Nat} (ht : 1 ≤ t ∧ t ≤ 90) (hko : kO x sh rm im S H n) : oStep x sh rm im iX7_pass [.inl (t : Int)] (gIf S t 0) (gTicks S t) (gRecH H S n) (oN n) := by
  have hb := pI_bd h hN
  have e : gEP S (t : Int) = 0 := by unfold gEP; rw [if_neg (by omega), if_neg (by omega)]
  have hV : gIf S t 0 = gArrN (gTicks S t) (gMany S) - gArrN S (gMany S) := rfl
  have m := gTicks_mono h.1.1 t (by omega) (by omega)
  have hi : gMany S ≤ 16 := by unfold gMany; omega
  have i1 := gArrN_in (S := gTicks S t) (gMany S)
  have i2 := gArrN_in (S := S) (gMany S)
  have v0 : 0 ≤ gIf S t 0 := by omega
  have r := o_pass (V := gIf S t 0) (S' := gTicks S t) hko h.1.1 (pI_ticks h hN ht.2).1.1 ⟨by omega, by omega⟩ (a0 := (t : Int)) (fun im1 h1 => by
    have q := t1_letPass (rm := rm) (sh := sh) (im := im1) (K := fun d => im1 (x + 1 + d)) hko.1.2.2.1 h1 h.1.1 h.2.1 (by omega) (by omega) (t : Int) ⟨by omega, by omega⟩
    rw [if_pos e, if_pos e, Int.toNat_natCast] at q
    exact q)
  rw [if_pos v0, if_pos v0] at r
  exact r
theorem a_pass (h : pI S N) (hN : N ≤ 60) (t : Int) (ht : t ≤ 90) (hti : cs_in t) : aRes S N iX7_pass [.inl t] := by
  have hb := pI_bd h hN
  by_cases z : gEP S t = 0
  · obtain ⟨z1, z2⟩ := gEP_0 z
    obtain ⟨T, rfl⟩ : ∃ T : Nat, t = T := ⟨t.toNat, by omega⟩
    have m := gTicks_mono h.1.1 T (by omega) (by omega)
    have hi : gMany S ≤ 16 := by unfold gMany; omega
    have i1 := gArrN_in (S := gTicks S T) (gMany S)
    have i2 := gArrN_in (S := S) (gMany S)
    have hV : gIf S T 0 = gArrN (gTicks S T) (gMany S) - gArrN S (gMany S) := rfl
    have v0 : 0 ≤ gIf S T 0 := by omega
    refine ⟨gIf S T 0, gTicks S T, pI_ticks h hN (by omega), ⟨by omega, by omega⟩, fun q => absurd v0 q, fun x sh rm im H n hko => ?_⟩
    rw [if_pos v0, if_pos v0]
    exact a_pass1 h hN (by omega) hko
  · refine ⟨gEP S t, S, pI_mono h (by omega), gEP_in S t, fun _ => rfl, fun x sh rm im H n hko => ?_⟩
    exact o_pass hko h.1.1 h.1.1 (gEP_in S t) (a0 := t) (fun im1 h1 => by
      have q := t1_letPass (rm := rm) (sh := sh) (im := im1) (K := fun d => im1 (x + 1 + d)) hko.1.2.2.1 h1 h.1.1 h.2.1 (by omega) (by omega) t hti
      rw [if_neg z, if_neg z] at q
      exact q)
/-- an act undone -/
theorem a_undo (h : pI S N) (hko : kO x sh rm im S' (gRecH H S n) (oN n)) (hn : n ≤ 4) : oStep x sh rm im iX7_undo [] ((oN n : Int) - 1) S (gRecH H S n) (oN n - 1) := by
  have h0 : 0 < oN n := by unfold oN; split <;> omega
  obtain ⟨im', rm', d, k, f⟩ := o_undo hko h0
  have hl := o_last (S := S) (H := H) hn
  have hl' : gEq S (gRow (gRecH H S n) (oN n - 1)) := fun i hi => (hl i hi).symm
  exact ⟨im', rm', d, kO_eq k (gW_eq h.1.1 hl) hl', f⟩
end
