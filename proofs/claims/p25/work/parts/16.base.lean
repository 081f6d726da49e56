/-! LEVEL 2: how a method's contract is begun, and what follows a call -/
theorem cs_goI {sc : Nat × (Nat → Int)} {P : List cs_A → cs_H → Prop} {mj : Nat} {args t : List cs_A} {h h' : cs_H} {v : Int} (hD : cs_Det mj args h (some (.inl v)) h') (k : P (.inl v :: t) h') : cs_cont sc P mj args t h := ⟨_, _, hD.S, k⟩
theorem cs_goR {sc : Nat × (Nat → Int)} {P : List cs_A → cs_H → Prop} {mj : Nat} {args t : List cs_A} {h h' : cs_H} {v : Nat} (hD : cs_Det mj args h (some (cs_R v)) h') (k : P (cs_R v :: t) h') : cs_cont sc P mj args t h := ⟨_, _, hD.S, k⟩
theorem cs_goV {sc : Nat × (Nat → Int)} {P : List cs_A → cs_H → Prop} {mj : Nat} {args t : List cs_A} {h h' : cs_H} (hD : cs_Det mj args h none h') (k : P t h') : cs_cont sc P mj args t h := ⟨_, _, hD.S, k⟩
def cs_nn : List cs_A → Bool := fun l => l.all (fun a => match a with | .inr (.inl none) => false | _ => true)
theorem cs_nn_spec {l : List cs_A} (h : cs_nn l = true) : ∀ a ∈ l, a ≠ cs_N := by
  intro a ha hn
  subst hn
  exact absurd (List.all_eq_true.mp h _ ha) (by decide)
def cs_pad : Nat → List cs_A → List cs_A
  | 0, _ => []
  | n + 1, [] => cs_N :: cs_pad n []
  | n + 1, a :: l => a :: cs_pad n l
theorem cs_pad0 {l : List cs_A} : cs_pad 0 l = [] := by cases l <;> rfl
theorem cs_pad1 {n : Nat} : cs_pad (n + 1) [] = cs_N :: cs_pad n [] := rfl
theorem cs_pad2 {n : Nat} {a : cs_A} {l : List cs_A} : cs_pad (n + 1) (a :: l) = a :: cs_pad n l := rfl
theorem cs_pad_eq : ∀ (n : Nat) (l : List cs_A), l.length ≤ n → cs_pad n l = l ++ List.replicate (n - l.length) cs_N
  | 0, [], _ => rfl
  | 0, _ :: _, h => absurd h (by simp)
  | n + 1, [], _ => by
    have := cs_pad_eq n [] (by simp)
    simp only [cs_pad1, this, List.nil_append, List.length_nil, Nat.sub_zero, List.replicate_succ]
  | n + 1, a :: l, h => by
    have := cs_pad_eq n l (by simpa using h)
    simp only [cs_pad2, this, List.cons_append, List.length_cons, Nat.add_sub_add_right]
/-- a method that makes nothing -/
theorem cs_run0 {mi ml : Nat} {args : List cs_A} {sh : List (Nat × Nat × Nat)} {im im' : Nat → Nat → Int} {rm rm' : Nat → Nat → Option Nat} {v : Option cs_A} {B : cs_BL}
    (hm : mi < cs_ms.length - 1 ∧ cs_ml mi = ml ∧ cs_mc mi = 0 ∧ cs_sl mi = 0) (hB : cs_chkB mi B = true) (h0 : 0 < B.length ∧ cs_pcb B 0 = 0) (hnn : cs_nn args = true) (hle : Nat.ble args.length ml = true) (n : Nat)
    (hw : ∀ sc o, cs_J sc mi o (fun v' h'' => v' = v ∧ h'' = (sh, im', rm')) B n 0 (cs_pad ml args) [] (sh, im, rm)) : cs_Det mi args (sh, im, rm) v (sh, im', rm') := by
  have hle' := Nat.le_of_ble_eq_true hle
  refine cs_Det_of hm.1 (cs_nn_spec hnn) (by rw [hm.2.1]; exact hle') ⟨by rw [hm.2.2.1]; rfl, by rw [hm.2.2.2]; rfl⟩ (fun sc => ?_)
  rw [hm.2.1, ← cs_pad_eq ml args hle', ← h0.2]
  exact cs_soundJ hB n 0 h0.1 _ [] _ (hw sc _)
/-! rows of the int memory -/
def cs_us (f : Nat → Nat → Int) (a : Nat) (g : Nat → Int) : Nat → Nat → Int := fun q => if q = a then g else f q
def cs_u1 (g : Nat → Int) (k : Nat) (v : Int) : Nat → Int := fun j => if j = k then v else g j
theorem cs_u2_us {f : Nat → Nat → Int} {a k : Nat} {v : Int} : cs_u2 f a k v = cs_us f a (cs_u1 (f a) k v) := by
  funext q j
  by_cases hq : q = a
  · subst hq
    by_cases hj : j = k <;> simp [cs_u2, cs_us, cs_u1, hj]
  · simp [cs_u2, cs_us, hq]
theorem cs_us_us {f : Nat → Nat → Int} {a : Nat} {g g' : Nat → Int} : cs_us (cs_us f a g) a g' = cs_us f a g' := by
  funext q
  by_cases hq : q = a <;> simp [cs_us, hq]
theorem cs_us_at {f : Nat → Nat → Int} {a : Nat} {g : Nat → Int} : cs_us f a g a = g := by simp [cs_us]
theorem cs_us_ne {f : Nat → Nat → Int} {a b : Nat} {g : Nat → Int} (h : b ≠ a) : cs_us f a g b = f b := by simp [cs_us, h]
theorem cs_us_self {f : Nat → Nat → Int} {a : Nat} : cs_us f a (f a) = f := by
  funext q
  by_cases hq : q = a
  · subst hq; simp [cs_us]
  · simp [cs_us, hq]
theorem cs_us_comm {f : Nat → Nat → Int} {a b : Nat} {g g' : Nat → Int} (h : a ≠ b) : cs_us (cs_us f a g) b g' = cs_us (cs_us f b g') a g := by
  funext q
  by_cases h1 : q = a
  · subst h1; simp [cs_us, h]
  · by_cases h2 : q = b
    · subst h2; simp [cs_us, h1]
    · simp [cs_us, h1, h2]
theorem cs_u1_at {g : Nat → Int} {k : Nat} {v : Int} : cs_u1 g k v k = v := by simp [cs_u1]
theorem cs_u1_ne {g : Nat → Int} {k j : Nat} {v : Int} (h : j ≠ k) : cs_u1 g k v j = g j := by simp [cs_u1, h]
theorem cs_u1_u1 {g : Nat → Int} {k : Nat} {v w : Int} : cs_u1 (cs_u1 g k v) k w = cs_u1 g k w := by
  funext j
  by_cases h : j = k <;> simp [cs_u1, h]
/-! small rows for simp -/
theorem cs_bz {p : Prop} {hp : Decidable p} : ((if p then (1 : Int) else 0) = 0) = ¬ p := by by_cases h : p <;> simp [h]
theorem cs_bn {p : Prop} {hp : Decidable p} : ((if p then (1 : Int) else 0) = 1) = p := by by_cases h : p <;> simp [h]
theorem cs_bi {p : Prop} {hp : Decidable p} : cs_in (if p then (1 : Int) else 0) = True := eq_true (by by_cases h : p <;> simp only [h, if_true, if_false] <;> decide)
theorem cs_bo {p : Prop} {hp : Decidable p} : ((if p then (1 : Int) else 0) = 0 ∨ (if p then (1 : Int) else 0) = 1) = True := eq_true (by by_cases h : p <;> simp [h])
theorem cs_bi_iff {p q : Prop} {hp : Decidable p} {hq : Decidable q} : ((if p then (1 : Int) else 0) = (if q then 1 else 0)) ↔ (p ↔ q) := by by_cases h : p <;> by_cases h2 : q <;> simp [h, h2]
theorem cs_sw_c {v k : Int} {J : Nat → Prop} {t : Nat} {r : List Nat} : cs_sw v J k (t :: r) = ((v = k → J t) ∧ cs_sw v J (k + 1) r) := rfl
theorem cs_sw_n {v k : Int} {J : Nat → Prop} : cs_sw v J k [] = True := rfl
theorem cs_em {p : Prop} : (¬ p ∨ p) = True := eq_true (by by_cases h : p <;> simp [h])
theorem cs_inT {x : Int} (h1 : -2147483648 ≤ x) (h2 : x < 2147483648) : cs_in x = True := eq_true ⟨h1, h2⟩
theorem cs_tn0 {k : Nat} : ((0 : Int) + (k : Int)).toNat = k := by omega
theorem cs_tn01 {k : Nat} : ((0 : Int) + (k : Int) + 1).toNat = k + 1 := by omega
theorem cs_tn1 {k : Nat} : ((k : Int) + 1).toNat = k + 1 := by omega
theorem cs_tn6 {k : Nat} : ((6 : Int) + (k : Int)).toNat = 6 + k := by omega
theorem cs_tn11 {k : Nat} : ((11 : Int) + (k : Int)).toNat = 11 + k := by omega
theorem cs_tn16 {k : Nat} : ((16 : Int) + (k : Int)).toNat = 16 + k := by omega
theorem cs_tn21 {k w : Nat} : ((21 : Int) + 8 * (k : Int) + (w : Int)).toNat = 21 + 8 * k + w := by omega
theorem cs_tnj {k : Nat} : ((21 : Int) + 8 * (k : Int) + 7).toNat = 21 + 8 * k + 7 := by omega
theorem cs_tnb0 {k : Nat} : ((21 : Int) + 8 * (k : Int) + 0).toNat = 21 + 8 * k + 0 := by omega
theorem cs_tnb1 {k : Nat} : ((21 : Int) + 8 * (k : Int) + 1).toNat = 21 + 8 * k + 1 := by omega
theorem cs_tnb3 {k : Nat} : ((21 : Int) + 8 * (k : Int) + 3).toNat = 21 + 8 * k + 3 := by omega
theorem cs_tnb6 {k : Nat} : ((21 : Int) + 8 * (k : Int) + 6).toNat = 21 + 8 * k + 6 := by omega
theorem cs_tnb4 {k : Nat} : ((21 : Int) + 8 * (k : Int) + 4).toNat = 21 + 8 * k + 4 := by omega
theorem cs_tnb2 {k : Nat} : ((21 : Int) + 8 * (k : Int) + 2).toNat = 21 + 8 * k + 2 := by omega
theorem cs_tnb5 {k : Nat} : ((21 : Int) + 8 * (k : Int) + 5).toNat = 21 + 8 * k + 5 := by omega
theorem cs_tn154 {k : Nat} : ((154 : Int) + (k : Int)).toNat = 154 + k := by omega
/-! the reference's object: at m, its five int rows behind it -/
def cs_MA (sh : List (Nat × Nat × Nat)) (rm : Nat → Nat → Option Nat) (m : Nat) : Prop :=
  (sh[m]? = some (0, 8, 20) ∧ sh[m + 1]? = some (1, 0, 157) ∧ sh[m + 2]? = some (1, 0, 157) ∧ sh[m + 3]? = some (1, 0, 628) ∧ sh[m + 4]? = some (1, 0, 157) ∧ sh[m + 5]? = some (1, 0, 60)) ∧
  (rm m 0 = some (m + 1) ∧ rm m 1 = some (m + 2) ∧ rm m 2 = some (m + 3) ∧ rm m 4 = some (m + 4) ∧ rm m 6 = some (m + 5))
section
variable {sh : List (Nat × Nat × Nat)} {rm : Nat → Nat → Option Nat} {im : Nat → Nat → Int} {m k : Nat} {j : Int}
theorem cs_M_ob (h : cs_MA sh rm m) (hk : k < 20) : cs_ob (sh, im, rm) m 8 k = True := eq_true ⟨20, h.1.1, hk⟩
theorem cs_M_rc (h : cs_MA sh rm m) : cs_rc (sh, im, rm) m 8 = True := eq_true ⟨20, h.1.1⟩
theorem cs_ix_of {a n t : Nat} (h : sh[a]? = some (1, t, n)) (hn : n ≤ 2147483648) (h0 : 0 ≤ j) (h1 : j < (n : Int)) : cs_ix (sh, im, rm) a 1 t j = True := eq_true ⟨n, h, hn, h0, h1⟩
theorem cs_M_ix1 (h : cs_MA sh rm m) (h0 : 0 ≤ j) (h1 : j < 157) : cs_ix (sh, im, rm) (m + 1) 1 0 j = True := cs_ix_of h.1.2.1 (by decide) h0 h1
theorem cs_M_ix2 (h : cs_MA sh rm m) (h0 : 0 ≤ j) (h1 : j < 157) : cs_ix (sh, im, rm) (m + 2) 1 0 j = True := cs_ix_of h.1.2.2.1 (by decide) h0 h1
theorem cs_M_ix3 (h : cs_MA sh rm m) (h0 : 0 ≤ j) (h1 : j < 628) : cs_ix (sh, im, rm) (m + 3) 1 0 j = True := cs_ix_of h.1.2.2.2.1 (by decide) h0 h1
theorem cs_M_ix4 (h : cs_MA sh rm m) (h0 : 0 ≤ j) (h1 : j < 157) : cs_ix (sh, im, rm) (m + 4) 1 0 j = True := cs_ix_of h.1.2.2.2.2.1 (by decide) h0 h1
theorem cs_M_ix5 (h : cs_MA sh rm m) (h0 : 0 ≤ j) (h1 : j < 60) : cs_ix (sh, im, rm) (m + 5) 1 0 j = True := cs_ix_of h.1.2.2.2.2.2 (by decide) h0 h1
end
