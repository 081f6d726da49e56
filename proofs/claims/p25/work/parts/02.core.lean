/-! THE ABSTRACT MACHINE: values, heaps, how they lie in the real heap. -/
abbrev cs_A : Type := Int ⊕ (Option Nat ⊕ Nat)
abbrev cs_H : Type := List (Nat × Nat × Nat) × (Nat → Nat → Int) × (Nat → Nat → Option Nat)
/-- the base address, the array classes, the static arrays' addresses, the kit's class numbers, the script (length, values) -/
abbrev cs_E : Type := Nat × (Nat → ClassId) × (Nat → Nat) × va_G × Nat × (Nat → Int)
abbrev cs_I (x : Int) : cs_A := Sum.inl x
abbrev cs_R (a : Nat) : cs_A := Sum.inr (Sum.inl (some a))
abbrev cs_N : cs_A := Sum.inr (Sum.inl none)
abbrev cs_T (j : Nat) : cs_A := Sum.inr (Sum.inr j)
def cs_rv (E : cs_E) : cs_A → Value
  | .inl x => .int (Int32.ofInt x)
  | .inr (.inl r) => va_rf (r.map (fun a => E.1 + a))
  | .inr (.inr j) => if j = 9 then .null else .ref (E.2.2.1 j)
/-- null, as it is known to stand in a local or on the stack -/
abbrev cs_Z : cs_A := cs_T 9
theorem cs_rv_T {E : cs_E} {j : Nat} (h : j ≠ 9) : cs_rv E (cs_T j) = .ref (E.2.2.1 j) := by simp [cs_rv, h]
theorem cs_rv_Z {E : cs_E} : cs_rv E cs_Z = .null := rfl
theorem cs_rv_cat (E : cs_E) (v : cs_A) : (cs_rv E v).category = 1 := by
  match v with
  | .inl x => rfl
  | .inr (.inl none) => rfl
  | .inr (.inl (some a)) => rfl
  | .inr (.inr j) =>
    by_cases h : j = 9
    · subst h; rfl
    · rw [cs_rv_T h]; rfl
/-- which fields of a class are references -/
def cs_fr (ci k : Nat) : Bool := match vwCl[ci]? with
  | none => false
  | some r => match parseFieldDescriptor (r.2.1 k).2.2.1 with
    | some (.object _) => true
    | some (.array _) => true
    | _ => false
def cs_fv (E : cs_E) (h : cs_H) (a ci k : Nat) : Value := if cs_fr ci k = true then va_rf ((h.2.2 a k).map (fun q => E.1 + q)) else .int (Int32.ofInt (h.2.1 a k))
def cs_e (E : cs_E) (h : cs_H) (a : Nat) (sh : Nat × Nat × Nat) : va_E := match sh with
  | (0, ci, n) => .inr (ci, (List.range n).map (cs_fv E h a ci))
  | (1, t, n) => .inl (E.2.1 t, n, .inl (fun j => Int32.ofInt (h.2.1 a j)))
  | (_ + 2, t, n) => .inl (E.2.1 t, n, .inr (.inr (.inr (.inr (fun j => (h.2.2 a j).map (fun q => E.1 + q))))))
def cs_ws (E : cs_E) (h : cs_H) : va_W := (List.range h.1.length).map (fun a => (E.1 + a, cs_e E h a (h.1.getD a (0, 0, 0))))
theorem cs_ws_get {E : cs_E} {h : cs_H} {a : Nat} {sh : Nat × Nat × Nat} (hs : h.1[a]? = some sh) : (cs_ws E h)[a]? = some (E.1 + a, cs_e E h a sh) := by
  have hl := (List.getElem?_eq_some_iff.mp hs).1
  simp [cs_ws, List.getElem?_map, List.getElem?_range hl, List.getD_eq_getElem?_getD, hs]
theorem cs_ws_len (E : cs_E) (h : cs_H) : (cs_ws E h).length = h.1.length := by simp [cs_ws]
theorem cs_ws_D (E : cs_E) (h : cs_H) : va_D (fun q => E.1 ≤ q) (cs_ws E h) := by
  have key : ∀ (k : Nat) (q : Nat × va_E), (cs_ws E h)[k]? = some q → q.1 = E.1 + k := by
    intro k q hk
    simp only [cs_ws, List.getElem?_map, Option.map_eq_some_iff] at hk
    obtain ⟨a, ha, rfl⟩ := hk
    have := (List.getElem?_eq_some_iff.mp ha)
    obtain ⟨hl, he⟩ := this
    simp at he
    subst he
    rfl
  refine ⟨fun i j p q hi hj hpq => ?_, fun k q hk => ?_⟩
  · rw [key i p hi, key j q hj] at hpq
    omega
  · show E.1 ≤ q.1
    rw [key k q hk]
    omega
theorem cs_e_congr {E : cs_E} {h h' : cs_H} {a : Nat} (h1 : h'.2.1 a = h.2.1 a) (h2 : h'.2.2 a = h.2.2 a) (sh : Nat × Nat × Nat) : cs_e E h' a sh = cs_e E h a sh := by
  obtain ⟨k, t, n⟩ := sh
  match k with
  | 0 =>
    simp only [cs_e]
    congr 2
    apply List.map_congr_left
    intro j _
    simp only [cs_fv, h1, h2]
  | 1 => simp only [cs_e, h1]
  | k + 2 => simp only [cs_e, h2]
/-- one cell changes -/
theorem cs_ws_set {E : cs_E} {h h' : cs_H} {a : Nat} {sh : Nat × Nat × Nat} (hs : h.1[a]? = some sh) (h0 : h'.1 = h.1) (h1 : ∀ q, q ≠ a → h'.2.1 q = h.2.1 q) (h2 : ∀ q, q ≠ a → h'.2.2 q = h.2.2 q) :
    (cs_ws E h).set a (E.1 + a, cs_e E h' a sh) = cs_ws E h' := by
  have hl := (List.getElem?_eq_some_iff.mp hs).1
  apply List.ext_getElem?
  intro i
  by_cases hi : i = a
  · subst hi
    rw [List.getElem?_set_self (by rw [cs_ws_len]; exact hl)]
    rw [cs_ws_get (h := h') (by rw [h0]; exact hs)]
  · rw [List.getElem?_set_ne (Ne.symm hi)]
    cases hq : h.1[i]? with
    | none =>
      rw [List.getElem?_eq_none (by rw [cs_ws_len]; exact List.getElem?_eq_none_iff.mp hq), List.getElem?_eq_none (by rw [cs_ws_len, h0]; exact List.getElem?_eq_none_iff.mp hq)]
    | some s2 =>
      rw [cs_ws_get hq, cs_ws_get (h := h') (by rw [h0]; exact hq), cs_e_congr (h1 i hi) (h2 i hi)]
/-- one cell is new -/
def cs_new (h : cs_H) (sh : Nat × Nat × Nat) : cs_H := (h.1 ++ [sh], fun a k => if a = h.1.length then 0 else h.2.1 a k, fun a k => if a = h.1.length then none else h.2.2 a k)
theorem cs_ws_new (E : cs_E) (h : cs_H) (sh : Nat × Nat × Nat) : cs_ws E (cs_new h sh) = cs_ws E h ++ [(E.1 + h.1.length, cs_e E (cs_new h sh) h.1.length sh)] := by
  apply List.ext_getElem?
  intro i
  rcases Nat.lt_trichotomy i h.1.length with hi | hi | hi
  · rw [List.getElem?_append_left (by rw [cs_ws_len]; exact hi)]
    have hq : h.1[i]? = some h.1[i] := List.getElem?_eq_getElem hi
    have hq' : (cs_new h sh).1[i]? = some h.1[i] := by simp only [cs_new]; rw [List.getElem?_append_left hi]; exact hq
    rw [cs_ws_get hq, cs_ws_get hq']
    have hne : i ≠ h.1.length := Nat.ne_of_lt hi
    rw [cs_e_congr (h := h) (h' := cs_new h sh) (by funext k; simp [cs_new, hne]) (by funext k; simp [cs_new, hne])]
  · subst hi
    rw [List.getElem?_append_right (by rw [cs_ws_len]; exact Nat.le_refl _), cs_ws_len, Nat.sub_self]
    have hq' : (cs_new h sh).1[h.1.length]? = some sh := by simp [cs_new]
    rw [cs_ws_get hq']
    rfl
  · rw [List.getElem?_eq_none (by rw [cs_ws_len]; simp [cs_new]; omega), List.getElem?_eq_none (by simp [cs_ws_len]; omega)]
def cs_sz (l : List (Nat × Nat × Nat)) : Nat := (l.map (fun s => s.2.2)).sum
theorem cs_sz_app (l : List (Nat × Nat × Nat)) (s : Nat × Nat × Nat) : cs_sz (l ++ [s]) = cs_sz l + s.2.2 := by simp [cs_sz]
/-- ints as Java has them -/
abbrev cs_in (x : Int) : Prop := -2147483648 ≤ x ∧ x < 2147483648
theorem cs_toInt {x : Int} (h : cs_in x) : (Int32.ofInt x).toInt = x := by
  obtain ⟨h1, h2⟩ := h
  rw [Int32.toInt_ofInt]
  have hs : (Int32.size : Int) = 4294967296 := rfl
  simp only [Int.bmod]
  have hs2 : Int32.size = 4294967296 := rfl
  rw [hs2]
  omega
theorem cs_clamp {x : Int} (h : cs_in x) : (Int32.ofInt x).toNatClampNeg = x.toNat := by
  show (Int32.ofInt x).toInt.toNat = x.toNat
  rw [cs_toInt h]
theorem cs_vin {x : Int} {n : Nat} (h0 : 0 ≤ x) (h1 : x < n) (hn : n ≤ 2147483648) : vp_in (Int32.ofInt x) n := by
  have hc : cs_in x := ⟨by omega, by omega⟩
  exact vp_in_iff.mpr ⟨by rw [cs_toInt hc]; exact h0, by rw [cs_toInt hc]; exact h1⟩
theorem cs_lt {x y : Int} (hx : cs_in x) (hy : cs_in y) : Int32.ofInt x < Int32.ofInt y ↔ x < y := by
  rw [Int32.lt_iff_toInt_lt, cs_toInt hx, cs_toInt hy]
theorem cs_le {x y : Int} (hx : cs_in x) (hy : cs_in y) : Int32.ofInt x ≤ Int32.ofInt y ↔ x ≤ y := by
  rw [Int32.le_iff_toInt_le, cs_toInt hx, cs_toInt hy]
theorem cs_eq {x y : Int} (hx : cs_in x) (hy : cs_in y) : Int32.ofInt x = Int32.ofInt y ↔ x = y := by
  constructor
  · intro h
    have := congrArg Int32.toInt h
    rwa [cs_toInt hx, cs_toInt hy] at this
  · intro h
    rw [h]
theorem cs_zero : Int32.ofInt 0 = 0 := rfl
def cs_shl (x y : Int) : Int := (Int32.ofInt x <<< (Int32.ofInt y &&& 31)).toInt
def cs_or (x y : Int) : Int := (Int32.ofInt x ||| Int32.ofInt y).toInt
def cs_shr (x y : Int) : Int := (Int32.ofInt x >>> (Int32.ofInt y &&& 31)).toInt
theorem cs_div32 {a b : Int} (ha : 0 ≤ a ∧ a < 2147483648) (hb : 0 < b ∧ b < 2147483648) : Int32.ofInt a / Int32.ofInt b = Int32.ofInt (a / b) := by
  have h1 : cs_in a := ⟨by omega, ha.2⟩
  have h2 : cs_in b := ⟨by omega, hb.2⟩
  have h3 : 0 ≤ a / b := Int.ediv_nonneg ha.1 (by omega)
  have h4 : a / b ≤ a := Int.ediv_le_self _ ha.1
  apply Int32.toInt_inj.mp
  rw [Int32.toInt_div, cs_toInt h1, cs_toInt h2, cs_toInt (x := a / b) ⟨by omega, by omega⟩, Int.tdiv_eq_ediv_of_nonneg ha.1]
  rw [Int.bmod_eq_of_le] <;> omega
theorem cs_rem32 {a b : Int} (ha : 0 ≤ a ∧ a < 2147483648) (hb : 0 < b ∧ b < 2147483648) : Int32.ofInt a - Int32.ofInt a / Int32.ofInt b * Int32.ofInt b = Int32.ofInt (a % b) := by
  rw [cs_div32 ha hb, ← Int32.ofInt_mul, ← Int32.ofInt_sub, Int.emod_def, Int.mul_comm b]
def cs_and (x y : Int) : Int := (Int32.ofInt x &&& Int32.ofInt y).toInt
theorem cs_ofToInt (x : Int32) : Int32.ofInt x.toInt = x := by simp
theorem cs_i2c {x : Int} : ((Int32.ofInt x).toUInt32 % 65536).toInt32 = Int32.ofInt (x % 65536) := by
  apply Int32.toInt_inj.mp
  have h2 : cs_in (x % 65536) := ⟨by omega, by omega⟩
  rw [cs_toInt h2]
  have h3 : ((Int32.ofInt x).toUInt32 % 65536).toNat = (x % 65536).toNat := by
    rw [UInt32.toNat_mod]
    have h4 : (Int32.ofInt x).toUInt32.toNat = (x % 4294967296).toNat := by
      show (BitVec.ofInt 32 x).toNat = _
      rw [BitVec.toNat_ofInt]
      rfl
    rw [h4]
    show (x % 4294967296).toNat % 65536 = _
    omega
  have h5 : ((Int32.ofInt x).toUInt32 % 65536).toInt32.toInt = (((Int32.ofInt x).toUInt32 % 65536).toNat : Int) := by
    have hb : ((Int32.ofInt x).toUInt32 % 65536).toNat < 65536 := by rw [UInt32.toNat_mod]; exact Nat.mod_lt _ (by decide)
    show BitVec.toInt _ = _
    rw [BitVec.toInt_eq_toNat_of_lt]
    · rfl
    · show 2 * ((Int32.ofInt x).toUInt32 % 65536).toNat < 4294967296
      omega
  rw [h5, h3]
  omega
/-- locals -/
def cs_lp (E : cs_E) : Nat → List cs_A → List (Nat × Value)
  | _, [] => []
  | i, v :: r => match v with
    | .inr (.inl none) => cs_lp E (i + 1) r
    | v => (i, cs_rv E v) :: cs_lp E (i + 1) r
theorem cs_lp_mem (E : cs_E) : ∀ (loc : List cs_A) (i : Nat) (q : Nat × Value), q ∈ cs_lp E i loc ↔ ∃ (j : Nat) (v : cs_A), loc[j]? = some v ∧ v ≠ cs_N ∧ q = (i + j, cs_rv E v)
  | [], i, q => by simp [cs_lp]
  | v :: r, i, q => by
    have ih := cs_lp_mem E r (i + 1) q
    have key : (∃ (j : Nat) (w : cs_A), (v :: r)[j]? = some w ∧ w ≠ cs_N ∧ q = (i + j, cs_rv E w)) ↔ (v ≠ cs_N ∧ q = (i, cs_rv E v)) ∨ ∃ (j : Nat) (w : cs_A), r[j]? = some w ∧ w ≠ cs_N ∧ q = (i + 1 + j, cs_rv E w) := by
      constructor
      · rintro ⟨j, w, h1, h2, h3⟩
        cases j with
        | zero =>
          simp at h1
          subst h1
          exact Or.inl ⟨h2, h3⟩
        | succ j => exact Or.inr ⟨j, w, by simpa using h1, h2, by rw [h3]; congr 1; omega⟩
      · rintro (⟨h2, h3⟩ | ⟨j, w, h1, h2, h3⟩)
        · exact ⟨0, v, rfl, h2, h3⟩
        · exact ⟨j + 1, w, by simpa using h1, h2, by rw [h3]; congr 1; omega⟩
    rw [key, ← ih]
    match v with
    | .inl x => simp [cs_lp]
    | .inr (.inl none) => simp [cs_lp]
    | .inr (.inl (some a)) => simp [cs_lp]
    | .inr (.inr j) => simp [cs_lp]
def cs_L (E : cs_E) (ls : Array Slot) (n : Nat) (loc : List cs_A) : Prop := lv_has ls n (cs_lp E 0 loc)
theorem cs_has_mono {ls : Array Slot} {n : Nat} {l l' : List (Nat × Value)} (h : lv_has ls n l) (hm : ∀ q ∈ l', q ∈ l) : lv_has ls n l' := ⟨h.1, h.2.1, fun q hq => h.2.2 q (hm q hq)⟩
theorem cs_L_get {E : cs_E} {ls : Array Slot} {n i : Nat} {loc : List cs_A} {v : cs_A} (h : cs_L E ls n loc) (hv : loc[i]? = some v) (hn : v ≠ cs_N) : ls[i]? = some (.val (cs_rv E v)) := by
  have := h.2.2 (i, cs_rv E v) ((cs_lp_mem E loc 0 _).mpr ⟨i, v, hv, hn, by simp⟩)
  exact this
theorem cs_L_set {E : cs_E} {ls' : Array Slot} {n i : Nat} {loc : List cs_A} {v : cs_A} (h : lv_has ls' n ((i, cs_rv E v) :: (cs_lp E 0 loc).filter (fun q => !(q.1 == i) && !(q.1 + 1 == i && q.2.category == 2)))) : cs_L E ls' n (loc.set i v) := by
  refine cs_has_mono h ?_
  intro q hq
  obtain ⟨j, w, h1, h2, h3⟩ := (cs_lp_mem E _ 0 q).mp hq
  rw [Nat.zero_add] at h3
  by_cases hj : j = i
  · subst hj
    have hl : j < loc.length := by
      have := (List.getElem?_eq_some_iff.mp h1).1
      simpa using this
    rw [List.getElem?_set_self hl] at h1
    cases h1
    rw [h3]
    exact List.mem_cons_self
  · rw [List.getElem?_set_ne (Ne.symm hj)] at h1
    refine List.mem_cons_of_mem _ (List.mem_filter.mpr ⟨(cs_lp_mem E loc 0 q).mpr ⟨j, w, h1, h2, by rw [h3, Nat.zero_add]⟩, ?_⟩)
    rw [h3]
    have hcat := cs_rv_cat E w
    simp [hj, hcat]
theorem cs_args_lp (E : cs_E) (vs : List cs_A) (i : Nat) (hn : ∀ v ∈ vs, v ≠ cs_N) : lv_args i (vs.map (cs_rv E)) = cs_lp E i vs := by
  induction vs generalizing i with
  | nil => rfl
  | cons v r ih =>
    have h1 := cs_rv_cat E v
    have hv : v ≠ cs_N := hn v List.mem_cons_self
    simp only [List.map_cons, lv_args, h1]
    rw [if_neg (by decide), ih (i + 1) (fun w hw => hn w (List.mem_cons_of_mem _ hw))]
    match v, hv with
    | .inl x, _ => rfl
    | .inr (.inl (some a)), _ => rfl
    | .inr (.inr j), _ => rfl
    | .inr (.inl none), hv => exact absurd rfl hv
theorem cs_lp_pad (E : cs_E) (vs : List cs_A) (i k : Nat) : cs_lp E i (vs ++ List.replicate k cs_N) = cs_lp E i vs := by
  induction vs generalizing i with
  | nil =>
    induction k generalizing i with
    | zero => rfl
    | succ k ih =>
      simp only [List.nil_append, List.replicate_succ] at ih ⊢
      simp only [cs_lp]
      rw [ih (i + 1)]
      rfl
  | cons v r ih =>
    simp only [List.cons_append]
    match v with
    | .inl x => simp only [cs_lp, ih]
    | .inr (.inl none) => simp only [cs_lp, ih]
    | .inr (.inl (some a)) => simp only [cs_lp, ih]
    | .inr (.inr j) => simp only [cs_lp, ih]
