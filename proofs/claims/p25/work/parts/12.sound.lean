theorem cs_pop_spec {K : List cs_A → List cs_A → Prop} : ∀ (n : Nat) (acc st : List cs_A), cs_pop K n acc st → ∃ as rest, st = as.reverse ++ rest ∧ as.length = n ∧ K (as ++ acc) rest
  | 0, acc, st, h => ⟨[], st, rfl, rfl, h⟩
  | n + 1, acc, [], h => False.elim h
  | n + 1, acc, a :: st, h => by
    obtain ⟨as, rest, h1, h2, h3⟩ := cs_pop_spec n (a :: acc) st h
    exact ⟨as ++ [a], rest, by rw [h1]; simp, by simp [h2], by simpa using h3⟩
theorem cs_hasF_spec {ow idx ci k : Nat} (h : cs_hasF ow idx ci k = true) : ∃ w, cs_okF (ow, idx, ci, k, w) = true := by
  obtain ⟨e, he, h⟩ := List.any_eq_true.mp h
  obtain ⟨a, b, c, d, w⟩ := e
  simp only [Bool.and_eq_true, beq_iff_eq] at h
  obtain ⟨⟨⟨rfl, rfl⟩, rfl⟩, rfl⟩ := h
  exact ⟨w, List.all_eq_true.mp cs_tF _ he⟩
theorem cs_hasV_spec {ow idx mj : Nat} (h : cs_hasV ow idx mj = true) : ∃ w1 w2 w3 w4, cs_okV (ow, idx, mj, w1, w2, w3, w4) = true := by
  obtain ⟨e, he, h⟩ := List.any_eq_true.mp h
  obtain ⟨a, b, c, w1, w2, w3, w4⟩ := e
  simp only [Bool.and_eq_true, beq_iff_eq] at h
  obtain ⟨⟨rfl, rfl⟩, rfl⟩ := h
  exact ⟨w1, w2, w3, w4, List.all_eq_true.mp cs_tV _ he⟩
theorem cs_has6_spec {l : List (Nat × Nat × Nat × Nat × Nat × Nat)} {f : Nat × Nat × Nat × Nat × Nat × Nat → Bool} (hl : l.all f = true) {ow idx mj : Nat} (h : cs_has6 l ow idx mj = true) : ∃ w1 w2 w3, f (ow, idx, mj, w1, w2, w3) = true := by
  obtain ⟨e, he, h⟩ := List.any_eq_true.mp h
  obtain ⟨a, b, c, w1, w2, w3⟩ := e
  simp only [Bool.and_eq_true, beq_iff_eq] at h
  obtain ⟨⟨rfl, rfl⟩, rfl⟩ := h
  exact ⟨w1, w2, w3, List.all_eq_true.mp hl _ he⟩
theorem cs_has3_spec {l : List (Nat × Nat × Nat)} {f : Nat × Nat × Nat → Bool} (hl : l.all f = true) {ow idx : Nat} (h : cs_has3 l ow idx = true) : ∃ w1, f (ow, idx, w1) = true := by
  obtain ⟨e, he, h⟩ := List.any_eq_true.mp h
  obtain ⟨a, b, w1⟩ := e
  simp only [Bool.and_eq_true, beq_iff_eq] at h
  obtain ⟨rfl, rfl⟩ := h
  exact ⟨w1, List.all_eq_true.mp hl _ he⟩
theorem cs_has4_spec {l : List (Nat × Nat × Nat × Nat)} {f : Nat × Nat × Nat × Nat → Bool} (hl : l.all f = true) {ow idx v : Nat} (h : cs_has4 l ow idx v = true) : ∃ w1, f (ow, idx, v, w1) = true := by
  obtain ⟨e, he, h⟩ := List.any_eq_true.mp h
  obtain ⟨a, b, c, w1⟩ := e
  simp only [Bool.and_eq_true, beq_iff_eq] at h
  obtain ⟨⟨rfl, rfl⟩, rfl⟩ := h
  exact ⟨w1, List.all_eq_true.mp hl _ he⟩
theorem cs_ifc_mono {c : ClassFile.Cond} {v : Int} {A B A' B' : Prop} (h : cs_ifc c v A B) (ha : A → A') (hb : B → B') : cs_ifc c v A' B' := by
  cases c <;> first | exact ⟨fun q => ha (h.1 q), fun q => ⟨(h.2 q).1, hb (h.2 q).2⟩⟩ | exact ⟨fun q => ⟨(h.1 q).1, ha (h.1 q).2⟩, fun q => hb (h.2 q)⟩ | exact ⟨h.1, fun q => ha (h.2.1 q), fun q => hb (h.2.2 q)⟩
theorem cs_icm_mono {c : ClassFile.Cond} {x y : Int} {A B A' B' : Prop} (h : cs_icm c x y A B) (ha : A → A') (hb : B → B') : cs_icm c x y A' B' := by
  cases c <;> first | exact ⟨fun q => ha (h.1 q), fun q => ⟨(h.2 q).1, hb (h.2 q).2⟩⟩ | exact ⟨fun q => ⟨(h.1 q).1, ha (h.1 q).2⟩, fun q => hb (h.2 q)⟩ | exact ⟨h.1, fun q => ha (h.2.1 q), fun q => hb (h.2.2 q)⟩
theorem cs_swk_get {B : cs_BL} {pc : Nat} : ∀ {os : List Int} {bs : List Nat}, cs_swk B pc os bs = true → os.length = bs.length ∧ ∀ (i b : Nat), bs[i]? = some b → ∃ off, os[i]? = some off ∧ cs_tgt B pc off b = true
  | [], [], _ => ⟨rfl, fun i b h => by simp at h⟩
  | off :: os, b :: bs, h => by
    simp only [cs_swk, Bool.and_eq_true] at h
    obtain ⟨h1, h2⟩ := cs_swk_get h.2
    refine ⟨by simp [h1], fun i b' hb => ?_⟩
    cases i with
    | zero =>
      simp at hb
      subst hb
      exact ⟨off, rfl, h.1⟩
    | succ i => exact h2 i b' (by simpa using hb)
theorem cs_sw_get {v : Int} {J : Nat → Prop} : ∀ {bs : List Nat} {k : Int}, cs_sw v J k bs → ∀ (i b : Nat), bs[i]? = some b → v = k + i → J b
  | [], _, _, i, b, h, _ => by simp at h
  | b0 :: bs, k, h, i, b, hb, hv => by
    cases i with
    | zero =>
      simp at hb
      subst hb
      exact h.1 (by omega)
    | succ i => exact cs_sw_get h.2 i b (by simpa using hb) (by omega)
theorem cs_lk_get {v : Int} {J : Nat → Prop} {B : cs_BL} {pc d : Nat} {dd : Int} (hd : cs_tgt B pc dd d = true) : ∀ {ps : List (Int × Int)} {bs : List Nat}, cs_swk B pc (ps.map (·.2)) bs = true → cs_lk v J d ps bs → ∃ b, J b ∧ cs_tgt B pc (Op.lookupswitch.offset ps dd v) b = true
  | [], [], _, h => ⟨d, h, hd⟩
  | (k, off) :: ps, b :: bs, hs, h => by
    simp only [List.map_cons, cs_swk, Bool.and_eq_true] at hs
    rw [Op.lookupswitch.offset_cons]
    by_cases hk : k = v
    · rw [if_pos hk]
      exact ⟨b, h.1 hk, hs.1⟩
    · rw [if_neg hk]
      exact cs_lk_get hd hs.2 (h.2 hk)
  | [], b :: bs, hs, _ => by simp [cs_swk] at hs
  | _ :: _, [], hs, _ => by simp [cs_swk] at hs
theorem cs_dec {mi pc : Nat} {i : Instr} (h : (decode (cs_cd mi) pc).toOption.map (·.1) = some i) : ∃ len, decode (cs_cd mi) pc = .ok (i, len) := by
  cases hd : decode (cs_cd mi) pc with
  | error e => rw [hd] at h; cases h
  | ok q =>
    rw [hd] at h
    obtain ⟨a, b⟩ := q
    cases h
    exact ⟨b, rfl⟩
