/-! branches -/
def cs_ifc (c : ClassFile.Cond) (v : Int) (A B : Prop) : Prop := match c with
  | .eq => (v = 0 → A) ∧ (¬ v = 0 → cs_in v ∧ B)
  | .ne => (¬ v = 0 → cs_in v ∧ A) ∧ (v = 0 → B)
  | .lt => cs_in v ∧ (v < 0 → A) ∧ (¬ v < 0 → B)
  | .ge => cs_in v ∧ (0 ≤ v → A) ∧ (¬ 0 ≤ v → B)
  | .gt => cs_in v ∧ (0 < v → A) ∧ (¬ 0 < v → B)
  | .le => cs_in v ∧ (v ≤ 0 → A) ∧ (¬ v ≤ 0 → B)
def cs_icm (c : ClassFile.Cond) (x y : Int) (A B : Prop) : Prop := match c with
  | .eq => (x = y → A) ∧ (¬ x = y → (cs_in x ∧ cs_in y) ∧ B)
  | .ne => (¬ x = y → (cs_in x ∧ cs_in y) ∧ A) ∧ (x = y → B)
  | .lt => (cs_in x ∧ cs_in y) ∧ (x < y → A) ∧ (¬ x < y → B)
  | .ge => (cs_in x ∧ cs_in y) ∧ (y ≤ x → A) ∧ (¬ y ≤ x → B)
  | .gt => (cs_in x ∧ cs_in y) ∧ (y < x → A) ∧ (¬ y < x → B)
  | .le => (cs_in x ∧ cs_in y) ∧ (x ≤ y → A) ∧ (¬ x ≤ y → B)
theorem cs_in0 : cs_in 0 := ⟨by decide, by decide⟩
theorem cs_eq0 {x : Int} (hx : cs_in x) : Int32.ofInt x = 0 ↔ x = 0 := cs_eq hx cs_in0
section
variable {sc : Nat × (Nat → Int)} {mi pc : Nat} {loc st : List cs_A} {h : cs_H} {o : Nat × Nat} {Q : Option cs_A → cs_H → Prop}
theorem cs_s_if {cd : ClassFile.Cond} {off : Int} {tgt : Nat} {v : Int} (hd : decode (cs_cd mi) pc = .ok (.ifCond cd off, 3)) (ht : (pc : Int) + off = (tgt : Int)) (k : cs_ifc cd v (cs_VP sc mi tgt loc st h o Q) (cs_VP sc mi (pc + 3) loc st h o Q)) : cs_VP sc mi pc loc (.inl v :: st) h o Q := by
  intro p l e R s m args below meth c QQ E hE C F H locs ls cells slots X
  cases cd with
  | eq =>
    refine lv_if_eq C.1 C.2.1 hd ht (fun hv => ?_) (fun hv => ?_)
    · by_cases h0 : v = 0
      · exact k.1 h0 p l e R s m args below meth c QQ E hE C F H locs ls cells slots X
      · exact absurd ((cs_eq0 (k.2 h0).1).mp hv) h0
    · by_cases h0 : v = 0
      · exact absurd (by rw [h0]; rfl) hv
      · exact (k.2 h0).2 p l e R s m args below meth c QQ E hE C F H locs ls cells slots X
  | ne =>
    refine lv_if_ne C.1 C.2.1 hd ht (fun hv => ?_) (fun hv => ?_)
    · by_cases h0 : v = 0
      · exact absurd (by rw [h0]; rfl) hv
      · exact (k.1 h0).2 p l e R s m args below meth c QQ E hE C F H locs ls cells slots X
    · by_cases h0 : v = 0
      · exact k.2 h0 p l e R s m args below meth c QQ E hE C F H locs ls cells slots X
      · exact absurd ((cs_eq0 (k.1 h0).1).mp hv) h0
  | lt =>
    refine lv_if_lt C.1 C.2.1 hd ht (fun hv => k.2.1 ((cs_lt k.1 cs_in0).mp hv) p l e R s m args below meth c QQ E hE C F H locs ls cells slots X) (fun hv => k.2.2 (fun q => hv ((cs_lt k.1 cs_in0).mpr q)) p l e R s m args below meth c QQ E hE C F H locs ls cells slots X)
  | ge =>
    refine lv_if_ge C.1 C.2.1 hd ht (fun hv => k.2.1 ((cs_le cs_in0 k.1).mp hv) p l e R s m args below meth c QQ E hE C F H locs ls cells slots X) (fun hv => k.2.2 (fun q => hv ((cs_le cs_in0 k.1).mpr q)) p l e R s m args below meth c QQ E hE C F H locs ls cells slots X)
  | gt =>
    refine lv_if_gt C.1 C.2.1 hd ht (fun hv => k.2.1 ((cs_lt cs_in0 k.1).mp hv) p l e R s m args below meth c QQ E hE C F H locs ls cells slots X) (fun hv => k.2.2 (fun q => hv ((cs_lt cs_in0 k.1).mpr q)) p l e R s m args below meth c QQ E hE C F H locs ls cells slots X)
  | le =>
    refine lv_if_le C.1 C.2.1 hd ht (fun hv => k.2.1 ((cs_le k.1 cs_in0).mp hv) p l e R s m args below meth c QQ E hE C F H locs ls cells slots X) (fun hv => k.2.2 (fun q => hv ((cs_le k.1 cs_in0).mpr q)) p l e R s m args below meth c QQ E hE C F H locs ls cells slots X)
theorem cs_s_icmp {cd : ClassFile.Cond} {off : Int} {tgt : Nat} {x y : Int} (hd : decode (cs_cd mi) pc = .ok (.if_icmp cd off, 3)) (ht : (pc : Int) + off = (tgt : Int)) (k : cs_icm cd x y (cs_VP sc mi tgt loc st h o Q) (cs_VP sc mi (pc + 3) loc st h o Q)) : cs_VP sc mi pc loc (.inl y :: .inl x :: st) h o Q := by
  intro p l e R s m args below meth c QQ E hE C F H locs ls cells slots X
  cases cd with
  | eq =>
    refine lv_icmp_eq C.1 C.2.1 hd ht (fun hv => ?_) (fun hv => ?_)
    · by_cases h0 : x = y
      · exact k.1 h0 p l e R s m args below meth c QQ E hE C F H locs ls cells slots X
      · exact absurd ((cs_eq (k.2 h0).1.1 (k.2 h0).1.2).mp hv) h0
    · by_cases h0 : x = y
      · exact absurd (by rw [h0]) hv
      · exact (k.2 h0).2 p l e R s m args below meth c QQ E hE C F H locs ls cells slots X
  | ne =>
    refine lv_icmp_ne C.1 C.2.1 hd ht (fun hv => ?_) (fun hv => ?_)
    · by_cases h0 : x = y
      · exact absurd (by rw [h0]) hv
      · exact (k.1 h0).2 p l e R s m args below meth c QQ E hE C F H locs ls cells slots X
    · by_cases h0 : x = y
      · exact k.2 h0 p l e R s m args below meth c QQ E hE C F H locs ls cells slots X
      · exact absurd ((cs_eq (k.1 h0).1.1 (k.1 h0).1.2).mp hv) h0
  | lt =>
    refine lv_icmp_lt C.1 C.2.1 hd ht (fun hv => k.2.1 ((cs_lt k.1.1 k.1.2).mp hv) p l e R s m args below meth c QQ E hE C F H locs ls cells slots X) (fun hv => k.2.2 (fun q => hv ((cs_lt k.1.1 k.1.2).mpr q)) p l e R s m args below meth c QQ E hE C F H locs ls cells slots X)
  | ge =>
    refine lv_icmp_ge C.1 C.2.1 hd ht (fun hv => k.2.1 ((cs_le k.1.2 k.1.1).mp hv) p l e R s m args below meth c QQ E hE C F H locs ls cells slots X) (fun hv => k.2.2 (fun q => hv ((cs_le k.1.2 k.1.1).mpr q)) p l e R s m args below meth c QQ E hE C F H locs ls cells slots X)
  | gt =>
    refine lv_icmp_gt C.1 C.2.1 hd ht (fun hv => k.2.1 ((cs_lt k.1.2 k.1.1).mp hv) p l e R s m args below meth c QQ E hE C F H locs ls cells slots X) (fun hv => k.2.2 (fun q => hv ((cs_lt k.1.2 k.1.1).mpr q)) p l e R s m args below meth c QQ E hE C F H locs ls cells slots X)
  | le =>
    refine lv_icmp_le C.1 C.2.1 hd ht (fun hv => k.2.1 ((cs_le k.1.1 k.1.2).mp hv) p l e R s m args below meth c QQ E hE C F H locs ls cells slots X) (fun hv => k.2.2 (fun q => hv ((cs_le k.1.1 k.1.2).mpr q)) p l e R s m args below meth c QQ E hE C F H locs ls cells slots X)
theorem cs_s_tableOut {d lo hi : Int} {offs : Array Int} {len tgt : Nat} {v : Int} (hd : decode (cs_cd mi) pc = .ok (.tableswitch d lo hi offs, len)) (hv : cs_in v) (hh : v < lo ∨ hi < v) (ht : (pc : Int) + d = (tgt : Int)) (k : cs_VP sc mi tgt loc st h o Q) : cs_VP sc mi pc loc (.inl v :: st) h o Q := by
  intro p l e R s m args below meth c QQ E hE C F H locs ls cells slots X
  exact lv_tableOut C.1 C.2.1 hd (by rw [cs_toInt hv]; exact hh) ht (k p l e R s m args below meth c QQ E hE C F H locs ls cells slots X)
theorem cs_s_tableIn {d lo hi off : Int} {offs : Array Int} {len tgt : Nat} {v : Int} (hd : decode (cs_cd mi) pc = .ok (.tableswitch d lo hi offs, len)) (hv : cs_in v) (h1 : ¬ v < lo) (h2 : ¬ hi < v) (ho : offs[(v - lo).toNat]? = some off) (ht : (pc : Int) + off = (tgt : Int)) (k : cs_VP sc mi tgt loc st h o Q) : cs_VP sc mi pc loc (.inl v :: st) h o Q := by
  intro p l e R s m args below meth c QQ E hE C F H locs ls cells slots X
  exact lv_tableIn C.1 C.2.1 hd (by rw [cs_toInt hv]; exact h1) (by rw [cs_toInt hv]; exact h2) (by rw [cs_toInt hv]; exact ho) ht (k p l e R s m args below meth c QQ E hE C F H locs ls cells slots X)
theorem cs_s_lookup {d off : Int} {ps : Array (Int × Int)} {len tgt : Nat} {v : Int} (hd : decode (cs_cd mi) pc = .ok (.lookupswitch d ps, len)) (hv : cs_in v) (hp : (ps.toList.zip (ps.toList.drop 1)).all (fun (a, next) => a.1 < next.1) = true) (ho : Op.lookupswitch.offset ps.toList d v = off) (ht : (pc : Int) + off = (tgt : Int)) (k : cs_VP sc mi tgt loc st h o Q) : cs_VP sc mi pc loc (.inl v :: st) h o Q := by
  intro p l e R s m args below meth c QQ E hE C F H locs ls cells slots X
  exact lv_lookup C.1 C.2.1 hd hp (by rw [cs_toInt hv]; exact ho) ht (k p l e R s m args below meth c QQ E hE C F H locs ls cells slots X)
/-! the heap -/
def cs_ob (h : cs_H) (a ci k : Nat) : Prop := ∃ n, h.1[a]? = some (0, ci, n) ∧ k < n
def cs_ar (h : cs_H) (a kd t : Nat) (K : Nat → Prop) : Prop := ∃ n, h.1[a]? = some (kd, t, n) ∧ n ≤ 2147483648 ∧ K n
def cs_u2 {α : Type} (f : Nat → Nat → α) (a k : Nat) (v : α) : Nat → Nat → α := fun a' k' => if a' = a ∧ k' = k then v else f a' k'
theorem cs_fs_get {E : cs_E} {a ci n k : Nat} (hk : k < n) : ((List.range n).map (cs_fv E h a ci))[k]? = some (cs_fv E h a ci k) := by
  simp [List.getElem?_map, List.getElem?_range hk]
theorem cs_s_getI {idx a ci k wi : Nat} (hd : decode (cs_cd mi) pc = .ok (.getfield idx, 3)) (hw : cs_okF (cs_ow mi, idx, ci, k, wi) = true) (hr : cs_fr ci k = false) (hob : cs_ob h a ci k) (kk : cs_VP sc mi (pc + 3) loc (.inl (h.2.1 a k) :: st) h o Q) : cs_VP sc mi pc loc (cs_R a :: st) h o Q := by
  intro p l e R s m args below meth c QQ E hE C F H locs ls cells slots X
  obtain ⟨n, hs, hk⟩ := hob
  simp only [cs_okF] at hw
  cases hc : vwCl[ci]? with
  | none => rw [hc] at hw; cases hw
  | some r =>
    rw [hc] at hw
    simp only [Bool.and_eq_true, decide_eq_true_eq] at hw
    obtain ⟨C', T, N⟩ := r
    have hq := cs_cls hc
    have hfv : cs_fv E h a ci k = .int (Int32.ofInt (h.2.1 a k)) := by simp [cs_fv, hr]
    refine va_get (D := E.2.2.2.1) (ci := ci) C.1 C.2.1 C.2.2.2.2.2.1 hq.1 C.2.2.2.2.1 C.2.2.2.2.2.2.2.2.1.1 X.1.1 a (cs_ws_get hs) hc k hw.1 (C.2.2.2.2.2.1 _ (cs_mem hw.2 rfl)) (fun _ q => q) (cs_fs_get hk) hd ?_
    rw [hfv]
    exact kk p l e R s m args below meth c QQ E hE C F H locs ls cells slots X
theorem cs_s_getR {idx a ci k wi a' : Nat} (hd : decode (cs_cd mi) pc = .ok (.getfield idx, 3)) (hw : cs_okF (cs_ow mi, idx, ci, k, wi) = true) (hr : cs_fr ci k = true) (hob : cs_ob h a ci k) (ha : h.2.2 a k = some a') (kk : cs_VP sc mi (pc + 3) loc (cs_R a' :: st) h o Q) : cs_VP sc mi pc loc (cs_R a :: st) h o Q := by
  intro p l e R s m args below meth c QQ E hE C F H locs ls cells slots X
  obtain ⟨n, hs, hk⟩ := hob
  simp only [cs_okF] at hw
  cases hc : vwCl[ci]? with
  | none => rw [hc] at hw; cases hw
  | some r =>
    rw [hc] at hw
    simp only [Bool.and_eq_true, decide_eq_true_eq] at hw
    obtain ⟨C', T, N⟩ := r
    have hq := cs_cls hc
    have hfv : cs_fv E h a ci k = .ref (E.1 + a') := by simp [cs_fv, hr, ha, va_rf]
    refine va_get (D := E.2.2.2.1) (ci := ci) C.1 C.2.1 C.2.2.2.2.2.1 hq.1 C.2.2.2.2.1 C.2.2.2.2.2.2.2.2.1.1 X.1.1 a (cs_ws_get hs) hc k hw.1 (C.2.2.2.2.2.1 _ (cs_mem hw.2 rfl)) (fun _ q => q) (cs_fs_get hk) hd ?_
    rw [hfv]
    exact kk p l e R s m args below meth c QQ E hE C F H locs ls cells slots X
end
