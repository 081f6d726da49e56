/-! THE JUDGEMENT cs_VP: from pc of method mi, in every world that holds the abstract heap, the machine comes to where Q holds at a return. -/
/-- static arrays: j below 3 are fixed, 3 is the law's script -/
def cs_tc : Nat → Nat → Int := fun j k => match j, k with
  | 0, 0 => 6
  | 0, 1 => 2
  | 0, 2 => 4
  | 1, 0 => 1
  | 1, 1 => 1
  | 1, 2 => 0
  | 2, 0 => 20
  | 2, 1 => 6
  | 2, 2 => 20
  | _, _ => 0
def cs_tn (sc : Nat × (Nat → Int)) (j : Nat) : Nat := if j = 3 then sc.1 else 3
def cs_tv (sc : Nat × (Nat → Int)) (j k : Nat) : Int := if j = 3 then sc.2 k else cs_tc j k
abbrev cs_bs (E : cs_E) : Nat → Prop := fun q => E.1 ≤ q
def cs_aty (t : Nat) : FieldType := if t = 0 then .int else if t = 1 then .char else .object (cs_aC t)
def cs_tys (E : cs_E) : List (ClassId × FieldType) := (List.range cs_an).map (fun t => (E.2.1 t, cs_aty t))
theorem cs_tys_get (E : cs_E) {t : Nat} (h : t < cs_an) : (cs_tys E)[t]? = some (E.2.1 t, cs_aty t) := by
  simp [cs_tys, List.getElem?_map, List.getElem?_range h]
def cs_PP (E : cs_E) (h : cs_H) (H : Heap) : Prop := va_P E.2.2.2.1 vwCl (cs_ws E h) H ∧ H.size = E.1 + h.1.length
def cs_KK (E : cs_E) (U : State) : Prop := va_K E.2.2.2.1 vwCl (cs_tys E) U ∧ (∀ w ∈ cs_NW, va_Nw w U) ∧ (∀ t, 2 ≤ t → t < cs_an → va_AO (cs_aC t) U) ∧ (∀ j, j < 3 → va_Z cs_sC (cs_sn j) "[I" (.ref (E.2.2.1 j)) (cs_bs E) U U.heap) ∧ (∀ j, j < 4 → va_T .int (E.2.2.1 j) (cs_tn E.2.2.2.2 j) (fun k => .int (Int32.ofInt (cs_tv E.2.2.2.2 j k))) (cs_bs E) U U.heap) ∧ E.2.2.2.2.1 ≤ 2147483648
theorem cs_NW_form : ∀ w ∈ cs_NW, (∃ a i x h, w = .methodLinkNest a i x h) ∨ ∃ a i b n d h, w = .fieldLinkNest a i b n d h := by
  intro w hw
  simp only [cs_NW, List.mem_cons, List.not_mem_nil, or_false] at hw
  rcases hw with rfl | rfl | rfl | rfl | rfl | rfl | rfl | rfl <;> first | exact Or.inl ⟨_, _, _, _, rfl⟩ | exact Or.inr ⟨_, _, _, _, _, _, rfl⟩
theorem cs_KK_move {E : cs_E} {s U : State} (h : cs_KK E s) (hW : s.WarmedH U.vm) (hq : ∀ q : Nat, q < s.heap.size → ¬ cs_bs E q → U.heap[q]? = s.heap[q]?) : cs_KK E U := by
  obtain ⟨h1, h2, h3, h4, h5, h6⟩ := h
  refine ⟨va_K.moved hW.alike h1, fun w hw => ?_, fun t a b => (h3 t a b).moved hW.alike, fun j hj => (va_Z.moved hW.alike (h4 j hj)).kept hq, fun j hj => (va_T.moved hW.alike (h5 j hj)).kept hq, h6⟩
  have := h2 w hw
  rcases cs_NW_form w hw with ⟨a, i, x, y, rfl⟩ | ⟨a, i, b, n, d, y, rfl⟩
  · exact va_Nw.warmM hW this
  · exact va_Nw.warmF hW this
theorem cs_KK_same {E : cs_E} {s U : State} (h : cs_KK E s) (hv : s.vm = U.vm) (hq : U.heap = s.heap) : cs_KK E U := by
  obtain ⟨h1, h2, h3, h4, h5, h6⟩ := h
  have hA : s.vm.Alike U.vm := by rw [hv]; exact Vm.Alike.refl _
  have hk : ∀ q : Nat, q < s.heap.size → ¬ cs_bs E q → U.heap[q]? = s.heap[q]? := fun q _ _ => by rw [hq]
  refine ⟨va_K.moved hA h1, fun w hw => ?_, fun t a b => (h3 t a b).moved hA, fun j hj => (va_Z.moved hA (h4 j hj)).kept hk, fun j hj => (va_T.moved hA (h5 j hj)).kept hk, h6⟩
  have := h2 w hw
  rcases cs_NW_form w hw with ⟨a, i, x, y, rfl⟩ | ⟨a, i, b, n, d, y, rfl⟩
  · exact va_Nw.same rfl hv this
  · exact va_Nw.same rfl hv this
def cs_C (mi : Nat) (E : cs_E) (p : Program) (R : Room) (s : State) (m : MethodId) (args : Array Value) (meth : Method) (c : Code) : Prop :=
  p.tables.exec = Jvm.exec ∧ c.code = cs_cd mi ∧ c.maxLocals = cs_ml mi ∧ meth.sig.returnType = cs_rt mi ∧ s.vm.findClass (cs_cn (cs_ow mi)) = some m.cls ∧ (∀ w ∈ cs_G, w.before args s = true) ∧ meth.locks = false ∧ ((cs_y mi).name = "<init>" → meth.name = "<init>") ∧ cs_KK E s ∧ E.1 ≤ s.heap.size ∧ cs_fm mi ≤ R.frames ∧ cs_lo mi ≤ R.locals ∧ cs_mc mi ≤ R.cells ∧ cs_sl mi ≤ R.slots
def cs_X (mi : Nat) (E : cs_E) (o : Nat × Nat) (R : Room) (s : State) (h : cs_H) (loc : List cs_A) (H : Heap) (locs : List Loc) (ls : Array Slot) (cells slots : Nat) : Prop :=
  cs_PP E h H ∧ va_S (cs_bs E) s.heap H locs ∧ cs_L E ls (cs_ml mi) loc ∧ cells + o.1 = h.1.length ∧ slots + o.2 = cs_sz h.1 ∧ cells ≤ R.cells ∧ slots ≤ R.slots
/-- a return instruction that fits the answer -/
def cs_rok (mi pc : Nat) (v : Option cs_A) : Prop :=
  (v = none ∧ decode (cs_cd mi) pc = .ok (.return_, 1) ∧ cs_rt mi = none) ∨ (∃ x ty, v = some (.inl x) ∧ decode (cs_cd mi) pc = .ok (.ireturn, 1) ∧ cs_rt mi = some ty ∧ narrow ty (.int (Int32.ofInt x)) = .int (Int32.ofInt x)) ∨ ∃ w ty, v = some w ∧ (w = cs_Z ∨ ∃ a, w = cs_R a) ∧ decode (cs_cd mi) pc = .ok (.areturn, 1) ∧ cs_rt mi = some ty ∧ ((∃ n, ty = .object n) ∨ ∃ t, ty = .array t)
def cs_F (mi : Nat) (p : Program) (l : Launch) (e : Env) (R : Room) (s : State) (m : MethodId) (args : Array Value) (below : List Frame) (meth : Method) (c : Code) (QQ : State → Prop) (E : cs_E) (o : Nat × Nat) (Q : Option cs_A → cs_H → Prop) : Prop :=
  ∀ (v : Option cs_A) (h : cs_H) (H : Heap) (locs : List Loc) (ls : Array Slot) (pc cells slots : Nat), Q v h → cs_rok mi pc v → cs_PP E h H → va_S (cs_bs E) s.heap H locs → cells + o.1 = h.1.length → slots + o.2 = cs_sz h.1 → cells ≤ R.cells → slots ≤ R.slots →
    W p l e R s m args below meth c H locs cells slots QQ (F0 m pc ls (v.toList.map (cs_rv E)))
def cs_VP (sc : Nat × (Nat → Int)) (mi pc : Nat) (loc st : List cs_A) (h : cs_H) (o : Nat × Nat) (Q : Option cs_A → cs_H → Prop) : Prop :=
  ∀ (p : Program) (l : Launch) (e : Env) (R : Room) (s : State) (m : MethodId) (args : Array Value) (below : List Frame) (meth : Method) (c : Code) (QQ : State → Prop) (E : cs_E), E.2.2.2.2 = sc → cs_C mi E p R s m args meth c → cs_F mi p l e R s m args below meth c QQ E o Q →
    ∀ (H : Heap) (locs : List Loc) (ls : Array Slot) (cells slots : Nat), cs_X mi E o R s h loc H locs ls cells slots → W p l e R s m args below meth c H locs cells slots QQ (F0 m pc ls (st.map (cs_rv E)))
section
variable {sc : Nat × (Nat → Int)} {mi pc : Nat} {loc st : List cs_A} {h : cs_H} {o : Nat × Nat} {Q : Option cs_A → cs_H → Prop}
theorem cs_s_iconst {n : Int} (hd : decode (cs_cd mi) pc = .ok (.iconst n, 1)) (k : cs_VP sc mi (pc + 1) loc (.inl n :: st) h o Q) : cs_VP sc mi pc loc st h o Q := by
  intro p l e R s m args below meth c QQ E hE C F H locs ls cells slots X
  exact lv_iconst C.1 C.2.1 hd rfl (k p l e R s m args below meth c QQ E hE C F H locs ls cells slots X)
theorem cs_s_bipush {n : Int} (hd : decode (cs_cd mi) pc = .ok (.bipush n, 2)) (hn : (Int8.ofInt n).toInt32 = Int32.ofInt n) (k : cs_VP sc mi (pc + 2) loc (.inl n :: st) h o Q) : cs_VP sc mi pc loc st h o Q := by
  intro p l e R s m args below meth c QQ E hE C F H locs ls cells slots X
  exact lv_bipush C.1 C.2.1 hd hn (k p l e R s m args below meth c QQ E hE C F H locs ls cells slots X)
theorem cs_s_sipush {n : Int} (hd : decode (cs_cd mi) pc = .ok (.sipush n, 3)) (hn : (Int16.ofInt n).toInt32 = Int32.ofInt n) (k : cs_VP sc mi (pc + 3) loc (.inl n :: st) h o Q) : cs_VP sc mi pc loc st h o Q := by
  intro p l e R s m args below meth c QQ E hE C F H locs ls cells slots X
  exact lv_sipush C.1 C.2.1 hd hn (k p l e R s m args below meth c QQ E hE C F H locs ls cells slots X)
theorem cs_s_ldc {i n : Nat} (hd : decode (cs_cd mi) pc = .ok (.ldc i, 2)) (hn : Cond.constant (cs_cn (cs_ow mi)) i (Int32.ofInt (n : Int)) ∈ cs_G) (k : cs_VP sc mi (pc + 2) loc (.inl (n : Int) :: st) h o Q) : cs_VP sc mi pc loc st h o Q := by
  intro p l e R s m args below meth c QQ E hE C F H locs ls cells slots X
  exact lv_ldc C.1 C.2.1 C.2.2.2.2.1 (C.2.2.2.2.2.1 _ hn) hd (k p l e R s m args below meth c QQ E hE C F H locs ls cells slots X)
theorem cs_s_iload_n {q : Fin 4} {i : Nat} {x : Int} (hd : decode (cs_cd mi) pc = .ok (.iload_n q, 1)) (hi : (q : Nat) = i) (hv : loc[i]? = some (.inl x)) (k : cs_VP sc mi (pc + 1) loc (.inl x :: st) h o Q) : cs_VP sc mi pc loc st h o Q := by
  intro p l e R s m args below meth c QQ E hE C F H locs ls cells slots X
  exact lv_iload_n C.1 C.2.1 hd hi (cs_L_get X.2.2.1 hv (by simp)) (k p l e R s m args below meth c QQ E hE C F H locs ls cells slots X)
theorem cs_s_iload {i : Nat} {x : Int} (hd : decode (cs_cd mi) pc = .ok (.iload i, 2)) (hv : loc[i]? = some (.inl x)) (k : cs_VP sc mi (pc + 2) loc (.inl x :: st) h o Q) : cs_VP sc mi pc loc st h o Q := by
  intro p l e R s m args below meth c QQ E hE C F H locs ls cells slots X
  exact lv_iload C.1 C.2.1 hd (cs_L_get X.2.2.1 hv (by simp)) (k p l e R s m args below meth c QQ E hE C F H locs ls cells slots X)
theorem cs_s_aload_n {q : Fin 4} {i a : Nat} (hd : decode (cs_cd mi) pc = .ok (.aload_n q, 1)) (hi : (q : Nat) = i) (hv : loc[i]? = some (cs_R a)) (k : cs_VP sc mi (pc + 1) loc (cs_R a :: st) h o Q) : cs_VP sc mi pc loc st h o Q := by
  intro p l e R s m args below meth c QQ E hE C F H locs ls cells slots X
  exact lv_aload_n C.1 C.2.1 hd hi (cs_L_get X.2.2.1 hv (by simp)) (k p l e R s m args below meth c QQ E hE C F H locs ls cells slots X)
section
variable {p : Program} {l : Launch} {e : Env} {R : Room} {s : State} {m : MethodId} {args : Array Value} {below : List Frame} {meth : Method} {c : Code} {H : Heap} {locs : List Loc} {cells slots : Nat} {QQ : State → Prop} {cc : ByteArray} {pc : Nat} {ls : Array Slot} {rest : List Value}
theorem cs_lv_aloadNn (hexec : p.tables.exec = Jvm.exec) (hb : c.code = cc) {q : Fin 4} {i : Nat} (hdg : decode cc pc = .ok (.aload_n q, 1)) (hi : (q : Nat) = i) (hl : ls[i]? = some (.val .null))
    (k : W p l e R s m args below meth c H locs cells slots QQ (F0 m (pc + 1) ls (.null :: rest))) : W p l e R s m args below meth c H locs cells slots QQ (F0 m pc ls rest) := by
  subst hi
  intro T hT X
  obtain ⟨t, a, b⟩ := k T hT X
  refine ⟨t, ?_, b⟩
  jvm_step X.here [X.here.top, hexec, hb, hdg, hl, Value.isRef]
  exact a
theorem cs_lv_aloadN (hexec : p.tables.exec = Jvm.exec) (hb : c.code = cc) {i : Nat} (hdg : decode cc pc = .ok (.aload i, 2)) (hl : ls[i]? = some (.val .null))
    (k : W p l e R s m args below meth c H locs cells slots QQ (F0 m (pc + 2) ls (.null :: rest))) : W p l e R s m args below meth c H locs cells slots QQ (F0 m pc ls rest) := by
  intro T hT X
  obtain ⟨t, a, b⟩ := k T hT X
  refine ⟨t, ?_, b⟩
  jvm_step X.here [X.here.top, hexec, hb, hdg, hl, Value.isRef]
  exact a
theorem cs_lv_astoreNn (hexec : p.tables.exec = Jvm.exec) (hb : c.code = cc) {q : Fin 4} {i nL : Nat} {lv : List (Nat × Value)} (hdg : decode cc pc = .ok (.astore_n q, 1)) (hi : (q : Nat) = i) (h : lv_has ls nL lv) (hn : i < nL)
    (kk : ∀ ls' : Array Slot, lv_has ls' nL ((i, Value.null) :: lv.filter (fun q => !(q.1 == i) && !(q.1 + 1 == i && q.2.category == 2))) → W p l e R s m args below meth c H locs cells slots QQ (F0 m (pc + 1) ls' rest)) : W p l e R s m args below meth c H locs cells slots QQ (F0 m pc ls (.null :: rest)) := by
  subst hi
  obtain ⟨ls', e', h'⟩ := lv_store1 (v := .null) h hn rfl
  intro T hT X
  obtain ⟨t, a, b⟩ := kk ls' h' T hT X
  refine ⟨t, ?_, b⟩
  jvm_step X.here [X.here.top, ↓top_set X.here.top, hexec, hb, hdg, e', Value.isRef]
  exact a
theorem cs_lv_astoreN (hexec : p.tables.exec = Jvm.exec) (hb : c.code = cc) {i nL : Nat} {lv : List (Nat × Value)} (hdg : decode cc pc = .ok (.astore i, 2)) (h : lv_has ls nL lv) (hn : i < nL)
    (kk : ∀ ls' : Array Slot, lv_has ls' nL ((i, Value.null) :: lv.filter (fun q => !(q.1 == i) && !(q.1 + 1 == i && q.2.category == 2))) → W p l e R s m args below meth c H locs cells slots QQ (F0 m (pc + 2) ls' rest)) : W p l e R s m args below meth c H locs cells slots QQ (F0 m pc ls (.null :: rest)) := by
  obtain ⟨ls', e', h'⟩ := lv_store1 (v := .null) h hn rfl
  intro T hT X
  obtain ⟨t, a, b⟩ := kk ls' h' T hT X
  refine ⟨t, ?_, b⟩
  jvm_step X.here [X.here.top, ↓top_set X.here.top, hexec, hb, hdg, e', Value.isRef]
  exact a
end
theorem cs_s_aload_nT {q : Fin 4} {i a : Nat} (hd : decode (cs_cd mi) pc = .ok (.aload_n q, 1)) (hi : (q : Nat) = i) (hv : loc[i]? = some (cs_T a)) (k : cs_VP sc mi (pc + 1) loc (cs_T a :: st) h o Q) : cs_VP sc mi pc loc st h o Q := by
  intro p l e R s m args below meth c QQ E hE C F H locs ls cells slots X
  have h1 := cs_L_get X.2.2.1 hv (by simp)
  have h2 := k p l e R s m args below meth c QQ E hE C F H locs ls cells slots X
  rw [List.map_cons] at h2
  by_cases ha : a = 9
  · subst ha
    exact cs_lv_aloadNn C.1 C.2.1 hd hi h1 h2
  · rw [cs_rv_T ha] at h1 h2
    exact lv_aload_n C.1 C.2.1 hd hi h1 h2
theorem cs_s_aloadT {i a : Nat} (hd : decode (cs_cd mi) pc = .ok (.aload i, 2)) (hv : loc[i]? = some (cs_T a)) (k : cs_VP sc mi (pc + 2) loc (cs_T a :: st) h o Q) : cs_VP sc mi pc loc st h o Q := by
  intro p l e R s m args below meth c QQ E hE C F H locs ls cells slots X
  have h1 := cs_L_get X.2.2.1 hv (by simp)
  have h2 := k p l e R s m args below meth c QQ E hE C F H locs ls cells slots X
  rw [List.map_cons] at h2
  by_cases ha : a = 9
  · subst ha
    exact cs_lv_aloadN C.1 C.2.1 hd h1 h2
  · rw [cs_rv_T ha] at h1 h2
    exact lv_aload C.1 C.2.1 hd h1 h2
theorem cs_s_astore_nZ {q : Fin 4} {i : Nat} (hd : decode (cs_cd mi) pc = .ok (.astore_n q, 1)) (hi : (q : Nat) = i) (hn : i < cs_ml mi) (k : cs_VP sc mi (pc + 1) (loc.set i cs_Z) st h o Q) : cs_VP sc mi pc loc (cs_Z :: st) h o Q := by
  intro p l e R s m args below meth c QQ E hE C F H locs ls cells slots X
  exact cs_lv_astoreNn C.1 C.2.1 hd hi X.2.2.1 hn (fun ls' h' => k p l e R s m args below meth c QQ E hE C F H locs ls' cells slots ⟨X.1, X.2.1, cs_L_set (v := cs_Z) h', X.2.2.2⟩)
theorem cs_s_astoreZ {i : Nat} (hd : decode (cs_cd mi) pc = .ok (.astore i, 2)) (hn : i < cs_ml mi) (k : cs_VP sc mi (pc + 2) (loc.set i cs_Z) st h o Q) : cs_VP sc mi pc loc (cs_Z :: st) h o Q := by
  intro p l e R s m args below meth c QQ E hE C F H locs ls cells slots X
  exact cs_lv_astoreN C.1 C.2.1 hd X.2.2.1 hn (fun ls' h' => k p l e R s m args below meth c QQ E hE C F H locs ls' cells slots ⟨X.1, X.2.1, cs_L_set (v := cs_Z) h', X.2.2.2⟩)
theorem cs_s_null (hd : decode (cs_cd mi) pc = .ok (.aconst_null, 1)) (k : cs_VP sc mi (pc + 1) loc (cs_Z :: st) h o Q) : cs_VP sc mi pc loc st h o Q := by
  intro p l e R s m args below meth c QQ E hE C F H locs ls cells slots X
  exact lv_null C.1 C.2.1 hd (k p l e R s m args below meth c QQ E hE C F H locs ls cells slots X)
theorem cs_s_ifnullR {off : Int} {a : Nat} (hd : decode (cs_cd mi) pc = .ok (.ifnull off, 3)) (k : cs_VP sc mi (pc + 3) loc st h o Q) : cs_VP sc mi pc loc (cs_R a :: st) h o Q := by
  intro p l e R s m args below meth c QQ E hE C F H locs ls cells slots X
  exact lv_ifnull C.1 C.2.1 hd (k p l e R s m args below meth c QQ E hE C F H locs ls cells slots X)
theorem cs_s_ifnullZ {off : Int} {tgt : Nat} (hd : decode (cs_cd mi) pc = .ok (.ifnull off, 3)) (ht : (pc : Int) + off = (tgt : Int)) (k : cs_VP sc mi tgt loc st h o Q) : cs_VP sc mi pc loc (cs_Z :: st) h o Q := by
  intro p l e R s m args below meth c QQ E hE C F H locs ls cells slots X
  exact lv_ifnullN C.1 C.2.1 hd ht (k p l e R s m args below meth c QQ E hE C F H locs ls cells slots X)
theorem cs_s_ifnonnullR {off : Int} {a tgt : Nat} (hd : decode (cs_cd mi) pc = .ok (.ifnonnull off, 3)) (ht : (pc : Int) + off = (tgt : Int)) (k : cs_VP sc mi tgt loc st h o Q) : cs_VP sc mi pc loc (cs_R a :: st) h o Q := by
  intro p l e R s m args below meth c QQ E hE C F H locs ls cells slots X
  exact lv_ifnonnull C.1 C.2.1 hd ht (k p l e R s m args below meth c QQ E hE C F H locs ls cells slots X)
theorem cs_s_ifnonnullZ {off : Int} (hd : decode (cs_cd mi) pc = .ok (.ifnonnull off, 3)) (k : cs_VP sc mi (pc + 3) loc st h o Q) : cs_VP sc mi pc loc (cs_Z :: st) h o Q := by
  intro p l e R s m args below meth c QQ E hE C F H locs ls cells slots X
  exact lv_ifnonnullN C.1 C.2.1 hd (k p l e R s m args below meth c QQ E hE C F H locs ls cells slots X)
theorem cs_s_aload {i a : Nat} (hd : decode (cs_cd mi) pc = .ok (.aload i, 2)) (hv : loc[i]? = some (cs_R a)) (k : cs_VP sc mi (pc + 2) loc (cs_R a :: st) h o Q) : cs_VP sc mi pc loc st h o Q := by
  intro p l e R s m args below meth c QQ E hE C F H locs ls cells slots X
  exact lv_aload C.1 C.2.1 hd (cs_L_get X.2.2.1 hv (by simp)) (k p l e R s m args below meth c QQ E hE C F H locs ls cells slots X)
theorem cs_s_istore_n {q : Fin 4} {i : Nat} {x : Int} (hd : decode (cs_cd mi) pc = .ok (.istore_n q, 1)) (hi : (q : Nat) = i) (hn : i < cs_ml mi) (k : cs_VP sc mi (pc + 1) (loc.set i (.inl x)) st h o Q) : cs_VP sc mi pc loc (.inl x :: st) h o Q := by
  intro p l e R s m args below meth c QQ E hE C F H locs ls cells slots X
  exact lv_istore_n C.1 C.2.1 hd hi X.2.2.1 hn rfl (fun ls' h' => k p l e R s m args below meth c QQ E hE C F H locs ls' cells slots ⟨X.1, X.2.1, cs_L_set (v := .inl x) h', X.2.2.2⟩)
theorem cs_s_istore {i : Nat} {x : Int} (hd : decode (cs_cd mi) pc = .ok (.istore i, 2)) (hn : i < cs_ml mi) (k : cs_VP sc mi (pc + 2) (loc.set i (.inl x)) st h o Q) : cs_VP sc mi pc loc (.inl x :: st) h o Q := by
  intro p l e R s m args below meth c QQ E hE C F H locs ls cells slots X
  exact lv_istore C.1 C.2.1 hd X.2.2.1 hn rfl (fun ls' h' => k p l e R s m args below meth c QQ E hE C F H locs ls' cells slots ⟨X.1, X.2.1, cs_L_set (v := .inl x) h', X.2.2.2⟩)
theorem cs_s_astore_n {q : Fin 4} {i a : Nat} (hd : decode (cs_cd mi) pc = .ok (.astore_n q, 1)) (hi : (q : Nat) = i) (hn : i < cs_ml mi) (k : cs_VP sc mi (pc + 1) (loc.set i (cs_R a)) st h o Q) : cs_VP sc mi pc loc (cs_R a :: st) h o Q := by
  intro p l e R s m args below meth c QQ E hE C F H locs ls cells slots X
  exact lv_astore_n C.1 C.2.1 hd hi X.2.2.1 hn rfl (fun ls' h' => k p l e R s m args below meth c QQ E hE C F H locs ls' cells slots ⟨X.1, X.2.1, cs_L_set (v := cs_R a) h', X.2.2.2⟩)
theorem cs_s_astore {i a : Nat} (hd : decode (cs_cd mi) pc = .ok (.astore i, 2)) (hn : i < cs_ml mi) (k : cs_VP sc mi (pc + 2) (loc.set i (cs_R a)) st h o Q) : cs_VP sc mi pc loc (cs_R a :: st) h o Q := by
  intro p l e R s m args below meth c QQ E hE C F H locs ls cells slots X
  exact lv_astore C.1 C.2.1 hd X.2.2.1 hn rfl (fun ls' h' => k p l e R s m args below meth c QQ E hE C F H locs ls' cells slots ⟨X.1, X.2.1, cs_L_set (v := cs_R a) h', X.2.2.2⟩)
theorem cs_s_iinc {i : Nat} {n x : Int} (hd : decode (cs_cd mi) pc = .ok (.iinc i n, 3)) (hn : i < cs_ml mi) (hv : loc[i]? = some (.inl x)) (k : cs_VP sc mi (pc + 3) (loc.set i (.inl (x + n))) st h o Q) : cs_VP sc mi pc loc st h o Q := by
  intro p l e R s m args below meth c QQ E hE C F H locs ls cells slots X
  obtain ⟨j, hj⟩ := List.getElem?_of_mem ((cs_lp_mem E loc 0 (i, cs_rv E (.inl x))).mpr ⟨i, .inl x, hv, by simp, by simp⟩)
  exact lv_iinc C.1 C.2.1 hd X.2.2.1 hj (v := Int32.ofInt (x + n)) (by rw [Int32.ofInt_add]) hn rfl (fun ls' h' => k p l e R s m args below meth c QQ E hE C F H locs ls' cells slots ⟨X.1, X.2.1, cs_L_set (v := .inl (x + n)) h', X.2.2.2⟩)
theorem cs_s_iadd {x y : Int} (hd : decode (cs_cd mi) pc = .ok (.iadd, 1)) (k : cs_VP sc mi (pc + 1) loc (.inl (x + y) :: st) h o Q) : cs_VP sc mi pc loc (.inl y :: .inl x :: st) h o Q := by
  intro p l e R s m args below meth c QQ E hE C F H locs ls cells slots X
  refine lv_iadd C.1 C.2.1 hd ?_
  rw [← Int32.ofInt_add]
  exact k p l e R s m args below meth c QQ E hE C F H locs ls cells slots X
theorem cs_s_isub {x y : Int} (hd : decode (cs_cd mi) pc = .ok (.isub, 1)) (k : cs_VP sc mi (pc + 1) loc (.inl (x - y) :: st) h o Q) : cs_VP sc mi pc loc (.inl y :: .inl x :: st) h o Q := by
  intro p l e R s m args below meth c QQ E hE C F H locs ls cells slots X
  refine lv_isub C.1 C.2.1 hd ?_
  rw [← Int32.ofInt_sub]
  exact k p l e R s m args below meth c QQ E hE C F H locs ls cells slots X
theorem cs_s_imul {x y : Int} (hd : decode (cs_cd mi) pc = .ok (.imul, 1)) (k : cs_VP sc mi (pc + 1) loc (.inl (x * y) :: st) h o Q) : cs_VP sc mi pc loc (.inl y :: .inl x :: st) h o Q := by
  intro p l e R s m args below meth c QQ E hE C F H locs ls cells slots X
  refine lv_imul C.1 C.2.1 hd ?_
  rw [← Int32.ofInt_mul]
  exact k p l e R s m args below meth c QQ E hE C F H locs ls cells slots X
theorem cs_s_iand {x y : Int} (hd : decode (cs_cd mi) pc = .ok (.iand, 1)) (k : cs_VP sc mi (pc + 1) loc (.inl (cs_and x y) :: st) h o Q) : cs_VP sc mi pc loc (.inl y :: .inl x :: st) h o Q := by
  intro p l e R s m args below meth c QQ E hE C F H locs ls cells slots X
  refine lv_iand C.1 C.2.1 hd ?_
  have := k p l e R s m args below meth c QQ E hE C F H locs ls cells slots X
  simp only [List.map_cons, cs_rv, cs_and, cs_ofToInt] at this ⊢
  exact this
theorem cs_s_ior {x y : Int} (hd : decode (cs_cd mi) pc = .ok (.ior, 1)) (k : cs_VP sc mi (pc + 1) loc (.inl (cs_or x y) :: st) h o Q) : cs_VP sc mi pc loc (.inl y :: .inl x :: st) h o Q := by
  intro p l e R s m args below meth c QQ E hE C F H locs ls cells slots X
  refine lv_ior C.1 C.2.1 hd ?_
  have := k p l e R s m args below meth c QQ E hE C F H locs ls cells slots X
  simp only [List.map_cons, cs_rv, cs_or, cs_ofToInt] at this ⊢
  exact this
theorem cs_s_ishl {x y : Int} (hd : decode (cs_cd mi) pc = .ok (.ishl, 1)) (k : cs_VP sc mi (pc + 1) loc (.inl (cs_shl x y) :: st) h o Q) : cs_VP sc mi pc loc (.inl y :: .inl x :: st) h o Q := by
  intro p l e R s m args below meth c QQ E hE C F H locs ls cells slots X
  refine lv_ishl C.1 C.2.1 hd ?_
  have := k p l e R s m args below meth c QQ E hE C F H locs ls cells slots X
  simp only [List.map_cons, cs_rv, cs_shl, cs_ofToInt] at this ⊢
  exact this
theorem cs_s_ishr {x y : Int} (hd : decode (cs_cd mi) pc = .ok (.ishr, 1)) (k : cs_VP sc mi (pc + 1) loc (.inl (cs_shr x y) :: st) h o Q) : cs_VP sc mi pc loc (.inl y :: .inl x :: st) h o Q := by
  intro p l e R s m args below meth c QQ E hE C F H locs ls cells slots X
  refine lv_ishr C.1 C.2.1 hd ?_
  have := k p l e R s m args below meth c QQ E hE C F H locs ls cells slots X
  simp only [List.map_cons, cs_rv, cs_shr, cs_ofToInt] at this ⊢
  exact this
theorem cs_s_idiv {x y : Int} (hd : decode (cs_cd mi) pc = .ok (.idiv, 1)) (hx : 0 ≤ x ∧ x < 2147483648) (hy : 0 < y ∧ y < 2147483648) (k : cs_VP sc mi (pc + 1) loc (.inl (x / y) :: st) h o Q) : cs_VP sc mi pc loc (.inl y :: .inl x :: st) h o Q := by
  intro p l e R s m args below meth c QQ E hE C F H locs ls cells slots X
  have hne : ¬ Int32.ofInt y = 0 := fun q => by have := (cs_eq (x := y) (y := 0) ⟨by omega, by omega⟩ ⟨by decide, by decide⟩).mp q; omega
  refine lv_idiv C.1 C.2.1 hd hne ?_
  rw [cs_div32 hx hy]
  exact k p l e R s m args below meth c QQ E hE C F H locs ls cells slots X
theorem cs_s_irem {x y : Int} (hd : decode (cs_cd mi) pc = .ok (.irem, 1)) (hx : 0 ≤ x ∧ x < 2147483648) (hy : 0 < y ∧ y < 2147483648) (k : cs_VP sc mi (pc + 1) loc (.inl (x % y) :: st) h o Q) : cs_VP sc mi pc loc (.inl y :: .inl x :: st) h o Q := by
  intro p l e R s m args below meth c QQ E hE C F H locs ls cells slots X
  have hne : ¬ Int32.ofInt y = 0 := fun q => by have := (cs_eq (x := y) (y := 0) ⟨by omega, by omega⟩ ⟨by decide, by decide⟩).mp q; omega
  refine lv_irem C.1 C.2.1 hd hne ?_
  rw [cs_rem32 hx hy]
  exact k p l e R s m args below meth c QQ E hE C F H locs ls cells slots X
theorem cs_s_i2c {x : Int} (hd : decode (cs_cd mi) pc = .ok (.i2c, 1)) (k : cs_VP sc mi (pc + 1) loc (.inl (x % 65536) :: st) h o Q) : cs_VP sc mi pc loc (.inl x :: st) h o Q := by
  intro p l e R s m args below meth c QQ E hE C F H locs ls cells slots X
  exact lv_i2c C.1 C.2.1 hd cs_i2c (k p l e R s m args below meth c QQ E hE C F H locs ls cells slots X)
theorem cs_s_dup {a : cs_A} (hd : decode (cs_cd mi) pc = .ok (.dup, 1)) (k : cs_VP sc mi (pc + 1) loc (a :: a :: st) h o Q) : cs_VP sc mi pc loc (a :: st) h o Q := by
  intro p l e R s m args below meth c QQ E hE C F H locs ls cells slots X
  exact lv_dup C.1 C.2.1 hd (cs_rv_cat E a) (k p l e R s m args below meth c QQ E hE C F H locs ls cells slots X)
theorem cs_s_pop {a : cs_A} (hd : decode (cs_cd mi) pc = .ok (.pop, 1)) (k : cs_VP sc mi (pc + 1) loc st h o Q) : cs_VP sc mi pc loc (a :: st) h o Q := by
  intro p l e R s m args below meth c QQ E hE C F H locs ls cells slots X
  exact lv_pop C.1 C.2.1 hd (cs_rv_cat E a) (k p l e R s m args below meth c QQ E hE C F H locs ls cells slots X)
theorem cs_s_dup2 {a b : cs_A} (hd : decode (cs_cd mi) pc = .ok (.dup2, 1)) (k : cs_VP sc mi (pc + 1) loc (b :: a :: b :: a :: st) h o Q) : cs_VP sc mi pc loc (b :: a :: st) h o Q := by
  intro p l e R s m args below meth c QQ E hE C F H locs ls cells slots X
  exact lv_dup2_11 C.1 C.2.1 hd (cs_rv_cat E _) (cs_rv_cat E _) (k p l e R s m args below meth c QQ E hE C F H locs ls cells slots X)
theorem cs_s_goto {off : Int} {tgt : Nat} (hd : decode (cs_cd mi) pc = .ok (.goto off, 3)) (ht : (pc : Int) + off = (tgt : Int)) (k : cs_VP sc mi tgt loc st h o Q) : cs_VP sc mi pc loc st h o Q := by
  intro p l e R s m args below meth c QQ E hE C F H locs ls cells slots X
  exact lv_goto C.1 C.2.1 hd ht (k p l e R s m args below meth c QQ E hE C F H locs ls cells slots X)
end
