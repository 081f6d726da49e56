/-! FACTS OF THE TABLES, decided by the kernel once. -/
def cs_G : List Cond := lw_tbl.filter goodWord
def cs_at (n : Nat) (w : Cond) : Bool := decide (lw_tbl[n]? = some w)
theorem cs_mem {n : Nat} {w : Cond} (h : cs_at n w = true) (hg : goodWord w = true) : w ∈ cs_G :=
  List.mem_filter.mpr ⟨List.mem_of_getElem? (of_decide_eq_true h), hg⟩
abbrev cs_m (i : Nat) : cs_MI := cs_ms.getD i cs_d
def cs_y (i : Nat) : MethodName := (cs_m i).1
def cs_cd (i : Nat) : ByteArray := (cs_m i).2.1
def cs_ml (i : Nat) : Nat := (cs_m i).2.2.1
def cs_rt (i : Nat) : Option FieldType := (cs_m i).2.2.2.1
def cs_ow (i : Nat) : Nat := (cs_m i).2.2.2.2.1
def cs_na (i : Nat) : Nat := (cs_m i).2.2.2.2.2.1
def cs_fm (i : Nat) : Nat := (cs_m i).2.2.2.2.2.2.1
def cs_lo (i : Nat) : Nat := (cs_m i).2.2.2.2.2.2.2.1
def cs_mc (i : Nat) : Nat := (cs_m i).2.2.2.2.2.2.2.2.1
def cs_sl (i : Nat) : Nat := (cs_m i).2.2.2.2.2.2.2.2.2
def cs_rm (i : Nat) : Room := { frames := cs_fm i, cells := cs_mc i, slots := cs_sl i, locals := cs_lo i }
def cs_wd (i : Nat) : List Cond := .code (cs_y i) (cs_cd i) (cs_ml i) (cs_rt i) :: cs_G
def cs_okM (i : Nat) : Bool := plainName (cs_y i).cls && decide ((cs_y i).cls ≠ "java/lang/invoke/MethodHandle" ∧ (cs_y i).cls ≠ "java/lang/invoke/VarHandle" ∧ (parseMethodDescriptor (cs_y i).desc).map (fun d => d.parameters.length) = some (cs_na i)) && decide ((cs_y i).cls = cs_cn (cs_ow i))
set_option maxRecDepth 100000 in
theorem cs_tM : (List.range (cs_ms.length - 1)).all cs_okM = true := by decide +kernel
theorem cs_goodC {i : Nat} (hi : i < cs_ms.length - 1) : cs_okM i = true := List.all_eq_true.mp cs_tM i (List.mem_range.mpr hi)
set_option maxRecDepth 100000 in
theorem cs_tW : (cs_ms.take (cs_ms.length - 1)).map (fun q => Cond.code q.1 q.2.1 q.2.2.1 q.2.2.2.1) = (cs_cw.take (cs_ms.length - 1)).filterMap (fun i => lw_tbl[i]?) := rfl
theorem cs_codeIn {i : Nat} (hi : i < cs_ms.length - 1) : Cond.code (cs_y i) (cs_cd i) (cs_ml i) (cs_rt i) ∈ cs_G := by
  have h1 : (cs_ms.take (cs_ms.length - 1))[i]? = some (cs_m i) := by
    rw [List.getElem?_take_of_lt hi]
    simp only [cs_m, List.getD_eq_getElem?_getD]
    rw [List.getElem?_eq_getElem (by omega)]
    rfl
  have h2 : Cond.code (cs_y i) (cs_cd i) (cs_ml i) (cs_rt i) ∈ (cs_ms.take (cs_ms.length - 1)).map (fun q => Cond.code q.1 q.2.1 q.2.2.1 q.2.2.2.1) := List.mem_map.mpr ⟨cs_m i, List.mem_of_getElem? h1, rfl⟩
  rw [cs_tW] at h2
  obtain ⟨j, -, hj⟩ := List.mem_filterMap.mp h2
  exact List.mem_filter.mpr ⟨List.mem_of_getElem? hj, rfl⟩
theorem cs_goodG : ∀ w ∈ cs_G, w ∈ cs_G ∧ ((w.onTables && w.keeps) = true ∨ ∃ ty, w = .arrayClass ty) := fun w hw => ⟨hw, good_of_word (List.mem_filter.mp hw).2⟩
theorem cs_goodIn {i : Nat} (hi : i < cs_ms.length - 1) : GoodIn cs_G (cs_wd i) := by
  intro w hw
  rcases List.mem_cons.mp hw with rfl | hw
  · exact cs_goodG _ (cs_codeIn hi)
  · exact cs_goodG _ hw
def cs_okF (e : Nat × Nat × Nat × Nat × Nat) : Bool := match vwCl[e.2.2.1]? with
  | none => false
  | some r => decide (e.2.2.2.1 < r.2.2) && cs_at e.2.2.2.2 (.fieldLink (cs_cn e.1) e.2.1 (r.2.1 e.2.2.2.1).1 (r.2.1 e.2.2.2.1).2.1 (r.2.1 e.2.2.2.1).2.2.1)
set_option maxRecDepth 100000 in
theorem cs_tF : cs_Rf.all cs_okF = true := by decide +kernel
def cs_ft (r : vw_C) (k : Nat) : FieldType := (parseFieldDescriptor (r.2.1 k).2.2.1).getD .int
def cs_okC (r : vw_C) : Bool := (u_ws r.1 r.2.1 r.2.2).all (fun w => decide (w ∈ lw_tbl) && goodWord w) && (List.range r.2.2).all (fun k => (parseFieldDescriptor (r.2.1 k).2.2.1).isSome) && (List.range r.2.2).all (fun a => (List.range r.2.2).all (fun b => a == b || decide ((r.2.1 a).2.1 ≠ (r.2.1 b).2.1)))
set_option maxRecDepth 100000 in
theorem cs_tC : vwCl.all cs_okC = true := by decide +kernel
theorem cs_cls {ci : Nat} {r : vw_C} (h : vwCl[ci]? = some r) : (∀ w ∈ u_ws r.1 r.2.1 r.2.2, w ∈ cs_G) ∧ (∀ k, k < r.2.2 → parseFieldDescriptor (r.2.1 k).2.2.1 = some (cs_ft r k)) ∧ (∀ a, a < r.2.2 → ∀ b, b < r.2.2 → a ≠ b → (r.2.1 a).2.1 ≠ (r.2.1 b).2.1) := by
  have h0 := List.all_eq_true.mp cs_tC r (List.mem_of_getElem? h)
  simp only [cs_okC, Bool.and_eq_true] at h0
  obtain ⟨⟨h1, h2⟩, h3⟩ := h0
  refine ⟨fun w hw => ?_, fun k hk => ?_, fun a ha b hb hab => ?_⟩
  · have := List.all_eq_true.mp h1 w hw
    simp only [Bool.and_eq_true, decide_eq_true_eq] at this
    exact List.mem_filter.mpr this
  · have := List.all_eq_true.mp h2 k (List.mem_range.mpr hk)
    unfold cs_ft
    cases hp : parseFieldDescriptor (r.2.1 k).2.2.1 with
    | none => rw [hp] at this; cases this
    | some t => rfl
  · have := List.all_eq_true.mp (List.all_eq_true.mp h3 a (List.mem_range.mpr ha)) b (List.mem_range.mpr hb)
    simp only [Bool.or_eq_true, beq_iff_eq, decide_eq_true_eq] at this
    exact this.resolve_left hab
def cs_okV (e : Nat × Nat × Nat × Nat × Nat × Nat × Nat) : Bool := decide (e.2.2.1 < cs_ms.length - 1) && cs_at e.2.2.2.1 (.methodLink (cs_cn e.1) e.2.1 (cs_y e.2.2.1)) && cs_at e.2.2.2.2.1 (.instanceMethod (cs_y e.2.2.1)) && cs_at e.2.2.2.2.2.1 (.selects (cs_y e.2.2.1).cls (cs_y e.2.2.1) (cs_y e.2.2.1)) && cs_at e.2.2.2.2.2.2 (.initialized (cs_y e.2.2.1).cls)
set_option maxRecDepth 100000 in
theorem cs_tV : cs_Rv.all cs_okV = true := by decide +kernel
def cs_okI (e : Nat × Nat × Nat × Nat × Nat × Nat) : Bool := decide (e.2.2.1 < cs_ms.length - 1) && cs_at e.2.2.2.1 (.methodLink (cs_cn e.1) e.2.1 (cs_y e.2.2.1)) && cs_at e.2.2.2.2.1 (.instanceMethod (cs_y e.2.2.1)) && cs_at e.2.2.2.2.2 (.initialized (cs_y e.2.2.1).cls) && decide ((cs_y e.2.2.1).name = "<init>") && decide (cs_rt e.2.2.1 = none)
set_option maxRecDepth 100000 in
theorem cs_tI : cs_Ri.all cs_okI = true := by decide +kernel
def cs_host : String := "CanalSteps"
def cs_okIn (e : Nat × Nat × Nat × Nat × Nat × Nat) : Bool := decide (e.2.2.1 < cs_ms.length - 1) && decide (Cond.methodLinkNest (cs_cn e.1) e.2.1 (cs_y e.2.2.1) cs_host ∈ cs_NW) && cs_at e.2.2.2.2.1 (.instanceMethod (cs_y e.2.2.1)) && cs_at e.2.2.2.2.2 (.initialized (cs_y e.2.2.1).cls) && decide ((cs_y e.2.2.1).name = "<init>") && decide (cs_rt e.2.2.1 = none)
set_option maxRecDepth 100000 in
theorem cs_tIn : cs_Rin.all cs_okIn = true := by decide +kernel
def cs_okS (e : Nat × Nat × Nat × Nat × Nat × Nat) : Bool := decide (e.2.2.1 < cs_ms.length - 1) && cs_at e.2.2.2.1 (.methodLink (cs_cn e.1) e.2.1 (cs_y e.2.2.1)) && cs_at e.2.2.2.2.1 (.static (cs_y e.2.2.1)) && cs_at e.2.2.2.2.2 (.initialized (cs_y e.2.2.1).cls) && decide ((cs_y e.2.2.1).cls = cs_cn e.1)
set_option maxRecDepth 100000 in
theorem cs_tS : cs_Rs.all cs_okS = true := by decide +kernel
def cs_okSn (e : Nat × Nat × Nat × Nat × Nat × Nat) : Bool := decide (e.2.2.1 < cs_ms.length - 1) && decide (Cond.methodLinkNest (cs_cn e.1) e.2.1 (cs_y e.2.2.1) cs_host ∈ cs_NW) && cs_at e.2.2.2.2.1 (.static (cs_y e.2.2.1)) && cs_at e.2.2.2.2.2 (.initialized (cs_y e.2.2.1).cls)
set_option maxRecDepth 100000 in
theorem cs_tSn : cs_Rsn.all cs_okSn = true := by decide +kernel
def cs_okO (e : Nat × Nat × Nat) : Bool := cs_at e.2.2 (.methodLink (cs_cn e.1) e.2.1 objectInit)
set_option maxRecDepth 100000 in
theorem cs_tO : cs_Ro.all cs_okO = true := by decide +kernel
set_option maxRecDepth 100000 in
theorem cs_tO1 : Cond.instanceMethod objectInit ∈ cs_G ∧ Cond.code objectInit ⟨#[0xb1]⟩ 1 none ∈ cs_G := ⟨List.mem_filter.mpr ⟨by decide +kernel, rfl⟩, List.mem_filter.mpr ⟨by decide +kernel, rfl⟩⟩
def cs_okMax (e : Nat × Nat × Nat) : Bool := cs_at e.2.2 (.methodLink (cs_cn e.1) e.2.1 Lib.Math.max.name)
def cs_okMin (e : Nat × Nat × Nat) : Bool := cs_at e.2.2 (.methodLink (cs_cn e.1) e.2.1 Lib.Math.min.name)
def cs_okCpy (e : Nat × Nat × Nat) : Bool := cs_at e.2.2 (.methodLink (cs_cn e.1) e.2.1 arraycopyName)
set_option maxRecDepth 100000 in
theorem cs_tMax : cs_Rmax.all cs_okMax = true := by decide +kernel
set_option maxRecDepth 100000 in
theorem cs_tMin : cs_Rmin.all cs_okMin = true := by decide +kernel
set_option maxRecDepth 100000 in
theorem cs_tCpy : cs_Rcpy.all cs_okCpy = true := by decide +kernel
set_option maxRecDepth 100000 in
theorem cs_tMath : Cond.static Lib.Math.max.name ∈ cs_G ∧ Cond.static Lib.Math.min.name ∈ cs_G ∧ Cond.initialized "java/lang/Math" ∈ cs_G ∧ Cond.code Lib.Math.max.name Lib.Math.max.code 2 (some .int) ∈ cs_G ∧ Cond.code Lib.Math.min.name Lib.Math.min.code 2 (some .int) ∈ cs_G :=
  ⟨List.mem_filter.mpr ⟨by decide +kernel, rfl⟩, List.mem_filter.mpr ⟨by decide +kernel, rfl⟩, List.mem_filter.mpr ⟨by decide +kernel, rfl⟩, List.mem_filter.mpr ⟨by decide +kernel, rfl⟩, List.mem_filter.mpr ⟨by decide +kernel, rfl⟩⟩
set_option maxRecDepth 100000 in
theorem cs_tSys : Cond.native arraycopyName ∈ cs_G ∧ Cond.static arraycopyName ∈ cs_G ∧ Cond.initialized "java/lang/System" ∈ cs_G :=
  ⟨List.mem_filter.mpr ⟨by decide +kernel, rfl⟩, List.mem_filter.mpr ⟨by decide +kernel, rfl⟩, List.mem_filter.mpr ⟨by decide +kernel, rfl⟩⟩
def cs_okN (e : Nat × Nat × Nat × Nat × Nat × Nat) : Bool := match vwCl[e.2.2.1]? with
  | none => false
  | some r => cs_at e.2.2.2.1 (.classLink (cs_cn e.1) e.2.1 r.1) && cs_at e.2.2.2.2.1 (.instantiable r.1 r.2.2) && cs_at e.2.2.2.2.2 (.initialized r.1)
set_option maxRecDepth 100000 in
theorem cs_tN : cs_Rc.all cs_okN = true := by decide +kernel
def cs_aC (t : Nat) : String := match vwCl[cs_ac t]? with
  | none => ""
  | some r => r.1
def cs_okA (e : Nat × Nat × Nat × Nat) : Bool := cs_at e.2.2.2 (.classLink (cs_cn e.1) e.2.1 (cs_aC e.2.2.1)) && decide (2 ≤ e.2.2.1) && decide (e.2.2.1 < cs_an)
set_option maxRecDepth 100000 in
theorem cs_tA : cs_Ra.all cs_okA = true := by decide +kernel
set_option maxRecDepth 100000 in
theorem cs_tArr : Cond.arrayClass .int ∈ cs_G ∧ Cond.arrayClass .char ∈ cs_G := ⟨List.mem_filter.mpr ⟨by decide +kernel, rfl⟩, List.mem_filter.mpr ⟨by decide +kernel, rfl⟩⟩
def cs_okK (e : Nat × Nat × Nat × Nat) : Bool := cs_at e.2.2.2 (.constant (cs_cn e.1) e.2.1 (Int32.ofInt (e.2.2.1 : Int)))
set_option maxRecDepth 100000 in
theorem cs_tK : cs_Rk.all cs_okK = true := by decide +kernel
def cs_okG (e : Nat × Nat × Nat) : Bool := decide (Cond.fieldLinkNest (cs_cn e.1) e.2.1 cs_sC (cs_sn e.2.2) "[I" cs_host ∈ cs_NW) && decide (e.2.2 < 3)
set_option maxRecDepth 100000 in
theorem cs_tG : cs_Rg.all cs_okG = true := by decide +kernel
