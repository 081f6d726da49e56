def cs_okD (ci : Nat) : Bool := match vwCl[ci]? with
  | none => false
  | some r => decide (r.1 = cs_cn ci) && (List.range r.2.2).all (fun j => match cs_ft r j with
    | .int => !cs_fr ci j
    | .boolean => !cs_fr ci j
    | .object _ => cs_fr ci j
    | .array _ => cs_fr ci j
    | _ => false)
set_option maxRecDepth 100000 in
theorem cs_tD : (List.range vwCl.length).all cs_okD = true := by decide +kernel
theorem cs_dflt {ci : Nat} {r : vw_C} (hc : vwCl[ci]? = some r) : r.1 = cs_cn ci ∧ ∀ j, j < r.2.2 → defaultValue (cs_ft r j) = if cs_fr ci j = true then .null else .int 0 := by
  have hl := (List.getElem?_eq_some_iff.mp hc).1
  have h := List.all_eq_true.mp cs_tD ci (List.mem_range.mpr hl)
  simp only [cs_okD, hc, Bool.and_eq_true, decide_eq_true_eq] at h
  refine ⟨h.1, fun j hj => ?_⟩
  have h2 := List.all_eq_true.mp h.2 j (List.mem_range.mpr hj)
  cases hz : cs_ft r j <;> rw [hz] at h2 <;> first | (cases h2; done) | (simp only [Bool.not_eq_true'] at h2; rw [if_neg (by rw [h2]; decide)]; rfl) | (rw [if_pos h2]; rfl)
section
variable {sc : Nat × (Nat → Int)} {mi pc : Nat} {loc st : List cs_A} {h : cs_H} {o : Nat × Nat} {Q : Option cs_A → cs_H → Prop}
theorem cs_sum1 (l : List cs_A) : (l.map (fun _ => 1)).sum = l.length := by
  induction l with
  | nil => rfl
  | cons a l ih => simp only [List.map_cons, List.sum_cons, ih, List.length_cons]; omega
theorem cs_cat8 {E : cs_E} {st : List cs_A} (hst : st.length ≤ 8) : ((st.map (cs_rv E)).map fun v => v.category).sum ≤ 8 := by
  have : (st.map (cs_rv E)).map (fun v => v.category) = st.map (fun _ => 1) := by
    rw [List.map_map]
    exact List.map_congr_left (fun v _ => cs_rv_cat E v)
  rw [this, cs_sum1]
  exact hst
theorem cs_s_aast {a n t v n' : Nat} {j : Int} (hd : decode (cs_cd mi) pc = .ok (.aastore, 1)) (hs : h.1[a]? = some (2, t, n)) (ht2 : 2 ≤ t) (ht : t < cs_an) (hn : n ≤ 2147483648) (h0 : 0 ≤ j) (h1 : j < n) (hv : h.1[v]? = some (0, cs_ac t, n')) {r : vw_C} (hc : vwCl[cs_ac t]? = some r) (kk : cs_VP sc mi (pc + 1) loc st (h.1, h.2.1, cs_u2 h.2.2 a j.toNat (some v)) o Q) : cs_VP sc mi pc loc (cs_R v :: .inl j :: cs_R a :: st) h o Q := by
  intro p l e R s m args below meth c QQ E hE C F H locs ls cells slots X
  have hj : cs_in j := ⟨by omega, by omega⟩
  have hin := cs_vin h0 h1 hn
  have hty : cs_aty t = .object r.1 := by
    unfold cs_aty cs_aC
    rw [if_neg (by omega), if_neg (by omega), hc]
  have hlt : (Int32.ofInt j).toNatClampNeg < n := Nat.not_le.mp fun q => hin (Or.inr q)
  have h00 : ¬ Int32.ofInt j < 0 := fun q => hin (Or.inl q)
  have hK := C.2.2.2.2.2.2.2.2.1.1
  have hP := X.1.1
  have hget := cs_ws_get (E := E) hs
  obtain ⟨r', hr', cellV, g1, g2, g3, -⟩ := hP v _ (cs_ws_get hv)
  have hcls := (hK.1 _ r hc).2
  have hRA := (hK.2 t _ (cs_tys_get E ht)).2
  simp only [hty] at hRA
  obtain ⟨kA, comp, k1, k2, k3, -⟩ := hRA
  have hcomp : comp = E.2.2.2.1.1 (cs_ac t) := Option.some.inj (k3.symm.trans hcls.1)
  subst hcomp
  obtain ⟨kC, hkC, -⟩ := hcls.2
  refine W.aast C.1 C.2.1 (hP a _ hget) (fun q h => by cases h) (fun h => by cases h) k1 k2 rfl hkC ⟨h00, by show _ < (arrV _ _ _).slots.size; rw [arrV_size]; exact hlt⟩ g1 (fun q h => by rw [g3] at h; cases h) (by rw [g2]; exact hkC) (by rw [g2]; exact va_assign hcls) rfl rfl hd fun H1 e1 z oq => ?_
  refine kk p l e R s m args below meth c QQ E hE C F H1 _ ls cells slots ⟨⟨?_, by rw [z]; exact X.1.2⟩, X.2.1.put z oq (by show E.1 ≤ E.1 + a; omega), X.2.2⟩
  rw [← cs_ws_set (h := h) (h' := (h.1, h.2.1, cs_u2 h.2.2 a j.toNat (some v))) hs rfl (fun q _ => rfl) (fun q hq => cs_u2_ne hq)]
  refine hP.set (cs_ws_D E h) hget ?_ oq
  show H1[E.1 + a]? = some (vp_cell _ _)
  rw [e1, cs_clamp hj]
  show some ((vp_cell (E.2.1 t) (n, .inr (.inr (.inr (.inr (fun j => (h.2.2 a j).map (fun q => E.1 + q))))))).setSlot j.toNat _) = _
  rw [vp_cell_q, vp_cell_q, arrV_store]
  congr 2
  funext q
  by_cases hq : q = j.toNat
  · subst hq
    simp [updV, cs_u2, va_rf]
  · simp [updV, cs_u2, hq]
theorem cs_s_new {idx ci w1 w2 w3 : Nat} {r : vw_C} (hd : decode (cs_cd mi) pc = .ok (.new idx, 3)) (hw : cs_okN (cs_ow mi, idx, ci, w1, w2, w3) = true) (hc : vwCl[ci]? = some r) (hcell : h.1.length + 1 ≤ o.1 + cs_mc mi) (hslot : cs_sz h.1 + r.2.2 ≤ o.2 + cs_sl mi) (kk : cs_VP sc mi (pc + 3) loc (cs_R h.1.length :: st) (cs_new h (0, ci, r.2.2)) o Q) : cs_VP sc mi pc loc st h o Q := by
  intro p l e R s m args below meth c QQ E hE C F H locs ls cells slots X
  obtain ⟨hx, hb, hml, hr, hown, hts, hlk, hin, hKK, hbs, hfr, hlo, hcl, hsl⟩ := id C
  obtain ⟨⟨hP, hsz⟩, hS, hl, hc1, hc2, hc3, hc4⟩ := id X
  simp only [cs_okN, hc, Bool.and_eq_true] at hw
  obtain ⟨C', T, N⟩ := r
  dsimp only at hw hslot kk
  have hq := cs_cls hc
  have hdf := cs_dflt hc
  have hKn := hKK.1.1 ci _ hc
  refine W.newcK hx hb hown (hts _ (cs_mem hw.1.1 rfl)) (hts _ (cs_mem hw.1.2 rfl)) (hts _ (cs_mem hw.2 rfl)) rfl hd (by omega) (by omega) hKn.2.1 hsz fun H1 kC hkC e1 z1 o1 => ?_
  have hk : ∀ (k : Nat) (x : Nat × va_E), (cs_ws E h)[k]? = some x → H1[x.1]? = H[x.1]? := fun k x hx' => o1 x.1 (by have := (hP k x hx').lt; rw [hsz] at this; exact this)
  have hPP : cs_PP E (cs_new h (0, ci, N)) H1 := by
    refine ⟨?_, by rw [z1]; simp [cs_new]; omega⟩
    rw [cs_ws_new]
    refine (hP.kept hk).app (fun k x hx' => ?_)
    have hz : k < 1 := (List.getElem?_eq_some_iff.mp hx').1
    rw [show k = 0 by omega] at hx'
    cases hx'
    refine ⟨_, hc, (u_born (cs_ft (C', T, N)) hts hq.1 hKn hkC e1 hq.2.1).to (fun j hj => ?_)⟩
    rw [hdf.2 j hj]
    simp only [vp_V, List.getD_eq_getElem?_getD]
    rw [cs_fs_get hj]
    simp only [Option.getD_some, cs_fv, cs_new]
    by_cases hfr2 : cs_fr ci j = true
    · simp [hfr2, va_rf]
    · simp [hfr2]
  have := kk p l e R s m args below meth c QQ E hE C F H1 locs ls (cells + 1) (slots + N) ⟨hPP, ⟨by have := hS.1; omega, fun q h1 h2 => (o1 q (by have := hS.1; omega)).trans (hS.2.1 q h1 h2), hS.2.2⟩, hl, by simp [cs_new]; omega, by simp only [cs_new, cs_sz_app]; omega, by omega, by omega⟩
  exact this
theorem cs_findInt {E : cs_E} {s : State} (hKK : cs_KK E s) {cA : ClassId} (h : s.vm.findClass ("[" ++ FieldType.int.toString) = some cA) : cA = E.2.1 0 :=
  Option.some.inj (h.symm.trans (hKK.1.2 0 _ (cs_tys_get E (t := 0) (by decide))).2)
theorem cs_findChar {E : cs_E} {s : State} (hKK : cs_KK E s) {cA : ClassId} (h : s.vm.findClass ("[" ++ FieldType.char.toString) = some cA) : cA = E.2.1 1 :=
  Option.some.inj (h.symm.trans (hKK.1.2 1 _ (cs_tys_get E (t := 1) (by decide))).2)
theorem cs_s_newa {at_ : ArrayType} {t : Nat} {n : Int} (hd : decode (cs_cd mi) pc = .ok (.newarray at_, 2)) (ht : (at_ = .int ∧ t = 0) ∨ (at_ = .char ∧ t = 1)) (h0 : 0 ≤ n) (h1 : n ≤ 100000) (hcell : h.1.length + 1 ≤ o.1 + cs_mc mi) (hslot : cs_sz h.1 + n.toNat ≤ o.2 + cs_sl mi) (kk : cs_VP sc mi (pc + 2) loc (cs_R h.1.length :: st) (cs_new h (1, t, n.toNat)) o Q) : cs_VP sc mi pc loc (.inl n :: st) h o Q := by
  intro p l e R s m args below meth c QQ E hE C F H locs ls cells slots X
  obtain ⟨hx, hb, hml, hr, hown, hts, hlk, hin, hKK, hbs, hfr, hlo, hcl, hsl⟩ := id C
  obtain ⟨⟨hP, hsz⟩, hS, hl, hc1, hc2, hc3, hc4⟩ := id X
  have hj : cs_in n := ⟨by omega, by omega⟩
  have hnn : ¬ Int32.ofInt n < 0 := fun q => by have := (cs_lt hj cs_in0).mp q; omega
  have hby : n.toNat * componentBytes (newarray.typeOf at_) ≤ 536870912 := by
    rcases ht with ⟨rfl, -⟩ | ⟨rfl, -⟩
    · show n.toNat * 4 ≤ _; omega
    · show n.toNat * 2 ≤ _; omega
  have harr : (Cond.arrayClass (newarray.typeOf at_)).before args s = true := by
    rcases ht with ⟨rfl, -⟩ | ⟨rfl, -⟩
    · exact hts _ cs_tArr.1
    · exact hts _ cs_tArr.2
  refine va_newaK hx hb harr rfl hd rfl hnn (cs_clamp hj) hby (by omega) (by omega) hsz fun H1 cA e1 z1 o1 hAr hfc => ?_
  have hk : ∀ (k : Nat) (x : Nat × va_E), (cs_ws E h)[k]? = some x → H1[x.1]? = H[x.1]? := fun k x hx' => o1 x.1 (by have := (hP k x hx').lt; rw [hsz] at this; exact this)
  have hcell' : vp_cell (E.2.1 t) (n.toNat, .inl (fun j => Int32.ofInt ((cs_new h (1, t, n.toNat)).2.1 h.1.length j))) = arrV cA n.toNat (fun _ => defaultValue (newarray.typeOf at_)) := by
    rw [vp_cell_i]
    rcases ht with ⟨rfl, rfl⟩ | ⟨rfl, rfl⟩
    · rw [cs_findInt hKK hfc]
      congr 1
      funext j
      simp [cs_new]
      rfl
    · rw [cs_findChar hKK hfc]
      congr 1
      funext j
      simp [cs_new]
      rfl
  have hPP : cs_PP E (cs_new h (1, t, n.toNat)) H1 := by
    refine ⟨?_, by rw [z1]; simp [cs_new]; omega⟩
    rw [cs_ws_new]
    refine (hP.kept hk).app (fun k x hx' => ?_)
    have hz : k < 1 := (List.getElem?_eq_some_iff.mp hx').1
    rw [show k = 0 by omega] at hx'
    cases hx'
    show H1[E.1 + h.1.length]? = some (vp_cell _ _)
    rw [hcell']
    exact e1
  have := kk p l e R s m args below meth c QQ E hE C F H1 locs ls (cells + 1) (slots + n.toNat) ⟨hPP, ⟨by have := hS.1; omega, fun q h1 h2 => (o1 q (by have := hS.1; omega)).trans (hS.2.1 q h1 h2), hS.2.2⟩, hl, by simp [cs_new]; omega, by simp only [cs_new, cs_sz_app]; omega, by omega, by omega⟩
  exact this
theorem cs_s_anew {idx t w1 : Nat} {n : Int} (hd : decode (cs_cd mi) pc = .ok (.anewarray idx, 3)) (hw : cs_okA (cs_ow mi, idx, t, w1) = true) (h0 : 0 ≤ n) (h1 : n ≤ 100000) (hcell : h.1.length + 1 ≤ o.1 + cs_mc mi) (hslot : cs_sz h.1 + n.toNat ≤ o.2 + cs_sl mi) (kk : cs_VP sc mi (pc + 3) loc (cs_R h.1.length :: st) (cs_new h (2, t, n.toNat)) o Q) : cs_VP sc mi pc loc (.inl n :: st) h o Q := by
  intro p l e R s m args below meth c QQ E hE C F H locs ls cells slots X
  obtain ⟨hx, hb, hml, hr, hown, hts, hlk, hin, hKK, hbs, hfr, hlo, hcl, hsl⟩ := id C
  obtain ⟨⟨hP, hsz⟩, hS, hl, hc1, hc2, hc3, hc4⟩ := id X
  have hj : cs_in n := ⟨by omega, by omega⟩
  have hnn : ¬ Int32.ofInt n < 0 := fun q => by have := (cs_lt hj cs_in0).mp q; omega
  simp only [cs_okA, Bool.and_eq_true, decide_eq_true_eq] at hw
  obtain ⟨⟨hw1, ht2⟩, ht⟩ := hw
  have hcl' := cs_clamp hj
  refine W.anew hx hb hown (hts _ (cs_mem hw1 rfl)) (va_AO.use (hKK.2.2.1 t ht2 ht)) rfl hd rfl hnn (by rw [hcl']; omega) (by omega) (by rw [hcl']; omega) fun cA kA comp f1 f2 f3 f4 => ?_
  rw [hcl']
  generalize hH1 : H.push ({ cls := cA, slots := Array.replicate n.toNat .null, vm := .none } : Cell) = H1
  have z1 : H1.size = H.size + 1 := by rw [← hH1, Array.size_push]
  have e1 : H1[H.size]? = some (arrV cA n.toNat (fun _ => .null)) := by rw [← hH1, Array.getElem?_push_size, ← arrV_new]
  have o1 : ∀ q : Nat, q < H.size → H1[q]? = H[q]? := fun q hq => by rw [← hH1, Array.getElem?_push, if_neg (Nat.ne_of_lt hq)]
  have hk : ∀ (k : Nat) (x : Nat × va_E), (cs_ws E h)[k]? = some x → H1[x.1]? = H[x.1]? := fun k x hx' => o1 x.1 ((hP k x hx').lt)
  have hcA : cA = E.2.1 t := by
    have hRA := (hKK.1.2 t _ (cs_tys_get E ht)).2
    have hty : cs_aty t = .object (cs_aC t) := by
      unfold cs_aty
      rw [if_neg (by omega), if_neg (by omega)]
    simp only [hty] at hRA
    obtain ⟨kA', comp', -, -, -, k4⟩ := hRA
    exact Option.some.inj (f1.symm.trans k4)
  have hcell' : vp_cell (E.2.1 t) (n.toNat, .inr (.inr (.inr (.inr (fun j => ((cs_new h (2, t, n.toNat)).2.2 h.1.length j).map (fun q => E.1 + q)))))) = arrV cA n.toNat (fun _ => .null) := by
    rw [vp_cell_q, hcA]
    congr 1
    funext j
    simp [cs_new, va_rf]
  have hPP : cs_PP E (cs_new h (2, t, n.toNat)) H1 := by
    refine ⟨?_, by rw [z1, hsz]; simp [cs_new]; omega⟩
    rw [cs_ws_new]
    refine (hP.kept hk).app (fun k x hx' => ?_)
    have hz : k < 1 := (List.getElem?_eq_some_iff.mp hx').1
    rw [show k = 0 by omega] at hx'
    cases hx'
    show H1[E.1 + h.1.length]? = some (vp_cell _ _)
    rw [hcell', ← hsz]
    exact e1
  have := kk p l e R s m args below meth c QQ E hE C F H1 locs ls (cells + 1) (slots + n.toNat) ⟨hPP, ⟨by have := hS.1; omega, fun q h1 h2 => (o1 q (by have := hS.1; omega)).trans (hS.2.1 q h1 h2), hS.2.2⟩, hl, by simp [cs_new]; omega, by simp only [cs_new, cs_sz_app]; omega, by omega, by omega⟩
  rw [hsz]
  exact this
theorem cs_s_gets {idx j : Nat} (hd : decode (cs_cd mi) pc = .ok (.getstatic idx, 3)) (hw : cs_okG (cs_ow mi, idx, j) = true) (kk : cs_VP sc mi (pc + 3) loc (cs_T j :: st) h o Q) : cs_VP sc mi pc loc st h o Q := by
  intro p l e R s m args below meth c QQ E hE C F H locs ls cells slots X
  simp only [cs_okG, Bool.and_eq_true, decide_eq_true_eq] at hw
  have hKK := C.2.2.2.2.2.2.2.2.1
  have k2 := kk p l e R s m args below meth c QQ E hE C F H locs ls cells slots X
  rw [List.map_cons, cs_rv_T (show j ≠ 9 by omega)] at k2
  exact va_getsN C.1 C.2.1 (hKK.2.2.2.1 j hw.2) X.2.1 C.2.2.2.2.1 (va_Nw.use rfl (hKK.2.1 _ hw.1)) (fun _ q => q) hd k2
theorem cs_s_oinit {idx a w1 : Nat} (hd : decode (cs_cd mi) pc = .ok (.invokespecial idx, 3)) (hw : cs_okO (cs_ow mi, idx, w1) = true) (hfr : 1 ≤ cs_fm mi) (hlo : 40 ≤ cs_lo mi) (hst : st.length ≤ 8) (kk : cs_VP sc mi (pc + 3) loc st h o Q) : cs_VP sc mi pc loc (cs_R a :: st) h o Q := by
  intro p l e R s m args below meth c QQ E hE C F H locs ls cells slots X
  obtain ⟨hx, hb, hml, hr, hown, hts, hlk, hin, hKK, hbs, hfr', hlo', hcl, hsl⟩ := id C
  have hcat := cs_cat8 (E := E) hst
  refine W.objInit hx hb hown (hts _ (cs_mem hw rfl)) (hts _ cs_tO1.1) (hts _ cs_tO1.2) rfl (by rw [hml]; exact X.2.2.1.1) rfl hd (by omega) (by show 2 * 0 + _ + 12 ≤ _; omega) ?_
  exact kk p l e R s m args below meth c QQ E hE C F H locs ls cells slots X
theorem cs_s_max {idx w1 : Nat} {x y : Int} (hd : decode (cs_cd mi) pc = .ok (.invokestatic idx, 3)) (hw : cs_okMax (cs_ow mi, idx, w1) = true) (hfr : 1 ≤ cs_fm mi) (hlo : 40 ≤ cs_lo mi) (hst : st.length ≤ 8) (hxy : cs_in x ∧ cs_in y) (kk : cs_VP sc mi (pc + 3) loc (.inl (if x < y then y else x) :: st) h o Q) : cs_VP sc mi pc loc (.inl y :: .inl x :: st) h o Q := by
  intro p l e R s m args below meth c QQ E hE C F H locs ls cells slots X
  obtain ⟨hx, hb, hml, hr, hown, hts, hlk, hin, hKK, hbs, hfr', hlo', hcl, hsl⟩ := id C
  have hc8 := cs_cat8 (E := E) hst
  refine va_mmax hx hb (by rw [hml]; exact X.2.2.1.1.symm) hown (hts _ (cs_mem hw rfl)) (hts _ cs_tMath.1) (hts _ cs_tMath.2.2.1) (hts _ cs_tMath.2.2.2.1) (by omega) (by omega) X.2.2.2.2.2.1 X.2.2.2.2.2.2 hd ?_
  have hz : (if Int32.ofInt x < Int32.ofInt y then Int32.ofInt y else Int32.ofInt x) = Int32.ofInt (if x < y then y else x) := by
    by_cases hlt : x < y
    · rw [if_pos ((cs_lt hxy.1 hxy.2).mpr hlt), if_pos hlt]
    · rw [if_neg (fun q => hlt ((cs_lt hxy.1 hxy.2).mp q)), if_neg hlt]
  rw [hz]
  exact kk p l e R s m args below meth c QQ E hE C F H locs ls cells slots X
theorem cs_s_min {idx w1 : Nat} {x y : Int} (hd : decode (cs_cd mi) pc = .ok (.invokestatic idx, 3)) (hw : cs_okMin (cs_ow mi, idx, w1) = true) (hfr : 1 ≤ cs_fm mi) (hlo : 40 ≤ cs_lo mi) (hst : st.length ≤ 8) (hxy : cs_in x ∧ cs_in y) (kk : cs_VP sc mi (pc + 3) loc (.inl (if y < x then y else x) :: st) h o Q) : cs_VP sc mi pc loc (.inl y :: .inl x :: st) h o Q := by
  intro p l e R s m args below meth c QQ E hE C F H locs ls cells slots X
  obtain ⟨hx, hb, hml, hr, hown, hts, hlk, hin, hKK, hbs, hfr', hlo', hcl, hsl⟩ := id C
  have hc8 := cs_cat8 (E := E) hst
  refine va_mmin hx hb (by rw [hml]; exact X.2.2.1.1.symm) hown (hts _ (cs_mem hw rfl)) (hts _ cs_tMath.2.1) (hts _ cs_tMath.2.2.1) (hts _ cs_tMath.2.2.2.2) (by omega) (by omega) X.2.2.2.2.2.1 X.2.2.2.2.2.2 hd ?_
  have hz : (if Int32.ofInt y < Int32.ofInt x then Int32.ofInt y else Int32.ofInt x) = Int32.ofInt (if y < x then y else x) := by
    by_cases hlt : y < x
    · rw [if_pos ((cs_lt hxy.2 hxy.1).mpr hlt), if_pos hlt]
    · rw [if_neg (fun q => hlt ((cs_lt hxy.2 hxy.1).mp q)), if_neg hlt]
  rw [hz]
  exact kk p l e R s m args below meth c QQ E hE C F H locs ls cells slots X
end
