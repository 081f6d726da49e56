/-! writes: one cell of the abstract heap changes -/
theorem cs_fs_setI {E : cs_E} {h : cs_H} {a ci n k : Nat} {x : Int} (hr : cs_fr ci k = false) :
    ((List.range n).map (cs_fv E h a ci)).set k (.int (Int32.ofInt x)) = (List.range n).map (cs_fv E (h.1, cs_u2 h.2.1 a k x, h.2.2) a ci) := by
  apply List.ext_getElem?
  intro i
  by_cases hi : i = k
  · subst hi
    by_cases hl : i < n
    · rw [List.getElem?_set_self (by simpa using hl), cs_fs_get hl]
      simp [cs_fv, hr, cs_u2]
    · rw [List.getElem?_eq_none (by simp; omega), List.getElem?_eq_none (by simp; omega)]
  · rw [List.getElem?_set_ne (Ne.symm hi)]
    by_cases hl : i < n
    · rw [cs_fs_get hl, cs_fs_get hl]
      simp [cs_fv, cs_u2, hi]
    · rw [List.getElem?_eq_none (by simp; omega), List.getElem?_eq_none (by simp; omega)]
theorem cs_fs_setR {E : cs_E} {h : cs_H} {a ci n k v : Nat} (hr : cs_fr ci k = true) :
    ((List.range n).map (cs_fv E h a ci)).set k (.ref (E.1 + v)) = (List.range n).map (cs_fv E (h.1, h.2.1, cs_u2 h.2.2 a k (some v)) a ci) := by
  apply List.ext_getElem?
  intro i
  by_cases hi : i = k
  · subst hi
    by_cases hl : i < n
    · rw [List.getElem?_set_self (by simpa using hl), cs_fs_get hl]
      simp [cs_fv, hr, cs_u2, va_rf]
    · rw [List.getElem?_eq_none (by simp; omega), List.getElem?_eq_none (by simp; omega)]
  · rw [List.getElem?_set_ne (Ne.symm hi)]
    by_cases hl : i < n
    · rw [cs_fs_get hl, cs_fs_get hl]
      simp [cs_fv, cs_u2, hi]
    · rw [List.getElem?_eq_none (by simp; omega), List.getElem?_eq_none (by simp; omega)]
theorem cs_u2_ne {α : Type} {f : Nat → Nat → α} {a k q : Nat} {v : α} (hq : q ≠ a) : cs_u2 f a k v q = f q := by
  funext j
  simp [cs_u2, hq]
section
variable {sc : Nat × (Nat → Int)} {mi pc : Nat} {loc st : List cs_A} {h : cs_H} {o : Nat × Nat} {Q : Option cs_A → cs_H → Prop}
/-- the kit's putfield row, with the heap's size -/
theorem cs_Wput {p : Program} {l : Launch} {e : Env} {R : Room} {s : State} {m : MethodId} {args : Array Value} {below : List Frame} {meth : Method} {c : Code} {H : Heap} {locs : List Loc} {cells slots : Nat} {QQ : State → Prop} {cc : ByteArray} {ls : Array Slot} {rest : List Value} {D : va_G} {cl : List vw_C} {A : Nat → Prop} {a : Nat} {tys : List (ClassId × FieldType)} {ws : va_W} {H0 : Heap}
    (hexec : p.tables.exec = Jvm.exec) (hb : c.code = cc) {own ref C : String} {T : u_T} {N ci index : Nat} {Ts : List Cond} (hts : ∀ w ∈ Ts, w.before args s = true) (hin : ∀ w ∈ u_ws C T N, w ∈ Ts) (ty0 : Nat → FieldType) (hty : ∀ k, k < N → parseFieldDescriptor (T k).2.2.1 = some (ty0 k)) (hnm : ∀ a, a < N → ∀ b, b < N → a ≠ b → (T a).2.1 ≠ (T b).2.1) (hown : s.vm.findClass own = some m.cls) (hK : va_K D cl tys s) (hP : va_P D cl ws H) (hD : va_D A ws) (hS0 : va_S A H0 H locs) (q0 : Nat) {fs : List Value} (he : ws[q0]? = some (a, .inr (ci, fs))) (hc : cl[ci]? = some (C, T, N)) (k : Nat) (hk : k < N) (hlink : (Cond.fieldLink own index ref (T k).2.1 (T k).2.2.1).before args s = true) (hsame : ∀ x, s.fieldFound? (T k).1 (T k).2.1 (T k).2.2.1 = some x → s.fieldFound? ref (T k).2.1 (T k).2.2.1 = some x) (hfin : (T k).2.2.2 = false ∨ ((T k).2.2.2 = true ∧ meth.name = "<init>" ∧ (T k).1 = own)) {ty : FieldType} {v : Value} (hd : parseFieldDescriptor (T k).2.2.1 = some ty) (hn : narrow ty v = v) (hfit : fits ty v = true) (hl : k < fs.length)
    (hdg : decode cc pc = .ok (.putfield index, 3)) (kk : ∀ (H1 : Heap) (locs1 : List Loc), H1.size = H.size → va_P D cl (ws.set q0 (a, .inr (ci, fs.set k v))) H1 → va_S A H0 H1 locs1 → W p l e R s m args below meth c H1 locs1 cells slots QQ (F0 m (pc + 3) ls rest)) : W p l e R s m args below meth c H locs cells slots QQ (F0 m pc ls (v :: .ref a :: rest)) := by
  have hap := va_apart (own := own) hts hin ty0 hty hnm hK hc
  obtain ⟨r, h1, cell, q1, q2, q3, q4⟩ := hP q0 _ he
  have hr : r = (C, T, N) := Option.some.inj (h1.symm.trans hc)
  subst hr
  obtain ⟨hS, hfc, kC, hkC, hkind⟩ := hK.1 ci _ hc
  obtain ⟨cf, kf, fi, f, hi, hsl⟩ := hS k hk
  have hlay := hts _ (hin _ (u_in_lay hk))
  unfold u_lay at hlay
  have hst := (u_facts hfc hkC (u_lays hts hin hk) hi).1
  rcases hfin with hfin | ⟨hfin, hin2, hdecl⟩
  · rw [if_neg (by rw [hfin]; decide)] at hlay
    have h6 := u_store hfc hkC hkind hlay hi hd hn hfit
    refine W.putK hexec hb (f := f) ⟨hown, hlink, ⟨_, _, _, hsame _ hi⟩, hst⟩ (by rw [q2]; exact h6) q1 q3 (by rw [hsl]; exact k2_hasslot (q4 k hk)) rfl rfl hdg fun H' e1 e2 e3 => ?_
    rw [hsl] at e1 ⊢
    exact kk H' _ e2 (hP.set hD he ⟨_, hc, t_OB.to (V := updV (vp_V fs) k v) ⟨_, e1, q2, q3, t_set q4 hap hk v⟩ (fun j _ => vp_updV_set hl v j)⟩ e3) (hS0.put e2 e3 (hD.2 q0 _ he))
  · rw [if_pos hfin] at hlay
    have hcf : m.cls = cf := by
      obtain ⟨_, _, c', _, _, _, -, -, hf', -, -, -, hown2, -⟩ := Cond.laysFinal_spec hlay
      have e1 : c' = cf := by have := hi.symm.trans hf'; simp at this; exact this.1.symm
      rw [hdecl] at hown2
      rw [← e1]; exact Option.some.inj (hown.symm.trans hown2)
    have h6 := u_fits hfc hkC hkind (Or.inr hlay) hi hd hn hfit
    refine W.putFinK hexec hb hown hlink (hsame _ hi) hst hcf hin2 (by rw [q2]; exact h6) q1 q3 (by rw [hsl]; exact k2_hasslot (q4 k hk)) rfl rfl hdg fun H' e1 e2 e3 => ?_
    rw [hsl] at e1 ⊢
    exact kk H' _ e2 (hP.set hD he ⟨_, hc, t_OB.to (V := updV (vp_V fs) k v) ⟨_, e1, q2, q3, t_set q4 hap hk v⟩ (fun j _ => vp_updV_set hl v j)⟩ e3) (hS0.put e2 e3 (hD.2 q0 _ he))
theorem cs_s_putI {idx a ci k wi : Nat} {x : Int} {r : vw_C} (hd : decode (cs_cd mi) pc = .ok (.putfield idx, 3)) (hw : cs_okF (cs_ow mi, idx, ci, k, wi) = true) (hr : cs_fr ci k = false) (hc : vwCl[ci]? = some r) (hfin : (r.2.1 k).2.2.2 = false)
    (hty : cs_ft r k = .int ∨ (cs_ft r k = .boolean ∧ (x = 0 ∨ x = 1))) (hob : cs_ob h a ci k) (kk : cs_VP sc mi (pc + 3) loc st (h.1, cs_u2 h.2.1 a k x, h.2.2) o Q) : cs_VP sc mi pc loc (.inl x :: cs_R a :: st) h o Q := by
  intro p l e R s m args below meth c QQ E hE C F H locs ls cells slots X
  obtain ⟨n, hs, hk⟩ := hob
  simp only [cs_okF] at hw
  rw [hc] at hw
  simp only [Bool.and_eq_true, decide_eq_true_eq] at hw
  obtain ⟨C', T, N⟩ := r
  have hq := cs_cls hc
  have hn : narrow (cs_ft (C', T, N) k) (.int (Int32.ofInt x)) = .int (Int32.ofInt x) := by
    rcases hty with h1 | ⟨h1, h2⟩
    · rw [h1]; rfl
    · rw [h1]; rcases h2 with rfl | rfl <;> rfl
  have hf : fits (cs_ft (C', T, N) k) (.int (Int32.ofInt x)) = true := by
    rcases hty with h1 | ⟨h1, h2⟩
    · rw [h1]; rfl
    · rw [h1]; rcases h2 with rfl | rfl <;> rfl
  refine cs_Wput (D := E.2.2.2.1) (ci := ci) (v := .int (Int32.ofInt x)) C.1 C.2.1 C.2.2.2.2.2.1 hq.1 (cs_ft (C', T, N)) hq.2.1 hq.2.2 C.2.2.2.2.1 C.2.2.2.2.2.2.2.2.1.1 X.1.1 (cs_ws_D E h) X.2.1 a (cs_ws_get hs) hc k hw.1 (C.2.2.2.2.2.1 _ (cs_mem hw.2 rfl)) (fun _ q => q) (Or.inl hfin) (hq.2.1 k hw.1) hn hf (by simpa using hk) hd (fun H1 locs1 hz hP1 hS1 => ?_)
  have hws : (cs_ws E h).set a (E.1 + a, .inr (ci, ((List.range n).map (cs_fv E h a ci)).set k (.int (Int32.ofInt x)))) = cs_ws E (h.1, cs_u2 h.2.1 a k x, h.2.2) := by
    rw [cs_fs_setI hr]
    exact cs_ws_set (h' := (h.1, cs_u2 h.2.1 a k x, h.2.2)) (sh := (0, ci, n)) hs rfl (fun q hq => cs_u2_ne hq) (fun q _ => rfl)
  rw [hws] at hP1
  exact kk p l e R s m args below meth c QQ E hE C F H1 locs1 ls cells slots ⟨⟨hP1, by rw [hz]; exact X.1.2⟩, hS1, X.2.2⟩
theorem cs_s_putR {idx a ci k wi v : Nat} {r : vw_C} (hd : decode (cs_cd mi) pc = .ok (.putfield idx, 3)) (hw : cs_okF (cs_ow mi, idx, ci, k, wi) = true) (hr : cs_fr ci k = true) (hc : vwCl[ci]? = some r) (hfin : (r.2.1 k).2.2.2 = false ∨ ((r.2.1 k).2.2.2 = true ∧ (cs_y mi).name = "<init>" ∧ (r.2.1 k).1 = cs_cn (cs_ow mi)))
    (hob : cs_ob h a ci k) (kk : cs_VP sc mi (pc + 3) loc st (h.1, h.2.1, cs_u2 h.2.2 a k (some v)) o Q) : cs_VP sc mi pc loc (cs_R v :: cs_R a :: st) h o Q := by
  intro p l e R s m args below meth c QQ E hE C F H locs ls cells slots X
  obtain ⟨n, hs, hk⟩ := hob
  simp only [cs_okF] at hw
  rw [hc] at hw
  simp only [Bool.and_eq_true, decide_eq_true_eq] at hw
  have hr0 := hr
  simp only [cs_fr, hc] at hr0
  obtain ⟨C', T, N⟩ := r
  have hq := cs_cls hc
  have h3 := hq.2.1 k hw.1
  simp only at h3 hr0
  rw [h3] at hr0
  have hn : narrow (cs_ft (C', T, N) k) (.ref (E.1 + v)) = .ref (E.1 + v) := by
    cases hz : cs_ft (C', T, N) k <;> rw [hz] at hr0 <;> first | rfl | cases hr0
  have hf : fits (cs_ft (C', T, N) k) (.ref (E.1 + v)) = true := by
    cases hz : cs_ft (C', T, N) k <;> rw [hz] at hr0 <;> first | rfl | cases hr0
  refine cs_Wput (D := E.2.2.2.1) (ci := ci) (v := .ref (E.1 + v)) C.1 C.2.1 C.2.2.2.2.2.1 hq.1 (cs_ft (C', T, N)) hq.2.1 hq.2.2 C.2.2.2.2.1 C.2.2.2.2.2.2.2.2.1.1 X.1.1 (cs_ws_D E h) X.2.1 a (cs_ws_get hs) hc k hw.1 (C.2.2.2.2.2.1 _ (cs_mem hw.2 rfl)) (fun _ q => q) ?_ (hq.2.1 k hw.1) hn hf (by simpa using hk) hd (fun H1 locs1 hz hP1 hS1 => ?_)
  · rcases hfin with h1 | ⟨h1, h2, h4⟩
    · exact Or.inl h1
    · exact Or.inr ⟨h1, C.2.2.2.2.2.2.2.1 h2, h4⟩
  have hws : (cs_ws E h).set a (E.1 + a, .inr (ci, ((List.range n).map (cs_fv E h a ci)).set k (.ref (E.1 + v)))) = cs_ws E (h.1, h.2.1, cs_u2 h.2.2 a k (some v)) := by
    rw [cs_fs_setR hr]
    exact cs_ws_set (h' := (h.1, h.2.1, cs_u2 h.2.2 a k (some v))) (sh := (0, ci, n)) hs rfl (fun q _ => rfl) (fun q hq => cs_u2_ne hq)
  rw [hws] at hP1
  exact kk p l e R s m args below meth c QQ E hE C F H1 locs1 ls cells slots ⟨⟨hP1, by rw [hz]; exact X.1.2⟩, hS1, X.2.2⟩
/-! arrays -/
theorem cs_s_iald {a n : Nat} {j : Int} (hd : decode (cs_cd mi) pc = .ok (.iaload, 1)) (hs : h.1[a]? = some (1, 0, n)) (hn : n ≤ 2147483648) (h0 : 0 ≤ j) (h1 : j < n) (kk : cs_VP sc mi (pc + 1) loc (.inl (h.2.1 a j.toNat) :: st) h o Q) : cs_VP sc mi pc loc (.inl j :: cs_R a :: st) h o Q := by
  intro p l e R s m args below meth c QQ E hE C F H locs ls cells slots X
  have hj : cs_in j := ⟨by omega, by omega⟩
  refine va_iald (D := E.2.2.2.1) (tys := cs_tys E) C.1 C.2.1 C.2.2.2.2.2.2.2.2.1.1 X.1.1 a 0 (cs_ws_get hs) (cs_tys_get E (t := 0) (by decide)) (cs_vin h0 h1 hn) hd ?_
  rw [cs_clamp hj]
  exact kk p l e R s m args below meth c QQ E hE C F H locs ls cells slots X
theorem cs_s_cald {a n : Nat} {j : Int} (hd : decode (cs_cd mi) pc = .ok (.caload, 1)) (hs : h.1[a]? = some (1, 1, n)) (hn : n ≤ 2147483648) (h0 : 0 ≤ j) (h1 : j < n) (kk : cs_VP sc mi (pc + 1) loc (.inl (h.2.1 a j.toNat) :: st) h o Q) : cs_VP sc mi pc loc (.inl j :: cs_R a :: st) h o Q := by
  intro p l e R s m args below meth c QQ E hE C F H locs ls cells slots X
  have hj : cs_in j := ⟨by omega, by omega⟩
  refine va_cald (D := E.2.2.2.1) (tys := cs_tys E) C.1 C.2.1 C.2.2.2.2.2.2.2.2.1.1 X.1.1 a 1 (cs_ws_get hs) (cs_tys_get E (t := 1) (by decide)) (cs_vin h0 h1 hn) hd ?_
  rw [cs_clamp hj]
  exact kk p l e R s m args below meth c QQ E hE C F H locs ls cells slots X
theorem cs_s_taload {q : Nat} {j : Int} (hd : decode (cs_cd mi) pc = .ok (.iaload, 1)) (hq : q < 4) (h0 : 0 ≤ j) (h1 : j < cs_tn sc q) (kk : cs_VP sc mi (pc + 1) loc (.inl (cs_tv sc q j.toNat) :: st) h o Q) : cs_VP sc mi pc loc (.inl j :: cs_T q :: st) h o Q := by
  intro p l e R s m args below meth c QQ E hE C F H locs ls cells slots X
  have hKK := C.2.2.2.2.2.2.2.2.1
  have hn : cs_tn sc q ≤ 2147483648 := by
    unfold cs_tn
    split
    · rw [← hE]; exact hKK.2.2.2.2.2
    · decide
  have hj : cs_in j := ⟨by omega, by omega⟩
  have hT := hKK.2.2.2.2.1 q hq
  rw [hE] at hT
  rw [List.map_cons, List.map_cons, cs_rv_T (show q ≠ 9 by omega)]
  refine va_ti C.1 C.2.1 hT X.2.1 (cs_vin h0 h1 hn) (v := .int (Int32.ofInt (cs_tv sc q j.toNat))) (by rw [cs_clamp hj]) hd ?_
  exact kk p l e R s m args below meth c QQ E hE C F H locs ls cells slots X
theorem cs_s_tlen {q : Nat} (hd : decode (cs_cd mi) pc = .ok (.arraylength, 1)) (hq : q < 4) (kk : cs_VP sc mi (pc + 1) loc (.inl (cs_tn sc q) :: st) h o Q) : cs_VP sc mi pc loc (cs_T q :: st) h o Q := by
  intro p l e R s m args below meth c QQ E hE C F H locs ls cells slots X
  have hKK := C.2.2.2.2.2.2.2.2.1
  have hT := hKK.2.2.2.2.1 q hq
  rw [hE] at hT
  obtain ⟨cell, h1, h2, h3, h4, h5, h6, h7⟩ := hT
  rw [List.map_cons, cs_rv_T (show q ≠ 9 by omega)]
  refine W.alen (n := Int32.ofNat (cs_tn sc q)) C.1 C.2.1 (by rw [X.2.1.2.1 _ (Array.getElem?_eq_some_iff.mp h1).1 h7]; exact h1) h2 h5 rfl rfl hd ?_
  exact kk p l e R s m args below meth c QQ E hE C F H locs ls cells slots X
theorem cs_s_alen {a kd t n : Nat} (hd : decode (cs_cd mi) pc = .ok (.arraylength, 1)) (hs : h.1[a]? = some (kd + 1, t, n)) (ht : t < cs_an) (kk : cs_VP sc mi (pc + 1) loc (.inl (n : Int) :: st) h o Q) : cs_VP sc mi pc loc (cs_R a :: st) h o Q := by
  intro p l e R s m args below meth c QQ E hE C F H locs ls cells slots X
  cases kd with
  | zero => exact va_alen (D := E.2.2.2.1) (tys := cs_tys E) C.1 C.2.1 C.2.2.2.2.2.2.2.2.1.1 X.1.1 a t (cs_ws_get hs) (cs_tys_get E ht) rfl hd (kk p l e R s m args below meth c QQ E hE C F H locs ls cells slots X)
  | succ kd => exact va_alen (D := E.2.2.2.1) (tys := cs_tys E) C.1 C.2.1 C.2.2.2.2.2.2.2.2.1.1 X.1.1 a t (cs_ws_get hs) (cs_tys_get E ht) rfl hd (kk p l e R s m args below meth c QQ E hE C F H locs ls cells slots X)
theorem cs_s_aald {a n t a' : Nat} {j : Int} (hd : decode (cs_cd mi) pc = .ok (.aaload, 1)) (hs : h.1[a]? = some (2, t, n)) (ht2 : 2 ≤ t) (ht : t < cs_an) (hn : n ≤ 2147483648) (h0 : 0 ≤ j) (h1 : j < n) (ha : h.2.2 a j.toNat = some a') (kk : cs_VP sc mi (pc + 1) loc (cs_R a' :: st) h o Q) : cs_VP sc mi pc loc (.inl j :: cs_R a :: st) h o Q := by
  intro p l e R s m args below meth c QQ E hE C F H locs ls cells slots X
  have hj : cs_in j := ⟨by omega, by omega⟩
  have hty : cs_aty t = .object (cs_aC t) := by
    unfold cs_aty
    rw [if_neg (by omega), if_neg (by omega)]
  refine va_aldq (D := E.2.2.2.1) (tys := cs_tys E) (C := cs_aC t) C.1 C.2.1 C.2.2.2.2.2.2.2.2.1.1 X.1.1 a t (cs_ws_get hs) (by rw [cs_tys_get E ht, hty]) (cs_vin h0 h1 hn) hd ?_
  rw [cs_clamp hj, ha]
  exact kk p l e R s m args below meth c QQ E hE C F H locs ls cells slots X
theorem cs_s_iast {a n : Nat} {j x : Int} (hd : decode (cs_cd mi) pc = .ok (.iastore, 1)) (hs : h.1[a]? = some (1, 0, n)) (hn : n ≤ 2147483648) (h0 : 0 ≤ j) (h1 : j < n) (kk : cs_VP sc mi (pc + 1) loc st (h.1, cs_u2 h.2.1 a j.toNat x, h.2.2) o Q) : cs_VP sc mi pc loc (.inl x :: .inl j :: cs_R a :: st) h o Q := by
  intro p l e R s m args below meth c QQ E hE C F H locs ls cells slots X
  have hj : cs_in j := ⟨by omega, by omega⟩
  have hin := cs_vin h0 h1 hn
  have hP := X.1.1
  have hget := cs_ws_get (E := E) hs
  refine W.iast C.1 C.2.1 (hP a _ hget) ((C.2.2.2.2.2.2.2.2.1.1.2 0 _ (cs_tys_get E (t := 0) (by decide))).1 n (fun j => .int (Int32.ofInt (h.2.1 a j)))) (fun q => by cases q) (by show ¬ (_ ∨ (arrV _ _ _).slots.size ≤ _); rw [arrV_size]; exact hin) rfl rfl hd fun H1 e1 z oq => ?_
  refine kk p l e R s m args below meth c QQ E hE C F H1 _ ls cells slots ⟨⟨?_, by rw [z]; exact X.1.2⟩, X.2.1.put z oq (by show E.1 ≤ E.1 + a; omega), X.2.2⟩
  rw [← cs_ws_set (h := h) (h' := (h.1, cs_u2 h.2.1 a j.toNat x, h.2.2)) hs rfl (fun q hq => cs_u2_ne hq) (fun q _ => rfl)]
  refine hP.set (cs_ws_D E h) hget ?_ oq
  show H1[E.1 + a]? = some (vp_cell _ _)
  rw [e1, cs_clamp hj]
  show some ((vp_cell (E.2.1 0) (n, .inl (fun j => Int32.ofInt (h.2.1 a j)))).setSlot j.toNat _) = _
  rw [vp_cell_i, vp_cell_i, arrV_store]
  congr 2
  funext q
  by_cases hq : q = j.toNat
  · subst hq
    simp [updV, cs_u2]
  · simp [updV, cs_u2, hq]
theorem cs_s_cast {a n : Nat} {j x : Int} (hd : decode (cs_cd mi) pc = .ok (.castore, 1)) (hs : h.1[a]? = some (1, 1, n)) (hn : n ≤ 2147483648) (h0 : 0 ≤ j) (h1 : j < n) (hx : 0 ≤ x ∧ x < 65536) (kk : cs_VP sc mi (pc + 1) loc st (h.1, cs_u2 h.2.1 a j.toNat x, h.2.2) o Q) : cs_VP sc mi pc loc (.inl x :: .inl j :: cs_R a :: st) h o Q := by
  intro p l e R s m args below meth c QQ E hE C F H locs ls cells slots X
  have hj : cs_in j := ⟨by omega, by omega⟩
  have hin := cs_vin h0 h1 hn
  have hP := X.1.1
  have hget := cs_ws_get (E := E) hs
  refine W.cast C.1 C.2.1 (hP a _ hget) ((C.2.2.2.2.2.2.2.2.1.1.2 1 _ (cs_tys_get E (t := 1) (by decide))).1 n (fun j => .int (Int32.ofInt (h.2.1 a j)))) (fun q => by cases q) (by show ¬ (_ ∨ (arrV _ _ _).slots.size ≤ _); rw [arrV_size]; exact hin) rfl rfl hd fun H1 e1 z oq => ?_
  refine kk p l e R s m args below meth c QQ E hE C F H1 _ ls cells slots ⟨⟨?_, by rw [z]; exact X.1.2⟩, X.2.1.put z oq (by show E.1 ≤ E.1 + a; omega), X.2.2⟩
  rw [← cs_ws_set (h := h) (h' := (h.1, cs_u2 h.2.1 a j.toNat x, h.2.2)) hs rfl (fun q hq => cs_u2_ne hq) (fun q _ => rfl)]
  refine hP.set (cs_ws_D E h) hget ?_ oq
  show H1[E.1 + a]? = some (vp_cell _ _)
  rw [e1, cs_clamp hj]
  have hnar : narrow .char (.int (Int32.ofInt x)) = .int (Int32.ofInt x) := by
    show Value.int _ = _
    congr 1
    have := cs_i2c (x := x)
    rw [show x % 65536 = x by omega] at this
    exact this
  simp only [hnar]
  show some ((vp_cell (E.2.1 1) (n, .inl (fun j => Int32.ofInt (h.2.1 a j)))).setSlot j.toNat _) = _
  rw [vp_cell_i, vp_cell_i, arrV_store]
  congr 2
  funext q
  by_cases hq : q = j.toNat
  · subst hq
    simp [updV, cs_u2]
  · simp [updV, cs_u2, hq]
end
