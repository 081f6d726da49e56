/-! CONTRACTS: method mi, from these arguments and this heap, answers v and leaves this heap -/
def cs_Pre (E : cs_E) (args : List cs_A) (h : cs_H) : Array Value → State → Prop := fun a U => a = (args.map (cs_rv E)).toArray ∧ cs_KK E U ∧ cs_PP E h U.heap ∧ E.1 ≤ U.heap.size
def cs_Post (E : cs_E) (v : Option cs_A) (h' : cs_H) : Array Value → State → Outcome → State → Prop := fun _ st o t => o = .returned (v.map (cs_rv E)) ∧ cs_PP E h' t.heap ∧ va_F (cs_bs E) st t
def cs_Det (mi : Nat) (args : List cs_A) (h : cs_H) (v : Option cs_A) (h' : cs_H) : Prop :=
  (h'.1.length = h.1.length + cs_mc mi ∧ cs_sz h'.1 = cs_sz h.1 + cs_sl mi) ∧ ∀ (l : Launch) (E : cs_E), Met l (cs_y mi) (cs_wd mi) (cs_rm mi) (cs_Pre E args h) (cs_Post E v h') (cs_mc mi) (cs_sl mi) (cs_bs E)
/-- the same, over one script -/
def cs_DetS (sc : Nat × (Nat → Int)) (mi : Nat) (args : List cs_A) (h : cs_H) (v : Option cs_A) (h' : cs_H) : Prop :=
  (h'.1.length = h.1.length + cs_mc mi ∧ cs_sz h'.1 = cs_sz h.1 + cs_sl mi) ∧ ∀ (l : Launch) (E : cs_E), E.2.2.2.2 = sc → Met l (cs_y mi) (cs_wd mi) (cs_rm mi) (cs_Pre E args h) (cs_Post E v h') (cs_mc mi) (cs_sl mi) (cs_bs E)
theorem cs_Det.S {sc : Nat × (Nat → Int)} {mi : Nat} {args : List cs_A} {h h' : cs_H} {v : Option cs_A} (hD : cs_Det mi args h v h') : cs_DetS sc mi args h v h' := ⟨hD.1, fun l E _ => hD.2 l E⟩
theorem cs_blind (E : cs_E) (args : List cs_A) (h : cs_H) : FrameBlind (cs_Pre E args h) := fun _ _ _ _ q => ⟨q.1, cs_KK_same q.2.1 rfl rfl, q.2.2.1, q.2.2.2⟩
section
variable {sc : Nat × (Nat → Int)} {mi pc : Nat} {loc rest : List cs_A} {h h' : cs_H} {o : Nat × Nat} {Q : Option cs_A → cs_H → Prop}
/-- behind a call -/
theorem cs_after {p : Program} {l : Launch} {e : Env} {R : Room} {s : State} {m : MethodId} {args : Array Value} {below : List Frame} {meth : Method} {c : Code} {QQ : State → Prop} {E : cs_E} {H : Heap} {locs : List Loc} {ls : Array Slot} {cells slots mj : Nat} {v : Option cs_A} {a : Array Value} {st0 : List Value}
    (hE : E.2.2.2.2 = sc) (C : cs_C mi E p R s m args meth c) (F : cs_F mi p l e R s m args below meth c QQ E o Q) (X : cs_X mi E o R s h loc H locs ls cells slots)
    (hlen : h'.1.length = h.1.length + cs_mc mj ∧ cs_sz h'.1 = cs_sz h.1 + cs_sl mj) (hcc : cells + cs_mc mj ≤ R.cells ∧ slots + cs_sl mj ≤ R.slots)
    (hr : va_Run p l e R s m args below meth c H locs cells slots (cs_mc mj) (cs_sl mj) (F0 m pc ls st0) (rest.map (cs_rv E)) (cs_Post E v h' a) (cs_bs E))
    (kk : cs_VP sc mi (pc + 3) loc (v.toList ++ rest) h' o Q) : W p l e R s m args below meth c H locs cells slots QQ (F0 m pc ls st0) := by
  intro T hT X0
  obtain ⟨v', st₀, t, T', L, h0, X', hL, e1, e2, ⟨hv, hPP, hz, hk⟩, st⟩ := hr T hT X0
  cases hv
  rw [h0] at hz hk
  obtain ⟨hP, hS, hl, hc1, hc2, hc3, hc4⟩ := X
  have X2 : cs_X mi E o R s h' loc T'.heap (locs ++ L) ls (cells + cs_mc mj) (slots + cs_sl mj) := by
    refine ⟨by rw [e1]; exact hPP, ⟨Nat.le_trans hS.1 (by rw [e1]; exact hz), fun q h1 h2 => ?_, fun q hq => ?_⟩, hl, by omega, by omega, hcc.1, hcc.2⟩
    · rw [e1, hk q (Nat.lt_of_lt_of_le h1 hS.1) h2]
      exact hS.2.1 q h1 h2
    · rcases List.mem_append.mp hq with h | h
      · exact hS.2.2 q h
      · exact hL q h
  have hst : (v.map (cs_rv E)).toList ++ rest.map (cs_rv E) = (v.toList ++ rest).map (cs_rv E) := by cases v <;> rfl
  obtain ⟨t2, a1, b1⟩ := kk p l e R s m args below meth c QQ E hE C F T'.heap (locs ++ L) ls _ _ X2 T' rfl X'
  rw [← hst] at a1
  exact ⟨t2, st t2 a1, b1⟩
theorem cs_preS {mj : Nat} {p : Program} {R : Room} {s : State} {m : MethodId} {args : Array Value} {meth : Method} {c : Code} {E : cs_E} {H : Heap} {locs : List Loc} {ls : Array Slot} {cells slots : Nat} {as : List cs_A}
    (C : cs_C mi E p R s m args meth c) (X : cs_X mi E o R s h loc H locs ls cells slots) : ∀ U : State, U.heap = H → s.WarmedH U.vm → cs_Pre E as h ((as.map (cs_rv E)).toArray) U := by
  intro U hU hW
  refine ⟨rfl, cs_KK_move C.2.2.2.2.2.2.2.2.1 hW (fun q h1 h2 => by rw [hU]; exact X.2.1.2.1 q h1 h2), by rw [hU]; exact X.1, ?_⟩
  rw [hU, X.1.2]
  omega
theorem cs_callB {mj idx : Nat} {p : Program} {R : Room} {s : State} {m : MethodId} {args : Array Value} {meth : Method} {c : Code} {E : cs_E} (C : cs_C mi E p R s m args meth c) (hj : mj < cs_ms.length - 1)
    (hl : Cond.methodLink (cs_cn (cs_ow mi)) idx (cs_y mj) ∈ cs_G) (hini : Cond.initialized (cs_y mj).cls ∈ cs_G) (hfr : cs_fm mj + 1 ≤ cs_fm mi) (hlo : 8 + (cs_ml mj + 11) + cs_lo mj ≤ cs_lo mi) :
    CallB R s args (cs_cn (cs_ow mi)) idx (cs_y mj) (cs_cd mj) (cs_ml mj) (cs_rt mj) (cs_wd mj) (cs_rm mj) (cs_mc mj) (cs_sl mj) (cs_na mj) := by
  have hok := cs_goodC hj
  simp only [cs_okM, Bool.and_eq_true, decide_eq_true_eq] at hok
  exact callB_of (Ts := cs_G) (ws' := cs_G) (cs_na mj) C.2.2.2.2.2.1 (cs_goodIn hj) rfl rfl rfl (C.2.2.2.2.2.1 _ hini) (C.2.2.2.2.2.1 _ hl) hok.1.2 ⟨Nat.le_trans hfr C.2.2.2.2.2.2.2.2.2.2.1, Nat.le_trans hlo C.2.2.2.2.2.2.2.2.2.2.2.1⟩
theorem cs_callN {mj idx : Nat} {p : Program} {R : Room} {s : State} {m : MethodId} {args : Array Value} {meth : Method} {c : Code} {E : cs_E} (C : cs_C mi E p R s m args meth c) (hj : mj < cs_ms.length - 1)
    (hl : Cond.methodLinkNest (cs_cn (cs_ow mi)) idx (cs_y mj) cs_host ∈ cs_NW) (hini : Cond.initialized (cs_y mj).cls ∈ cs_G) (hfr : cs_fm mj + 1 ≤ cs_fm mi) (hlo : 8 + (cs_ml mj + 11) + cs_lo mj ≤ cs_lo mi) :
    va_CN R s args (cs_cn (cs_ow mi)) idx (cs_y mj) cs_host (cs_cd mj) (cs_ml mj) (cs_rt mj) (cs_wd mj) (cs_rm mj) (cs_mc mj) (cs_sl mj) (cs_na mj) := by
  have hok := cs_goodC hj
  simp only [cs_okM, Bool.and_eq_true, decide_eq_true_eq] at hok
  exact va_cnB (Ts := cs_G) (ws' := cs_G) (cs_na mj) C.2.2.2.2.2.1 (cs_goodIn hj) rfl rfl rfl (C.2.2.2.2.2.2.2.2.1.2.1 _ hl) (C.2.2.2.2.2.1 _ hini) hok.1.2 ⟨Nat.le_trans hfr C.2.2.2.2.2.2.2.2.2.2.1, Nat.le_trans hlo C.2.2.2.2.2.2.2.2.2.2.2.1⟩
theorem cs_fit {mj : Nat} {p : Program} {R : Room} {s : State} {m : MethodId} {args : Array Value} {meth : Method} {c : Code} {E : cs_E} {H : Heap} {locs : List Loc} {ls : Array Slot} {cells slots : Nat}
    (C : cs_C mi E p R s m args meth c) (X : cs_X mi E o R s h loc H locs ls cells slots) (hmc : (cs_mc mj = 0 ∧ cs_sl mj = 0) ∨ (h.1.length + cs_mc mj ≤ o.1 + cs_mc mi ∧ cs_sz h.1 + cs_sl mj ≤ o.2 + cs_sl mi)) : cells + cs_mc mj ≤ R.cells ∧ slots + cs_sl mj ≤ R.slots := by
  obtain ⟨-, -, -, hc1, hc2, hc3, hc4⟩ := X
  obtain ⟨-, -, -, -, -, -, -, -, -, -, -, -, h1, h2⟩ := C
  rcases hmc with ⟨a, b⟩ | ⟨a, b⟩ <;> constructor <;> omega
theorem cs_s_callV {idx mj b w1 w2 w3 w4 n : Nat} {as : List cs_A} {v : Option cs_A} (hd : decode (cs_cd mi) pc = .ok (.invokevirtual idx, 3)) (hw : cs_okV (cs_ow mi, idx, mj, w1, w2, w3, w4) = true) (hfr : cs_fm mj + 1 ≤ cs_fm mi) (hlo : 8 + (cs_ml mj + 11) + cs_lo mj ≤ cs_lo mi) (hna : as.length = cs_na mj) (hob : h.1[b]? = some (0, cs_ow mj, n)) (hcl : cs_ow mj < vwCl.length)
    (hmc : (cs_mc mj = 0 ∧ cs_sl mj = 0) ∨ (h.1.length + cs_mc mj ≤ o.1 + cs_mc mi ∧ cs_sz h.1 + cs_sl mj ≤ o.2 + cs_sl mi)) (hrest : rest.length ≤ 8) (hD : cs_DetS sc mj (cs_R b :: as) h v h') (kk : cs_VP sc mi (pc + 3) loc (v.toList ++ rest) h' o Q) : cs_VP sc mi pc loc (as.reverse ++ cs_R b :: rest) h o Q := by
  intro p l e R s m args below meth c QQ E hE C F H locs ls cells slots X
  simp only [cs_okV, Bool.and_eq_true, decide_eq_true_eq] at hw
  obtain ⟨⟨⟨⟨hj, w1⟩, w2⟩, w3⟩, w4⟩ := hw
  obtain ⟨hx, hb, hml, hr, hown, hts, hlk, hin, hKK, hbs, hfr', hlo', hcl', hsl⟩ := id C
  have hok := cs_goodC hj
  simp only [cs_okM, Bool.and_eq_true, decide_eq_true_eq] at hok
  have hc : vwCl[cs_ow mj]? = some vwCl[cs_ow mj] := List.getElem?_eq_getElem hcl
  have hrecv := va_recv (tys := cs_tys E) hKK.1 X.1.1 hc (cs_ws_get (E := E) hob)
  rw [(cs_dflt hc).1, ← hok.2] at hrecv
  have hrun := va_runV (p := p) (l := l) (e := e) (below := below) (meth := meth) (locs := locs) (cells := cells) (slots := slots) (H := H) (g := F0 m pc ls ((as.reverse ++ cs_R b :: rest).map (cs_rv E))) (C := (cs_y mj).cls) (As := as.map (cs_rv E)) (rest := rest.map (cs_rv E)) (b := E.1 + b) (own := cs_cn (cs_ow mi)) (Ts := cs_G) ⟨hx, hb, hml, hown, hts⟩ (hD.2 l E hE)
    ⟨cs_callB C hj (cs_mem w1 rfl) (cs_mem w4 rfl) hfr hlo, hts _ (cs_mem w2 rfl), hts _ (cs_mem w3 rfl)⟩ ⟨cs_blind E _ h, hrecv, cs_preS (mj := mj) (as := cs_R b :: as) C X⟩ rfl (by simpa using hna) (by rw [X.2.2.1.1]) (by simp [cs_rv, va_rf]) (lv_room (cs_cat8 hrest)) hd (cs_fit C X hmc)
  exact cs_after hE C F X hD.1 (cs_fit C X hmc) hrun kk
theorem cs_s_callI {idx mj b w1 w2 w3 : Nat} {as : List cs_A} {v : Option cs_A} (hd : decode (cs_cd mi) pc = .ok (.invokespecial idx, 3)) (hw : cs_okI (cs_ow mi, idx, mj, w1, w2, w3) = true) (hfr : cs_fm mj + 1 ≤ cs_fm mi) (hlo : 8 + (cs_ml mj + 11) + cs_lo mj ≤ cs_lo mi) (hna : as.length = cs_na mj)
    (hmc : (cs_mc mj = 0 ∧ cs_sl mj = 0) ∨ (h.1.length + cs_mc mj ≤ o.1 + cs_mc mi ∧ cs_sz h.1 + cs_sl mj ≤ o.2 + cs_sl mi)) (hrest : rest.length ≤ 8) (hD : cs_DetS sc mj (cs_R b :: as) h v h') (kk : cs_VP sc mi (pc + 3) loc (v.toList ++ rest) h' o Q) : cs_VP sc mi pc loc (as.reverse ++ cs_R b :: rest) h o Q := by
  intro p l e R s m args below meth c QQ E hE C F H locs ls cells slots X
  simp only [cs_okI, Bool.and_eq_true, decide_eq_true_eq] at hw
  obtain ⟨⟨⟨⟨⟨hj, w1⟩, w2⟩, w3⟩, w4⟩, w5⟩ := hw
  obtain ⟨hx, hb, hml, hr, hown, hts, hlk, hin, hKK, hbs, hfr', hlo', hcl', hsl⟩ := id C
  have hB := cs_callB C hj (cs_mem w1 rfl) (cs_mem w3 rfl) hfr hlo
  rw [w5] at hB
  have hrun := va_runI (p := p) (l := l) (e := e) (below := below) (meth := meth) (locs := locs) (cells := cells) (slots := slots) (H := H) (g := F0 m pc ls ((as.reverse ++ cs_R b :: rest).map (cs_rv E))) (As := as.map (cs_rv E)) (rest := rest.map (cs_rv E)) (b := E.1 + b) (own := cs_cn (cs_ow mi)) (Ts := cs_G) ⟨hx, hb, hml, hown, hts⟩ (hD.2 l E hE)
    ⟨hB, w4, hts _ (cs_mem w2 rfl)⟩ ⟨cs_blind E _ h, cs_preS (mj := mj) (as := cs_R b :: as) C X⟩ rfl (by simpa using hna) (by rw [X.2.2.1.1]) (by simp [cs_rv, va_rf]) (lv_room (cs_cat8 hrest)) hd (cs_fit C X hmc)
  exact cs_after hE C F X hD.1 (cs_fit C X hmc) hrun kk
theorem cs_s_callIn {idx mj b w1 w2 w3 : Nat} {as : List cs_A} {v : Option cs_A} (hd : decode (cs_cd mi) pc = .ok (.invokespecial idx, 3)) (hw : cs_okIn (cs_ow mi, idx, mj, w1, w2, w3) = true) (hfr : cs_fm mj + 1 ≤ cs_fm mi) (hlo : 8 + (cs_ml mj + 11) + cs_lo mj ≤ cs_lo mi) (hna : as.length = cs_na mj)
    (hmc : (cs_mc mj = 0 ∧ cs_sl mj = 0) ∨ (h.1.length + cs_mc mj ≤ o.1 + cs_mc mi ∧ cs_sz h.1 + cs_sl mj ≤ o.2 + cs_sl mi)) (hrest : rest.length ≤ 8) (hD : cs_DetS sc mj (cs_R b :: as) h v h') (kk : cs_VP sc mi (pc + 3) loc (v.toList ++ rest) h' o Q) : cs_VP sc mi pc loc (as.reverse ++ cs_R b :: rest) h o Q := by
  intro p l e R s m args below meth c QQ E hE C F H locs ls cells slots X
  simp only [cs_okIn, Bool.and_eq_true, decide_eq_true_eq] at hw
  obtain ⟨⟨⟨⟨⟨hj, w1⟩, w2⟩, w3⟩, w4⟩, w5⟩ := hw
  obtain ⟨hx, hb, hml, hr, hown, hts, hlk, hin, hKK, hbs, hfr', hlo', hcl', hsl⟩ := id C
  have hB := cs_callN C hj w1 (cs_mem w3 rfl) hfr hlo
  rw [w5] at hB
  have hrun := va_runIN (p := p) (l := l) (e := e) (below := below) (meth := meth) (locs := locs) (cells := cells) (slots := slots) (H := H) (g := F0 m pc ls ((as.reverse ++ cs_R b :: rest).map (cs_rv E))) (As := as.map (cs_rv E)) (rest := rest.map (cs_rv E)) (b := E.1 + b) (own := cs_cn (cs_ow mi)) (Ts := cs_G) ⟨hx, hb, hml, hown, hts⟩ (hD.2 l E hE)
    ⟨hB, w4, hts _ (cs_mem w2 rfl)⟩ ⟨cs_blind E _ h, cs_preS (mj := mj) (as := cs_R b :: as) C X⟩ rfl (by simpa using hna) (by rw [X.2.2.1.1]) (by simp [cs_rv, va_rf]) (lv_room (cs_cat8 hrest)) hd (cs_fit C X hmc)
  exact cs_after hE C F X hD.1 (cs_fit C X hmc) hrun kk
theorem cs_s_callS {idx mj w1 w2 w3 : Nat} {as : List cs_A} {v : Option cs_A} (hd : decode (cs_cd mi) pc = .ok (.invokestatic idx, 3)) (hw : cs_okS (cs_ow mi, idx, mj, w1, w2, w3) = true) (hfr : cs_fm mj + 1 ≤ cs_fm mi) (hlo : 8 + (cs_ml mj + 11) + cs_lo mj ≤ cs_lo mi) (hna : as.length = cs_na mj)
    (hmc : (cs_mc mj = 0 ∧ cs_sl mj = 0) ∨ (h.1.length + cs_mc mj ≤ o.1 + cs_mc mi ∧ cs_sz h.1 + cs_sl mj ≤ o.2 + cs_sl mi)) (hrest : rest.length ≤ 8) (hD : cs_DetS sc mj as h v h') (kk : cs_VP sc mi (pc + 3) loc (v.toList ++ rest) h' o Q) : cs_VP sc mi pc loc (as.reverse ++ rest) h o Q := by
  intro p l e R s m args below meth c QQ E hE C F H locs ls cells slots X
  simp only [cs_okS, Bool.and_eq_true, decide_eq_true_eq] at hw
  obtain ⟨⟨⟨⟨hj, w1⟩, w2⟩, w3⟩, w4⟩ := hw
  obtain ⟨hx, hb, hml, hr, hown, hts, hlk, hin, hKK, hbs, hfr', hlo', hcl', hsl⟩ := id C
  have hB := cs_callB C hj (cs_mem w1 rfl) (cs_mem w3 rfl) hfr hlo
  have hrun := va_runS (p := p) (l := l) (e := e) (below := below) (meth := meth) (locs := locs) (cells := cells) (slots := slots) (H := H) (g := F0 m pc ls ((as.reverse ++ rest).map (cs_rv E))) (As := as.map (cs_rv E)) (rest := rest.map (cs_rv E)) (own := cs_cn (cs_ow mi)) (Ts := cs_G) ⟨hx, hb, hml, hown, hts⟩ (hD.2 l E hE)
    ⟨hB, hts _ (cs_mem w2 rfl)⟩ ⟨cs_blind E _ h, cs_preS (mj := mj) (as := as) C X⟩ rfl (by simpa using hna) (by rw [X.2.2.1.1]) (by simp) (lv_room (cs_cat8 hrest)) hd (cs_fit C X hmc)
  exact cs_after hE C F X hD.1 (cs_fit C X hmc) hrun kk
theorem cs_s_callSn {idx mj w1 w2 w3 : Nat} {as : List cs_A} {v : Option cs_A} (hd : decode (cs_cd mi) pc = .ok (.invokestatic idx, 3)) (hw : cs_okSn (cs_ow mi, idx, mj, w1, w2, w3) = true) (hfr : cs_fm mj + 1 ≤ cs_fm mi) (hlo : 8 + (cs_ml mj + 11) + cs_lo mj ≤ cs_lo mi) (hna : as.length = cs_na mj)
    (hmc : (cs_mc mj = 0 ∧ cs_sl mj = 0) ∨ (h.1.length + cs_mc mj ≤ o.1 + cs_mc mi ∧ cs_sz h.1 + cs_sl mj ≤ o.2 + cs_sl mi)) (hrest : rest.length ≤ 8) (hD : cs_DetS sc mj as h v h') (kk : cs_VP sc mi (pc + 3) loc (v.toList ++ rest) h' o Q) : cs_VP sc mi pc loc (as.reverse ++ rest) h o Q := by
  intro p l e R s m args below meth c QQ E hE C F H locs ls cells slots X
  simp only [cs_okSn, Bool.and_eq_true, decide_eq_true_eq] at hw
  obtain ⟨⟨⟨hj, w1⟩, w2⟩, w3⟩ := hw
  obtain ⟨hx, hb, hml, hr, hown, hts, hlk, hin, hKK, hbs, hfr', hlo', hcl', hsl⟩ := id C
  have hB := cs_callN C hj w1 (cs_mem w3 rfl) hfr hlo
  have hrun := va_runSN (p := p) (l := l) (e := e) (below := below) (meth := meth) (locs := locs) (cells := cells) (slots := slots) (H := H) (g := F0 m pc ls ((as.reverse ++ rest).map (cs_rv E))) (As := as.map (cs_rv E)) (rest := rest.map (cs_rv E)) (own := cs_cn (cs_ow mi)) (Ts := cs_G) ⟨hx, hb, hml, hown, hts⟩ (hD.2 l E hE)
    ⟨hB, hts _ (cs_mem w2 rfl), trivial⟩ ⟨cs_blind E _ h, cs_preS (mj := mj) (as := as) C X⟩ rfl (by simpa using hna) (by rw [X.2.2.1.1]) (by simp) (lv_room (cs_cat8 hrest)) hd (cs_fit C X hmc)
  exact cs_after hE C F X hD.1 (cs_fit C X hmc) hrun kk
end
