/-- System.arraycopy from the start of one int array to the start of another -/
def cs_cp (f : Nat → Nat → Int) (a0 a1 n : Nat) : Nat → Nat → Int := fun a k => if a = a1 ∧ k < n then f a0 k else f a k
section
variable {sc : Nat × (Nat → Int)} {mi pc : Nat} {loc st : List cs_A} {h : cs_H} {o : Nat × Nat} {Q : Option cs_A → cs_H → Prop}
theorem cs_s_copy {idx w1 a0 a1 n0 n1 : Nat} {n : Int} (hd : decode (cs_cd mi) pc = .ok (.invokestatic idx, 3)) (hw : cs_okCpy (cs_ow mi, idx, w1) = true) (hfr : 1 ≤ cs_fm mi) (hlo : 50 ≤ cs_lo mi) (hst : st.length ≤ 8)
    (hs0 : h.1[a0]? = some (1, 0, n0)) (hs1 : h.1[a1]? = some (1, 0, n1)) (hn : 0 ≤ n) (hl0 : n ≤ n0) (hl1 : n ≤ n1) (hnb : n ≤ 100000) (kk : cs_VP sc mi (pc + 3) loc st (h.1, cs_cp h.2.1 a0 a1 n.toNat, h.2.2) o Q) : cs_VP sc mi pc loc (.inl n :: .inl 0 :: cs_R a1 :: .inl 0 :: cs_R a0 :: st) h o Q := by
  intro p l e R s m args below meth c QQ E hE C F H locs ls cells slots X
  obtain ⟨hexec, hb, hml, hr, hown, hts, hlk, hin, hKK, hbs, hfr', hlo', hcl, hsl⟩ := id C
  obtain ⟨⟨hP, hsz⟩, hS, hl, hc1, hc2, hc3, hc4⟩ := id X
  have hc8 := cs_cat8 (E := E) hst
  have hnin : cs_in n := ⟨by omega, by omega⟩
  have hcn := cs_clamp hnin
  have hti := cs_toInt hnin
  have hg0 := cs_ws_get (E := E) hs0
  have hg1 := cs_ws_get (E := E) hs1
  have hc0 : H[E.1 + a0]? = some (vp_cell (E.2.1 0) (n0, .inl (fun j => Int32.ofInt (h.2.1 a0 j)))) := hP a0 _ hg0
  have hc1' : H[E.1 + a1]? = some (vp_cell (E.2.1 0) (n1, .inl (fun j => Int32.ofInt (h.2.1 a1 j)))) := hP a1 _ hg1
  have hAr := (hKK.1.2 0 _ (cs_tys_get E (t := 0) (by decide))).1
  obtain ⟨-, k0, hk0, cm0, hkk0⟩ := hAr n0 (fun j => .int (Int32.ofInt (h.2.1 a0 j)))
  obtain ⟨-, k1, hk1, cm1, hkk1⟩ := hAr n1 (fun j => .int (Int32.ofInt (h.2.1 a1 j)))
  intro T hT X0
  have z0 : (0 : Int32).toInt = 0 := rfl
  have z0c : (0 : Int32).toNatClampNeg = 0 := rfl
  obtain ⟨vm', X', step⟩ := X0.arraycopy hexec hown (hts _ (cs_mem hw rfl)) (hts _ cs_tSys.1) (hts _ cs_tSys.2.1) (hts _ cs_tSys.2.2) (src := E.1 + a0) (dst := E.1 + a1) (cs := vp_cell (E.2.1 0) (n0, .inl (fun j => Int32.ofInt (h.2.1 a0 j)))) (cd := vp_cell (E.2.1 0) (n1, .inl (fun j => Int32.ofInt (h.2.1 a1 j)))) (srcPos := 0) (destPos := 0) (n := Int32.ofInt n) (by rw [hT]; exact hc0) (by rw [hT]; exact hc1')
    (fun _ h => by cases h) (fun _ h => by cases h) (fun h => by cases h) (fun h => by cases h) hk0 hk1 hkk0 hkk1 rfl (by decide) (by decide) (fun q => by have := (cs_lt hnin cs_in0).mp q; omega)
    (by rw [hti, z0]; show ¬ _ > ((arrV (E.2.1 0) n0 (fun j => .int (Int32.ofInt (h.2.1 a0 j)))).slots.size : Int); rw [arrV_size]; omega)
    (by rw [hti, z0]; show ¬ _ > ((arrV (E.2.1 0) n1 (fun j => .int (Int32.ofInt (h.2.1 a1 j)))).slots.size : Int); rw [arrV_size]; omega)
    (fun vm₁ _ i hi => by
      rw [hcn] at hi
      have e : (vp_cell (E.2.1 0) (n0, .inl (fun j => Int32.ofInt (h.2.1 a0 j)))).slots.getD ((0 : Int32).toNatClampNeg + i) .null = .int (Int32.ofInt (h.2.1 a0 i)) := by
        show (arrV (E.2.1 0) n0 (fun j => .int (Int32.ofInt (h.2.1 a0 j)))).slots.getD _ _ = _
        rw [z0c, Nat.zero_add, Array.getD_eq_getD_getElem?, arrV_read _ _ (by omega)]
        rfl
      refine ⟨?_, ?_⟩
      · rw [e]
        rfl
      · rw [e]
        exact trivial)
    (g := F0 m pc ls ((.inl n :: .inl 0 :: cs_R a1 :: .inl 0 :: cs_R a0 :: st).map (cs_rv E))) rfl (by rw [hml]; exact hl.1) (rest := st.map (cs_rv E)) rfl (by rw [hb]; exact hd) (by omega) (by
      have hw50 : nativeFrameWords "java/lang/System" "arraycopy" 5 + 11 ≤ 42 := by decide
      show 2 * 0 + _ + _ ≤ _
      omega)
  have e1 : copied (vp_cell (E.2.1 0) (n0, .inl (fun j => Int32.ofInt (h.2.1 a0 j)))) (vp_cell (E.2.1 0) (n1, .inl (fun j => Int32.ofInt (h.2.1 a1 j)))) 0 0 (Int32.ofInt n) = vp_cell (E.2.1 0) (n1, .inl (va_cpy (fun j => Int32.ofInt (h.2.1 a0 j)) (fun j => Int32.ofInt (h.2.1 a1 j)) (0 : Int32).toNatClampNeg (0 : Int32).toNatClampNeg (Int32.ofInt n).toNatClampNeg)) := va_copied (fun z => .int z) (E.2.1 0) (E.2.1 0) (fun j => Int32.ofInt (h.2.1 a0 j)) (fun j => Int32.ofInt (h.2.1 a1 j)) (by rw [z0c, hcn]; omega)
  rw [e1] at X' step
  have hlt : E.1 + a1 < H.size := (Array.getElem?_eq_some_iff.mp hc1').1
  have hheap : ((T.setVm vm').setCell (E.1 + a1) (vp_cell (E.2.1 0) (n1, .inl (va_cpy (fun j => Int32.ofInt (h.2.1 a0 j)) (fun j => Int32.ofInt (h.2.1 a1 j)) (0 : Int32).toNatClampNeg (0 : Int32).toNatClampNeg (Int32.ofInt n).toNatClampNeg)))).heap = H.setIfInBounds (E.1 + a1) (vp_cell (E.2.1 0) (n1, .inl (va_cpy (fun j => Int32.ofInt (h.2.1 a0 j)) (fun j => Int32.ofInt (h.2.1 a1 j)) (0 : Int32).toNatClampNeg (0 : Int32).toNatClampNeg (Int32.ofInt n).toNatClampNeg))) := by rw [← hT]; rfl
  generalize hY : vp_cell (E.2.1 0) (n1, .inl (va_cpy (fun j => Int32.ofInt (h.2.1 a0 j)) (fun j => Int32.ofInt (h.2.1 a1 j)) (0 : Int32).toNatClampNeg (0 : Int32).toNatClampNeg (Int32.ofInt n).toNatClampNeg)) = Y at X' step hheap
  have oq : ∀ q : Nat, q ≠ E.1 + a1 → (H.setIfInBounds (E.1 + a1) Y)[q]? = H[q]? := fun q hq => by simp [Array.getElem?_setIfInBounds, Ne.symm hq]
  have hYe : Y = vp_cell (E.2.1 0) (n1, .inl (fun j => Int32.ofInt (cs_cp h.2.1 a0 a1 n.toNat a1 j))) := by
    rw [← hY]
    congr 3
    funext k
    rw [z0c, hcn]
    by_cases hk : k < n.toNat
    · simp [va_cpy, cs_cp, hk]
    · simp [va_cpy, cs_cp, hk]
  have hPP : cs_PP E (h.1, cs_cp h.2.1 a0 a1 n.toNat, h.2.2) (H.setIfInBounds (E.1 + a1) Y) := by
    refine ⟨?_, by simpa using hsz⟩
    rw [← cs_ws_set (h := h) (h' := (h.1, cs_cp h.2.1 a0 a1 n.toNat, h.2.2)) hs1 rfl (fun q hq => by funext k; simp [cs_cp, hq]) (fun q _ => rfl)]
    refine hP.set (cs_ws_D E h) hg1 ?_ oq
    show (H.setIfInBounds (E.1 + a1) Y)[E.1 + a1]? = some (vp_cell _ _)
    rw [hYe]
    simp [Array.getElem?_setIfInBounds, hlt]
  obtain ⟨t, t1, t2⟩ := kk p l e R s m args below meth c QQ E hE C F (H.setIfInBounds (E.1 + a1) Y) _ ls cells slots ⟨hPP, ⟨by simp; exact hS.1, fun q g1 g2 => by
      rw [oq q (fun e => g2 (by rw [e]; show E.1 ≤ E.1 + a1; omega))]
      exact hS.2.1 q g1 g2, fun q hq => by
      rcases List.mem_append.mp hq with h | h
      · exact hS.2.2 q h
      · obtain ⟨z, -, hz⟩ := List.mem_map.mp h
        rw [← hz]
        show E.1 ≤ E.1 + a1
        omega⟩, hl, hc1, hc2, hc3, hc4⟩ _ hheap X'
  exact ⟨t, step t t1, t2⟩
/-! returns -/
theorem cs_s_ret {v : Option cs_A} (hq : Q v h) (hr : cs_rok mi pc v) : cs_VP sc mi pc loc v.toList h o Q := by
  intro p l e R s m args below meth c QQ E hE C F H locs ls cells slots X
  exact F v h H locs ls pc cells slots hq hr X.1 X.2.1 X.2.2.2.1 X.2.2.2.2.1 X.2.2.2.2.2.1 X.2.2.2.2.2.2
end
theorem cs_sl_len (E : cs_E) (args : List cs_A) : (lg_sl (args.map (cs_rv E))).length = args.length := by
  have : lg_sl (args.map (cs_rv E)) = (args.map (cs_rv E)).map Slot.val := by
    induction args with
    | nil => rfl
    | cons a r ih =>
      have hcat := cs_rv_cat E a
      simp only [List.map_cons, lg_sl, List.flatMap_cons, hcat] at ih ⊢
      rw [if_neg (by decide), ih]
      rfl
  rw [this]
  simp
/-- a contract out of a walk of the body -/
theorem cs_DetS_of {sc : Nat × (Nat → Int)} {mi : Nat} {args : List cs_A} {h h' : cs_H} {v : Option cs_A} (hi : mi < cs_ms.length - 1) (hnl : ∀ a ∈ args, a ≠ cs_N) (hna : args.length ≤ cs_ml mi) (hlen : h'.1.length = h.1.length + cs_mc mi ∧ cs_sz h'.1 = cs_sz h.1 + cs_sl mi)
    (hb : cs_VP sc mi 0 (args ++ List.replicate (cs_ml mi - args.length) cs_N) [] h (h.1.length, cs_sz h.1) (fun v' h'' => v' = v ∧ h'' = h')) : cs_DetS sc mi args h v h' := by
  refine ⟨hlen, fun l E hEs => ?_⟩
  have hok := cs_goodC hi
  simp only [cs_okM, Bool.and_eq_true, decide_eq_true_eq] at hok
  refine Met.ofW (cc := cs_cd mi) (maxL := cs_ml mi) (ret := cs_rt mi) (ws' := cs_G) hok.1.1 rfl ?_
  intro p e s m args' below meth c s₁ B hml ⟨ha, hKK, hPP, hbs⟩
  subst ha
  have hts := atoms_spec (ws := cs_wd mi) B.pre
  have hown : s.vm.findClass (cs_y mi).cls = some m.cls := findClass_of_methodNamed B.named
  have hC : cs_C mi E p (cs_rm mi) s m (args.map (cs_rv E)).toArray meth c := by
    refine ⟨B.exec, B.bytes, hml, B.returns, by rw [← hok.2]; exact hown, fun w hw => hts w (List.mem_cons_of_mem _ hw), B.notSynchronized, fun hn => ?_, hKK, hbs, Nat.le_refl _, Nat.le_refl _, Nat.le_refl _, Nat.le_refl _⟩
    rw [← hn]
    exact (name_of_methodNamed B.named B.method).1
  have hsl := cs_sl_len E args
  rw [lg_entry_eq]
  have hle := lv_entry (args.map (cs_rv E)) (n := cs_ml mi) (by rw [hsl]; exact hna)
  rw [cs_args_lp E args 0 hnl] at hle
  generalize (lg_sl (args.map (cs_rv E)) ++ List.replicate (cs_ml mi - (lg_sl (args.map (cs_rv E))).length) Slot.unset).toArray = ls at hle ⊢
  have hL : cs_L E ls (cs_ml mi) (args ++ List.replicate (cs_ml mi - args.length) cs_N) := by
    unfold cs_L
    rw [cs_lp_pad]
    exact hle
  have hX : cs_X mi E (h.1.length, cs_sz h.1) (cs_rm mi) s h (args ++ List.replicate (cs_ml mi - args.length) cs_N) s.heap [] ls 0 0 := ⟨hPP, va_S.rf, hL, by simp, by simp, Nat.zero_le _, Nat.zero_le _⟩
  refine hb p l e (cs_rm mi) s m _ below meth c _ E hEs hC ?_ s.heap [] ls 0 0 hX
  intro v' h'' H' locs' ls' pc' cells' slots' ⟨rfl, rfl⟩ hr hPP' hS' hc1 hc2 hc3 hc4
  have h1 : cells' = cs_mc mi := by have := hlen.1; simp only at hc1; omega
  have h2 : slots' = cs_sl mi := by have := hlen.2; simp only at hc2; omega
  subst h1; subst h2
  have hpost : ∀ t : State, t.heap = H' → s.WarmedH t.vm → ∀ ov, ov = Outcome.returned (v'.map (cs_rv E)) → cs_Post E v' h'' (args.map (cs_rv E)).toArray s ov t := fun t ht _ ov hov => ⟨hov, by rw [ht]; exact hPP', hS'.F ht⟩
  rcases hr with ⟨rfl, hd, hrt⟩ | ⟨x, ty, rfl, hd, hrt, hn⟩ | ⟨w, ty, rfl, hw, hd, hrt, hty⟩
  · exact W.vret hC.1 hC.2.1 (hC.2.2.2.1.trans hrt) (fun t ht hW => hpost t ht hW _ rfl) hS'.2.2 hd B.notSynchronized
  · exact W.zret hC.1 hC.2.1 (hC.2.2.2.1.trans hrt) hn (fun t ht hW => hpost t ht hW _ rfl) hS'.2.2 hd B.notSynchronized
  · refine W.aret hC.1 hC.2.1 (hC.2.2.2.1.trans hrt) hty ?_ (fun t ht hW => hpost t ht hW _ rfl) hS'.2.2 hd B.notSynchronized
    rcases hw with rfl | ⟨a, rfl⟩
    · exact Or.inl rfl
    · exact Or.inr ⟨_, rfl⟩
theorem cs_Det_of {mi : Nat} {args : List cs_A} {h h' : cs_H} {v : Option cs_A} (hi : mi < cs_ms.length - 1) (hnl : ∀ a ∈ args, a ≠ cs_N) (hna : args.length ≤ cs_ml mi) (hlen : h'.1.length = h.1.length + cs_mc mi ∧ cs_sz h'.1 = cs_sz h.1 + cs_sl mi)
    (hb : ∀ sc, cs_VP sc mi 0 (args ++ List.replicate (cs_ml mi - args.length) cs_N) [] h (h.1.length, cs_sz h.1) (fun v' h'' => v' = v ∧ h'' = h')) : cs_Det mi args h v h' :=
  ⟨hlen, fun l E => (cs_DetS_of (sc := E.2.2.2.2) hi hnl hna hlen (hb E.2.2.2.2)).2 l E rfl⟩
