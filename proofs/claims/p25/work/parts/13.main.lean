theorem cs_dcs {mi pc : Nat} {ins : Instr} {n : Nat} (h : cs_dc mi pc ins n = true) : decode (cs_cd mi) pc = .ok (ins, n) := of_decide_eq_true h
set_option maxHeartbeats 4000000 in
set_option maxRecDepth 10000 in
theorem cs_sound {sc : Nat × (Nat → Int)} {mi : Nat} {o : Nat × Nat} {Q : Option cs_A → cs_H → Prop} {B : cs_BL} {J : Nat → List cs_A → List cs_A → cs_H → Prop} (hJ : ∀ b, b < B.length → ∀ loc st h, J b loc st h → cs_VP sc mi (cs_pcb B b) loc st h o Q) :
    ∀ (r : List cs_W) (pc : Nat) (loc st : List cs_A) (h : cs_H), cs_chk mi B pc r = true → cs_wp sc mi o Q J r loc st h → cs_VP sc mi pc loc st h o Q := by
  intro r
  induction r with
  | nil => intro pc loc st h _ hw; exact False.elim hw
  | cons row r ih =>
    obtain ⟨ins, x, y, ts⟩ := row
    intro pc loc st h hc hw
    have hT : ∀ {b : Nat} {off : Int}, cs_tgt B pc off b = true → (pc : Int) + off = ((cs_pcb B b : Nat) : Int) ∧ b < B.length := by
      intro b off hb
      simp only [cs_tgt, Bool.and_eq_true, decide_eq_true_eq] at hb
      exact hb
    cases ins
    any_goals (first | exact False.elim hw | skip)
    case nop =>
      cases y with
      | zero =>
        simp only [cs_chk, Bool.and_eq_true, beq_iff_eq, decide_eq_true_eq] at hc
        have := hJ x hc.2 loc st h hw
        rw [hc.1] at this
        exact this
      | succ y =>
        simp only [cs_chk, beq_iff_eq] at hc
        subst hc
        exact hw
    case iconst n =>
      simp only [cs_chk, cs_ci, Bool.and_eq_true, decide_eq_true_eq, beq_iff_eq, Bool.true_and, and_true, true_and] at hc
      exact cs_s_iconst (cs_dcs hc.1) (ih _ _ _ _ hc.2 hw)
    case bipush n =>
      simp only [cs_chk, cs_ci, Bool.and_eq_true, decide_eq_true_eq, beq_iff_eq, Bool.true_and, and_true, true_and] at hc
      exact cs_s_bipush (cs_dcs hc.1.1) hc.1.2 (ih _ _ _ _ hc.2 hw)
    case sipush n =>
      simp only [cs_chk, cs_ci, Bool.and_eq_true, decide_eq_true_eq, beq_iff_eq, Bool.true_and, and_true, true_and] at hc
      exact cs_s_sipush (cs_dcs hc.1.1) hc.1.2 (ih _ _ _ _ hc.2 hw)
    case ldc i =>
      simp only [cs_chk, cs_ci, Bool.and_eq_true, decide_eq_true_eq, beq_iff_eq, Bool.true_and, and_true, true_and] at hc
      obtain ⟨w, hk⟩ := cs_has4_spec cs_tK hc.1.2
      exact cs_s_ldc (cs_dcs hc.1.1) (cs_mem hk rfl) (ih _ _ _ _ hc.2 hw)
    case iload_n q =>
      simp only [cs_chk, cs_ci, Bool.and_eq_true, decide_eq_true_eq, beq_iff_eq, Bool.true_and, and_true, true_and] at hc
      simp only [cs_wp] at hw
      split at hw
      · rename_i v hv
        exact cs_s_iload_n (cs_dcs hc.1.1) hc.1.2 hv (ih _ _ _ _ hc.2 hw)
      · exact False.elim hw
    case iload i =>
      simp only [cs_chk, cs_ci, Bool.and_eq_true, decide_eq_true_eq, beq_iff_eq, Bool.true_and, and_true, true_and] at hc
      simp only [cs_wp] at hw
      split at hw
      · rename_i v hv
        have h2 := hc.1.2
        subst h2
        exact cs_s_iload (cs_dcs hc.1.1) hv (ih _ _ _ _ hc.2 hw)
      · exact False.elim hw
    case aload_n q =>
      simp only [cs_chk, cs_ci, Bool.and_eq_true, decide_eq_true_eq, beq_iff_eq, Bool.true_and, and_true, true_and] at hc
      simp only [cs_wp] at hw
      split at hw
      · rename_i v hv
        exact cs_s_aload_n (cs_dcs hc.1.1) hc.1.2 hv (ih _ _ _ _ hc.2 hw)
      · rename_i v hv
        exact cs_s_aload_nT (cs_dcs hc.1.1) hc.1.2 hv (ih _ _ _ _ hc.2 hw)
      · exact False.elim hw
    case aload i =>
      simp only [cs_chk, cs_ci, Bool.and_eq_true, decide_eq_true_eq, beq_iff_eq, Bool.true_and, and_true, true_and] at hc
      simp only [cs_wp] at hw
      split at hw
      · rename_i v hv
        have h2 := hc.1.2
        subst h2
        exact cs_s_aload (cs_dcs hc.1.1) hv (ih _ _ _ _ hc.2 hw)
      · rename_i v hv
        have h2 := hc.1.2
        subst h2
        exact cs_s_aloadT (cs_dcs hc.1.1) hv (ih _ _ _ _ hc.2 hw)
      · exact False.elim hw
    case istore_n q =>
      simp only [cs_chk, cs_ci, Bool.and_eq_true, decide_eq_true_eq, beq_iff_eq, Bool.true_and, and_true, true_and] at hc
      simp only [cs_wp] at hw
      split at hw
      · exact cs_s_istore_n (cs_dcs hc.1.1) hc.1.2.1 hc.1.2.2 (ih _ _ _ _ hc.2 hw)
      · exact False.elim hw
    case astore_n q =>
      simp only [cs_chk, cs_ci, Bool.and_eq_true, decide_eq_true_eq, beq_iff_eq, Bool.true_and, and_true, true_and] at hc
      simp only [cs_wp] at hw
      split at hw
      · exact cs_s_astore_n (cs_dcs hc.1.1) hc.1.2.1 hc.1.2.2 (ih _ _ _ _ hc.2 hw)
      · obtain ⟨rfl, hw⟩ := hw
        exact cs_s_astore_nZ (cs_dcs hc.1.1) hc.1.2.1 hc.1.2.2 (ih _ _ _ _ hc.2 hw)
      · exact False.elim hw
    case istore i =>
      simp only [cs_chk, cs_ci, Bool.and_eq_true, decide_eq_true_eq, beq_iff_eq, Bool.true_and, and_true, true_and] at hc
      simp only [cs_wp] at hw
      split at hw
      · have h2 := hc.1.2.1
        subst h2
        exact cs_s_istore (cs_dcs hc.1.1) hc.1.2.2 (ih _ _ _ _ hc.2 hw)
      · exact False.elim hw
    case astore i =>
      simp only [cs_chk, cs_ci, Bool.and_eq_true, decide_eq_true_eq, beq_iff_eq, Bool.true_and, and_true, true_and] at hc
      simp only [cs_wp] at hw
      split at hw
      · have h2 := hc.1.2.1
        subst h2
        exact cs_s_astore (cs_dcs hc.1.1) hc.1.2.2 (ih _ _ _ _ hc.2 hw)
      · obtain ⟨rfl, hw⟩ := hw
        have h2 := hc.1.2.1
        subst h2
        exact cs_s_astoreZ (cs_dcs hc.1.1) hc.1.2.2 (ih _ _ _ _ hc.2 hw)
      · exact False.elim hw
    case ishr =>
      simp only [cs_chk, cs_ci, Bool.and_eq_true, decide_eq_true_eq, beq_iff_eq, Bool.true_and, and_true, true_and] at hc
      simp only [cs_wp] at hw
      split at hw
      · exact cs_s_ishr (cs_dcs hc.1) (ih _ _ _ _ hc.2 hw)
      · exact False.elim hw
    case idiv =>
      simp only [cs_chk, cs_ci, Bool.and_eq_true, decide_eq_true_eq, beq_iff_eq, Bool.true_and, and_true, true_and] at hc
      simp only [cs_wp] at hw
      split at hw
      · exact cs_s_idiv (cs_dcs hc.1) hw.1.1 hw.1.2 (ih _ _ _ _ hc.2 hw.2)
      · exact False.elim hw
    case irem =>
      simp only [cs_chk, cs_ci, Bool.and_eq_true, decide_eq_true_eq, beq_iff_eq, Bool.true_and, and_true, true_and] at hc
      simp only [cs_wp] at hw
      split at hw
      · exact cs_s_irem (cs_dcs hc.1) hw.1.1 hw.1.2 (ih _ _ _ _ hc.2 hw.2)
      · exact False.elim hw
    case aconst_null =>
      simp only [cs_chk, cs_ci, Bool.and_eq_true, decide_eq_true_eq, beq_iff_eq, Bool.true_and, and_true, true_and] at hc
      exact cs_s_null (cs_dcs hc.1) (ih _ _ _ _ hc.2 hw)
    case ifnull off =>
      simp only [cs_chk, cs_ci, Bool.and_eq_true, decide_eq_true_eq, beq_iff_eq, Bool.true_and, and_true, true_and] at hc
      have h2 := hT hc.1.2
      simp only [cs_wp] at hw
      split at hw
      · exact cs_s_ifnullR (cs_dcs hc.1.1) (ih _ _ _ _ hc.2 hw)
      · obtain ⟨rfl, hw⟩ := hw
        exact cs_s_ifnullZ (cs_dcs hc.1.1) h2.1 (hJ x h2.2 _ _ _ hw)
      · exact False.elim hw
    case ifnonnull off =>
      simp only [cs_chk, cs_ci, Bool.and_eq_true, decide_eq_true_eq, beq_iff_eq, Bool.true_and, and_true, true_and] at hc
      have h2 := hT hc.1.2
      simp only [cs_wp] at hw
      split at hw
      · exact cs_s_ifnonnullR (cs_dcs hc.1.1) h2.1 (hJ x h2.2 _ _ _ hw)
      · obtain ⟨rfl, hw⟩ := hw
        exact cs_s_ifnonnullZ (cs_dcs hc.1.1) (ih _ _ _ _ hc.2 hw)
      · exact False.elim hw
    case iinc i n =>
      simp only [cs_chk, cs_ci, Bool.and_eq_true, decide_eq_true_eq, beq_iff_eq, Bool.true_and, and_true, true_and] at hc
      simp only [cs_wp] at hw
      split at hw
      · rename_i v hv
        exact cs_s_iinc (cs_dcs hc.1.1) hc.1.2 hv (ih _ _ _ _ hc.2 hw)
      · exact False.elim hw
    case iadd =>
      simp only [cs_chk, cs_ci, Bool.and_eq_true, decide_eq_true_eq, beq_iff_eq, Bool.true_and, and_true, true_and] at hc
      simp only [cs_wp] at hw
      split at hw
      · exact cs_s_iadd (cs_dcs hc.1) (ih _ _ _ _ hc.2 hw)
      · exact False.elim hw
    case isub =>
      simp only [cs_chk, cs_ci, Bool.and_eq_true, decide_eq_true_eq, beq_iff_eq, Bool.true_and, and_true, true_and] at hc
      simp only [cs_wp] at hw
      split at hw
      · exact cs_s_isub (cs_dcs hc.1) (ih _ _ _ _ hc.2 hw)
      · exact False.elim hw
    case imul =>
      simp only [cs_chk, cs_ci, Bool.and_eq_true, decide_eq_true_eq, beq_iff_eq, Bool.true_and, and_true, true_and] at hc
      simp only [cs_wp] at hw
      split at hw
      · exact cs_s_imul (cs_dcs hc.1) (ih _ _ _ _ hc.2 hw)
      · exact False.elim hw
    case iand =>
      simp only [cs_chk, cs_ci, Bool.and_eq_true, decide_eq_true_eq, beq_iff_eq, Bool.true_and, and_true, true_and] at hc
      simp only [cs_wp] at hw
      split at hw
      · exact cs_s_iand (cs_dcs hc.1) (ih _ _ _ _ hc.2 hw)
      · exact False.elim hw
    case ior =>
      simp only [cs_chk, cs_ci, Bool.and_eq_true, decide_eq_true_eq, beq_iff_eq, Bool.true_and, and_true, true_and] at hc
      simp only [cs_wp] at hw
      split at hw
      · exact cs_s_ior (cs_dcs hc.1) (ih _ _ _ _ hc.2 hw)
      · exact False.elim hw
    case ishl =>
      simp only [cs_chk, cs_ci, Bool.and_eq_true, decide_eq_true_eq, beq_iff_eq, Bool.true_and, and_true, true_and] at hc
      simp only [cs_wp] at hw
      split at hw
      · exact cs_s_ishl (cs_dcs hc.1) (ih _ _ _ _ hc.2 hw)
      · exact False.elim hw
    case i2c =>
      simp only [cs_chk, cs_ci, Bool.and_eq_true, decide_eq_true_eq, beq_iff_eq, Bool.true_and, and_true, true_and] at hc
      simp only [cs_wp] at hw
      split at hw
      · exact cs_s_i2c (cs_dcs hc.1) (ih _ _ _ _ hc.2 hw)
      · exact False.elim hw
    case dup =>
      simp only [cs_chk, cs_ci, Bool.and_eq_true, decide_eq_true_eq, beq_iff_eq, Bool.true_and, and_true, true_and] at hc
      simp only [cs_wp] at hw
      split at hw
      · exact cs_s_dup (cs_dcs hc.1) (ih _ _ _ _ hc.2 hw)
      · exact False.elim hw
    case pop =>
      simp only [cs_chk, cs_ci, Bool.and_eq_true, decide_eq_true_eq, beq_iff_eq, Bool.true_and, and_true, true_and] at hc
      simp only [cs_wp] at hw
      split at hw
      · exact cs_s_pop (cs_dcs hc.1) (ih _ _ _ _ hc.2 hw)
      · exact False.elim hw
    case dup2 =>
      simp only [cs_chk, cs_ci, Bool.and_eq_true, decide_eq_true_eq, beq_iff_eq, Bool.true_and, and_true, true_and] at hc
      simp only [cs_wp] at hw
      split at hw
      · exact cs_s_dup2 (cs_dcs hc.1) (ih _ _ _ _ hc.2 hw)
      · exact False.elim hw
    case goto off =>
      simp only [cs_chk, cs_ci, Bool.and_eq_true, decide_eq_true_eq, beq_iff_eq, Bool.true_and, and_true, true_and] at hc
      have h2 := hT hc.1.2
      exact cs_s_goto (cs_dcs hc.1.1) h2.1 (hJ x h2.2 loc st h hw)
    case ifCond cd off =>
      simp only [cs_chk, cs_ci, Bool.and_eq_true, decide_eq_true_eq, beq_iff_eq, Bool.true_and, and_true, true_and] at hc
      have h2 := hT hc.1.2
      simp only [cs_wp] at hw
      split at hw
      · exact cs_s_if (cs_dcs hc.1.1) h2.1 (cs_ifc_mono hw (fun q => hJ x h2.2 _ _ _ q) (fun q => ih _ _ _ _ hc.2 q))
      · exact False.elim hw
    case if_icmp cd off =>
      simp only [cs_chk, cs_ci, Bool.and_eq_true, decide_eq_true_eq, beq_iff_eq, Bool.true_and, and_true, true_and] at hc
      have h2 := hT hc.1.2
      simp only [cs_wp] at hw
      split at hw
      · exact cs_s_icmp (cs_dcs hc.1.1) h2.1 (cs_icm_mono hw (fun q => hJ x h2.2 _ _ _ q) (fun q => ih _ _ _ _ hc.2 q))
      · exact False.elim hw
    case tableswitch d lo hi offs =>
      simp only [cs_chk, Bool.and_eq_true, decide_eq_true_eq] at hc
      obtain ⟨⟨⟨h1, h2⟩, h3⟩, h4⟩ := hc
      obtain ⟨len, hd0⟩ := cs_dec h1
      simp only [cs_wp] at hw
      split at hw
      · rename_i v t
        obtain ⟨hv, hout, hsw⟩ := hw
        obtain ⟨hlen, hget⟩ := cs_swk_get h3
        by_cases hcase : v < lo ∨ hi < v
        · have hq := hT h2
          exact cs_s_tableOut hd0 hv hcase hq.1 (hJ x hq.2 _ _ _ (hout hcase))
        · have hlt : (v - lo).toNat < ts.length := by omega
          have hb : ts[(v - lo).toNat]? = some ts[(v - lo).toNat] := List.getElem?_eq_getElem hlt
          obtain ⟨off, ho, ht⟩ := hget _ _ hb
          have hq := hT ht
          refine cs_s_tableIn hd0 hv (by omega) (by omega) ?_ hq.1 (hJ _ hq.2 _ _ _ (cs_sw_get hsw _ _ hb (by omega)))
          rw [← Array.getElem?_toList]
          exact ho
      · exact False.elim hw
    case lookupswitch d ps =>
      simp only [cs_chk, Bool.and_eq_true, decide_eq_true_eq] at hc
      obtain ⟨⟨⟨h1, h2⟩, h3⟩, h4⟩ := hc
      obtain ⟨len, hd0⟩ := cs_dec h1
      simp only [cs_wp] at hw
      split at hw
      · rename_i v t
        obtain ⟨hv, hlk⟩ := hw
        obtain ⟨b, hb, ht⟩ := cs_lk_get h2 h3 hlk
        have hq := hT ht
        exact cs_s_lookup hd0 hv h4 rfl hq.1 (hJ _ hq.2 _ _ _ hb)
      · exact False.elim hw
    case getfield idx =>
      simp only [cs_chk, cs_ci, Bool.and_eq_true, decide_eq_true_eq, beq_iff_eq] at hc
      obtain ⟨w, hk⟩ := cs_hasF_spec hc.1.2.1
      simp only [cs_wp] at hw
      split at hw
      · exact cs_s_getI (cs_dcs hc.1.1) hk (by rw [hc.1.2.2]; rfl) hw.1 (ih _ _ _ _ hc.2 hw.2)
      · rename_i hne
        obtain ⟨a', ha'⟩ := Option.isSome_iff_exists.mp hw.2.1
        have h3 := hw.2.2
        rw [ha'] at h3
        refine cs_s_getR (cs_dcs hc.1.1) hk ?_ hw.1 ha' (ih _ _ _ _ hc.2 h3)
        rw [hc.1.2.2]
        cases ts with
        | nil => exact absurd rfl hne
        | cons a b => rfl
      · exact False.elim hw
    case putfield idx =>
      simp only [cs_chk, cs_ci, Bool.and_eq_true, decide_eq_true_eq, beq_iff_eq] at hc
      obtain ⟨⟨hd, hF, hm⟩, hr⟩ := hc
      obtain ⟨w, hk⟩ := cs_hasF_spec hF
      cases hcl : vwCl[x]? with
      | none => rw [hcl] at hm; cases hm
      | some rr =>
        rw [hcl] at hm
        simp only [cs_wp] at hw
        split at hw
        · simp only [Bool.and_eq_true, Bool.not_eq_true', decide_eq_true_eq] at hm
          split at hw
          · exact cs_s_putI (cs_dcs hd) hk hm.1.1 hcl hm.1.2 (Or.inl hm.2) hw.1 (ih _ _ _ _ hr hw.2)
          · exact False.elim hw
        · simp only [Bool.and_eq_true, Bool.not_eq_true', decide_eq_true_eq] at hm
          split at hw
          · exact cs_s_putI (cs_dcs hd) hk hm.1.1 hcl hm.1.2 (Or.inr ⟨hm.2, hw.2.1⟩) hw.1 (ih _ _ _ _ hr hw.2.2)
          · exact False.elim hw
        · simp only [Bool.and_eq_true, Bool.or_eq_true, Bool.not_eq_true', decide_eq_true_eq] at hm
          split at hw
          · refine cs_s_putR (cs_dcs hd) hk hm.1 hcl ?_ hw.1 (ih _ _ _ _ hr hw.2)
            rcases hm.2 with h1 | h1
            · exact Or.inl h1
            · by_cases h2 : (rr.2.1 y).2.2.2 = true
              · exact Or.inr ⟨h2, h1.1, h1.2⟩
              · exact Or.inl (by simpa using h2)
          · exact False.elim hw
        · exact False.elim hw
    case getstatic idx =>
      simp only [cs_chk, cs_ci, Bool.and_eq_true, decide_eq_true_eq] at hc
      obtain ⟨e, he, hq⟩ := List.any_eq_true.mp hc.1.2
      obtain ⟨a, b, c⟩ := e
      simp only [Bool.and_eq_true, beq_iff_eq] at hq
      obtain ⟨⟨h1, h2⟩, h3⟩ := hq
      subst h1; subst h2; subst h3
      exact cs_s_gets (cs_dcs hc.1.1) (List.all_eq_true.mp cs_tG _ he) (ih _ _ _ _ hc.2 hw)
    case iaload =>
      simp only [cs_chk, cs_ci, Bool.and_eq_true, decide_eq_true_eq, beq_iff_eq, Bool.true_and, and_true, true_and] at hc
      simp only [cs_wp] at hw
      split at hw
      · obtain ⟨n, h1, h2, h3, h4⟩ := hw.1
        exact cs_s_iald (cs_dcs hc.1) h1 h2 h3 h4 (ih _ _ _ _ hc.2 hw.2)
      · exact cs_s_taload (cs_dcs hc.1) hw.1.1 hw.1.2.1 hw.1.2.2 (ih _ _ _ _ hc.2 hw.2)
      · exact False.elim hw
    case caload =>
      simp only [cs_chk, cs_ci, Bool.and_eq_true, decide_eq_true_eq, beq_iff_eq, Bool.true_and, and_true, true_and] at hc
      simp only [cs_wp] at hw
      split at hw
      · obtain ⟨n, h1, h2, h3, h4⟩ := hw.1
        exact cs_s_cald (cs_dcs hc.1) h1 h2 h3 h4 (ih _ _ _ _ hc.2 hw.2)
      · exact False.elim hw
    case iastore =>
      simp only [cs_chk, cs_ci, Bool.and_eq_true, decide_eq_true_eq, beq_iff_eq, Bool.true_and, and_true, true_and] at hc
      simp only [cs_wp] at hw
      split at hw
      · obtain ⟨n, h1, h2, h3, h4⟩ := hw.1
        exact cs_s_iast (cs_dcs hc.1) h1 h2 h3 h4 (ih _ _ _ _ hc.2 hw.2)
      · exact False.elim hw
    case castore =>
      simp only [cs_chk, cs_ci, Bool.and_eq_true, decide_eq_true_eq, beq_iff_eq, Bool.true_and, and_true, true_and] at hc
      simp only [cs_wp] at hw
      split at hw
      · obtain ⟨n, h1, h2, h3, h4⟩ := hw.1
        exact cs_s_cast (cs_dcs hc.1) h1 h2 h3 h4 hw.2.1 (ih _ _ _ _ hc.2 hw.2.2)
      · exact False.elim hw
    case aaload =>
      simp only [cs_chk, cs_ci, Bool.and_eq_true, decide_eq_true_eq, beq_iff_eq, Bool.true_and, and_true, true_and] at hc
      simp only [cs_wp] at hw
      split at hw
      · obtain ⟨n, h1, h2, h3, h4⟩ := hw.1
        obtain ⟨a', ha'⟩ := Option.isSome_iff_exists.mp hw.2.1
        have h5 := hw.2.2
        rw [ha'] at h5
        exact cs_s_aald (cs_dcs hc.1.1) h1 hc.1.2.1 hc.1.2.2 h2 h3 h4 ha' (ih _ _ _ _ hc.2 h5)
      · exact False.elim hw
    case aastore =>
      simp only [cs_chk, cs_ci, Bool.and_eq_true, decide_eq_true_eq, beq_iff_eq, Bool.true_and, and_true, true_and] at hc
      simp only [cs_wp] at hw
      split at hw
      · obtain ⟨n, h1, h2, h3, h4⟩ := hw.1
        obtain ⟨n', h5⟩ := hw.2.1
        have hy := hc.1.2.1.2
        subst hy
        exact cs_s_aast (cs_dcs hc.1.1) h1 hc.1.2.1.1.1 hc.1.2.1.1.2 h2 h3 h4 h5 (List.getElem?_eq_getElem hc.1.2.2) (ih _ _ _ _ hc.2 hw.2.2)
      · exact False.elim hw
    case arraylength =>
      simp only [cs_chk, cs_ci, Bool.and_eq_true, decide_eq_true_eq, beq_iff_eq, Bool.true_and, and_true, true_and] at hc
      simp only [cs_wp] at hw
      split at hw
      · exact cs_s_tlen (cs_dcs hc.1) hw.1 (ih _ _ _ _ hc.2 hw.2)
      · obtain ⟨kd, t, m, h1, h2, h3⟩ := hw.1
        have h4 := hw.2
        rw [h3] at h4
        exact cs_s_alen (cs_dcs hc.1) h1 h2 (ih _ _ _ _ hc.2 h4)
      · exact False.elim hw
    case new idx =>
      simp only [cs_chk, cs_ci, Bool.and_eq_true, decide_eq_true_eq] at hc
      obtain ⟨⟨hd, hF, hm⟩, hr⟩ := hc
      obtain ⟨w1, w2, w3, hk⟩ := cs_has6_spec cs_tN hF
      cases hcl : vwCl[x]? with
      | none => rw [hcl] at hm; cases hm
      | some rr =>
        rw [hcl] at hm
        simp only [beq_iff_eq] at hm
        subst hm
        exact cs_s_new (cs_dcs hd) hk hcl hw.1.1 hw.1.2 (ih _ _ _ _ hr hw.2)
    case newarray at_ =>
      simp only [cs_chk, cs_ci, Bool.and_eq_true, Bool.or_eq_true, decide_eq_true_eq, beq_iff_eq] at hc
      simp only [cs_wp] at hw
      split at hw
      · exact cs_s_newa (cs_dcs hc.1.1) hc.1.2 hw.1.1 hw.1.2 hw.2.1.1 hw.2.1.2 (ih _ _ _ _ hc.2 hw.2.2)
      · exact False.elim hw
    case anewarray idx =>
      simp only [cs_chk, cs_ci, Bool.and_eq_true, decide_eq_true_eq, beq_iff_eq, Bool.true_and, and_true, true_and] at hc
      obtain ⟨w1, hk⟩ := cs_has4_spec cs_tA hc.1.2
      simp only [cs_wp] at hw
      split at hw
      · exact cs_s_anew (cs_dcs hc.1.1) hk hw.1.1 hw.1.2 hw.2.1.1 hw.2.1.2 (ih _ _ _ _ hc.2 hw.2.2)
      · exact False.elim hw
    case invokevirtual idx =>
      simp only [cs_chk, cs_ci, cs_room, Bool.and_eq_true, decide_eq_true_eq, beq_iff_eq] at hc
      obtain ⟨⟨hd, ⟨⟨⟨⟨⟨hF, hrm⟩, hna⟩, how⟩, hlt⟩, hmc⟩, hsl⟩, hr⟩ := hc
      obtain ⟨w1, w2, w3, w4, hk⟩ := cs_hasV_spec hF
      obtain ⟨as, rest, rfl, hlen, hK⟩ := cs_pop_spec _ _ _ hw
      rw [List.append_nil] at hK
      split at hK
      · obtain ⟨⟨n, hob⟩, h8, v, h', hD, hk2⟩ := hK
        subst how
        exact cs_s_callV (cs_dcs hd) hk hrm.1 hrm.2 (hlen.trans hna) hob hlt (Or.inl ⟨hmc, hsl⟩) h8 hD (ih _ _ _ _ hr hk2)
      · exact False.elim hK
    case invokespecial idx =>
      cases y with
      | zero =>
        simp only [cs_chk, cs_ci, Bool.and_eq_true, decide_eq_true_eq] at hc
        obtain ⟨w1, hk⟩ := cs_has3_spec cs_tO hc.1.2.1.1
        simp only [cs_wp] at hw
        split at hw
        · exact cs_s_oinit (cs_dcs hc.1.1) hk hc.1.2.1.2 hc.1.2.2 hw.1 (ih _ _ _ _ hc.2 hw.2)
        · exact False.elim hw
      | succ y =>
        obtain ⟨as, rest, rfl, hlen, hK⟩ := cs_pop_spec _ _ _ hw
        rw [List.append_nil] at hK
        split at hK
        · obtain ⟨hmc0, h8, v, h', hD, hk2⟩ := hK
          cases y with
          | zero =>
            simp only [cs_chk, cs_ci, cs_room, Bool.and_eq_true, decide_eq_true_eq, beq_iff_eq] at hc
            obtain ⟨⟨hd, ⟨⟨⟨hF, hrm⟩, hna⟩, hmc⟩, hsl⟩, hr⟩ := hc
            obtain ⟨w1, w2, w3, hk⟩ := cs_has6_spec cs_tI hF
            rw [← hmc, ← hsl] at hmc0
            exact cs_s_callI (cs_dcs hd) hk hrm.1 hrm.2 (hlen.trans hna) hmc0 h8 hD (ih _ _ _ _ hr hk2)
          | succ y =>
            simp only [cs_chk, cs_ci, cs_room, Bool.and_eq_true, decide_eq_true_eq, beq_iff_eq] at hc
            obtain ⟨⟨hd, ⟨⟨⟨hF, hrm⟩, hna⟩, hmc⟩, hsl⟩, hr⟩ := hc
            obtain ⟨w1, w2, w3, hk⟩ := cs_has6_spec cs_tIn hF
            rw [← hmc, ← hsl] at hmc0
            exact cs_s_callIn (cs_dcs hd) hk hrm.1 hrm.2 (hlen.trans hna) hmc0 h8 hD (ih _ _ _ _ hr hk2)
        · exact False.elim hK
    case invokestatic idx =>
      match y, hc, hw with
      | 0, hc, hw =>
        simp only [cs_chk, cs_ci, cs_room, Bool.and_eq_true, decide_eq_true_eq, beq_iff_eq] at hc
        obtain ⟨⟨hd, ⟨⟨⟨hF, hrm⟩, hna⟩, hmc⟩, hsl⟩, hr⟩ := hc
        obtain ⟨w1, w2, w3, hk⟩ := cs_has6_spec cs_tS hF
        obtain ⟨as, rest, rfl, hlen, hK⟩ := cs_pop_spec _ _ _ hw
        rw [List.append_nil] at hK
        obtain ⟨h8, v, h', hD, hk2⟩ := hK
        exact cs_s_callS (cs_dcs hd) hk hrm.1 hrm.2 (hlen.trans hna) (Or.inl ⟨hmc, hsl⟩) h8 hD (ih _ _ _ _ hr hk2)
      | 1, hc, hw =>
        simp only [cs_chk, cs_ci, cs_room, Bool.and_eq_true, decide_eq_true_eq, beq_iff_eq] at hc
        obtain ⟨⟨hd, ⟨⟨⟨hF, hrm⟩, hna⟩, hmc⟩, hsl⟩, hr⟩ := hc
        obtain ⟨w1, w2, w3, hk⟩ := cs_has6_spec cs_tSn hF
        obtain ⟨as, rest, rfl, hlen, hK⟩ := cs_pop_spec _ _ _ hw
        rw [List.append_nil] at hK
        obtain ⟨h8, v, h', hD, hk2⟩ := hK
        exact cs_s_callSn (cs_dcs hd) hk hrm.1 hrm.2 (hlen.trans hna) (Or.inl ⟨hmc, hsl⟩) h8 hD (ih _ _ _ _ hr hk2)
      | 2, hc, hw =>
        simp only [cs_chk, cs_ci, Bool.and_eq_true, decide_eq_true_eq] at hc
        obtain ⟨w1, hk⟩ := cs_has3_spec cs_tMax hc.1.2.1.1
        simp only [cs_wp] at hw
        split at hw
        · exact cs_s_max (cs_dcs hc.1.1) hk hc.1.2.1.2 hc.1.2.2 hw.1.1 hw.1.2 (ih _ _ _ _ hc.2 hw.2)
        · exact False.elim hw
      | 3, hc, hw =>
        simp only [cs_chk, cs_ci, Bool.and_eq_true, decide_eq_true_eq] at hc
        obtain ⟨w1, hk⟩ := cs_has3_spec cs_tMin hc.1.2.1.1
        simp only [cs_wp] at hw
        split at hw
        · exact cs_s_min (cs_dcs hc.1.1) hk hc.1.2.1.2 hc.1.2.2 hw.1.1 hw.1.2 (ih _ _ _ _ hc.2 hw.2)
        · exact False.elim hw
      | y + 4, hc, hw =>
        simp only [cs_chk, cs_ci, Bool.and_eq_true, decide_eq_true_eq] at hc
        obtain ⟨w1, hk⟩ := cs_has3_spec cs_tCpy hc.1.2.1.1
        simp only [cs_wp] at hw
        split at hw
        · obtain ⟨⟨h1, h2, h8, h3, h4⟩, ⟨n0, hs0, hb0, -, hl0⟩, ⟨n1, hs1, hb1, -, hl1⟩, hk2⟩ := hw
          subst h1; subst h2
          exact cs_s_copy (cs_dcs hc.1.1) hk hc.1.2.1.2 hc.1.2.2 h8 hs0 hs1 h3 (by omega) (by omega) h4 (ih _ _ _ _ hc.2 hk2)
        · exact False.elim hw
    case ireturn =>
      simp only [cs_wp] at hw
      split at hw
      · simp only [cs_chk, cs_ci, Bool.and_eq_true, decide_eq_true_eq] at hc
        exact cs_s_ret (v := some (.inl _)) hw (Or.inr (Or.inl ⟨_, _, rfl, cs_dcs hc.1.1, hc.1.2, rfl⟩))
      · rename_i hne
        cases y with
        | zero => exact absurd rfl hne
        | succ y =>
          simp only [cs_chk, cs_ci, Bool.and_eq_true, decide_eq_true_eq] at hc
          refine cs_s_ret (v := some (.inl _)) hw.2 (Or.inr (Or.inl ⟨_, _, rfl, cs_dcs hc.1.1, hc.1.2, ?_⟩))
          rcases hw.1 with rfl | rfl <;> rfl
      · exact False.elim hw
    case areturn =>
      simp only [cs_chk, cs_ci, Bool.and_eq_true, decide_eq_true_eq] at hc
      have h2 := hc.1.2
      cases hrt : cs_rt mi with
      | none => rw [hrt] at h2; cases h2
      | some ty =>
        rw [hrt] at h2
        cases ty with
        | object n =>
          simp only [cs_wp] at hw
          split at hw
          · exact cs_s_ret (v := some (cs_R _)) hw (Or.inr (Or.inr ⟨_, _, rfl, Or.inr ⟨_, rfl⟩, cs_dcs hc.1.1, hrt, Or.inl ⟨n, rfl⟩⟩))
          · obtain ⟨rfl, hw⟩ := hw
            exact cs_s_ret (v := some cs_Z) hw (Or.inr (Or.inr ⟨_, _, rfl, Or.inl rfl, cs_dcs hc.1.1, hrt, Or.inl ⟨n, rfl⟩⟩))
          · exact False.elim hw
        | _ => cases h2
    case return_ =>
      simp only [cs_chk, cs_ci, Bool.and_eq_true, decide_eq_true_eq] at hc
      simp only [cs_wp] at hw
      split at hw
      · exact cs_s_ret (v := none) hw (Or.inl ⟨rfl, cs_dcs hc.1.1, hc.1.2⟩)
      · exact False.elim hw
theorem cs_soundJ {sc : Nat × (Nat → Int)} {mi : Nat} {o : Nat × Nat} {Q : Option cs_A → cs_H → Prop} {B : cs_BL} (hB : cs_chkB mi B = true) : ∀ (n b : Nat), b < B.length → ∀ loc st h, cs_J sc mi o Q B n b loc st h → cs_VP sc mi (cs_pcb B b) loc st h o Q
  | 0, _, _, _, _, _, hw => False.elim hw
  | n + 1, b, hb, loc, st, h, hw => by
    refine cs_sound (cs_soundJ hB n) (cs_rows B b) (cs_pcb B b) loc st h ?_ hw
    have := List.all_eq_true.mp hB B[b] (List.getElem_mem hb)
    simp only [cs_pcb, cs_rows, List.getElem?_eq_getElem hb, Option.getD_some]
    exact this
/-- a block's rows give the judgement at its pc -/
theorem cs_enter {sc : Nat × (Nat → Int)} {mi pc : Nat} {loc st : List cs_A} {h : cs_H} {o : Nat × Nat} {Q : Option cs_A → cs_H → Prop} {B : cs_BL} (hB : cs_chkB mi B = true) (b : Nat) (hb : b < B.length) (hpc : cs_pcb B b = pc) (n : Nat) (hw : cs_J sc mi o Q B n b loc st h) : cs_VP sc mi pc loc st h o Q := by
  rw [← hpc]
  exact cs_soundJ hB n b hb loc st h hw
