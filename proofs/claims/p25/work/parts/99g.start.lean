/-! FROM THE STATEMENT'S START TO THE ABSTRACT MACHINE -/
theorem cs_envArr {s : State} {args : Array Value} (hts : ∀ w ∈ lw_tbl, w.before args s = true) : ∀ t, t < cs_an → ∃ cA : ClassId, ArrOfT s cA (cs_aty t) ∧ va_RA s cA (cs_aty t) := by
  have hob : ∀ C : String, (Cond.arrayOver (.object C)).before args s = true → ∃ cA : ClassId, ArrOfT s cA (.object C) ∧ va_RA s cA (.object C) := by
    intro C h
    obtain ⟨comp, cA, kA, h1, h2, h3, h4, h5⟩ := Cond.arrayOver_spec h
    exact ⟨cA, fun n z => ⟨fun k h => (by cases h), kA, h3, comp, h4⟩, kA, comp, h3, h4, h1, h5⟩
  intro t ht
  have ht : t < 6 := ht
  match t, ht with
  | 0, _ =>
    obtain ⟨cA, kA, comp, h1, h2, h3⟩ := Cond.arrayClass_spec (hts (.arrayClass .int) (by decide +kernel))
    exact ⟨cA, fun n z => ⟨fun k h => (by cases h), kA, h2, comp, h3⟩, h1⟩
  | 1, _ =>
    obtain ⟨cA, kA, comp, h1, h2, h3⟩ := Cond.arrayClass_spec (hts (.arrayClass .char) (by decide +kernel))
    exact ⟨cA, fun n z => ⟨fun k h => (by cases h), kA, h2, comp, h3⟩, h1⟩
  | 2, _ => exact hob _ (hts (.arrayOver (.object (cs_aC 2))) (by decide +kernel))
  | 3, _ => exact hob _ (hts (.arrayOver (.object (cs_aC 3))) (by decide +kernel))
  | 4, _ => exact hob _ (hts (.arrayOver (.object (cs_aC 4))) (by decide +kernel))
  | 5, _ => exact hob _ (hts (.arrayOver (.object (cs_aC 5))) (by decide +kernel))
theorem cs_envAO {s : State} {args : Array Value} (hts : ∀ w ∈ lw_tbl, w.before args s = true) : ∀ t, 2 ≤ t → t < cs_an → va_AO (cs_aC t) s := by
  intro t h2 ht
  have ht : t < 6 := ht
  match t, h2, ht with
  | 2, _, _ => exact va_AO.of (hts (.arrayOver (.object (cs_aC 2))) (by decide +kernel))
  | 3, _, _ => exact va_AO.of (hts (.arrayOver (.object (cs_aC 3))) (by decide +kernel))
  | 4, _, _ => exact va_AO.of (hts (.arrayOver (.object (cs_aC 4))) (by decide +kernel))
  | 5, _, _ => exact va_AO.of (hts (.arrayOver (.object (cs_aC 5))) (by decide +kernel))
def cs_clN : Nat → Nat := fun k => match k with
  | 0 => 7
  | 1 => 11
  | 2 => 2
  | 3 => 5
  | 4 => 2
  | 5 => 7
  | 6 => 5
  | _ => 9
theorem cs_tInst : (List.range 8).all (fun k => decide (Cond.instantiable (cs_cn k) (cs_clN k) ∈ lw_tbl)) = true := by decide +kernel
theorem cs_tName : ∀ k r, vwCl[k]? = some r → r.1 = cs_cn k ∧ k < 8 := by
  intro k r h
  match k, h with
  | 0, h => cases h; exact ⟨rfl, by decide⟩
  | 1, h => cases h; exact ⟨rfl, by decide⟩
  | 2, h => cases h; exact ⟨rfl, by decide⟩
  | 3, h => cases h; exact ⟨rfl, by decide⟩
  | 4, h => cases h; exact ⟨rfl, by decide⟩
  | 5, h => cases h; exact ⟨rfl, by decide⟩
  | 6, h => cases h; exact ⟨rfl, by decide⟩
  | 7, h => cases h; exact ⟨rfl, by decide⟩
  | k + 8, h => simp [vwCl] at h
theorem cs_envCls {s : State} {args : Array Value} (hts : ∀ w ∈ lw_tbl, w.before args s = true) (k : Nat) : ∃ (cC : ClassId) (iS : Nat → Nat), ∀ r : vw_C, vwCl[k]? = some r → u_Kn s r.1 r.2.1 r.2.2 cC iS := by
  cases hq : vwCl[k]? with
  | none => exact ⟨0, fun _ => 0, fun r h => by cases h⟩
  | some r =>
    obtain ⟨hn, hk⟩ := cs_tName k r hq
    have hi : Cond.instantiable r.1 (cs_clN k) ∈ lw_tbl := by
      rw [hn]
      exact of_decide_eq_true (List.all_eq_true.mp cs_tInst k (List.mem_range.mpr hk))
    obtain ⟨cC, iS, h⟩ := u_known (C := r.1) (T := r.2.1) (N := r.2.2) hts (fun w hw => (List.mem_filter.mp ((cs_cls hq).1 w hw)).1) (hts _ hi)
    exact ⟨cC, iS, fun r' h' => by cases h'; exact h⟩
theorem cs_envNW {s : State} {args : Array Value} (hts : ∀ w ∈ lw_tbl, w.before args s = true) : ∀ w ∈ cs_NW, va_Nw w s := by
  have hall : cs_NW.all (fun w => decide (w ∈ lw_tbl)) = true := by decide +kernel
  intro w hw
  have hm := hts w (of_decide_eq_true (List.all_eq_true.mp hall w hw))
  rcases cs_NW_form w hw with ⟨a, i, x, y, rfl⟩ | ⟨a, i, b, n, d, y, rfl⟩
  · exact va_Nw.of rfl hm
  · exact va_Nw.of rfl hm
theorem cs_envSt {s : State} {args : Array Value} {B : Nat → Prop} {sc : Nat × (Nat → Int)} (hts : ∀ w ∈ lw_tbl, w.before args s = true) (hgv : (Jvm.Cond.and given_1 narrow_1).before args s = true) (hB : ∀ a : Nat, a < s.heap.size → ¬ B a) : ∀ j, j < 3 → ∃ t : Nat, va_Z cs_sC (cs_sn j) "[I" (.ref t) B s s.heap ∧ va_T .int t (cs_tn sc j) (fun k => .int (Int32.ofInt (cs_tv sc j k))) B s s.heap := by
  have hs := flat_of_before _ hgv
  have key : ∀ (n : String) (a b c : Int32) (f : Nat → Value), (Cond.arrayOf (.static "CanalSteps" n "[I") .int).before args s = true → (Cond.eq (.length (.static "CanalSteps" n "[I")) (.int 3)).before args s = true → (Cond.eq (.elem (.static "CanalSteps" n "[I") (.int 0)) (.int a)).before args s = true → (Cond.eq (.elem (.static "CanalSteps" n "[I") (.int 1)) (.int b)).before args s = true → (Cond.eq (.elem (.static "CanalSteps" n "[I") (.int 2)) (.int c)).before args s = true → (Cond.laysStatic "CanalSteps" n "[I").before args s = true → f 0 = .int a → f 1 = .int b → f 2 = .int c → ∃ t : Nat, va_Z "CanalSteps" n "[I" (.ref t) B s s.heap ∧ va_T .int t 3 f B s s.heap := by
    intro n a b c f h1 h2 h3 h4 h5 h6 f0 f1 f2
    obtain ⟨t, ht, hT⟩ := va_Tof (N := 3) (f := f) (A := B) (by decide) h1 (va_eqt h2) (fun j hj => by
      rcases (show j = 0 ∨ j = 1 ∨ j = 2 by omega) with rfl | rfl | rfl
      · rw [f0]; exact va_eqt h3
      · rw [f1]; exact va_eqt h4
      · rw [f2]; exact va_eqt h5) hB
    exact ⟨t, va_Zref h6 (hts (.initialized "CanalSteps") (by decide +kernel)) ht hB, hT⟩
  intro j hj
  match j, hj with
  | 0, _ => exact key "SETTING_FIRST" 6 2 4 (fun k => .int (Int32.ofInt (cs_tv sc 0 k))) (hs _ (by decide +kernel)) (hs _ (by decide +kernel)) (hs _ (by decide +kernel)) (hs _ (by decide +kernel)) (hs _ (by decide +kernel)) (hts _ (by decide +kernel)) rfl rfl rfl
  | 1, _ => exact key "SETTING_LEAST" 1 1 0 (fun k => .int (Int32.ofInt (cs_tv sc 1 k))) (hs _ (by decide +kernel)) (hs _ (by decide +kernel)) (hs _ (by decide +kernel)) (hs _ (by decide +kernel)) (hs _ (by decide +kernel)) (hts _ (by decide +kernel)) rfl rfl rfl
  | 2, _ => exact key "SETTING_MOST" 20 6 20 (fun k => .int (Int32.ofInt (cs_tv sc 2 k))) (hs _ (by decide +kernel)) (hs _ (by decide +kernel)) (hs _ (by decide +kernel)) (hs _ (by decide +kernel)) (hs _ (by decide +kernel)) (hts _ (by decide +kernel)) rfl rfl rfl
theorem cs_pick {α : Type} {P : Nat → α → Prop} {n : Nat} (d : α) (h : ∀ t, t < n → ∃ a, P t a) : ∃ f : Nat → α, ∀ t, t < n → P t (f t) :=
  ⟨fun t => if ht : t < n then (h t ht).choose else d, fun t ht => by
    simp only [dif_pos ht]
    exact (h t ht).choose_spec⟩
/-- from the entry, for every script of at most 260 ints, the law comes to its end with true -/
theorem whole_start {p : Program} {e : Env} {s : State} {m : MethodId} {below : List Frame} {meth : Method} {c : Code} (l : Launch) (hflags : l.flags = flags0) {b L : Nat} {xs : Nat → Int32} (hL : L ≤ 260) (C0 : lw_At p s m meth c b L xs) : W p l e room_1 s m #[Value.ref b] below meth c s.heap [] 0 0 (lw_Z below #[Value.ref b] s) (entryFrame m ([Value.ref b] : List Value).toArray 8) := by
  obtain ⟨hx, hb, hr, hml, hown, hts, hX, hbl, hlocks, hgv⟩ := id C0
  have hB : ∀ a : Nat, a < s.heap.size → ¬ (fun q : Nat => s.heap.size ≤ q) a := fun a h => Nat.not_le.mpr h
  obtain ⟨aC, haC⟩ := cs_pick (0 : ClassId) (cs_envArr hts)
  obtain ⟨sA, hsA⟩ := cs_pick (0 : Nat) (cs_envSt (B := fun q : Nat => s.heap.size ≤ q) (sc := (L, fun k => (xs k).toInt)) hts hgv hB)
  obtain ⟨dC, hdC⟩ : ∃ dC : Nat → ClassId, ∀ k, ∃ iS : Nat → Nat, ∀ r : vw_C, vwCl[k]? = some r → u_Kn s r.1 r.2.1 r.2.2 (dC k) iS := ⟨fun k => (cs_envCls hts k).choose, fun k => (cs_envCls hts k).choose_spec⟩
  obtain ⟨dI, hdI⟩ : ∃ dI : Nat → Nat → Nat, ∀ k, ∀ r : vw_C, vwCl[k]? = some r → u_Kn s r.1 r.2.1 r.2.2 (dC k) (dI k) := ⟨fun k => (hdC k).choose, fun k => (hdC k).choose_spec⟩
  obtain ⟨E, hE⟩ : ∃ E : cs_E, E = (s.heap.size, aC, (fun j => if j = 3 then b else sA j), (dC, dI), L, fun k => (xs k).toInt) := ⟨_, rfl⟩
  have hKK : cs_KK E s := by
    subst hE
    refine ⟨⟨hdI, fun k q hk => ?_⟩, cs_envNW hts, cs_envAO hts, fun j hj => ?_, fun j hj => ?_, by show L ≤ _; omega⟩
    · obtain ⟨hk1, hk2⟩ : k < cs_an ∧ q = (aC k, cs_aty k) := by
        have hlt : k < cs_an := by
          have := (List.getElem?_eq_some_iff.mp hk).1
          simpa [cs_tys] using this
        rw [cs_tys_get _ hlt] at hk
        exact ⟨hlt, (Option.some.inj hk).symm⟩
      subst hk2
      exact haC k hk1
    · have h3 : ¬ j = 3 := by omega
      show va_Z cs_sC (cs_sn j) "[I" (.ref (if j = 3 then b else sA j)) _ s s.heap
      rw [if_neg h3]
      exact (hsA j hj).1
    · by_cases h3 : j = 3
      · subst h3
        obtain ⟨scr, x1, x2, x3, x4, x5⟩ := hX
        exact ⟨scr, x1, x2, x3, by rw [x4]; exact Nat.le_refl _, by rw [x4]; rfl, fun j hj => by
          rw [x5 j hj]
          show some (Value.int (xs j)) = some (Value.int (Int32.ofInt (xs j).toInt))
          rw [cs_ofToInt], Nat.not_le.mpr hbl⟩
      · show va_T .int (if j = 3 then b else sA j) _ _ _ s s.heap
        rw [if_neg h3]
        exact (hsA j (by omega)).2
  have hC : cs_C iL_law E p room_1 s m #[Value.ref b] meth c := by
    refine ⟨hx, hb, hml, hr, hown, fun w hw => hts w (List.mem_filter.mp hw).1, hlocks, fun hn => ?_, hKK, by rw [hE]; exact Nat.le_refl _, by decide +kernel, by decide +kernel, by decide +kernel, by decide +kernel⟩
    exact absurd hn (by decide +kernel)
  have hF : cs_F iL_law p l e room_1 s m #[Value.ref b] below meth c (lw_Z below #[Value.ref b] s) E (0, 0) (fun v _ => v = some (.inl 1)) := by
    intro v h H locs ls pc cells slots hq hrk hPP hS hc1 hc2 hc3 hc4
    subst hq
    have hdg : decode code pc = .ok (.ireturn, 1) := by
      rcases hrk with ⟨h, -⟩ | ⟨x, ty, h, hd, -⟩ | ⟨w, ty, h, hw, -⟩
      · cases h
      · exact hd
      · rcases hw with rfl | ⟨a, rfl⟩ <;> cases h
    refine va_forget (fun q hq => by have := hS.2.2 q hq; rw [hE] at this; exact this) ?_
    exact W.widen (k := 612621) (n := 7264385) hc3 hc4 (lw_ret hx hb hr hlocks hdg)
  rw [lg_entry_eq]
  have hle := lv_entry ([.ref b]) (n := 8) (Nat.le_of_ble_eq_true rfl)
  generalize (lg_sl ([.ref b]) ++ List.replicate (8 - (lg_sl ([.ref b])).length) Slot.unset).toArray = ls at hle ⊢
  have hl : cs_L E ls 8 [cs_T 3, cs_N, cs_N, cs_N, cs_N, cs_N, cs_N, cs_N] := by
    subst hE
    exact hle
  have hXX : cs_X iL_law E (0, 0) room_1 s ([], fun _ _ => 0, fun _ _ => none) [cs_T 3, cs_N, cs_N, cs_N, cs_N, cs_N, cs_N, cs_N] s.heap [] ls 0 0 := by
    refine ⟨⟨fun k q h => ?_, by rw [hE]; rfl⟩, va_S.rf, hl, rfl, rfl, Nat.zero_le _, Nat.zero_le _⟩
    simp [cs_ws] at h
  have hin : ∀ k, cs_in (xs k).toInt := fun k => by
    unfold cs_in
    have h1 := Int32.le_toInt (xs k)
    have h2 := Int32.toInt_lt (xs k)
    omega
  exact l_start (sc := (L, fun k => (xs k).toInt)) hin hL (Q := fun v _ => v = some (.inl 1)) (fun _ => rfl) p l e room_1 s m #[Value.ref b] below meth c _ E (by rw [hE]) hC hF s.heap [] ls 0 0 hXX
