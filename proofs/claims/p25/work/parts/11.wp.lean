/-! THE WP-CALCULUS: rows of a method in blocks; sound for cs_VP. -/
abbrev cs_W : Type := Instr × Nat × Nat × List Nat
abbrev cs_BL : Type := List (Nat × List cs_W)
def cs_rows (B : cs_BL) (b : Nat) : List cs_W := ((B[b]?).getD (0, [])).2
def cs_pcb (B : cs_BL) (b : Nat) : Nat := ((B[b]?).getD (0, [])).1
def cs_pop (K : List cs_A → List cs_A → Prop) : Nat → List cs_A → List cs_A → Prop
  | 0, acc, st => K acc st
  | n + 1, acc, a :: st => cs_pop K n (a :: acc) st
  | _ + 1, _, [] => False
def cs_ix (h : cs_H) (a kd t : Nat) (j : Int) : Prop := ∃ n, h.1[a]? = some (kd, t, n) ∧ n ≤ 2147483648 ∧ 0 ≤ j ∧ j < (n : Int)
def cs_rc (h : cs_H) (a ci : Nat) : Prop := ∃ n, h.1[a]? = some (0, ci, n)
def cs_hl (h : cs_H) (a : Nat) (n : Int) : Prop := ∃ (kd t m : Nat), h.1[a]? = some (kd + 1, t, m) ∧ t < cs_an ∧ n = (m : Int)
def cs_l8 (t : List cs_A) : Prop := t.length ≤ 8
def cs_sw (v : Int) (J : Nat → Prop) : Int → List Nat → Prop
  | _, [] => True
  | k, t :: r => (v = k → J t) ∧ cs_sw v J (k + 1) r
def cs_lk (v : Int) (J : Nat → Prop) (d : Nat) : List (Int × Int) → List Nat → Prop
  | (k, _) :: ps, t :: r => (k = v → J t) ∧ (¬ k = v → cs_lk v J d ps r)
  | _, _ => J d
def cs_arg (ts : List Nat) (i : Nat) : Nat := ts.getD i 0
/-- behind a call: the callee's contract, and the rows that follow (not looked at by simp) -/
def cs_cont (sc : Nat × (Nat → Int)) (P : List cs_A → cs_H → Prop) (mj : Nat) (args : List cs_A) (t : List cs_A) (h : cs_H) : Prop := ∃ (v : Option cs_A) (h' : cs_H), cs_DetS sc mj args h v h' ∧ P (v.toList ++ t) h'
def cs_wp (sc : Nat × (Nat → Int)) (mi : Nat) (o : Nat × Nat) (Q : Option cs_A → cs_H → Prop) (J : Nat → List cs_A → List cs_A → cs_H → Prop) : List cs_W → List cs_A → List cs_A → cs_H → Prop
  | [], _, _, _ => False
  | (ins, x, y, ts) :: r, loc, st, h => match ins with
    | .nop => match y with
      | 0 => J x loc st h
      | y + 1 => cs_VP sc mi (y + 1) loc st h o Q
    | .iconst n => cs_wp sc mi o Q J r loc (.inl n :: st) h
    | .bipush n => cs_wp sc mi o Q J r loc (.inl n :: st) h
    | .sipush n => cs_wp sc mi o Q J r loc (.inl n :: st) h
    | .ldc _ => cs_wp sc mi o Q J r loc (.inl (x : Int) :: st) h
    | .iload_n _ => match loc[x]? with
      | some (.inl v) => cs_wp sc mi o Q J r loc (.inl v :: st) h
      | _ => False
    | .iload _ => match loc[x]? with
      | some (.inl v) => cs_wp sc mi o Q J r loc (.inl v :: st) h
      | _ => False
    | .aload_n _ => match loc[x]? with
      | some (.inr (.inl (some a))) => cs_wp sc mi o Q J r loc (cs_R a :: st) h
      | some (.inr (.inr j)) => cs_wp sc mi o Q J r loc (cs_T j :: st) h
      | _ => False
    | .aload _ => match loc[x]? with
      | some (.inr (.inl (some a))) => cs_wp sc mi o Q J r loc (cs_R a :: st) h
      | some (.inr (.inr j)) => cs_wp sc mi o Q J r loc (cs_T j :: st) h
      | _ => False
    | .istore_n _ => match st with
      | .inl v :: t => cs_wp sc mi o Q J r (loc.set x (.inl v)) t h
      | _ => False
    | .istore _ => match st with
      | .inl v :: t => cs_wp sc mi o Q J r (loc.set x (.inl v)) t h
      | _ => False
    | .astore_n _ => match st with
      | .inr (.inl (some a)) :: t => cs_wp sc mi o Q J r (loc.set x (cs_R a)) t h
      | .inr (.inr j) :: t => j = 9 ∧ cs_wp sc mi o Q J r (loc.set x cs_Z) t h
      | _ => False
    | .astore _ => match st with
      | .inr (.inl (some a)) :: t => cs_wp sc mi o Q J r (loc.set x (cs_R a)) t h
      | .inr (.inr j) :: t => j = 9 ∧ cs_wp sc mi o Q J r (loc.set x cs_Z) t h
      | _ => False
    | .ishr => match st with
      | .inl b :: .inl a :: t => cs_wp sc mi o Q J r loc (.inl (cs_shr a b) :: t) h
      | _ => False
    | .idiv => match st with
      | .inl b :: .inl a :: t => ((0 ≤ a ∧ a < 2147483648) ∧ (0 < b ∧ b < 2147483648)) ∧ cs_wp sc mi o Q J r loc (.inl (a / b) :: t) h
      | _ => False
    | .irem => match st with
      | .inl b :: .inl a :: t => ((0 ≤ a ∧ a < 2147483648) ∧ (0 < b ∧ b < 2147483648)) ∧ cs_wp sc mi o Q J r loc (.inl (a % b) :: t) h
      | _ => False
    | .aconst_null => cs_wp sc mi o Q J r loc (cs_Z :: st) h
    | .ifnull _ => match st with
      | .inr (.inl (some _)) :: t => cs_wp sc mi o Q J r loc t h
      | .inr (.inr j) :: t => j = 9 ∧ J x loc t h
      | _ => False
    | .ifnonnull _ => match st with
      | .inr (.inl (some _)) :: t => J x loc t h
      | .inr (.inr j) :: t => j = 9 ∧ cs_wp sc mi o Q J r loc t h
      | _ => False
    | .iinc i n => match loc[i]? with
      | some (.inl v) => cs_wp sc mi o Q J r (loc.set i (.inl (v + n))) st h
      | _ => False
    | .iadd => match st with
      | .inl b :: .inl a :: t => cs_wp sc mi o Q J r loc (.inl (a + b) :: t) h
      | _ => False
    | .isub => match st with
      | .inl b :: .inl a :: t => cs_wp sc mi o Q J r loc (.inl (a - b) :: t) h
      | _ => False
    | .imul => match st with
      | .inl b :: .inl a :: t => cs_wp sc mi o Q J r loc (.inl (a * b) :: t) h
      | _ => False
    | .iand => match st with
      | .inl b :: .inl a :: t => cs_wp sc mi o Q J r loc (.inl (cs_and a b) :: t) h
      | _ => False
    | .ior => match st with
      | .inl b :: .inl a :: t => cs_wp sc mi o Q J r loc (.inl (cs_or a b) :: t) h
      | _ => False
    | .ishl => match st with
      | .inl b :: .inl a :: t => cs_wp sc mi o Q J r loc (.inl (cs_shl a b) :: t) h
      | _ => False
    | .i2c => match st with
      | .inl a :: t => cs_wp sc mi o Q J r loc (.inl (a % 65536) :: t) h
      | _ => False
    | .dup => match st with
      | a :: t => cs_wp sc mi o Q J r loc (a :: a :: t) h
      | _ => False
    | .pop => match st with
      | _ :: t => cs_wp sc mi o Q J r loc t h
      | _ => False
    | .dup2 => match st with
      | b :: a :: t => cs_wp sc mi o Q J r loc (b :: a :: b :: a :: t) h
      | _ => False
    | .goto _ => J x loc st h
    | .ifCond c _ => match st with
      | .inl v :: t => cs_ifc c v (J x loc t h) (cs_wp sc mi o Q J r loc t h)
      | _ => False
    | .if_icmp c _ => match st with
      | .inl b :: .inl a :: t => cs_icm c a b (J x loc t h) (cs_wp sc mi o Q J r loc t h)
      | _ => False
    | .tableswitch _ lo hi _ => match st with
      | .inl v :: t => cs_in v ∧ ((v < lo ∨ hi < v) → J x loc t h) ∧ cs_sw v (fun b => J b loc t h) lo ts
      | _ => False
    | .lookupswitch _ ps => match st with
      | .inl v :: t => cs_in v ∧ cs_lk v (fun b => J b loc t h) x ps.toList ts
      | _ => False
    | .getfield _ => match st, ts with
      | .inr (.inl (some a)) :: t, [] => cs_ob h a x y ∧ cs_wp sc mi o Q J r loc (.inl (h.2.1 a y) :: t) h
      | .inr (.inl (some a)) :: t, _ => cs_ob h a x y ∧ (h.2.2 a y).isSome = true ∧ cs_wp sc mi o Q J r loc (cs_R ((h.2.2 a y).getD 0) :: t) h
      | _, _ => False
    | .putfield _ => match ts with
      | [] => match st with
        | .inl v :: .inr (.inl (some a)) :: t => cs_ob h a x y ∧ cs_wp sc mi o Q J r loc t (h.1, cs_u2 h.2.1 a y v, h.2.2)
        | _ => False
      | [0] => match st with
        | .inl v :: .inr (.inl (some a)) :: t => cs_ob h a x y ∧ (v = 0 ∨ v = 1) ∧ cs_wp sc mi o Q J r loc t (h.1, cs_u2 h.2.1 a y v, h.2.2)
        | _ => False
      | [1] => match st with
        | .inr (.inl (some v)) :: .inr (.inl (some a)) :: t => cs_ob h a x y ∧ cs_wp sc mi o Q J r loc t (h.1, h.2.1, cs_u2 h.2.2 a y (some v))
        | _ => False
      | _ => False
    | .getstatic _ => cs_wp sc mi o Q J r loc (cs_T x :: st) h
    | .iaload => match st with
      | .inl j :: .inr (.inl (some a)) :: t => cs_ix h a 1 0 j ∧ cs_wp sc mi o Q J r loc (.inl (h.2.1 a j.toNat) :: t) h
      | .inl j :: .inr (.inr q) :: t => (q < 4 ∧ 0 ≤ j ∧ j < (cs_tn sc q : Int)) ∧ cs_wp sc mi o Q J r loc (.inl (cs_tv sc q j.toNat) :: t) h
      | _ => False
    | .caload => match st with
      | .inl j :: .inr (.inl (some a)) :: t => cs_ix h a 1 1 j ∧ cs_wp sc mi o Q J r loc (.inl (h.2.1 a j.toNat) :: t) h
      | _ => False
    | .iastore => match st with
      | .inl v :: .inl j :: .inr (.inl (some a)) :: t => cs_ix h a 1 0 j ∧ cs_wp sc mi o Q J r loc t (h.1, cs_u2 h.2.1 a j.toNat v, h.2.2)
      | _ => False
    | .castore => match st with
      | .inl v :: .inl j :: .inr (.inl (some a)) :: t => cs_ix h a 1 1 j ∧ (0 ≤ v ∧ v < 65536) ∧ cs_wp sc mi o Q J r loc t (h.1, cs_u2 h.2.1 a j.toNat v, h.2.2)
      | _ => False
    | .aaload => match st with
      | .inl j :: .inr (.inl (some a)) :: t => cs_ix h a 2 x j ∧ (h.2.2 a j.toNat).isSome = true ∧ cs_wp sc mi o Q J r loc (cs_R ((h.2.2 a j.toNat).getD 0) :: t) h
      | _ => False
    | .aastore => match st with
      | .inr (.inl (some v)) :: .inl j :: .inr (.inl (some a)) :: t => cs_ix h a 2 x j ∧ cs_rc h v y ∧ cs_wp sc mi o Q J r loc t (h.1, h.2.1, cs_u2 h.2.2 a j.toNat (some v))
      | _ => False
    | .arraylength => match st with
      | .inr (.inr q) :: t => q < 4 ∧ cs_wp sc mi o Q J r loc (.inl (cs_tn sc q : Int) :: t) h
      | .inr (.inl (some a)) :: t => cs_hl h a (x : Int) ∧ cs_wp sc mi o Q J r loc (.inl (x : Int) :: t) h
      | _ => False
    | .new _ => (h.1.length + 1 ≤ o.1 + cs_mc mi ∧ cs_sz h.1 + y ≤ o.2 + cs_sl mi) ∧ cs_wp sc mi o Q J r loc (cs_R h.1.length :: st) (cs_new h (0, x, y))
    | .newarray _ => match st with
      | .inl n :: t => (0 ≤ n ∧ n ≤ 100000) ∧ (h.1.length + 1 ≤ o.1 + cs_mc mi ∧ cs_sz h.1 + n.toNat ≤ o.2 + cs_sl mi) ∧ cs_wp sc mi o Q J r loc (cs_R h.1.length :: t) (cs_new h (1, x, n.toNat))
      | _ => False
    | .anewarray _ => match st with
      | .inl n :: t => (0 ≤ n ∧ n ≤ 100000) ∧ (h.1.length + 1 ≤ o.1 + cs_mc mi ∧ cs_sz h.1 + n.toNat ≤ o.2 + cs_sl mi) ∧ cs_wp sc mi o Q J r loc (cs_R h.1.length :: t) (cs_new h (2, x, n.toNat))
      | _ => False
    | .invokevirtual _ => cs_pop (fun as rest => match rest with
      | .inr (.inl (some b)) :: t => cs_rc h b y ∧ cs_l8 t ∧ cs_cont sc (fun st' h' => cs_wp sc mi o Q J r loc st' h') x (cs_R b :: as) t h
      | _ => False) (cs_arg ts 0) [] st
    | .invokespecial _ => match y with
      | 0 => match st with
        | .inr (.inl (some _)) :: t => cs_l8 t ∧ cs_wp sc mi o Q J r loc t h
        | _ => False
      | _ => cs_pop (fun as rest => match rest with
        | .inr (.inl (some b)) :: t => ((cs_arg ts 1 = 0 ∧ cs_arg ts 2 = 0) ∨ (h.1.length + cs_arg ts 1 ≤ o.1 + cs_mc mi ∧ cs_sz h.1 + cs_arg ts 2 ≤ o.2 + cs_sl mi)) ∧ cs_l8 t ∧ cs_cont sc (fun st' h' => cs_wp sc mi o Q J r loc st' h') x (cs_R b :: as) t h
        | _ => False) (cs_arg ts 0) [] st
    | .invokestatic _ => match y with
      | 0 => cs_pop (fun as t => cs_l8 t ∧ cs_cont sc (fun st' h' => cs_wp sc mi o Q J r loc st' h') x as t h) (cs_arg ts 0) [] st
      | 1 => cs_pop (fun as t => cs_l8 t ∧ cs_cont sc (fun st' h' => cs_wp sc mi o Q J r loc st' h') x as t h) (cs_arg ts 0) [] st
      | 2 => match st with
        | .inl b :: .inl a :: t => (cs_l8 t ∧ cs_in a ∧ cs_in b) ∧ cs_wp sc mi o Q J r loc (.inl (if a < b then b else a) :: t) h
        | _ => False
      | 3 => match st with
        | .inl b :: .inl a :: t => (cs_l8 t ∧ cs_in a ∧ cs_in b) ∧ cs_wp sc mi o Q J r loc (.inl (if b < a then b else a) :: t) h
        | _ => False
      | _ => match st with
        | .inl n :: .inl p1 :: .inr (.inl (some a1)) :: .inl p0 :: .inr (.inl (some a0)) :: t => (p1 = 0 ∧ p0 = 0 ∧ cs_l8 t ∧ 0 ≤ n ∧ n ≤ 100000) ∧ cs_ix h a0 1 0 (n - 1) ∧ cs_ix h a1 1 0 (n - 1) ∧ cs_wp sc mi o Q J r loc t (h.1, cs_cp h.2.1 a0 a1 n.toNat, h.2.2)
        | _ => False
    | .ireturn => match st, y with
      | [.inl v], 0 => Q (some (.inl v)) h
      | [.inl v], _ => (v = 0 ∨ v = 1) ∧ Q (some (.inl v)) h
      | _, _ => False
    | .areturn => match st with
      | [.inr (.inl (some a))] => Q (some (cs_R a)) h
      | [.inr (.inr j)] => j = 9 ∧ Q (some cs_Z) h
      | _ => False
    | .return_ => match st with
      | [] => Q none h
      | _ => False
    | _ => False
def cs_J (sc : Nat × (Nat → Int)) (mi : Nat) (o : Nat × Nat) (Q : Option cs_A → cs_H → Prop) (B : cs_BL) : Nat → Nat → List cs_A → List cs_A → cs_H → Prop
  | 0, _, _, _, _ => False
  | n + 1, b, loc, st, h => cs_wp sc mi o Q (cs_J sc mi o Q B n) (cs_rows B b) loc st h
/-! the check of a method's rows against its bytes and the tables -/
def cs_dc (mi pc : Nat) (ins : Instr) (n : Nat) : Bool := decide (decode (cs_cd mi) pc = .ok (ins, n))
def cs_hasF (ow idx ci k : Nat) : Bool := cs_Rf.any (fun e => e.1 == ow && e.2.1 == idx && e.2.2.1 == ci && e.2.2.2.1 == k)
def cs_hasV (ow idx mj : Nat) : Bool := cs_Rv.any (fun e => e.1 == ow && e.2.1 == idx && e.2.2.1 == mj)
def cs_has6 (l : List (Nat × Nat × Nat × Nat × Nat × Nat)) (ow idx mj : Nat) : Bool := l.any (fun e => e.1 == ow && e.2.1 == idx && e.2.2.1 == mj)
def cs_has3 (l : List (Nat × Nat × Nat)) (ow idx : Nat) : Bool := l.any (fun e => e.1 == ow && e.2.1 == idx)
def cs_has4 (l : List (Nat × Nat × Nat × Nat)) (ow idx v : Nat) : Bool := l.any (fun e => e.1 == ow && e.2.1 == idx && e.2.2.1 == v)
def cs_tgt (B : cs_BL) (pc : Nat) (off : Int) (b : Nat) : Bool := decide ((pc : Int) + off = ((cs_pcb B b : Nat) : Int)) && decide (b < B.length)
def cs_room (mi mj : Nat) : Bool := decide (cs_fm mj + 1 ≤ cs_fm mi) && decide (8 + (cs_ml mj + 11) + cs_lo mj ≤ cs_lo mi)
def cs_swk (B : cs_BL) (pc : Nat) : List Int → List Nat → Bool
  | [], [] => true
  | off :: os, b :: bs => cs_tgt B pc off b && cs_swk B pc os bs
  | _, _ => false
def cs_ci (mi pc : Nat) (B : cs_BL) (ins : Instr) (x y : Nat) (ts : List Nat) : Bool × Nat := match ins with
  | .iconst _ => (true, 1)
  | .bipush n => (decide ((Int8.ofInt n).toInt32 = Int32.ofInt n), 2)
  | .sipush n => (decide ((Int16.ofInt n).toInt32 = Int32.ofInt n), 3)
  | .ldc i => (cs_has4 cs_Rk (cs_ow mi) i x, 2)
  | .iload_n q => (q.val == x, 1)
  | .iload i => (i == x, 2)
  | .aload_n q => (q.val == x, 1)
  | .aload i => (i == x, 2)
  | .istore_n q => (q.val == x && decide (x < cs_ml mi), 1)
  | .istore i => (i == x && decide (x < cs_ml mi), 2)
  | .astore_n q => (q.val == x && decide (x < cs_ml mi), 1)
  | .astore i => (i == x && decide (x < cs_ml mi), 2)
  | .ishr => (true, 1)
  | .idiv => (true, 1)
  | .irem => (true, 1)
  | .aconst_null => (true, 1)
  | .ifnull off => (cs_tgt B pc off x, 3)
  | .ifnonnull off => (cs_tgt B pc off x, 3)
  | .iinc i _ => (decide (i < cs_ml mi), 3)
  | .iadd => (true, 1)
  | .isub => (true, 1)
  | .imul => (true, 1)
  | .iand => (true, 1)
  | .ior => (true, 1)
  | .ishl => (true, 1)
  | .i2c => (true, 1)
  | .dup => (true, 1)
  | .pop => (true, 1)
  | .dup2 => (true, 1)
  | .goto off => (cs_tgt B pc off x, 3)
  | .ifCond _ off => (cs_tgt B pc off x, 3)
  | .if_icmp _ off => (cs_tgt B pc off x, 3)
  | .getfield idx => (cs_hasF (cs_ow mi) idx x y && (cs_fr x y == !(ts == [])), 3)
  | .putfield idx => (cs_hasF (cs_ow mi) idx x y && (match vwCl[x]? with
    | none => false
    | some r => match ts with
      | [] => !cs_fr x y && !(r.2.1 y).2.2.2 && decide (cs_ft r y = .int)
      | [0] => !cs_fr x y && !(r.2.1 y).2.2.2 && decide (cs_ft r y = .boolean)
      | [1] => cs_fr x y && (!(r.2.1 y).2.2.2 || (decide ((cs_y mi).name = "<init>") && decide ((r.2.1 y).1 = cs_cn (cs_ow mi))))
      | _ => false), 3)
  | .getstatic idx => (cs_Rg.any (fun e => e.1 == cs_ow mi && e.2.1 == idx && e.2.2 == x), 3)
  | .iaload => (true, 1)
  | .caload => (true, 1)
  | .iastore => (true, 1)
  | .castore => (true, 1)
  | .aaload => (decide (2 ≤ x) && decide (x < cs_an), 1)
  | .aastore => (decide (2 ≤ x) && decide (x < cs_an) && (cs_ac x == y) && decide (y < vwCl.length), 1)
  | .arraylength => (true, 1)
  | .new idx => (cs_has6 cs_Rc (cs_ow mi) idx x && (match vwCl[x]? with
    | none => false
    | some r => r.2.2 == y), 3)
  | .newarray t => ((decide (t = .int) && x == 0) || (decide (t = .char) && x == 1), 2)
  | .anewarray idx => (cs_has4 cs_Ra (cs_ow mi) idx x, 3)
  | .invokevirtual idx => (cs_hasV (cs_ow mi) idx x && cs_room mi x && (cs_arg ts 0 == cs_na x) && (cs_ow x == y) && decide (y < vwCl.length) && (cs_mc x == 0) && (cs_sl x == 0), 3)
  | .invokespecial idx => (match y with
    | 0 => cs_has3 cs_Ro (cs_ow mi) idx && decide (1 ≤ cs_fm mi) && decide (40 ≤ cs_lo mi)
    | 1 => cs_has6 cs_Ri (cs_ow mi) idx x && cs_room mi x && (cs_arg ts 0 == cs_na x) && (cs_mc x == cs_arg ts 1) && (cs_sl x == cs_arg ts 2)
    | _ => cs_has6 cs_Rin (cs_ow mi) idx x && cs_room mi x && (cs_arg ts 0 == cs_na x) && (cs_mc x == cs_arg ts 1) && (cs_sl x == cs_arg ts 2), 3)
  | .invokestatic idx => (match y with
    | 0 => cs_has6 cs_Rs (cs_ow mi) idx x && cs_room mi x && (cs_arg ts 0 == cs_na x) && (cs_mc x == 0) && (cs_sl x == 0)
    | 1 => cs_has6 cs_Rsn (cs_ow mi) idx x && cs_room mi x && (cs_arg ts 0 == cs_na x) && (cs_mc x == 0) && (cs_sl x == 0)
    | 2 => cs_has3 cs_Rmax (cs_ow mi) idx && decide (1 ≤ cs_fm mi) && decide (40 ≤ cs_lo mi)
    | 3 => cs_has3 cs_Rmin (cs_ow mi) idx && decide (1 ≤ cs_fm mi) && decide (40 ≤ cs_lo mi)
    | _ => cs_has3 cs_Rcpy (cs_ow mi) idx && decide (1 ≤ cs_fm mi) && decide (50 ≤ cs_lo mi), 3)
  | .ireturn => (match y with
    | 0 => decide (cs_rt mi = some .int)
    | _ => decide (cs_rt mi = some .boolean), 1)
  | .areturn => (match cs_rt mi with
    | some (.object _) => true
    | _ => false, 1)
  | .return_ => (decide (cs_rt mi = none), 1)
  | _ => (false, 0)
def cs_chk (mi : Nat) (B : cs_BL) : Nat → List cs_W → Bool
  | _, [] => true
  | pc, (ins, x, y, ts) :: r => match ins with
    | .nop => match y with
      | 0 => (cs_pcb B x == pc) && decide (x < B.length)
      | y + 1 => y + 1 == pc
    | .tableswitch d lo hi offs => decide ((decode (cs_cd mi) pc).toOption.map (·.1) = some (.tableswitch d lo hi offs)) && cs_tgt B pc d x && cs_swk B pc offs.toList ts && decide (hi - lo + 1 = (ts.length : Int))
    | .lookupswitch d ps => decide ((decode (cs_cd mi) pc).toOption.map (·.1) = some (.lookupswitch d ps)) && cs_tgt B pc d x && cs_swk B pc (ps.toList.map (·.2)) ts && (ps.toList.zip (ps.toList.drop 1)).all (fun (a, next) => a.1 < next.1)
    | ins => cs_dc mi pc ins (cs_ci mi pc B ins x y ts).2 && (cs_ci mi pc B ins x y ts).1 && cs_chk mi B (pc + (cs_ci mi pc B ins x y ts).2) r
def cs_chkB (mi : Nat) (B : cs_BL) : Bool := B.all (fun q => cs_chk mi B q.1 q.2)
