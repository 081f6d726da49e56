/-! EQUATIONS of cs_wp for simp, and the table's numbers of each method. Printed by wip/p25/gen4.py. -/
section
variable {sc : Nat × (Nat → Int)} {mi : Nat} {o : Nat × Nat} {Q : Option cs_A → cs_H → Prop} {J : Nat → List cs_A → List cs_A → cs_H → Prop} {r : List cs_W} {loc st : List cs_A} {h : cs_H} {x y : Nat} {ts : List Nat}
theorem cs_q_iconst {n : Int} : cs_wp sc mi o Q J ((.iconst n, x, y, ts) :: r) loc st h = (cs_wp sc mi o Q J r loc (.inl n :: st) h) := rfl
theorem cs_q_bipush {n : Int} : cs_wp sc mi o Q J ((.bipush n, x, y, ts) :: r) loc st h = (cs_wp sc mi o Q J r loc (.inl n :: st) h) := rfl
theorem cs_q_sipush {n : Int} : cs_wp sc mi o Q J ((.sipush n, x, y, ts) :: r) loc st h = (cs_wp sc mi o Q J r loc (.inl n :: st) h) := rfl
theorem cs_q_ldc {n : Nat} : cs_wp sc mi o Q J ((.ldc n, x, y, ts) :: r) loc st h = (cs_wp sc mi o Q J r loc (.inl (x : Int) :: st) h) := rfl
theorem cs_q_fall : cs_wp sc mi o Q J ((.nop, x, 0, ts) :: r) loc st h = (J x loc st h) := rfl
theorem cs_q_stop : cs_wp sc mi o Q J ((.nop, x, (y + 1), ts) :: r) loc st h = (cs_VP sc mi (y + 1) loc st h o Q) := rfl
theorem cs_q_iload_n0 {q : Fin 4} {v : Int} {l : List cs_A} : cs_wp sc mi o Q J ((.iload_n q, 0, y, ts) :: r) (.inl v :: l) st h = (cs_wp sc mi o Q J r (.inl v :: l) (.inl v :: st) h) := rfl
theorem cs_q_aload_n0 {q : Fin 4} {v : Nat} {l : List cs_A} : cs_wp sc mi o Q J ((.aload_n q, 0, y, ts) :: r) (cs_R v :: l) st h = (cs_wp sc mi o Q J r (cs_R v :: l) (cs_R v :: st) h) := rfl
theorem cs_q_istore_n0 {a0 : cs_A} {q : Fin 4} {v : Int} {l : List cs_A} : cs_wp sc mi o Q J ((.istore_n q, 0, y, ts) :: r) (a0 :: l) (.inl v :: st) h = (cs_wp sc mi o Q J r (.inl v :: l) st h) := rfl
theorem cs_q_astore_n0 {a0 : cs_A} {q : Fin 4} {v : Nat} {l : List cs_A} : cs_wp sc mi o Q J ((.astore_n q, 0, y, ts) :: r) (a0 :: l) (cs_R v :: st) h = (cs_wp sc mi o Q J r (cs_R v :: l) st h) := rfl
theorem cs_q_iinc0 {v n : Int} {l : List cs_A} : cs_wp sc mi o Q J ((.iinc 0 n, x, y, ts) :: r) (.inl v :: l) st h = (cs_wp sc mi o Q J r (.inl (v + n) :: l) st h) := rfl
theorem cs_q_iload_n1 {a0 : cs_A} {q : Fin 4} {v : Int} {l : List cs_A} : cs_wp sc mi o Q J ((.iload_n q, 1, y, ts) :: r) (a0 :: .inl v :: l) st h = (cs_wp sc mi o Q J r (a0 :: .inl v :: l) (.inl v :: st) h) := rfl
theorem cs_q_aload_n1 {a0 : cs_A} {q : Fin 4} {v : Nat} {l : List cs_A} : cs_wp sc mi o Q J ((.aload_n q, 1, y, ts) :: r) (a0 :: cs_R v :: l) st h = (cs_wp sc mi o Q J r (a0 :: cs_R v :: l) (cs_R v :: st) h) := rfl
theorem cs_q_istore_n1 {a0 a1 : cs_A} {q : Fin 4} {v : Int} {l : List cs_A} : cs_wp sc mi o Q J ((.istore_n q, 1, y, ts) :: r) (a0 :: a1 :: l) (.inl v :: st) h = (cs_wp sc mi o Q J r (a0 :: .inl v :: l) st h) := rfl
theorem cs_q_astore_n1 {a0 a1 : cs_A} {q : Fin 4} {v : Nat} {l : List cs_A} : cs_wp sc mi o Q J ((.astore_n q, 1, y, ts) :: r) (a0 :: a1 :: l) (cs_R v :: st) h = (cs_wp sc mi o Q J r (a0 :: cs_R v :: l) st h) := rfl
theorem cs_q_iinc1 {a0 : cs_A} {v n : Int} {l : List cs_A} : cs_wp sc mi o Q J ((.iinc 1 n, x, y, ts) :: r) (a0 :: .inl v :: l) st h = (cs_wp sc mi o Q J r (a0 :: .inl (v + n) :: l) st h) := rfl
theorem cs_q_iload_n2 {a0 a1 : cs_A} {q : Fin 4} {v : Int} {l : List cs_A} : cs_wp sc mi o Q J ((.iload_n q, 2, y, ts) :: r) (a0 :: a1 :: .inl v :: l) st h = (cs_wp sc mi o Q J r (a0 :: a1 :: .inl v :: l) (.inl v :: st) h) := rfl
theorem cs_q_aload_n2 {a0 a1 : cs_A} {q : Fin 4} {v : Nat} {l : List cs_A} : cs_wp sc mi o Q J ((.aload_n q, 2, y, ts) :: r) (a0 :: a1 :: cs_R v :: l) st h = (cs_wp sc mi o Q J r (a0 :: a1 :: cs_R v :: l) (cs_R v :: st) h) := rfl
theorem cs_q_istore_n2 {a0 a1 a2 : cs_A} {q : Fin 4} {v : Int} {l : List cs_A} : cs_wp sc mi o Q J ((.istore_n q, 2, y, ts) :: r) (a0 :: a1 :: a2 :: l) (.inl v :: st) h = (cs_wp sc mi o Q J r (a0 :: a1 :: .inl v :: l) st h) := rfl
theorem cs_q_astore_n2 {a0 a1 a2 : cs_A} {q : Fin 4} {v : Nat} {l : List cs_A} : cs_wp sc mi o Q J ((.astore_n q, 2, y, ts) :: r) (a0 :: a1 :: a2 :: l) (cs_R v :: st) h = (cs_wp sc mi o Q J r (a0 :: a1 :: cs_R v :: l) st h) := rfl
theorem cs_q_iinc2 {a0 a1 : cs_A} {v n : Int} {l : List cs_A} : cs_wp sc mi o Q J ((.iinc 2 n, x, y, ts) :: r) (a0 :: a1 :: .inl v :: l) st h = (cs_wp sc mi o Q J r (a0 :: a1 :: .inl (v + n) :: l) st h) := rfl
theorem cs_q_iload_n3 {a0 a1 a2 : cs_A} {q : Fin 4} {v : Int} {l : List cs_A} : cs_wp sc mi o Q J ((.iload_n q, 3, y, ts) :: r) (a0 :: a1 :: a2 :: .inl v :: l) st h = (cs_wp sc mi o Q J r (a0 :: a1 :: a2 :: .inl v :: l) (.inl v :: st) h) := rfl
theorem cs_q_aload_n3 {a0 a1 a2 : cs_A} {q : Fin 4} {v : Nat} {l : List cs_A} : cs_wp sc mi o Q J ((.aload_n q, 3, y, ts) :: r) (a0 :: a1 :: a2 :: cs_R v :: l) st h = (cs_wp sc mi o Q J r (a0 :: a1 :: a2 :: cs_R v :: l) (cs_R v :: st) h) := rfl
theorem cs_q_istore_n3 {a0 a1 a2 a3 : cs_A} {q : Fin 4} {v : Int} {l : List cs_A} : cs_wp sc mi o Q J ((.istore_n q, 3, y, ts) :: r) (a0 :: a1 :: a2 :: a3 :: l) (.inl v :: st) h = (cs_wp sc mi o Q J r (a0 :: a1 :: a2 :: .inl v :: l) st h) := rfl
theorem cs_q_astore_n3 {a0 a1 a2 a3 : cs_A} {q : Fin 4} {v : Nat} {l : List cs_A} : cs_wp sc mi o Q J ((.astore_n q, 3, y, ts) :: r) (a0 :: a1 :: a2 :: a3 :: l) (cs_R v :: st) h = (cs_wp sc mi o Q J r (a0 :: a1 :: a2 :: cs_R v :: l) st h) := rfl
theorem cs_q_iinc3 {a0 a1 a2 : cs_A} {v n : Int} {l : List cs_A} : cs_wp sc mi o Q J ((.iinc 3 n, x, y, ts) :: r) (a0 :: a1 :: a2 :: .inl v :: l) st h = (cs_wp sc mi o Q J r (a0 :: a1 :: a2 :: .inl (v + n) :: l) st h) := rfl
theorem cs_q_iload4 {a0 a1 a2 a3 : cs_A} {q : Nat} {v : Int} {l : List cs_A} : cs_wp sc mi o Q J ((.iload q, 4, y, ts) :: r) (a0 :: a1 :: a2 :: a3 :: .inl v :: l) st h = (cs_wp sc mi o Q J r (a0 :: a1 :: a2 :: a3 :: .inl v :: l) (.inl v :: st) h) := rfl
theorem cs_q_aload4 {a0 a1 a2 a3 : cs_A} {q : Nat} {v : Nat} {l : List cs_A} : cs_wp sc mi o Q J ((.aload q, 4, y, ts) :: r) (a0 :: a1 :: a2 :: a3 :: cs_R v :: l) st h = (cs_wp sc mi o Q J r (a0 :: a1 :: a2 :: a3 :: cs_R v :: l) (cs_R v :: st) h) := rfl
theorem cs_q_istore4 {a0 a1 a2 a3 a4 : cs_A} {q : Nat} {v : Int} {l : List cs_A} : cs_wp sc mi o Q J ((.istore q, 4, y, ts) :: r) (a0 :: a1 :: a2 :: a3 :: a4 :: l) (.inl v :: st) h = (cs_wp sc mi o Q J r (a0 :: a1 :: a2 :: a3 :: .inl v :: l) st h) := rfl
theorem cs_q_astore4 {a0 a1 a2 a3 a4 : cs_A} {q : Nat} {v : Nat} {l : List cs_A} : cs_wp sc mi o Q J ((.astore q, 4, y, ts) :: r) (a0 :: a1 :: a2 :: a3 :: a4 :: l) (cs_R v :: st) h = (cs_wp sc mi o Q J r (a0 :: a1 :: a2 :: a3 :: cs_R v :: l) st h) := rfl
theorem cs_q_iinc4 {a0 a1 a2 a3 : cs_A} {v n : Int} {l : List cs_A} : cs_wp sc mi o Q J ((.iinc 4 n, x, y, ts) :: r) (a0 :: a1 :: a2 :: a3 :: .inl v :: l) st h = (cs_wp sc mi o Q J r (a0 :: a1 :: a2 :: a3 :: .inl (v + n) :: l) st h) := rfl
theorem cs_q_iload5 {a0 a1 a2 a3 a4 : cs_A} {q : Nat} {v : Int} {l : List cs_A} : cs_wp sc mi o Q J ((.iload q, 5, y, ts) :: r) (a0 :: a1 :: a2 :: a3 :: a4 :: .inl v :: l) st h = (cs_wp sc mi o Q J r (a0 :: a1 :: a2 :: a3 :: a4 :: .inl v :: l) (.inl v :: st) h) := rfl
theorem cs_q_aload5 {a0 a1 a2 a3 a4 : cs_A} {q : Nat} {v : Nat} {l : List cs_A} : cs_wp sc mi o Q J ((.aload q, 5, y, ts) :: r) (a0 :: a1 :: a2 :: a3 :: a4 :: cs_R v :: l) st h = (cs_wp sc mi o Q J r (a0 :: a1 :: a2 :: a3 :: a4 :: cs_R v :: l) (cs_R v :: st) h) := rfl
theorem cs_q_istore5 {a0 a1 a2 a3 a4 a5 : cs_A} {q : Nat} {v : Int} {l : List cs_A} : cs_wp sc mi o Q J ((.istore q, 5, y, ts) :: r) (a0 :: a1 :: a2 :: a3 :: a4 :: a5 :: l) (.inl v :: st) h = (cs_wp sc mi o Q J r (a0 :: a1 :: a2 :: a3 :: a4 :: .inl v :: l) st h) := rfl
theorem cs_q_astore5 {a0 a1 a2 a3 a4 a5 : cs_A} {q : Nat} {v : Nat} {l : List cs_A} : cs_wp sc mi o Q J ((.astore q, 5, y, ts) :: r) (a0 :: a1 :: a2 :: a3 :: a4 :: a5 :: l) (cs_R v :: st) h = (cs_wp sc mi o Q J r (a0 :: a1 :: a2 :: a3 :: a4 :: cs_R v :: l) st h) := rfl
theorem cs_q_iinc5 {a0 a1 a2 a3 a4 : cs_A} {v n : Int} {l : List cs_A} : cs_wp sc mi o Q J ((.iinc 5 n, x, y, ts) :: r) (a0 :: a1 :: a2 :: a3 :: a4 :: .inl v :: l) st h = (cs_wp sc mi o Q J r (a0 :: a1 :: a2 :: a3 :: a4 :: .inl (v + n) :: l) st h) := rfl
theorem cs_q_iload6 {a0 a1 a2 a3 a4 a5 : cs_A} {q : Nat} {v : Int} {l : List cs_A} : cs_wp sc mi o Q J ((.iload q, 6, y, ts) :: r) (a0 :: a1 :: a2 :: a3 :: a4 :: a5 :: .inl v :: l) st h = (cs_wp sc mi o Q J r (a0 :: a1 :: a2 :: a3 :: a4 :: a5 :: .inl v :: l) (.inl v :: st) h) := rfl
theorem cs_q_aload6 {a0 a1 a2 a3 a4 a5 : cs_A} {q : Nat} {v : Nat} {l : List cs_A} : cs_wp sc mi o Q J ((.aload q, 6, y, ts) :: r) (a0 :: a1 :: a2 :: a3 :: a4 :: a5 :: cs_R v :: l) st h = (cs_wp sc mi o Q J r (a0 :: a1 :: a2 :: a3 :: a4 :: a5 :: cs_R v :: l) (cs_R v :: st) h) := rfl
theorem cs_q_istore6 {a0 a1 a2 a3 a4 a5 a6 : cs_A} {q : Nat} {v : Int} {l : List cs_A} : cs_wp sc mi o Q J ((.istore q, 6, y, ts) :: r) (a0 :: a1 :: a2 :: a3 :: a4 :: a5 :: a6 :: l) (.inl v :: st) h = (cs_wp sc mi o Q J r (a0 :: a1 :: a2 :: a3 :: a4 :: a5 :: .inl v :: l) st h) := rfl
theorem cs_q_astore6 {a0 a1 a2 a3 a4 a5 a6 : cs_A} {q : Nat} {v : Nat} {l : List cs_A} : cs_wp sc mi o Q J ((.astore q, 6, y, ts) :: r) (a0 :: a1 :: a2 :: a3 :: a4 :: a5 :: a6 :: l) (cs_R v :: st) h = (cs_wp sc mi o Q J r (a0 :: a1 :: a2 :: a3 :: a4 :: a5 :: cs_R v :: l) st h) := rfl
theorem cs_q_iinc6 {a0 a1 a2 a3 a4 a5 : cs_A} {v n : Int} {l : List cs_A} : cs_wp sc mi o Q J ((.iinc 6 n, x, y, ts) :: r) (a0 :: a1 :: a2 :: a3 :: a4 :: a5 :: .inl v :: l) st h = (cs_wp sc mi o Q J r (a0 :: a1 :: a2 :: a3 :: a4 :: a5 :: .inl (v + n) :: l) st h) := rfl
theorem cs_q_iload7 {a0 a1 a2 a3 a4 a5 a6 : cs_A} {q : Nat} {v : Int} {l : List cs_A} : cs_wp sc mi o Q J ((.iload q, 7, y, ts) :: r) (a0 :: a1 :: a2 :: a3 :: a4 :: a5 :: a6 :: .inl v :: l) st h = (cs_wp sc mi o Q J r (a0 :: a1 :: a2 :: a3 :: a4 :: a5 :: a6 :: .inl v :: l) (.inl v :: st) h) := rfl
theorem cs_q_aload7 {a0 a1 a2 a3 a4 a5 a6 : cs_A} {q : Nat} {v : Nat} {l : List cs_A} : cs_wp sc mi o Q J ((.aload q, 7, y, ts) :: r) (a0 :: a1 :: a2 :: a3 :: a4 :: a5 :: a6 :: cs_R v :: l) st h = (cs_wp sc mi o Q J r (a0 :: a1 :: a2 :: a3 :: a4 :: a5 :: a6 :: cs_R v :: l) (cs_R v :: st) h) := rfl
theorem cs_q_istore7 {a0 a1 a2 a3 a4 a5 a6 a7 : cs_A} {q : Nat} {v : Int} {l : List cs_A} : cs_wp sc mi o Q J ((.istore q, 7, y, ts) :: r) (a0 :: a1 :: a2 :: a3 :: a4 :: a5 :: a6 :: a7 :: l) (.inl v :: st) h = (cs_wp sc mi o Q J r (a0 :: a1 :: a2 :: a3 :: a4 :: a5 :: a6 :: .inl v :: l) st h) := rfl
theorem cs_q_astore7 {a0 a1 a2 a3 a4 a5 a6 a7 : cs_A} {q : Nat} {v : Nat} {l : List cs_A} : cs_wp sc mi o Q J ((.astore q, 7, y, ts) :: r) (a0 :: a1 :: a2 :: a3 :: a4 :: a5 :: a6 :: a7 :: l) (cs_R v :: st) h = (cs_wp sc mi o Q J r (a0 :: a1 :: a2 :: a3 :: a4 :: a5 :: a6 :: cs_R v :: l) st h) := rfl
theorem cs_q_iinc7 {a0 a1 a2 a3 a4 a5 a6 : cs_A} {v n : Int} {l : List cs_A} : cs_wp sc mi o Q J ((.iinc 7 n, x, y, ts) :: r) (a0 :: a1 :: a2 :: a3 :: a4 :: a5 :: a6 :: .inl v :: l) st h = (cs_wp sc mi o Q J r (a0 :: a1 :: a2 :: a3 :: a4 :: a5 :: a6 :: .inl (v + n) :: l) st h) := rfl
theorem cs_q_aload_nZ0 {q : Fin 4} {l : List cs_A} : cs_wp sc mi o Q J ((.aload_n q, 0, y, ts) :: r) (cs_Z :: l) st h = (cs_wp sc mi o Q J r (cs_Z :: l) (cs_Z :: st) h) := rfl
theorem cs_q_astore_nZ0 {a0 : cs_A} {q : Fin 4} {l : List cs_A} : cs_wp sc mi o Q J ((.astore_n q, 0, y, ts) :: r) (a0 :: l) (cs_Z :: st) h = (cs_wp sc mi o Q J r (cs_Z :: l) st h) := propext ⟨fun q => q.2, fun q => ⟨rfl, q⟩⟩
theorem cs_q_aload_nZ1 {a0 : cs_A} {q : Fin 4} {l : List cs_A} : cs_wp sc mi o Q J ((.aload_n q, 1, y, ts) :: r) (a0 :: cs_Z :: l) st h = (cs_wp sc mi o Q J r (a0 :: cs_Z :: l) (cs_Z :: st) h) := rfl
theorem cs_q_astore_nZ1 {a0 a1 : cs_A} {q : Fin 4} {l : List cs_A} : cs_wp sc mi o Q J ((.astore_n q, 1, y, ts) :: r) (a0 :: a1 :: l) (cs_Z :: st) h = (cs_wp sc mi o Q J r (a0 :: cs_Z :: l) st h) := propext ⟨fun q => q.2, fun q => ⟨rfl, q⟩⟩
theorem cs_q_aload_nZ2 {a0 a1 : cs_A} {q : Fin 4} {l : List cs_A} : cs_wp sc mi o Q J ((.aload_n q, 2, y, ts) :: r) (a0 :: a1 :: cs_Z :: l) st h = (cs_wp sc mi o Q J r (a0 :: a1 :: cs_Z :: l) (cs_Z :: st) h) := rfl
theorem cs_q_astore_nZ2 {a0 a1 a2 : cs_A} {q : Fin 4} {l : List cs_A} : cs_wp sc mi o Q J ((.astore_n q, 2, y, ts) :: r) (a0 :: a1 :: a2 :: l) (cs_Z :: st) h = (cs_wp sc mi o Q J r (a0 :: a1 :: cs_Z :: l) st h) := propext ⟨fun q => q.2, fun q => ⟨rfl, q⟩⟩
theorem cs_q_aload_nZ3 {a0 a1 a2 : cs_A} {q : Fin 4} {l : List cs_A} : cs_wp sc mi o Q J ((.aload_n q, 3, y, ts) :: r) (a0 :: a1 :: a2 :: cs_Z :: l) st h = (cs_wp sc mi o Q J r (a0 :: a1 :: a2 :: cs_Z :: l) (cs_Z :: st) h) := rfl
theorem cs_q_astore_nZ3 {a0 a1 a2 a3 : cs_A} {q : Fin 4} {l : List cs_A} : cs_wp sc mi o Q J ((.astore_n q, 3, y, ts) :: r) (a0 :: a1 :: a2 :: a3 :: l) (cs_Z :: st) h = (cs_wp sc mi o Q J r (a0 :: a1 :: a2 :: cs_Z :: l) st h) := propext ⟨fun q => q.2, fun q => ⟨rfl, q⟩⟩
theorem cs_q_aloadZ4 {a0 a1 a2 a3 : cs_A} {q : Nat} {l : List cs_A} : cs_wp sc mi o Q J ((.aload q, 4, y, ts) :: r) (a0 :: a1 :: a2 :: a3 :: cs_Z :: l) st h = (cs_wp sc mi o Q J r (a0 :: a1 :: a2 :: a3 :: cs_Z :: l) (cs_Z :: st) h) := rfl
theorem cs_q_astoreZ4 {a0 a1 a2 a3 a4 : cs_A} {q : Nat} {l : List cs_A} : cs_wp sc mi o Q J ((.astore q, 4, y, ts) :: r) (a0 :: a1 :: a2 :: a3 :: a4 :: l) (cs_Z :: st) h = (cs_wp sc mi o Q J r (a0 :: a1 :: a2 :: a3 :: cs_Z :: l) st h) := propext ⟨fun q => q.2, fun q => ⟨rfl, q⟩⟩
theorem cs_q_aloadZ5 {a0 a1 a2 a3 a4 : cs_A} {q : Nat} {l : List cs_A} : cs_wp sc mi o Q J ((.aload q, 5, y, ts) :: r) (a0 :: a1 :: a2 :: a3 :: a4 :: cs_Z :: l) st h = (cs_wp sc mi o Q J r (a0 :: a1 :: a2 :: a3 :: a4 :: cs_Z :: l) (cs_Z :: st) h) := rfl
theorem cs_q_astoreZ5 {a0 a1 a2 a3 a4 a5 : cs_A} {q : Nat} {l : List cs_A} : cs_wp sc mi o Q J ((.astore q, 5, y, ts) :: r) (a0 :: a1 :: a2 :: a3 :: a4 :: a5 :: l) (cs_Z :: st) h = (cs_wp sc mi o Q J r (a0 :: a1 :: a2 :: a3 :: a4 :: cs_Z :: l) st h) := propext ⟨fun q => q.2, fun q => ⟨rfl, q⟩⟩
theorem cs_q_aloadZ6 {a0 a1 a2 a3 a4 a5 : cs_A} {q : Nat} {l : List cs_A} : cs_wp sc mi o Q J ((.aload q, 6, y, ts) :: r) (a0 :: a1 :: a2 :: a3 :: a4 :: a5 :: cs_Z :: l) st h = (cs_wp sc mi o Q J r (a0 :: a1 :: a2 :: a3 :: a4 :: a5 :: cs_Z :: l) (cs_Z :: st) h) := rfl
theorem cs_q_astoreZ6 {a0 a1 a2 a3 a4 a5 a6 : cs_A} {q : Nat} {l : List cs_A} : cs_wp sc mi o Q J ((.astore q, 6, y, ts) :: r) (a0 :: a1 :: a2 :: a3 :: a4 :: a5 :: a6 :: l) (cs_Z :: st) h = (cs_wp sc mi o Q J r (a0 :: a1 :: a2 :: a3 :: a4 :: a5 :: cs_Z :: l) st h) := propext ⟨fun q => q.2, fun q => ⟨rfl, q⟩⟩
theorem cs_q_aloadZ7 {a0 a1 a2 a3 a4 a5 a6 : cs_A} {q : Nat} {l : List cs_A} : cs_wp sc mi o Q J ((.aload q, 7, y, ts) :: r) (a0 :: a1 :: a2 :: a3 :: a4 :: a5 :: a6 :: cs_Z :: l) st h = (cs_wp sc mi o Q J r (a0 :: a1 :: a2 :: a3 :: a4 :: a5 :: a6 :: cs_Z :: l) (cs_Z :: st) h) := rfl
theorem cs_q_astoreZ7 {a0 a1 a2 a3 a4 a5 a6 a7 : cs_A} {q : Nat} {l : List cs_A} : cs_wp sc mi o Q J ((.astore q, 7, y, ts) :: r) (a0 :: a1 :: a2 :: a3 :: a4 :: a5 :: a6 :: a7 :: l) (cs_Z :: st) h = (cs_wp sc mi o Q J r (a0 :: a1 :: a2 :: a3 :: a4 :: a5 :: a6 :: cs_Z :: l) st h) := propext ⟨fun q => q.2, fun q => ⟨rfl, q⟩⟩
theorem cs_q_null : cs_wp sc mi o Q J ((.aconst_null, x, y, ts) :: r) loc st h = (cs_wp sc mi o Q J r loc (cs_Z :: st) h) := rfl
theorem cs_q_ifnullR {f : Int} {v : Nat} : cs_wp sc mi o Q J ((.ifnull f, x, y, ts) :: r) loc (cs_R v :: st) h = (cs_wp sc mi o Q J r loc st h) := rfl
theorem cs_q_ifnullZ {f : Int} : cs_wp sc mi o Q J ((.ifnull f, x, y, ts) :: r) loc (cs_Z :: st) h = (J x loc st h) := propext ⟨fun q => q.2, fun q => ⟨rfl, q⟩⟩
theorem cs_q_ifnonnullR {f : Int} {v : Nat} : cs_wp sc mi o Q J ((.ifnonnull f, x, y, ts) :: r) loc (cs_R v :: st) h = (J x loc st h) := rfl
theorem cs_q_ifnonnullZ {f : Int} : cs_wp sc mi o Q J ((.ifnonnull f, x, y, ts) :: r) loc (cs_Z :: st) h = (cs_wp sc mi o Q J r loc st h) := propext ⟨fun q => q.2, fun q => ⟨rfl, q⟩⟩
theorem cs_q_aretZ : cs_wp sc mi o Q J ((.areturn, x, y, ts) :: r) loc [cs_Z] h = (Q (some cs_Z) h) := propext ⟨fun q => q.2, fun q => ⟨rfl, q⟩⟩
theorem cs_q_aload_nT {q : Fin 4} {v : Nat} {l : List cs_A} : cs_wp sc mi o Q J ((.aload_n q, 0, y, ts) :: r) (cs_T v :: l) st h = (cs_wp sc mi o Q J r (cs_T v :: l) (cs_T v :: st) h) := rfl
theorem cs_q_iadd {a b : Int} : cs_wp sc mi o Q J ((.iadd, x, y, ts) :: r) loc (.inl b :: .inl a :: st) h = (cs_wp sc mi o Q J r loc (.inl (a + b) :: st) h) := rfl
theorem cs_q_isub {a b : Int} : cs_wp sc mi o Q J ((.isub, x, y, ts) :: r) loc (.inl b :: .inl a :: st) h = (cs_wp sc mi o Q J r loc (.inl (a - b) :: st) h) := rfl
theorem cs_q_imul {a b : Int} : cs_wp sc mi o Q J ((.imul, x, y, ts) :: r) loc (.inl b :: .inl a :: st) h = (cs_wp sc mi o Q J r loc (.inl (a * b) :: st) h) := rfl
theorem cs_q_iand {a b : Int} : cs_wp sc mi o Q J ((.iand, x, y, ts) :: r) loc (.inl b :: .inl a :: st) h = (cs_wp sc mi o Q J r loc (.inl (cs_and a b) :: st) h) := rfl
theorem cs_q_ior {a b : Int} : cs_wp sc mi o Q J ((.ior, x, y, ts) :: r) loc (.inl b :: .inl a :: st) h = (cs_wp sc mi o Q J r loc (.inl (cs_or a b) :: st) h) := rfl
theorem cs_q_ishl {a b : Int} : cs_wp sc mi o Q J ((.ishl, x, y, ts) :: r) loc (.inl b :: .inl a :: st) h = (cs_wp sc mi o Q J r loc (.inl (cs_shl a b) :: st) h) := rfl
theorem cs_q_ishr {a b : Int} : cs_wp sc mi o Q J ((.ishr, x, y, ts) :: r) loc (.inl b :: .inl a :: st) h = (cs_wp sc mi o Q J r loc (.inl (cs_shr a b) :: st) h) := rfl
theorem cs_q_idiv {a b : Int} : cs_wp sc mi o Q J ((.idiv, x, y, ts) :: r) loc (.inl b :: .inl a :: st) h = (((0 ≤ a ∧ a < 2147483648) ∧ (0 < b ∧ b < 2147483648)) ∧ cs_wp sc mi o Q J r loc (.inl (a / b) :: st) h) := rfl
theorem cs_q_irem {a b : Int} : cs_wp sc mi o Q J ((.irem, x, y, ts) :: r) loc (.inl b :: .inl a :: st) h = (((0 ≤ a ∧ a < 2147483648) ∧ (0 < b ∧ b < 2147483648)) ∧ cs_wp sc mi o Q J r loc (.inl (a % b) :: st) h) := rfl
theorem cs_q_iload8 {a0 a1 a2 a3 a4 a5 a6 a7 : cs_A} {q : Nat} {v : Int} {l : List cs_A} : cs_wp sc mi o Q J ((.iload q, 8, y, ts) :: r) (a0 :: a1 :: a2 :: a3 :: a4 :: a5 :: a6 :: a7 :: .inl v :: l) st h = (cs_wp sc mi o Q J r (a0 :: a1 :: a2 :: a3 :: a4 :: a5 :: a6 :: a7 :: .inl v :: l) (.inl v :: st) h) := rfl
theorem cs_q_istore8 {a0 a1 a2 a3 a4 a5 a6 a7 a8 : cs_A} {q : Nat} {v : Int} {l : List cs_A} : cs_wp sc mi o Q J ((.istore q, 8, y, ts) :: r) (a0 :: a1 :: a2 :: a3 :: a4 :: a5 :: a6 :: a7 :: a8 :: l) (.inl v :: st) h = (cs_wp sc mi o Q J r (a0 :: a1 :: a2 :: a3 :: a4 :: a5 :: a6 :: a7 :: .inl v :: l) st h) := rfl
theorem cs_q_iinc8 {a0 a1 a2 a3 a4 a5 a6 a7 : cs_A} {v n : Int} {l : List cs_A} : cs_wp sc mi o Q J ((.iinc 8 n, x, y, ts) :: r) (a0 :: a1 :: a2 :: a3 :: a4 :: a5 :: a6 :: a7 :: .inl v :: l) st h = (cs_wp sc mi o Q J r (a0 :: a1 :: a2 :: a3 :: a4 :: a5 :: a6 :: a7 :: .inl (v + n) :: l) st h) := rfl
theorem cs_q_iload9 {a0 a1 a2 a3 a4 a5 a6 a7 a8 : cs_A} {q : Nat} {v : Int} {l : List cs_A} : cs_wp sc mi o Q J ((.iload q, 9, y, ts) :: r) (a0 :: a1 :: a2 :: a3 :: a4 :: a5 :: a6 :: a7 :: a8 :: .inl v :: l) st h = (cs_wp sc mi o Q J r (a0 :: a1 :: a2 :: a3 :: a4 :: a5 :: a6 :: a7 :: a8 :: .inl v :: l) (.inl v :: st) h) := rfl
theorem cs_q_istore9 {a0 a1 a2 a3 a4 a5 a6 a7 a8 a9 : cs_A} {q : Nat} {v : Int} {l : List cs_A} : cs_wp sc mi o Q J ((.istore q, 9, y, ts) :: r) (a0 :: a1 :: a2 :: a3 :: a4 :: a5 :: a6 :: a7 :: a8 :: a9 :: l) (.inl v :: st) h = (cs_wp sc mi o Q J r (a0 :: a1 :: a2 :: a3 :: a4 :: a5 :: a6 :: a7 :: a8 :: .inl v :: l) st h) := rfl
theorem cs_q_iinc9 {a0 a1 a2 a3 a4 a5 a6 a7 a8 : cs_A} {v n : Int} {l : List cs_A} : cs_wp sc mi o Q J ((.iinc 9 n, x, y, ts) :: r) (a0 :: a1 :: a2 :: a3 :: a4 :: a5 :: a6 :: a7 :: a8 :: .inl v :: l) st h = (cs_wp sc mi o Q J r (a0 :: a1 :: a2 :: a3 :: a4 :: a5 :: a6 :: a7 :: a8 :: .inl (v + n) :: l) st h) := rfl
theorem cs_q_iload10 {a0 a1 a2 a3 a4 a5 a6 a7 a8 a9 : cs_A} {q : Nat} {v : Int} {l : List cs_A} : cs_wp sc mi o Q J ((.iload q, 10, y, ts) :: r) (a0 :: a1 :: a2 :: a3 :: a4 :: a5 :: a6 :: a7 :: a8 :: a9 :: .inl v :: l) st h = (cs_wp sc mi o Q J r (a0 :: a1 :: a2 :: a3 :: a4 :: a5 :: a6 :: a7 :: a8 :: a9 :: .inl v :: l) (.inl v :: st) h) := rfl
theorem cs_q_istore10 {a0 a1 a2 a3 a4 a5 a6 a7 a8 a9 a10 : cs_A} {q : Nat} {v : Int} {l : List cs_A} : cs_wp sc mi o Q J ((.istore q, 10, y, ts) :: r) (a0 :: a1 :: a2 :: a3 :: a4 :: a5 :: a6 :: a7 :: a8 :: a9 :: a10 :: l) (.inl v :: st) h = (cs_wp sc mi o Q J r (a0 :: a1 :: a2 :: a3 :: a4 :: a5 :: a6 :: a7 :: a8 :: a9 :: .inl v :: l) st h) := rfl
theorem cs_q_iinc10 {a0 a1 a2 a3 a4 a5 a6 a7 a8 a9 : cs_A} {v n : Int} {l : List cs_A} : cs_wp sc mi o Q J ((.iinc 10 n, x, y, ts) :: r) (a0 :: a1 :: a2 :: a3 :: a4 :: a5 :: a6 :: a7 :: a8 :: a9 :: .inl v :: l) st h = (cs_wp sc mi o Q J r (a0 :: a1 :: a2 :: a3 :: a4 :: a5 :: a6 :: a7 :: a8 :: a9 :: .inl (v + n) :: l) st h) := rfl
theorem cs_q_iload11 {a0 a1 a2 a3 a4 a5 a6 a7 a8 a9 a10 : cs_A} {q : Nat} {v : Int} {l : List cs_A} : cs_wp sc mi o Q J ((.iload q, 11, y, ts) :: r) (a0 :: a1 :: a2 :: a3 :: a4 :: a5 :: a6 :: a7 :: a8 :: a9 :: a10 :: .inl v :: l) st h = (cs_wp sc mi o Q J r (a0 :: a1 :: a2 :: a3 :: a4 :: a5 :: a6 :: a7 :: a8 :: a9 :: a10 :: .inl v :: l) (.inl v :: st) h) := rfl
theorem cs_q_istore11 {a0 a1 a2 a3 a4 a5 a6 a7 a8 a9 a10 a11 : cs_A} {q : Nat} {v : Int} {l : List cs_A} : cs_wp sc mi o Q J ((.istore q, 11, y, ts) :: r) (a0 :: a1 :: a2 :: a3 :: a4 :: a5 :: a6 :: a7 :: a8 :: a9 :: a10 :: a11 :: l) (.inl v :: st) h = (cs_wp sc mi o Q J r (a0 :: a1 :: a2 :: a3 :: a4 :: a5 :: a6 :: a7 :: a8 :: a9 :: a10 :: .inl v :: l) st h) := rfl
theorem cs_q_iinc11 {a0 a1 a2 a3 a4 a5 a6 a7 a8 a9 a10 : cs_A} {v n : Int} {l : List cs_A} : cs_wp sc mi o Q J ((.iinc 11 n, x, y, ts) :: r) (a0 :: a1 :: a2 :: a3 :: a4 :: a5 :: a6 :: a7 :: a8 :: a9 :: a10 :: .inl v :: l) st h = (cs_wp sc mi o Q J r (a0 :: a1 :: a2 :: a3 :: a4 :: a5 :: a6 :: a7 :: a8 :: a9 :: a10 :: .inl (v + n) :: l) st h) := rfl
theorem cs_q_iload12 {a0 a1 a2 a3 a4 a5 a6 a7 a8 a9 a10 a11 : cs_A} {q : Nat} {v : Int} {l : List cs_A} : cs_wp sc mi o Q J ((.iload q, 12, y, ts) :: r) (a0 :: a1 :: a2 :: a3 :: a4 :: a5 :: a6 :: a7 :: a8 :: a9 :: a10 :: a11 :: .inl v :: l) st h = (cs_wp sc mi o Q J r (a0 :: a1 :: a2 :: a3 :: a4 :: a5 :: a6 :: a7 :: a8 :: a9 :: a10 :: a11 :: .inl v :: l) (.inl v :: st) h) := rfl
theorem cs_q_istore12 {a0 a1 a2 a3 a4 a5 a6 a7 a8 a9 a10 a11 a12 : cs_A} {q : Nat} {v : Int} {l : List cs_A} : cs_wp sc mi o Q J ((.istore q, 12, y, ts) :: r) (a0 :: a1 :: a2 :: a3 :: a4 :: a5 :: a6 :: a7 :: a8 :: a9 :: a10 :: a11 :: a12 :: l) (.inl v :: st) h = (cs_wp sc mi o Q J r (a0 :: a1 :: a2 :: a3 :: a4 :: a5 :: a6 :: a7 :: a8 :: a9 :: a10 :: a11 :: .inl v :: l) st h) := rfl
theorem cs_q_iinc12 {a0 a1 a2 a3 a4 a5 a6 a7 a8 a9 a10 a11 : cs_A} {v n : Int} {l : List cs_A} : cs_wp sc mi o Q J ((.iinc 12 n, x, y, ts) :: r) (a0 :: a1 :: a2 :: a3 :: a4 :: a5 :: a6 :: a7 :: a8 :: a9 :: a10 :: a11 :: .inl v :: l) st h = (cs_wp sc mi o Q J r (a0 :: a1 :: a2 :: a3 :: a4 :: a5 :: a6 :: a7 :: a8 :: a9 :: a10 :: a11 :: .inl (v + n) :: l) st h) := rfl
theorem cs_q_iload13 {a0 a1 a2 a3 a4 a5 a6 a7 a8 a9 a10 a11 a12 : cs_A} {q : Nat} {v : Int} {l : List cs_A} : cs_wp sc mi o Q J ((.iload q, 13, y, ts) :: r) (a0 :: a1 :: a2 :: a3 :: a4 :: a5 :: a6 :: a7 :: a8 :: a9 :: a10 :: a11 :: a12 :: .inl v :: l) st h = (cs_wp sc mi o Q J r (a0 :: a1 :: a2 :: a3 :: a4 :: a5 :: a6 :: a7 :: a8 :: a9 :: a10 :: a11 :: a12 :: .inl v :: l) (.inl v :: st) h) := rfl
theorem cs_q_istore13 {a0 a1 a2 a3 a4 a5 a6 a7 a8 a9 a10 a11 a12 a13 : cs_A} {q : Nat} {v : Int} {l : List cs_A} : cs_wp sc mi o Q J ((.istore q, 13, y, ts) :: r) (a0 :: a1 :: a2 :: a3 :: a4 :: a5 :: a6 :: a7 :: a8 :: a9 :: a10 :: a11 :: a12 :: a13 :: l) (.inl v :: st) h = (cs_wp sc mi o Q J r (a0 :: a1 :: a2 :: a3 :: a4 :: a5 :: a6 :: a7 :: a8 :: a9 :: a10 :: a11 :: a12 :: .inl v :: l) st h) := rfl
theorem cs_q_iinc13 {a0 a1 a2 a3 a4 a5 a6 a7 a8 a9 a10 a11 a12 : cs_A} {v n : Int} {l : List cs_A} : cs_wp sc mi o Q J ((.iinc 13 n, x, y, ts) :: r) (a0 :: a1 :: a2 :: a3 :: a4 :: a5 :: a6 :: a7 :: a8 :: a9 :: a10 :: a11 :: a12 :: .inl v :: l) st h = (cs_wp sc mi o Q J r (a0 :: a1 :: a2 :: a3 :: a4 :: a5 :: a6 :: a7 :: a8 :: a9 :: a10 :: a11 :: a12 :: .inl (v + n) :: l) st h) := rfl
theorem cs_q_iload14 {a0 a1 a2 a3 a4 a5 a6 a7 a8 a9 a10 a11 a12 a13 : cs_A} {q : Nat} {v : Int} {l : List cs_A} : cs_wp sc mi o Q J ((.iload q, 14, y, ts) :: r) (a0 :: a1 :: a2 :: a3 :: a4 :: a5 :: a6 :: a7 :: a8 :: a9 :: a10 :: a11 :: a12 :: a13 :: .inl v :: l) st h = (cs_wp sc mi o Q J r (a0 :: a1 :: a2 :: a3 :: a4 :: a5 :: a6 :: a7 :: a8 :: a9 :: a10 :: a11 :: a12 :: a13 :: .inl v :: l) (.inl v :: st) h) := rfl
theorem cs_q_istore14 {a0 a1 a2 a3 a4 a5 a6 a7 a8 a9 a10 a11 a12 a13 a14 : cs_A} {q : Nat} {v : Int} {l : List cs_A} : cs_wp sc mi o Q J ((.istore q, 14, y, ts) :: r) (a0 :: a1 :: a2 :: a3 :: a4 :: a5 :: a6 :: a7 :: a8 :: a9 :: a10 :: a11 :: a12 :: a13 :: a14 :: l) (.inl v :: st) h = (cs_wp sc mi o Q J r (a0 :: a1 :: a2 :: a3 :: a4 :: a5 :: a6 :: a7 :: a8 :: a9 :: a10 :: a11 :: a12 :: a13 :: .inl v :: l) st h) := rfl
theorem cs_q_iinc14 {a0 a1 a2 a3 a4 a5 a6 a7 a8 a9 a10 a11 a12 a13 : cs_A} {v n : Int} {l : List cs_A} : cs_wp sc mi o Q J ((.iinc 14 n, x, y, ts) :: r) (a0 :: a1 :: a2 :: a3 :: a4 :: a5 :: a6 :: a7 :: a8 :: a9 :: a10 :: a11 :: a12 :: a13 :: .inl v :: l) st h = (cs_wp sc mi o Q J r (a0 :: a1 :: a2 :: a3 :: a4 :: a5 :: a6 :: a7 :: a8 :: a9 :: a10 :: a11 :: a12 :: a13 :: .inl (v + n) :: l) st h) := rfl
theorem cs_q_iload15 {a0 a1 a2 a3 a4 a5 a6 a7 a8 a9 a10 a11 a12 a13 a14 : cs_A} {q : Nat} {v : Int} {l : List cs_A} : cs_wp sc mi o Q J ((.iload q, 15, y, ts) :: r) (a0 :: a1 :: a2 :: a3 :: a4 :: a5 :: a6 :: a7 :: a8 :: a9 :: a10 :: a11 :: a12 :: a13 :: a14 :: .inl v :: l) st h = (cs_wp sc mi o Q J r (a0 :: a1 :: a2 :: a3 :: a4 :: a5 :: a6 :: a7 :: a8 :: a9 :: a10 :: a11 :: a12 :: a13 :: a14 :: .inl v :: l) (.inl v :: st) h) := rfl
theorem cs_q_istore15 {a0 a1 a2 a3 a4 a5 a6 a7 a8 a9 a10 a11 a12 a13 a14 a15 : cs_A} {q : Nat} {v : Int} {l : List cs_A} : cs_wp sc mi o Q J ((.istore q, 15, y, ts) :: r) (a0 :: a1 :: a2 :: a3 :: a4 :: a5 :: a6 :: a7 :: a8 :: a9 :: a10 :: a11 :: a12 :: a13 :: a14 :: a15 :: l) (.inl v :: st) h = (cs_wp sc mi o Q J r (a0 :: a1 :: a2 :: a3 :: a4 :: a5 :: a6 :: a7 :: a8 :: a9 :: a10 :: a11 :: a12 :: a13 :: a14 :: .inl v :: l) st h) := rfl
theorem cs_q_iinc15 {a0 a1 a2 a3 a4 a5 a6 a7 a8 a9 a10 a11 a12 a13 a14 : cs_A} {v n : Int} {l : List cs_A} : cs_wp sc mi o Q J ((.iinc 15 n, x, y, ts) :: r) (a0 :: a1 :: a2 :: a3 :: a4 :: a5 :: a6 :: a7 :: a8 :: a9 :: a10 :: a11 :: a12 :: a13 :: a14 :: .inl v :: l) st h = (cs_wp sc mi o Q J r (a0 :: a1 :: a2 :: a3 :: a4 :: a5 :: a6 :: a7 :: a8 :: a9 :: a10 :: a11 :: a12 :: a13 :: a14 :: .inl (v + n) :: l) st h) := rfl
theorem cs_q_iload16 {a0 a1 a2 a3 a4 a5 a6 a7 a8 a9 a10 a11 a12 a13 a14 a15 : cs_A} {q : Nat} {v : Int} {l : List cs_A} : cs_wp sc mi o Q J ((.iload q, 16, y, ts) :: r) (a0 :: a1 :: a2 :: a3 :: a4 :: a5 :: a6 :: a7 :: a8 :: a9 :: a10 :: a11 :: a12 :: a13 :: a14 :: a15 :: .inl v :: l) st h = (cs_wp sc mi o Q J r (a0 :: a1 :: a2 :: a3 :: a4 :: a5 :: a6 :: a7 :: a8 :: a9 :: a10 :: a11 :: a12 :: a13 :: a14 :: a15 :: .inl v :: l) (.inl v :: st) h) := rfl
theorem cs_q_istore16 {a0 a1 a2 a3 a4 a5 a6 a7 a8 a9 a10 a11 a12 a13 a14 a15 a16 : cs_A} {q : Nat} {v : Int} {l : List cs_A} : cs_wp sc mi o Q J ((.istore q, 16, y, ts) :: r) (a0 :: a1 :: a2 :: a3 :: a4 :: a5 :: a6 :: a7 :: a8 :: a9 :: a10 :: a11 :: a12 :: a13 :: a14 :: a15 :: a16 :: l) (.inl v :: st) h = (cs_wp sc mi o Q J r (a0 :: a1 :: a2 :: a3 :: a4 :: a5 :: a6 :: a7 :: a8 :: a9 :: a10 :: a11 :: a12 :: a13 :: a14 :: a15 :: .inl v :: l) st h) := rfl
theorem cs_q_iinc16 {a0 a1 a2 a3 a4 a5 a6 a7 a8 a9 a10 a11 a12 a13 a14 a15 : cs_A} {v n : Int} {l : List cs_A} : cs_wp sc mi o Q J ((.iinc 16 n, x, y, ts) :: r) (a0 :: a1 :: a2 :: a3 :: a4 :: a5 :: a6 :: a7 :: a8 :: a9 :: a10 :: a11 :: a12 :: a13 :: a14 :: a15 :: .inl v :: l) st h = (cs_wp sc mi o Q J r (a0 :: a1 :: a2 :: a3 :: a4 :: a5 :: a6 :: a7 :: a8 :: a9 :: a10 :: a11 :: a12 :: a13 :: a14 :: a15 :: .inl (v + n) :: l) st h) := rfl
theorem cs_q_iload17 {a0 a1 a2 a3 a4 a5 a6 a7 a8 a9 a10 a11 a12 a13 a14 a15 a16 : cs_A} {q : Nat} {v : Int} {l : List cs_A} : cs_wp sc mi o Q J ((.iload q, 17, y, ts) :: r) (a0 :: a1 :: a2 :: a3 :: a4 :: a5 :: a6 :: a7 :: a8 :: a9 :: a10 :: a11 :: a12 :: a13 :: a14 :: a15 :: a16 :: .inl v :: l) st h = (cs_wp sc mi o Q J r (a0 :: a1 :: a2 :: a3 :: a4 :: a5 :: a6 :: a7 :: a8 :: a9 :: a10 :: a11 :: a12 :: a13 :: a14 :: a15 :: a16 :: .inl v :: l) (.inl v :: st) h) := rfl
theorem cs_q_istore17 {a0 a1 a2 a3 a4 a5 a6 a7 a8 a9 a10 a11 a12 a13 a14 a15 a16 a17 : cs_A} {q : Nat} {v : Int} {l : List cs_A} : cs_wp sc mi o Q J ((.istore q, 17, y, ts) :: r) (a0 :: a1 :: a2 :: a3 :: a4 :: a5 :: a6 :: a7 :: a8 :: a9 :: a10 :: a11 :: a12 :: a13 :: a14 :: a15 :: a16 :: a17 :: l) (.inl v :: st) h = (cs_wp sc mi o Q J r (a0 :: a1 :: a2 :: a3 :: a4 :: a5 :: a6 :: a7 :: a8 :: a9 :: a10 :: a11 :: a12 :: a13 :: a14 :: a15 :: a16 :: .inl v :: l) st h) := rfl
theorem cs_q_iinc17 {a0 a1 a2 a3 a4 a5 a6 a7 a8 a9 a10 a11 a12 a13 a14 a15 a16 : cs_A} {v n : Int} {l : List cs_A} : cs_wp sc mi o Q J ((.iinc 17 n, x, y, ts) :: r) (a0 :: a1 :: a2 :: a3 :: a4 :: a5 :: a6 :: a7 :: a8 :: a9 :: a10 :: a11 :: a12 :: a13 :: a14 :: a15 :: a16 :: .inl v :: l) st h = (cs_wp sc mi o Q J r (a0 :: a1 :: a2 :: a3 :: a4 :: a5 :: a6 :: a7 :: a8 :: a9 :: a10 :: a11 :: a12 :: a13 :: a14 :: a15 :: a16 :: .inl (v + n) :: l) st h) := rfl
theorem cs_q_iload18 {a0 a1 a2 a3 a4 a5 a6 a7 a8 a9 a10 a11 a12 a13 a14 a15 a16 a17 : cs_A} {q : Nat} {v : Int} {l : List cs_A} : cs_wp sc mi o Q J ((.iload q, 18, y, ts) :: r) (a0 :: a1 :: a2 :: a3 :: a4 :: a5 :: a6 :: a7 :: a8 :: a9 :: a10 :: a11 :: a12 :: a13 :: a14 :: a15 :: a16 :: a17 :: .inl v :: l) st h = (cs_wp sc mi o Q J r (a0 :: a1 :: a2 :: a3 :: a4 :: a5 :: a6 :: a7 :: a8 :: a9 :: a10 :: a11 :: a12 :: a13 :: a14 :: a15 :: a16 :: a17 :: .inl v :: l) (.inl v :: st) h) := rfl
theorem cs_q_istore18 {a0 a1 a2 a3 a4 a5 a6 a7 a8 a9 a10 a11 a12 a13 a14 a15 a16 a17 a18 : cs_A} {q : Nat} {v : Int} {l : List cs_A} : cs_wp sc mi o Q J ((.istore q, 18, y, ts) :: r) (a0 :: a1 :: a2 :: a3 :: a4 :: a5 :: a6 :: a7 :: a8 :: a9 :: a10 :: a11 :: a12 :: a13 :: a14 :: a15 :: a16 :: a17 :: a18 :: l) (.inl v :: st) h = (cs_wp sc mi o Q J r (a0 :: a1 :: a2 :: a3 :: a4 :: a5 :: a6 :: a7 :: a8 :: a9 :: a10 :: a11 :: a12 :: a13 :: a14 :: a15 :: a16 :: a17 :: .inl v :: l) st h) := rfl
theorem cs_q_iinc18 {a0 a1 a2 a3 a4 a5 a6 a7 a8 a9 a10 a11 a12 a13 a14 a15 a16 a17 : cs_A} {v n : Int} {l : List cs_A} : cs_wp sc mi o Q J ((.iinc 18 n, x, y, ts) :: r) (a0 :: a1 :: a2 :: a3 :: a4 :: a5 :: a6 :: a7 :: a8 :: a9 :: a10 :: a11 :: a12 :: a13 :: a14 :: a15 :: a16 :: a17 :: .inl v :: l) st h = (cs_wp sc mi o Q J r (a0 :: a1 :: a2 :: a3 :: a4 :: a5 :: a6 :: a7 :: a8 :: a9 :: a10 :: a11 :: a12 :: a13 :: a14 :: a15 :: a16 :: a17 :: .inl (v + n) :: l) st h) := rfl
theorem cs_q_i2c {a : Int} : cs_wp sc mi o Q J ((.i2c, x, y, ts) :: r) loc (.inl a :: st) h = (cs_wp sc mi o Q J r loc (.inl (a % 65536) :: st) h) := rfl
theorem cs_q_dup {a : cs_A} : cs_wp sc mi o Q J ((.dup, x, y, ts) :: r) loc (a :: st) h = (cs_wp sc mi o Q J r loc (a :: a :: st) h) := rfl
theorem cs_q_pop {a : cs_A} : cs_wp sc mi o Q J ((.pop, x, y, ts) :: r) loc (a :: st) h = (cs_wp sc mi o Q J r loc st h) := rfl
theorem cs_q_dup2 {a b : cs_A} : cs_wp sc mi o Q J ((.dup2, x, y, ts) :: r) loc (b :: a :: st) h = (cs_wp sc mi o Q J r loc (b :: a :: b :: a :: st) h) := rfl
theorem cs_q_goto {f : Int} : cs_wp sc mi o Q J ((.goto f, x, y, ts) :: r) loc st h = (J x loc st h) := rfl
theorem cs_q_if_eq {v : Int} {f : Int} : cs_wp sc mi o Q J ((.ifCond .eq f, x, y, ts) :: r) loc (.inl v :: st) h = ((v = 0 → J x loc st h) ∧ (¬ v = 0 → cs_in v ∧ cs_wp sc mi o Q J r loc st h)) := rfl
theorem cs_q_if_ne {v : Int} {f : Int} : cs_wp sc mi o Q J ((.ifCond .ne f, x, y, ts) :: r) loc (.inl v :: st) h = ((¬ v = 0 → cs_in v ∧ J x loc st h) ∧ (v = 0 → cs_wp sc mi o Q J r loc st h)) := rfl
theorem cs_q_if_lt {v : Int} {f : Int} : cs_wp sc mi o Q J ((.ifCond .lt f, x, y, ts) :: r) loc (.inl v :: st) h = (cs_in v ∧ (v < 0 → J x loc st h) ∧ (¬ v < 0 → cs_wp sc mi o Q J r loc st h)) := rfl
theorem cs_q_if_ge {v : Int} {f : Int} : cs_wp sc mi o Q J ((.ifCond .ge f, x, y, ts) :: r) loc (.inl v :: st) h = (cs_in v ∧ (0 ≤ v → J x loc st h) ∧ (¬ 0 ≤ v → cs_wp sc mi o Q J r loc st h)) := rfl
theorem cs_q_if_gt {v : Int} {f : Int} : cs_wp sc mi o Q J ((.ifCond .gt f, x, y, ts) :: r) loc (.inl v :: st) h = (cs_in v ∧ (0 < v → J x loc st h) ∧ (¬ 0 < v → cs_wp sc mi o Q J r loc st h)) := rfl
theorem cs_q_if_le {v : Int} {f : Int} : cs_wp sc mi o Q J ((.ifCond .le f, x, y, ts) :: r) loc (.inl v :: st) h = (cs_in v ∧ (v ≤ 0 → J x loc st h) ∧ (¬ v ≤ 0 → cs_wp sc mi o Q J r loc st h)) := rfl
theorem cs_q_icmp_eq {a b : Int} {f : Int} : cs_wp sc mi o Q J ((.if_icmp .eq f, x, y, ts) :: r) loc (.inl b :: .inl a :: st) h = ((a = b → J x loc st h) ∧ (¬ a = b → (cs_in a ∧ cs_in b) ∧ cs_wp sc mi o Q J r loc st h)) := rfl
theorem cs_q_icmp_ne {a b : Int} {f : Int} : cs_wp sc mi o Q J ((.if_icmp .ne f, x, y, ts) :: r) loc (.inl b :: .inl a :: st) h = ((¬ a = b → (cs_in a ∧ cs_in b) ∧ J x loc st h) ∧ (a = b → cs_wp sc mi o Q J r loc st h)) := rfl
theorem cs_q_icmp_lt {a b : Int} {f : Int} : cs_wp sc mi o Q J ((.if_icmp .lt f, x, y, ts) :: r) loc (.inl b :: .inl a :: st) h = ((cs_in a ∧ cs_in b) ∧ (a < b → J x loc st h) ∧ (¬ a < b → cs_wp sc mi o Q J r loc st h)) := rfl
theorem cs_q_icmp_ge {a b : Int} {f : Int} : cs_wp sc mi o Q J ((.if_icmp .ge f, x, y, ts) :: r) loc (.inl b :: .inl a :: st) h = ((cs_in a ∧ cs_in b) ∧ (b ≤ a → J x loc st h) ∧ (¬ b ≤ a → cs_wp sc mi o Q J r loc st h)) := rfl
theorem cs_q_icmp_gt {a b : Int} {f : Int} : cs_wp sc mi o Q J ((.if_icmp .gt f, x, y, ts) :: r) loc (.inl b :: .inl a :: st) h = ((cs_in a ∧ cs_in b) ∧ (b < a → J x loc st h) ∧ (¬ b < a → cs_wp sc mi o Q J r loc st h)) := rfl
theorem cs_q_icmp_le {a b : Int} {f : Int} : cs_wp sc mi o Q J ((.if_icmp .le f, x, y, ts) :: r) loc (.inl b :: .inl a :: st) h = ((cs_in a ∧ cs_in b) ∧ (a ≤ b → J x loc st h) ∧ (¬ a ≤ b → cs_wp sc mi o Q J r loc st h)) := rfl
theorem cs_q_table {v d lo hi : Int} {offs : Array Int} : cs_wp sc mi o Q J ((.tableswitch d lo hi offs, x, y, ts) :: r) loc (.inl v :: st) h = (cs_in v ∧ ((v < lo ∨ hi < v) → J x loc st h) ∧ cs_sw v (fun b => J b loc st h) lo ts) := rfl
theorem cs_q_lookup {v d : Int} {ps : Array (Int × Int)} : cs_wp sc mi o Q J ((.lookupswitch d ps, x, y, ts) :: r) loc (.inl v :: st) h = (cs_in v ∧ cs_lk v (fun b => J b loc st h) x ps.toList ts) := rfl
theorem cs_q_getI {i a : Nat} : cs_wp sc mi o Q J ((.getfield i, x, y, []) :: r) loc (cs_R a :: st) h = (cs_ob h a x y ∧ cs_wp sc mi o Q J r loc (.inl (h.2.1 a y) :: st) h) := rfl
theorem cs_q_getR {i a : Nat} : cs_wp sc mi o Q J ((.getfield i, x, y, [1]) :: r) loc (cs_R a :: st) h = (cs_ob h a x y ∧ (h.2.2 a y).isSome = true ∧ cs_wp sc mi o Q J r loc (cs_R ((h.2.2 a y).getD 0) :: st) h) := rfl
theorem cs_q_putI {i a : Nat} {v : Int} : cs_wp sc mi o Q J ((.putfield i, x, y, []) :: r) loc (.inl v :: cs_R a :: st) h = (cs_ob h a x y ∧ cs_wp sc mi o Q J r loc st (h.1, cs_u2 h.2.1 a y v, h.2.2)) := rfl
theorem cs_q_putZ {i a : Nat} {v : Int} : cs_wp sc mi o Q J ((.putfield i, x, y, [0]) :: r) loc (.inl v :: cs_R a :: st) h = (cs_ob h a x y ∧ (v = 0 ∨ v = 1) ∧ cs_wp sc mi o Q J r loc st (h.1, cs_u2 h.2.1 a y v, h.2.2)) := rfl
theorem cs_q_putR {i a v : Nat} : cs_wp sc mi o Q J ((.putfield i, x, y, [1]) :: r) loc (cs_R v :: cs_R a :: st) h = (cs_ob h a x y ∧ cs_wp sc mi o Q J r loc st (h.1, h.2.1, cs_u2 h.2.2 a y (some v))) := rfl
theorem cs_q_gets {i : Nat} : cs_wp sc mi o Q J ((.getstatic i, x, y, ts) :: r) loc st h = (cs_wp sc mi o Q J r loc (cs_T x :: st) h) := rfl
theorem cs_q_iald {a : Nat} {j : Int} : cs_wp sc mi o Q J ((.iaload, x, y, ts) :: r) loc (.inl j :: cs_R a :: st) h = (cs_ix h a 1 0 j ∧ cs_wp sc mi o Q J r loc (.inl (h.2.1 a j.toNat) :: st) h) := rfl
theorem cs_q_taload {q : Nat} {j : Int} : cs_wp sc mi o Q J ((.iaload, x, y, ts) :: r) loc (.inl j :: cs_T q :: st) h = ((q < 4 ∧ 0 ≤ j ∧ j < (cs_tn sc q : Int)) ∧ cs_wp sc mi o Q J r loc (.inl (cs_tv sc q j.toNat) :: st) h) := rfl
theorem cs_q_cald {a : Nat} {j : Int} : cs_wp sc mi o Q J ((.caload, x, y, ts) :: r) loc (.inl j :: cs_R a :: st) h = (cs_ix h a 1 1 j ∧ cs_wp sc mi o Q J r loc (.inl (h.2.1 a j.toNat) :: st) h) := rfl
theorem cs_q_iast {a : Nat} {j v : Int} : cs_wp sc mi o Q J ((.iastore, x, y, ts) :: r) loc (.inl v :: .inl j :: cs_R a :: st) h = (cs_ix h a 1 0 j ∧ cs_wp sc mi o Q J r loc st (h.1, cs_u2 h.2.1 a j.toNat v, h.2.2)) := rfl
theorem cs_q_cast {a : Nat} {j v : Int} : cs_wp sc mi o Q J ((.castore, x, y, ts) :: r) loc (.inl v :: .inl j :: cs_R a :: st) h = (cs_ix h a 1 1 j ∧ (0 ≤ v ∧ v < 65536) ∧ cs_wp sc mi o Q J r loc st (h.1, cs_u2 h.2.1 a j.toNat v, h.2.2)) := rfl
theorem cs_q_aald {a : Nat} {j : Int} : cs_wp sc mi o Q J ((.aaload, x, y, ts) :: r) loc (.inl j :: cs_R a :: st) h = (cs_ix h a 2 x j ∧ (h.2.2 a j.toNat).isSome = true ∧ cs_wp sc mi o Q J r loc (cs_R ((h.2.2 a j.toNat).getD 0) :: st) h) := rfl
theorem cs_q_aast {a v : Nat} {j : Int} : cs_wp sc mi o Q J ((.aastore, x, y, ts) :: r) loc (cs_R v :: .inl j :: cs_R a :: st) h = (cs_ix h a 2 x j ∧ cs_rc h v y ∧ cs_wp sc mi o Q J r loc st (h.1, h.2.1, cs_u2 h.2.2 a j.toNat (some v))) := rfl
theorem cs_q_tlen {q : Nat} : cs_wp sc mi o Q J ((.arraylength, x, y, ts) :: r) loc (cs_T q :: st) h = (q < 4 ∧ cs_wp sc mi o Q J r loc (.inl (cs_tn sc q : Int) :: st) h) := rfl
theorem cs_q_alen {a : Nat} : cs_wp sc mi o Q J ((.arraylength, x, y, ts) :: r) loc (cs_R a :: st) h = (cs_hl h a (x : Int) ∧ cs_wp sc mi o Q J r loc (.inl (x : Int) :: st) h) := rfl
theorem cs_q_new {i : Nat} : cs_wp sc mi o Q J ((.new i, x, y, ts) :: r) loc st h = ((h.1.length + 1 ≤ o.1 + cs_mc mi ∧ cs_sz h.1 + y ≤ o.2 + cs_sl mi) ∧ cs_wp sc mi o Q J r loc (cs_R h.1.length :: st) (cs_new h (0, x, y))) := rfl
theorem cs_q_newa {t : ArrayType} {n : Int} : cs_wp sc mi o Q J ((.newarray t, x, y, ts) :: r) loc (.inl n :: st) h = ((0 ≤ n ∧ n ≤ 100000) ∧ (h.1.length + 1 ≤ o.1 + cs_mc mi ∧ cs_sz h.1 + n.toNat ≤ o.2 + cs_sl mi) ∧ cs_wp sc mi o Q J r loc (cs_R h.1.length :: st) (cs_new h (1, x, n.toNat))) := rfl
theorem cs_q_anew {i : Nat} {n : Int} : cs_wp sc mi o Q J ((.anewarray i, x, y, ts) :: r) loc (.inl n :: st) h = ((0 ≤ n ∧ n ≤ 100000) ∧ (h.1.length + 1 ≤ o.1 + cs_mc mi ∧ cs_sz h.1 + n.toNat ≤ o.2 + cs_sl mi) ∧ cs_wp sc mi o Q J r loc (cs_R h.1.length :: st) (cs_new h (2, x, n.toNat))) := rfl
theorem cs_q_virt0 {i b : Nat} {ts1 : List Nat} : cs_wp sc mi o Q J ((.invokevirtual i, x, y, (0 :: ts1)) :: r) loc (cs_R b :: st) h = (cs_rc h b y ∧ cs_l8 st ∧ cs_cont sc (fun st1 h1 => cs_wp sc mi o Q J r loc st1 h1) x [cs_R b] st h) := rfl
theorem cs_q_stat00 {i : Nat} {ts1 : List Nat} : cs_wp sc mi o Q J ((.invokestatic i, x, 0, (0 :: ts1)) :: r) loc (st) h = (cs_l8 st ∧ cs_cont sc (fun st1 h1 => cs_wp sc mi o Q J r loc st1 h1) x [] st h) := rfl
theorem cs_q_stat10 {i : Nat} {ts1 : List Nat} : cs_wp sc mi o Q J ((.invokestatic i, x, 1, (0 :: ts1)) :: r) loc (st) h = (cs_l8 st ∧ cs_cont sc (fun st1 h1 => cs_wp sc mi o Q J r loc st1 h1) x [] st h) := rfl
theorem cs_q_virt1 {b1 : cs_A} {i b : Nat} {ts1 : List Nat} : cs_wp sc mi o Q J ((.invokevirtual i, x, y, (1 :: ts1)) :: r) loc (b1 :: cs_R b :: st) h = (cs_rc h b y ∧ cs_l8 st ∧ cs_cont sc (fun st1 h1 => cs_wp sc mi o Q J r loc st1 h1) x [cs_R b, b1] st h) := rfl
theorem cs_q_stat01 {b1 : cs_A} {i : Nat} {ts1 : List Nat} : cs_wp sc mi o Q J ((.invokestatic i, x, 0, (1 :: ts1)) :: r) loc (b1 :: st) h = (cs_l8 st ∧ cs_cont sc (fun st1 h1 => cs_wp sc mi o Q J r loc st1 h1) x [b1] st h) := rfl
theorem cs_q_stat11 {b1 : cs_A} {i : Nat} {ts1 : List Nat} : cs_wp sc mi o Q J ((.invokestatic i, x, 1, (1 :: ts1)) :: r) loc (b1 :: st) h = (cs_l8 st ∧ cs_cont sc (fun st1 h1 => cs_wp sc mi o Q J r loc st1 h1) x [b1] st h) := rfl
theorem cs_q_virt2 {b1 b2 : cs_A} {i b : Nat} {ts1 : List Nat} : cs_wp sc mi o Q J ((.invokevirtual i, x, y, (2 :: ts1)) :: r) loc (b2 :: b1 :: cs_R b :: st) h = (cs_rc h b y ∧ cs_l8 st ∧ cs_cont sc (fun st1 h1 => cs_wp sc mi o Q J r loc st1 h1) x [cs_R b, b1, b2] st h) := rfl
theorem cs_q_stat02 {b1 b2 : cs_A} {i : Nat} {ts1 : List Nat} : cs_wp sc mi o Q J ((.invokestatic i, x, 0, (2 :: ts1)) :: r) loc (b2 :: b1 :: st) h = (cs_l8 st ∧ cs_cont sc (fun st1 h1 => cs_wp sc mi o Q J r loc st1 h1) x [b1, b2] st h) := rfl
theorem cs_q_stat12 {b1 b2 : cs_A} {i : Nat} {ts1 : List Nat} : cs_wp sc mi o Q J ((.invokestatic i, x, 1, (2 :: ts1)) :: r) loc (b2 :: b1 :: st) h = (cs_l8 st ∧ cs_cont sc (fun st1 h1 => cs_wp sc mi o Q J r loc st1 h1) x [b1, b2] st h) := rfl
theorem cs_q_virt3 {b1 b2 b3 : cs_A} {i b : Nat} {ts1 : List Nat} : cs_wp sc mi o Q J ((.invokevirtual i, x, y, (3 :: ts1)) :: r) loc (b3 :: b2 :: b1 :: cs_R b :: st) h = (cs_rc h b y ∧ cs_l8 st ∧ cs_cont sc (fun st1 h1 => cs_wp sc mi o Q J r loc st1 h1) x [cs_R b, b1, b2, b3] st h) := rfl
theorem cs_q_stat03 {b1 b2 b3 : cs_A} {i : Nat} {ts1 : List Nat} : cs_wp sc mi o Q J ((.invokestatic i, x, 0, (3 :: ts1)) :: r) loc (b3 :: b2 :: b1 :: st) h = (cs_l8 st ∧ cs_cont sc (fun st1 h1 => cs_wp sc mi o Q J r loc st1 h1) x [b1, b2, b3] st h) := rfl
theorem cs_q_stat13 {b1 b2 b3 : cs_A} {i : Nat} {ts1 : List Nat} : cs_wp sc mi o Q J ((.invokestatic i, x, 1, (3 :: ts1)) :: r) loc (b3 :: b2 :: b1 :: st) h = (cs_l8 st ∧ cs_cont sc (fun st1 h1 => cs_wp sc mi o Q J r loc st1 h1) x [b1, b2, b3] st h) := rfl
theorem cs_q_virt4 {b1 b2 b3 b4 : cs_A} {i b : Nat} {ts1 : List Nat} : cs_wp sc mi o Q J ((.invokevirtual i, x, y, (4 :: ts1)) :: r) loc (b4 :: b3 :: b2 :: b1 :: cs_R b :: st) h = (cs_rc h b y ∧ cs_l8 st ∧ cs_cont sc (fun st1 h1 => cs_wp sc mi o Q J r loc st1 h1) x [cs_R b, b1, b2, b3, b4] st h) := rfl
theorem cs_q_stat04 {b1 b2 b3 b4 : cs_A} {i : Nat} {ts1 : List Nat} : cs_wp sc mi o Q J ((.invokestatic i, x, 0, (4 :: ts1)) :: r) loc (b4 :: b3 :: b2 :: b1 :: st) h = (cs_l8 st ∧ cs_cont sc (fun st1 h1 => cs_wp sc mi o Q J r loc st1 h1) x [b1, b2, b3, b4] st h) := rfl
theorem cs_q_stat14 {b1 b2 b3 b4 : cs_A} {i : Nat} {ts1 : List Nat} : cs_wp sc mi o Q J ((.invokestatic i, x, 1, (4 :: ts1)) :: r) loc (b4 :: b3 :: b2 :: b1 :: st) h = (cs_l8 st ∧ cs_cont sc (fun st1 h1 => cs_wp sc mi o Q J r loc st1 h1) x [b1, b2, b3, b4] st h) := rfl
theorem cs_q_oinit {i b : Nat} : cs_wp sc mi o Q J ((.invokespecial i, x, 0, ts) :: r) loc (cs_R b :: st) h = (cs_l8 st ∧ cs_wp sc mi o Q J r loc st h) := rfl
theorem cs_q_spec {i b n m : Nat} : cs_wp sc mi o Q J ((.invokespecial i, x, (y + 1), [0, n, m]) :: r) loc (cs_R b :: st) h = (((n = 0 ∧ m = 0) ∨ (h.1.length + n ≤ o.1 + cs_mc mi ∧ cs_sz h.1 + m ≤ o.2 + cs_sl mi)) ∧ cs_l8 st ∧ cs_cont sc (fun st1 h1 => cs_wp sc mi o Q J r loc st1 h1) x [cs_R b] st h) := rfl
theorem cs_q_max {i : Nat} {a b : Int} : cs_wp sc mi o Q J ((.invokestatic i, x, 2, ts) :: r) loc (.inl b :: .inl a :: st) h = ((cs_l8 st ∧ cs_in a ∧ cs_in b) ∧ cs_wp sc mi o Q J r loc (.inl (if a < b then b else a) :: st) h) := rfl
theorem cs_q_min {i : Nat} {a b : Int} : cs_wp sc mi o Q J ((.invokestatic i, x, 3, ts) :: r) loc (.inl b :: .inl a :: st) h = ((cs_l8 st ∧ cs_in a ∧ cs_in b) ∧ cs_wp sc mi o Q J r loc (.inl (if b < a then b else a) :: st) h) := rfl
theorem cs_q_copy {i a0 a1 : Nat} {n p0 p1 : Int} : cs_wp sc mi o Q J ((.invokestatic i, x, 4, ts) :: r) loc (.inl n :: .inl p1 :: cs_R a1 :: .inl p0 :: cs_R a0 :: st) h = ((p1 = 0 ∧ p0 = 0 ∧ cs_l8 st ∧ 0 ≤ n ∧ n ≤ 100000) ∧ cs_ix h a0 1 0 (n - 1) ∧ cs_ix h a1 1 0 (n - 1) ∧ cs_wp sc mi o Q J r loc st (h.1, cs_cp h.2.1 a0 a1 n.toNat, h.2.2)) := rfl
theorem cs_q_iret {v : Int} : cs_wp sc mi o Q J ((.ireturn, x, 0, ts) :: r) loc [.inl v] h = (Q (some (.inl v)) h) := rfl
theorem cs_q_zret {v : Int} : cs_wp sc mi o Q J ((.ireturn, x, 1, ts) :: r) loc [.inl v] h = ((v = 0 ∨ v = 1) ∧ Q (some (.inl v)) h) := rfl
theorem cs_q_aret {a : Nat} : cs_wp sc mi o Q J ((.areturn, x, y, ts) :: r) loc [cs_R a] h = (Q (some (cs_R a)) h) := rfl
theorem cs_q_vret : cs_wp sc mi o Q J ((.return_, x, y, ts) :: r) loc [] h = (Q none h) := rfl
theorem cs_q_J {B : cs_BL} {n b : Nat} : cs_J sc mi o Q B (n + 1) b loc st h = cs_wp sc mi o Q (cs_J sc mi o Q B n) (cs_rows B b) loc st h := rfl
end
theorem cs_q_l8_0 : cs_l8 [] = True := eq_true (by simp [cs_l8])
theorem cs_q_l8_1 {a0 : cs_A} : cs_l8 [a0] = True := eq_true (by simp [cs_l8])
theorem cs_q_l8_2 {a0 a1 : cs_A} : cs_l8 [a0, a1] = True := eq_true (by simp [cs_l8])
theorem cs_q_l8_3 {a0 a1 a2 : cs_A} : cs_l8 [a0, a1, a2] = True := eq_true (by simp [cs_l8])
theorem cs_q_l8_4 {a0 a1 a2 a3 : cs_A} : cs_l8 [a0, a1, a2, a3] = True := eq_true (by simp [cs_l8])
theorem cs_q_l8_5 {a0 a1 a2 a3 a4 : cs_A} : cs_l8 [a0, a1, a2, a3, a4] = True := eq_true (by simp [cs_l8])
theorem cs_q_l8_6 {a0 a1 a2 a3 a4 a5 : cs_A} : cs_l8 [a0, a1, a2, a3, a4, a5] = True := eq_true (by simp [cs_l8])
theorem mX0_init : iX0_init < cs_ms.length - 1 ∧ cs_ml iX0_init = 1 ∧ cs_mc iX0_init = 0 ∧ cs_sl iX0_init = 0 := by decide +kernel
theorem zX0_init : 0 < bX0_init.length ∧ cs_pcb bX0_init 0 = 0 := ⟨by decide, rfl⟩
theorem mX0_copyFrom : iX0_copyFrom < cs_ms.length - 1 ∧ cs_ml iX0_copyFrom = 2 ∧ cs_mc iX0_copyFrom = 0 ∧ cs_sl iX0_copyFrom = 0 := by decide +kernel
theorem zX0_copyFrom : 0 < bX0_copyFrom.length ∧ cs_pcb bX0_copyFrom 0 = 0 := ⟨by decide, rfl⟩
theorem mX0_comeTo : iX0_comeTo < cs_ms.length - 1 ∧ cs_ml iX0_comeTo = 2 ∧ cs_mc iX0_comeTo = 0 ∧ cs_sl iX0_comeTo = 0 := by decide +kernel
theorem zX0_comeTo : 0 < bX0_comeTo.length ∧ cs_pcb bX0_comeTo 0 = 0 := ⟨by decide, rfl⟩
theorem mX0_hasArrived : iX0_hasArrived < cs_ms.length - 1 ∧ cs_ml iX0_hasArrived = 1 ∧ cs_mc iX0_hasArrived = 0 ∧ cs_sl iX0_hasArrived = 0 := by decide +kernel
theorem zX0_hasArrived : 0 < bX0_hasArrived.length ∧ cs_pcb bX0_hasArrived 0 = 0 := ⟨by decide, rfl⟩
theorem mX0_nextPound : iX0_nextPound < cs_ms.length - 1 ∧ cs_ml iX0_nextPound = 1 ∧ cs_mc iX0_nextPound = 0 ∧ cs_sl iX0_nextPound = 0 := by decide +kernel
theorem zX0_nextPound : 0 < bX0_nextPound.length ∧ cs_pcb bX0_nextPound 0 = 0 := ⟨by decide, rfl⟩
theorem mX0_lockNumber : iX0_lockNumber < cs_ms.length - 1 ∧ cs_ml iX0_lockNumber = 1 ∧ cs_mc iX0_lockNumber = 0 ∧ cs_sl iX0_lockNumber = 0 := by decide +kernel
theorem zX0_lockNumber : 0 < bX0_lockNumber.length ∧ cs_pcb bX0_lockNumber 0 = 0 := ⟨by decide, rfl⟩
theorem mX0_isUnderWayIn : iX0_isUnderWayIn < cs_ms.length - 1 ∧ cs_ml iX0_isUnderWayIn = 2 ∧ cs_mc iX0_isUnderWayIn = 0 ∧ cs_sl iX0_isUnderWayIn = 0 := by decide +kernel
theorem zX0_isUnderWayIn : 0 < bX0_isUnderWayIn.length ∧ cs_pcb bX0_isUnderWayIn 0 = 0 := ⟨by decide, rfl⟩
theorem mX4_init : iX4_init < cs_ms.length - 1 ∧ cs_ml iX4_init = 1 ∧ cs_mc iX4_init = 1 ∧ cs_sl iX4_init = 16 := by decide +kernel
theorem zX4_init : 0 < bX4_init.length ∧ cs_pcb bX4_init 0 = 0 := ⟨by decide, rfl⟩
theorem mX3_init : iX3_init < cs_ms.length - 1 ∧ cs_ml iX3_init = 1 ∧ cs_mc iX3_init = 4 ∧ cs_sl iX3_init = 36 := by decide +kernel
theorem zX3_init : 0 < bX3_init.length ∧ cs_pcb bX3_init 0 = 0 := ⟨by decide, rfl⟩
theorem mX1_init : iX1_init < cs_ms.length - 1 ∧ cs_ml iX1_init = 2 ∧ cs_mc iX1_init = 45 ∧ cs_sl iX1_init = 347 := by decide +kernel
theorem zX1_init : 0 < bX1_init.length ∧ cs_pcb bX1_init 0 = 0 := ⟨by decide, rfl⟩
theorem mX4_copyFrom : iX4_copyFrom < cs_ms.length - 1 ∧ cs_ml iX4_copyFrom = 2 ∧ cs_mc iX4_copyFrom = 0 ∧ cs_sl iX4_copyFrom = 0 := by decide +kernel
theorem zX4_copyFrom : 0 < bX4_copyFrom.length ∧ cs_pcb bX4_copyFrom 0 = 0 := ⟨by decide, rfl⟩
theorem mX3_copyFrom : iX3_copyFrom < cs_ms.length - 1 ∧ cs_ml iX3_copyFrom = 2 ∧ cs_mc iX3_copyFrom = 0 ∧ cs_sl iX3_copyFrom = 0 := by decide +kernel
theorem zX3_copyFrom : 0 < bX3_copyFrom.length ∧ cs_pcb bX3_copyFrom 0 = 0 := ⟨by decide, rfl⟩
theorem mX1_copyFrom : iX1_copyFrom < cs_ms.length - 1 ∧ cs_ml iX1_copyFrom = 3 ∧ cs_mc iX1_copyFrom = 0 ∧ cs_sl iX1_copyFrom = 0 := by decide +kernel
theorem zX1_copyFrom : 0 < bX1_copyFrom.length ∧ cs_pcb bX1_copyFrom 0 = 0 := ⟨by decide, rfl⟩
theorem mX1_queueOf : iX1_queueOf < cs_ms.length - 1 ∧ cs_ml iX1_queueOf = 2 ∧ cs_mc iX1_queueOf = 0 ∧ cs_sl iX1_queueOf = 0 := by decide +kernel
theorem zX1_queueOf : 0 < bX1_queueOf.length ∧ cs_pcb bX1_queueOf 0 = 0 := ⟨by decide, rfl⟩
theorem mX4_join : iX4_join < cs_ms.length - 1 ∧ cs_ml iX4_join = 2 ∧ cs_mc iX4_join = 0 ∧ cs_sl iX4_join = 0 := by decide +kernel
theorem zX4_join : 0 < bX4_join.length ∧ cs_pcb bX4_join 0 = 0 := ⟨by decide, rfl⟩
theorem mX7_isWithin : iX7_isWithin < cs_ms.length - 1 ∧ cs_ml iX7_isWithin = 3 ∧ cs_mc iX7_isWithin = 0 ∧ cs_sl iX7_isWithin = 0 := by decide +kernel
theorem zX7_isWithin : 0 < bX7_isWithin.length ∧ cs_pcb bX7_isWithin 0 = 0 := ⟨by decide, rfl⟩
theorem mX1_comeBoat : iX1_comeBoat < cs_ms.length - 1 ∧ cs_ml iX1_comeBoat = 8 ∧ cs_mc iX1_comeBoat = 0 ∧ cs_sl iX1_comeBoat = 0 := by decide +kernel
theorem zX1_comeBoat : 0 < bX1_comeBoat.length ∧ cs_pcb bX1_comeBoat 0 = 0 := ⟨by decide, rfl⟩
theorem mX1_knowsBoat : iX1_knowsBoat < cs_ms.length - 1 ∧ cs_ml iX1_knowsBoat = 2 ∧ cs_mc iX1_knowsBoat = 0 ∧ cs_sl iX1_knowsBoat = 0 := by decide +kernel
theorem zX1_knowsBoat : 0 < bX1_knowsBoat.length ∧ cs_pcb bX1_knowsBoat 0 = 0 := ⟨by decide, rfl⟩
theorem mX1_loadBoat : iX1_loadBoat < cs_ms.length - 1 ∧ cs_ml iX1_loadBoat = 5 ∧ cs_mc iX1_loadBoat = 0 ∧ cs_sl iX1_loadBoat = 0 := by decide +kernel
theorem zX1_loadBoat : 0 < bX1_loadBoat.length ∧ cs_pcb bX1_loadBoat 0 = 0 := ⟨by decide, rfl⟩
theorem mX3_isHigh : iX3_isHigh < cs_ms.length - 1 ∧ cs_ml iX3_isHigh = 1 ∧ cs_mc iX3_isHigh = 0 ∧ cs_sl iX3_isHigh = 0 := by decide +kernel
theorem zX3_isHigh : 0 < bX3_isHigh.length ∧ cs_pcb bX3_isHigh 0 = 0 := ⟨by decide, rfl⟩
theorem mX1_canTurn : iX1_canTurn < cs_ms.length - 1 ∧ cs_ml iX1_canTurn = 2 ∧ cs_mc iX1_canTurn = 0 ∧ cs_sl iX1_canTurn = 0 := by decide +kernel
theorem zX1_canTurn : 0 < bX1_canTurn.length ∧ cs_pcb bX1_canTurn 0 = 0 := ⟨by decide, rfl⟩
theorem mX1_pourInto : iX1_pourInto < cs_ms.length - 1 ∧ cs_ml iX1_pourInto = 4 ∧ cs_mc iX1_pourInto = 0 ∧ cs_sl iX1_pourInto = 0 := by decide +kernel
theorem zX1_pourInto : 0 < bX1_pourInto.length ∧ cs_pcb bX1_pourInto 0 = 0 := ⟨by decide, rfl⟩
theorem mX1_turnChamber : iX1_turnChamber < cs_ms.length - 1 ∧ cs_ml iX1_turnChamber = 3 ∧ cs_mc iX1_turnChamber = 0 ∧ cs_sl iX1_turnChamber = 0 := by decide +kernel
theorem zX1_turnChamber : 0 < bX1_turnChamber.length ∧ cs_pcb bX1_turnChamber 0 = 0 := ⟨by decide, rfl⟩
theorem mX1_turnByHand : iX1_turnByHand < cs_ms.length - 1 ∧ cs_ml iX1_turnByHand = 2 ∧ cs_mc iX1_turnByHand = 0 ∧ cs_sl iX1_turnByHand = 0 := by decide +kernel
theorem zX1_turnByHand : 0 < bX1_turnByHand.length ∧ cs_pcb bX1_turnByHand 0 = 0 := ⟨by decide, rfl⟩
theorem mX1_changeDepth : iX1_changeDepth < cs_ms.length - 1 ∧ cs_ml iX1_changeDepth = 4 ∧ cs_mc iX1_changeDepth = 0 ∧ cs_sl iX1_changeDepth = 0 := by decide +kernel
theorem zX1_changeDepth : 0 < bX1_changeDepth.length ∧ cs_pcb bX1_changeDepth 0 = 0 := ⟨by decide, rfl⟩
theorem mX1_changeSetting : iX1_changeSetting < cs_ms.length - 1 ∧ cs_ml iX1_changeSetting = 4 ∧ cs_mc iX1_changeSetting = 0 ∧ cs_sl iX1_changeSetting = 0 := by decide +kernel
theorem zX1_changeSetting : 0 < bX1_changeSetting.length ∧ cs_pcb bX1_changeSetting 0 = 0 := ⟨by decide, rfl⟩
theorem mX4_dropFirst : iX4_dropFirst < cs_ms.length - 1 ∧ cs_ml iX4_dropFirst = 2 ∧ cs_mc iX4_dropFirst = 0 ∧ cs_sl iX4_dropFirst = 0 := by decide +kernel
theorem zX4_dropFirst : 0 < bX4_dropFirst.length ∧ cs_pcb bX4_dropFirst 0 = 0 := ⟨by decide, rfl⟩
theorem mX1_goThrough : iX1_goThrough < cs_ms.length - 1 ∧ cs_ml iX1_goThrough = 6 ∧ cs_mc iX1_goThrough = 0 ∧ cs_sl iX1_goThrough = 0 := by decide +kernel
theorem zX1_goThrough : 0 < bX1_goThrough.length ∧ cs_pcb bX1_goThrough 0 = 0 := ⟨by decide, rfl⟩
theorem mX1_isAground : iX1_isAground < cs_ms.length - 1 ∧ cs_ml iX1_isAground = 2 ∧ cs_mc iX1_isAground = 0 ∧ cs_sl iX1_isAground = 0 := by decide +kernel
theorem zX1_isAground : 0 < bX1_isAground.length ∧ cs_pcb bX1_isAground 0 = 0 := ⟨by decide, rfl⟩
theorem mX4_first : iX4_first < cs_ms.length - 1 ∧ cs_ml iX4_first = 1 ∧ cs_mc iX4_first = 0 ∧ cs_sl iX4_first = 0 := by decide +kernel
theorem zX4_first : 0 < bX4_first.length ∧ cs_pcb bX4_first 0 = 0 := ⟨by decide, rfl⟩
theorem mX1_workLock : iX1_workLock < cs_ms.length - 1 ∧ cs_ml iX1_workLock = 5 ∧ cs_mc iX1_workLock = 0 ∧ cs_sl iX1_workLock = 0 := by decide +kernel
theorem zX1_workLock : 0 < bX1_workLock.length ∧ cs_pcb bX1_workLock 0 = 0 := ⟨by decide, rfl⟩
theorem mX1_flowFromSpring : iX1_flowFromSpring < cs_ms.length - 1 ∧ cs_ml iX1_flowFromSpring = 3 ∧ cs_mc iX1_flowFromSpring = 0 ∧ cs_sl iX1_flowFromSpring = 0 := by decide +kernel
theorem zX1_flowFromSpring : 0 < bX1_flowFromSpring.length ∧ cs_pcb bX1_flowFromSpring 0 = 0 := ⟨by decide, rfl⟩
theorem mX1_stepTick : iX1_stepTick < cs_ms.length - 1 ∧ cs_ml iX1_stepTick = 2 ∧ cs_mc iX1_stepTick = 0 ∧ cs_sl iX1_stepTick = 0 := by decide +kernel
theorem zX1_stepTick : 0 < bX1_stepTick.length ∧ cs_pcb bX1_stepTick 0 = 0 := ⟨by decide, rfl⟩
theorem mX1_letPass : iX1_letPass < cs_ms.length - 1 ∧ cs_ml iX1_letPass = 4 ∧ cs_mc iX1_letPass = 0 ∧ cs_sl iX1_letPass = 0 := by decide +kernel
theorem zX1_letPass : 0 < bX1_letPass.length ∧ cs_pcb bX1_letPass 0 = 0 := ⟨by decide, rfl⟩
theorem mX4_placeOf : iX4_placeOf < cs_ms.length - 1 ∧ cs_ml iX4_placeOf = 3 ∧ cs_mc iX4_placeOf = 0 ∧ cs_sl iX4_placeOf = 0 := by decide +kernel
theorem zX4_placeOf : 0 < bX4_placeOf.length ∧ cs_pcb bX4_placeOf 0 = 0 := ⟨by decide, rfl⟩
theorem mX1_placeInQueue : iX1_placeInQueue < cs_ms.length - 1 ∧ cs_ml iX1_placeInQueue = 3 ∧ cs_mc iX1_placeInQueue = 0 ∧ cs_sl iX1_placeInQueue = 0 := by decide +kernel
theorem zX1_placeInQueue : 0 < bX1_placeInQueue.length ∧ cs_pcb bX1_placeInQueue 0 = 0 := ⟨by decide, rfl⟩
theorem mX1_reasonNow : iX1_reasonNow < cs_ms.length - 1 ∧ cs_ml iX1_reasonNow = 5 ∧ cs_mc iX1_reasonNow = 0 ∧ cs_sl iX1_reasonNow = 0 := by decide +kernel
theorem zX1_reasonNow : 0 < bX1_reasonNow.length ∧ cs_pcb bX1_reasonNow 0 = 0 := ⟨by decide, rfl⟩
theorem mX1_tellBoat : iX1_tellBoat < cs_ms.length - 1 ∧ cs_ml iX1_tellBoat = 4 ∧ cs_mc iX1_tellBoat = 0 ∧ cs_sl iX1_tellBoat = 0 := by decide +kernel
theorem zX1_tellBoat : 0 < bX1_tellBoat.length ∧ cs_pcb bX1_tellBoat 0 = 0 := ⟨by decide, rfl⟩
theorem mX1_boatsUnderWayIn : iX1_boatsUnderWayIn < cs_ms.length - 1 ∧ cs_ml iX1_boatsUnderWayIn = 4 ∧ cs_mc iX1_boatsUnderWayIn = 0 ∧ cs_sl iX1_boatsUnderWayIn = 0 := by decide +kernel
theorem zX1_boatsUnderWayIn : 0 < bX1_boatsUnderWayIn.length ∧ cs_pcb bX1_boatsUnderWayIn 0 = 0 := ⟨by decide, rfl⟩
theorem mX1_boatsArrivedIn : iX1_boatsArrivedIn < cs_ms.length - 1 ∧ cs_ml iX1_boatsArrivedIn = 4 ∧ cs_mc iX1_boatsArrivedIn = 0 ∧ cs_sl iX1_boatsArrivedIn = 0 := by decide +kernel
theorem zX1_boatsArrivedIn : 0 < bX1_boatsArrivedIn.length ∧ cs_pcb bX1_boatsArrivedIn 0 = 0 := ⟨by decide, rfl⟩
theorem mX1_greatestDraughtIn : iX1_greatestDraughtIn < cs_ms.length - 1 ∧ cs_ml iX1_greatestDraughtIn = 4 ∧ cs_mc iX1_greatestDraughtIn = 0 ∧ cs_sl iX1_greatestDraughtIn = 0 := by decide +kernel
theorem zX1_greatestDraughtIn : 0 < bX1_greatestDraughtIn.length ∧ cs_pcb bX1_greatestDraughtIn 0 = 0 := ⟨by decide, rfl⟩
theorem mX1_tellPound : iX1_tellPound < cs_ms.length - 1 ∧ cs_ml iX1_tellPound = 3 ∧ cs_mc iX1_tellPound = 0 ∧ cs_sl iX1_tellPound = 0 := by decide +kernel
theorem zX1_tellPound : 0 < bX1_tellPound.length ∧ cs_pcb bX1_tellPound 0 = 0 := ⟨by decide, rfl⟩
theorem mX1_waterThere : iX1_waterThere < cs_ms.length - 1 ∧ cs_ml iX1_waterThere = 3 ∧ cs_mc iX1_waterThere = 0 ∧ cs_sl iX1_waterThere = 0 := by decide +kernel
theorem zX1_waterThere : 0 < bX1_waterThere.length ∧ cs_pcb bX1_waterThere 0 = 0 := ⟨by decide, rfl⟩
theorem mX1_waterByAccount : iX1_waterByAccount < cs_ms.length - 1 ∧ cs_ml iX1_waterByAccount = 1 ∧ cs_mc iX1_waterByAccount = 0 ∧ cs_sl iX1_waterByAccount = 0 := by decide +kernel
theorem zX1_waterByAccount : 0 < bX1_waterByAccount.length ∧ cs_pcb bX1_waterByAccount 0 = 0 := ⟨by decide, rfl⟩
theorem mX1_countAground : iX1_countAground < cs_ms.length - 1 ∧ cs_ml iX1_countAground = 3 ∧ cs_mc iX1_countAground = 0 ∧ cs_sl iX1_countAground = 0 := by decide +kernel
theorem zX1_countAground : 0 < bX1_countAground.length ∧ cs_pcb bX1_countAground 0 = 0 := ⟨by decide, rfl⟩
theorem mX1_passagesOfAll : iX1_passagesOfAll < cs_ms.length - 1 ∧ cs_ml iX1_passagesOfAll = 3 ∧ cs_mc iX1_passagesOfAll = 0 ∧ cs_sl iX1_passagesOfAll = 0 := by decide +kernel
theorem zX1_passagesOfAll : 0 < bX1_passagesOfAll.length ∧ cs_pcb bX1_passagesOfAll 0 = 0 := ⟨by decide, rfl⟩
theorem mX1_fillingsOfAll : iX1_fillingsOfAll < cs_ms.length - 1 ∧ cs_ml iX1_fillingsOfAll = 3 ∧ cs_mc iX1_fillingsOfAll = 0 ∧ cs_sl iX1_fillingsOfAll = 0 := by decide +kernel
theorem zX1_fillingsOfAll : 0 < bX1_fillingsOfAll.length ∧ cs_pcb bX1_fillingsOfAll 0 = 0 := ⟨by decide, rfl⟩
theorem mX1_countHigh : iX1_countHigh < cs_ms.length - 1 ∧ cs_ml iX1_countHigh = 3 ∧ cs_mc iX1_countHigh = 0 ∧ cs_sl iX1_countHigh = 0 := by decide +kernel
theorem zX1_countHigh : 0 < bX1_countHigh.length ∧ cs_pcb bX1_countHigh 0 = 0 := ⟨by decide, rfl⟩
theorem mX1_tellCount : iX1_tellCount < cs_ms.length - 1 ∧ cs_ml iX1_tellCount = 2 ∧ cs_mc iX1_tellCount = 0 ∧ cs_sl iX1_tellCount = 0 := by decide +kernel
theorem zX1_tellCount : 0 < bX1_tellCount.length ∧ cs_pcb bX1_tellCount 0 = 0 := ⟨by decide, rfl⟩
theorem mX2_init : iX2_init < cs_ms.length - 1 ∧ cs_ml iX2_init = 2 ∧ cs_mc iX2_init = 185 ∧ cs_sl iX2_init = 1436 := by decide +kernel
theorem zX2_init : 0 < bX2_init.length ∧ cs_pcb bX2_init 0 = 0 := ⟨by decide, rfl⟩
theorem mX2_dropOldest : iX2_dropOldest < cs_ms.length - 1 ∧ cs_ml iX2_dropOldest = 3 ∧ cs_mc iX2_dropOldest = 0 ∧ cs_sl iX2_dropOldest = 0 := by decide +kernel
theorem zX2_dropOldest : 0 < bX2_dropOldest.length ∧ cs_pcb bX2_dropOldest 0 = 0 := ⟨by decide, rfl⟩
theorem mX2_push : iX2_push < cs_ms.length - 1 ∧ cs_ml iX2_push = 2 ∧ cs_mc iX2_push = 0 ∧ cs_sl iX2_push = 0 := by decide +kernel
theorem zX2_push : 0 < bX2_push.length ∧ cs_pcb bX2_push 0 = 0 := ⟨by decide, rfl⟩
theorem mX2_takeLatest : iX2_takeLatest < cs_ms.length - 1 ∧ cs_ml iX2_takeLatest = 1 ∧ cs_mc iX2_takeLatest = 0 ∧ cs_sl iX2_takeLatest = 0 := by decide +kernel
theorem zX2_takeLatest : 0 < bX2_takeLatest.length ∧ cs_pcb bX2_takeLatest 0 = 0 := ⟨by decide, rfl⟩
theorem mX3_tellLock : iX3_tellLock < cs_ms.length - 1 ∧ cs_ml iX3_tellLock = 2 ∧ cs_mc iX3_tellLock = 0 ∧ cs_sl iX3_tellLock = 0 := by decide +kernel
theorem zX3_tellLock : 0 < bX3_tellLock.length ∧ cs_pcb bX3_tellLock 0 = 0 := ⟨by decide, rfl⟩
theorem mX5_init : iX5_init < cs_ms.length - 1 ∧ cs_ml iX5_init = 1 ∧ cs_mc iX5_init = 0 ∧ cs_sl iX5_init = 0 := by decide +kernel
theorem zX5_init : 0 < bX5_init.length ∧ cs_pcb bX5_init 0 = 0 := ⟨by decide, rfl⟩
theorem mX6_init : iX6_init < cs_ms.length - 1 ∧ cs_ml iX6_init = 2 ∧ cs_mc iX6_init = 22 ∧ cs_sl iX6_init = 220 := by decide +kernel
theorem zX6_init : 0 < bX6_init.length ∧ cs_pcb bX6_init 0 = 0 := ⟨by decide, rfl⟩
theorem mX7_init : iX7_init < cs_ms.length - 1 ∧ cs_ml iX7_init = 1 ∧ cs_mc iX7_init = 393 ∧ cs_sl iX7_init = 3095 := by decide +kernel
theorem zX7_init : 0 < bX7_init.length ∧ cs_pcb bX7_init 0 = 0 := ⟨by decide, rfl⟩
theorem mX7_recorded : iX7_recorded < cs_ms.length - 1 ∧ cs_ml iX7_recorded = 2 ∧ cs_mc iX7_recorded = 0 ∧ cs_sl iX7_recorded = 0 := by decide +kernel
theorem zX7_recorded : 0 < bX7_recorded.length ∧ cs_pcb bX7_recorded 0 = 0 := ⟨by decide, rfl⟩
theorem mX7_boat : iX7_boat < cs_ms.length - 1 ∧ cs_ml iX7_boat = 5 ∧ cs_mc iX7_boat = 0 ∧ cs_sl iX7_boat = 0 := by decide +kernel
theorem zX7_boat : 0 < bX7_boat.length ∧ cs_pcb bX7_boat 0 = 0 := ⟨by decide, rfl⟩
theorem mX7_load : iX7_load < cs_ms.length - 1 ∧ cs_ml iX7_load = 3 ∧ cs_mc iX7_load = 0 ∧ cs_sl iX7_load = 0 := by decide +kernel
theorem zX7_load : 0 < bX7_load.length ∧ cs_pcb bX7_load 0 = 0 := ⟨by decide, rfl⟩
theorem mX7_turnLock : iX7_turnLock < cs_ms.length - 1 ∧ cs_ml iX7_turnLock = 2 ∧ cs_mc iX7_turnLock = 0 ∧ cs_sl iX7_turnLock = 0 := by decide +kernel
theorem zX7_turnLock : 0 < bX7_turnLock.length ∧ cs_pcb bX7_turnLock 0 = 0 := ⟨by decide, rfl⟩
theorem mX7_setDepth : iX7_setDepth < cs_ms.length - 1 ∧ cs_ml iX7_setDepth = 3 ∧ cs_mc iX7_setDepth = 0 ∧ cs_sl iX7_setDepth = 0 := by decide +kernel
theorem zX7_setDepth : 0 < bX7_setDepth.length ∧ cs_pcb bX7_setDepth 0 = 0 := ⟨by decide, rfl⟩
theorem mX7_set : iX7_set < cs_ms.length - 1 ∧ cs_ml iX7_set = 3 ∧ cs_mc iX7_set = 0 ∧ cs_sl iX7_set = 0 := by decide +kernel
theorem zX7_set : 0 < bX7_set.length ∧ cs_pcb bX7_set 0 = 0 := ⟨by decide, rfl⟩
theorem mX7_pass : iX7_pass < cs_ms.length - 1 ∧ cs_ml iX7_pass = 2 ∧ cs_mc iX7_pass = 0 ∧ cs_sl iX7_pass = 0 := by decide +kernel
theorem zX7_pass : 0 < bX7_pass.length ∧ cs_pcb bX7_pass 0 = 0 := ⟨by decide, rfl⟩
theorem mX7_undo : iX7_undo < cs_ms.length - 1 ∧ cs_ml iX7_undo = 2 ∧ cs_mc iX7_undo = 0 ∧ cs_sl iX7_undo = 0 := by decide +kernel
theorem zX7_undo : 0 < bX7_undo.length ∧ cs_pcb bX7_undo 0 = 0 := ⟨by decide, rfl⟩
theorem mX7_boatOf : iX7_boatOf < cs_ms.length - 1 ∧ cs_ml iX7_boatOf = 3 ∧ cs_mc iX7_boatOf = 0 ∧ cs_sl iX7_boatOf = 0 := by decide +kernel
theorem zX7_boatOf : 0 < bX7_boatOf.length ∧ cs_pcb bX7_boatOf 0 = 0 := ⟨by decide, rfl⟩
theorem mX7_lock : iX7_lock < cs_ms.length - 1 ∧ cs_ml iX7_lock = 3 ∧ cs_mc iX7_lock = 0 ∧ cs_sl iX7_lock = 0 := by decide +kernel
theorem zX7_lock : 0 < bX7_lock.length ∧ cs_pcb bX7_lock 0 = 0 := ⟨by decide, rfl⟩
theorem mX7_pound : iX7_pound < cs_ms.length - 1 ∧ cs_ml iX7_pound = 3 ∧ cs_mc iX7_pound = 0 ∧ cs_sl iX7_pound = 0 := by decide +kernel
theorem zX7_pound : 0 < bX7_pound.length ∧ cs_pcb bX7_pound 0 = 0 := ⟨by decide, rfl⟩
theorem mX7_reason : iX7_reason < cs_ms.length - 1 ∧ cs_ml iX7_reason = 4 ∧ cs_mc iX7_reason = 0 ∧ cs_sl iX7_reason = 0 := by decide +kernel
theorem zX7_reason : 0 < bX7_reason.length ∧ cs_pcb bX7_reason 0 = 0 := ⟨by decide, rfl⟩
theorem mX7_arrivesIn : iX7_arrivesIn < cs_ms.length - 1 ∧ cs_ml iX7_arrivesIn = 3 ∧ cs_mc iX7_arrivesIn = 0 ∧ cs_sl iX7_arrivesIn = 0 := by decide +kernel
theorem zX7_arrivesIn : 0 < bX7_arrivesIn.length ∧ cs_pcb bX7_arrivesIn 0 = 0 := ⟨by decide, rfl⟩
theorem mX7_water : iX7_water < cs_ms.length - 1 ∧ cs_ml iX7_water = 2 ∧ cs_mc iX7_water = 0 ∧ cs_sl iX7_water = 0 := by decide +kernel
theorem zX7_water : 0 < bX7_water.length ∧ cs_pcb bX7_water 0 = 0 := ⟨by decide, rfl⟩
theorem mX7_arrivalsAfterTurn : iX7_arrivalsAfterTurn < cs_ms.length - 1 ∧ cs_ml iX7_arrivalsAfterTurn = 3 ∧ cs_mc iX7_arrivalsAfterTurn = 0 ∧ cs_sl iX7_arrivalsAfterTurn = 0 := by decide +kernel
theorem zX7_arrivalsAfterTurn : 0 < bX7_arrivalsAfterTurn.length ∧ cs_pcb bX7_arrivalsAfterTurn 0 = 0 := ⟨by decide, rfl⟩
theorem mX7_bestTurn : iX7_bestTurn < cs_ms.length - 1 ∧ cs_ml iX7_bestTurn = 6 ∧ cs_mc iX7_bestTurn = 0 ∧ cs_sl iX7_bestTurn = 0 := by decide +kernel
theorem zX7_bestTurn : 0 < bX7_bestTurn.length ∧ cs_pcb bX7_bestTurn 0 = 0 := ⟨by decide, rfl⟩
theorem mX7_ifTicks : iX7_ifTicks < cs_ms.length - 1 ∧ cs_ml iX7_ifTicks = 4 ∧ cs_mc iX7_ifTicks = 0 ∧ cs_sl iX7_ifTicks = 0 := by decide +kernel
theorem zX7_ifTicks : 0 < bX7_ifTicks.length ∧ cs_pcb bX7_ifTicks 0 = 0 := ⟨by decide, rfl⟩
theorem mX7_count : iX7_count < cs_ms.length - 1 ∧ cs_ml iX7_count = 2 ∧ cs_mc iX7_count = 0 ∧ cs_sl iX7_count = 0 := by decide +kernel
theorem zX7_count : 0 < bX7_count.length ∧ cs_pcb bX7_count 0 = 0 := ⟨by decide, rfl⟩
theorem mL_cell : iL_cell < cs_ms.length - 1 ∧ cs_ml iL_cell = 2 ∧ cs_mc iL_cell = 0 ∧ cs_sl iL_cell = 0 := by decide +kernel
theorem zL_cell : 0 < bL_cell.length ∧ cs_pcb bL_cell 0 = 0 := ⟨by decide, rfl⟩
theorem mL_low : iL_low < cs_ms.length - 1 ∧ cs_ml iL_low = 2 ∧ cs_mc iL_low = 0 ∧ cs_sl iL_low = 0 := by decide +kernel
theorem zL_low : 0 < bL_low.length ∧ cs_pcb bL_low 0 = 0 := ⟨by decide, rfl⟩
theorem mL_act : iL_act < cs_ms.length - 1 ∧ cs_ml iL_act = 6 ∧ cs_mc iL_act = 0 ∧ cs_sl iL_act = 0 := by decide +kernel
theorem zL_act : 0 < bL_act.length ∧ cs_pcb bL_act 0 = 0 := ⟨by decide, rfl⟩
theorem mL_areAlike : iL_areAlike < cs_ms.length - 1 ∧ cs_ml iL_areAlike = 4 ∧ cs_mc iL_areAlike = 0 ∧ cs_sl iL_areAlike = 0 := by decide +kernel
theorem zL_areAlike : 0 < bL_areAlike.length ∧ cs_pcb bL_areAlike 0 = 0 := ⟨by decide, rfl⟩
theorem mL_areBoatsSo : iL_areBoatsSo < cs_ms.length - 1 ∧ cs_ml iL_areBoatsSo = 18 ∧ cs_mc iL_areBoatsSo = 0 ∧ cs_sl iL_areBoatsSo = 0 := by decide +kernel
theorem zL_areBoatsSo : 0 < bL_areBoatsSo.length ∧ cs_pcb bL_areBoatsSo 0 = 0 := ⟨by decide, rfl⟩
theorem mL_isWaterSo : iL_isWaterSo < cs_ms.length - 1 ∧ cs_ml iL_isWaterSo = 7 ∧ cs_mc iL_isWaterSo = 0 ∧ cs_sl iL_isWaterSo = 0 := by decide +kernel
theorem zL_isWaterSo : 0 < bL_isWaterSo.length ∧ cs_pcb bL_isWaterSo 0 = 0 := ⟨by decide, rfl⟩
theorem mL_isTickSo : iL_isTickSo < cs_ms.length - 1 ∧ cs_ml iL_isTickSo = 17 ∧ cs_mc iL_isTickSo = 0 ∧ cs_sl iL_isTickSo = 0 := by decide +kernel
theorem zL_isTickSo : 0 < bL_isTickSo.length ∧ cs_pcb bL_isTickSo 0 = 0 := ⟨by decide, rfl⟩
theorem mL_isTurnSo : iL_isTurnSo < cs_ms.length - 1 ∧ cs_ml iL_isTurnSo = 10 ∧ cs_mc iL_isTurnSo = 0 ∧ cs_sl iL_isTurnSo = 0 := by decide +kernel
theorem zL_isTurnSo : 0 < bL_isTurnSo.length ∧ cs_pcb bL_isTurnSo 0 = 0 := ⟨by decide, rfl⟩
