/-! ROWS OF THE METHODS IN BLOCKS. Printed by wip/whole/gen3.py. -/
def qX8_init_0 : List cs_W := [(.aload_n 0, 0, 0, []), (.invokespecial 1, 0, 0, []), (.aload_n 0, 0, 0, []), (.sipush 157, 0, 0, []), (.newarray .int, 0, 0, []), (.putfield 7, 8, 0, [1]), (.aload_n 0, 0, 0, []), (.sipush 157, 0, 0, []), (.newarray .int, 0, 0, []), (.putfield 13, 8, 1, [1]), (.aload_n 0, 0, 0, []), (.sipush 628, 0, 0, []), (.newarray .int, 0, 0, []), (.putfield 16, 8, 2, [1]), (.aload_n 0, 0, 0, []), (.sipush 157, 0, 0, []), (.newarray .int, 0, 0, []), (.putfield 19, 8, 4, [1]), (.aload_n 0, 0, 0, []), (.bipush 60, 0, 0, []), (.newarray .int, 0, 0, []), (.putfield 22, 8, 6, [1]), (.aload_n 0, 0, 0, []), (.bipush (-5), 0, 0, []), (.putfield 25, 8, 8, []), (.aload_n 0, 0, 0, []), (.bipush (-5), 0, 0, []), (.putfield 29, 8, 9, []), (.aload_n 0, 0, 0, []), (.bipush (-5), 0, 0, []), (.putfield 32, 8, 10, []), (.iconst 0, 0, 0, []), (.istore_n 1, 1, 0, []), (.nop, 1, 0, [])]
def qX8_init_1 : List cs_W := [(.nop, 0, 68, [])]
def qX8_init_2 : List cs_W := [(.aload_n 0, 0, 0, []), (.getfield 7, 8, 0, [1]), (.sipush 154, 0, 0, []), (.bipush 6, 0, 0, []), (.iastore, 0, 0, []), (.aload_n 0, 0, 0, []), (.getfield 7, 8, 0, [1]), (.sipush 155, 0, 0, []), (.iconst 2, 0, 0, []), (.iastore, 0, 0, []), (.aload_n 0, 0, 0, []), (.getfield 7, 8, 0, [1]), (.sipush 156, 0, 0, []), (.iconst 4, 0, 0, []), (.iastore, 0, 0, []), (.return_, 0, 0, [])]
def qX8_init_3 : List cs_W := [(.iload_n 1, 1, 0, []), (.bipush 6, 0, 0, []), (.if_icmp .ge 19, 2, 0, []), (.aload_n 0, 0, 0, []), (.getfield 7, 8, 0, [1]), (.iconst 0, 0, 0, []), (.iload_n 1, 1, 0, []), (.iadd, 0, 0, []), (.bipush 40, 0, 0, []), (.iastore, 0, 0, []), (.iinc 1 1, 0, 0, []), (.goto (-19), 1, 0, [])]
def bX8_init : cs_BL := [(0, qX8_init_0), (68, qX8_init_1), (90, qX8_init_2), (68, qX8_init_3)]
theorem rX8_init : cs_rows bX8_init 0 = qX8_init_0 ∧ cs_rows bX8_init 1 = qX8_init_1 ∧ cs_rows bX8_init 2 = qX8_init_2 ∧ cs_rows bX8_init 3 = qX8_init_3 := ⟨rfl, rfl, rfl, rfl⟩
set_option maxRecDepth 100000 in
theorem kX8_init : cs_chkB iX8_init bX8_init = true := by decide +kernel
def qX8_in_0 : List cs_W := [(.iload_n 0, 0, 0, []), (.iload_n 1, 1, 0, []), (.if_icmp .lt 12, 1, 0, []), (.iload_n 0, 0, 0, []), (.iload_n 2, 2, 0, []), (.if_icmp .gt 7, 1, 0, []), (.iconst 1, 0, 0, []), (.goto 4, 2, 0, [])]
def qX8_in_1 : List cs_W := [(.iconst 0, 0, 0, []), (.nop, 2, 0, [])]
def qX8_in_2 : List cs_W := [(.ireturn, 0, 1, [])]
def bX8_in : cs_BL := [(0, qX8_in_0), (14, qX8_in_1), (15, qX8_in_2)]
theorem rX8_in : cs_rows bX8_in 0 = qX8_in_0 ∧ cs_rows bX8_in 1 = qX8_in_1 ∧ cs_rows bX8_in 2 = qX8_in_2 := ⟨rfl, rfl, rfl⟩
set_option maxRecDepth 100000 in
theorem kX8_in : cs_chkB iX8_in bX8_in = true := by decide +kernel
def qX8_isPound_0 : List cs_W := [(.iload_n 0, 0, 0, []), (.iconst 0, 0, 0, []), (.iconst 5, 0, 0, []), (.invokestatic 35, 90, 0, [3]), (.ireturn, 0, 1, [])]
def bX8_isPound : cs_BL := [(0, qX8_isPound_0)]
theorem rX8_isPound : cs_rows bX8_isPound 0 = qX8_isPound_0 := rfl
set_option maxRecDepth 100000 in
theorem kX8_isPound : cs_chkB iX8_isPound bX8_isPound = true := by decide +kernel
def qX8_isLock_0 : List cs_W := [(.iload_n 0, 0, 0, []), (.iconst 0, 0, 0, []), (.iconst 4, 0, 0, []), (.invokestatic 35, 90, 0, [3]), (.ireturn, 0, 1, [])]
def bX8_isLock : cs_BL := [(0, qX8_isLock_0)]
theorem rX8_isLock : cs_rows bX8_isLock 0 = qX8_isLock_0 := rfl
set_option maxRecDepth 100000 in
theorem kX8_isLock : cs_chkB iX8_isLock bX8_isLock = true := by decide +kernel
def qX8_isBoat_0 : List cs_W := [(.iload_n 1, 1, 0, []), (.iconst 0, 0, 0, []), (.aload_n 0, 0, 0, []), (.getfield 7, 8, 0, [1]), (.sipush 150, 0, 0, []), (.iaload, 0, 0, []), (.iconst 1, 0, 0, []), (.isub, 0, 0, []), (.invokestatic 35, 90, 0, [3]), (.ireturn, 0, 1, [])]
def bX8_isBoat : cs_BL := [(0, qX8_isBoat_0)]
theorem rX8_isBoat : cs_rows bX8_isBoat 0 = qX8_isBoat_0 := rfl
set_option maxRecDepth 100000 in
theorem kX8_isBoat : cs_chkB iX8_isBoat bX8_isBoat = true := by decide +kernel
def qX8_of_0 : List cs_W := [(.bipush 21, 0, 0, []), (.bipush 8, 0, 0, []), (.iload_n 0, 0, 0, []), (.imul, 0, 0, []), (.iadd, 0, 0, []), (.iload_n 1, 1, 0, []), (.iadd, 0, 0, []), (.ireturn, 0, 0, [])]
def bX8_of : cs_BL := [(0, qX8_of_0)]
theorem rX8_of : cs_rows bX8_of 0 = qX8_of_0 := rfl
set_option maxRecDepth 100000 in
theorem kX8_of : cs_chkB iX8_of bX8_of = true := by decide +kernel
def qX8_get_0 : List cs_W := [(.aload_n 0, 0, 0, []), (.getfield 7, 8, 0, [1]), (.iload_n 1, 1, 0, []), (.iload_n 2, 2, 0, []), (.invokestatic 39, 94, 0, [2]), (.iaload, 0, 0, []), (.ireturn, 0, 0, [])]
def bX8_get : cs_BL := [(0, qX8_get_0)]
theorem rX8_get : cs_rows bX8_get 0 = qX8_get_0 := rfl
set_option maxRecDepth 100000 in
theorem kX8_get : cs_chkB iX8_get bX8_get = true := by decide +kernel
def qX8_record_0 : List cs_W := [(.aload_n 0, 0, 0, []), (.getfield 43, 8, 3, []), (.iconst 4, 0, 0, []), (.if_icmp .ne 44, 3, 0, []), (.iconst 0, 0, 0, []), (.istore_n 1, 1, 0, []), (.nop, 1, 0, [])]
def qX8_record_1 : List cs_W := [(.nop, 0, 10, [])]
def qX8_record_2 : List cs_W := [(.aload_n 0, 0, 0, []), (.dup, 0, 0, []), (.getfield 43, 8, 3, []), (.iconst 1, 0, 0, []), (.isub, 0, 0, []), (.putfield 43, 8, 3, []), (.nop, 3, 0, [])]
def qX8_record_3 : List cs_W := [(.iconst 0, 0, 0, []), (.istore_n 1, 1, 0, []), (.nop, 4, 0, [])]
def qX8_record_4 : List cs_W := [(.nop, 0, 51, [])]
def qX8_record_5 : List cs_W := [(.aload_n 0, 0, 0, []), (.dup, 0, 0, []), (.getfield 43, 8, 3, []), (.iconst 1, 0, 0, []), (.iadd, 0, 0, []), (.putfield 43, 8, 3, []), (.return_, 0, 0, [])]
def qX8_record_6 : List cs_W := [(.iload_n 1, 1, 0, []), (.sipush 471, 0, 0, []), (.if_icmp .ge 25, 2, 0, []), (.aload_n 0, 0, 0, []), (.getfield 16, 8, 2, [1]), (.iload_n 1, 1, 0, []), (.aload_n 0, 0, 0, []), (.getfield 16, 8, 2, [1]), (.iload_n 1, 1, 0, []), (.sipush 157, 0, 0, []), (.iadd, 0, 0, []), (.iaload, 0, 0, []), (.iastore, 0, 0, []), (.iinc 1 1, 0, 0, []), (.goto (-26), 1, 0, [])]
def qX8_record_7 : List cs_W := [(.iload_n 1, 1, 0, []), (.sipush 157, 0, 0, []), (.if_icmp .ge 30, 5, 0, []), (.aload_n 0, 0, 0, []), (.getfield 16, 8, 2, [1]), (.sipush 157, 0, 0, []), (.aload_n 0, 0, 0, []), (.getfield 43, 8, 3, []), (.imul, 0, 0, []), (.iload_n 1, 1, 0, []), (.iadd, 0, 0, []), (.aload_n 0, 0, 0, []), (.getfield 7, 8, 0, [1]), (.iload_n 1, 1, 0, []), (.iaload, 0, 0, []), (.iastore, 0, 0, []), (.iinc 1 1, 0, 0, []), (.goto (-31), 4, 0, [])]
def bX8_record : cs_BL := [(0, qX8_record_0), (10, qX8_record_1), (39, qX8_record_2), (49, qX8_record_3), (51, qX8_record_4), (85, qX8_record_5), (10, qX8_record_6), (51, qX8_record_7)]
theorem rX8_record : cs_rows bX8_record 0 = qX8_record_0 ∧ cs_rows bX8_record 1 = qX8_record_1 ∧ cs_rows bX8_record 2 = qX8_record_2 ∧ cs_rows bX8_record 3 = qX8_record_3 ∧ cs_rows bX8_record 4 = qX8_record_4 ∧ cs_rows bX8_record 5 = qX8_record_5 ∧ cs_rows bX8_record 6 = qX8_record_6 ∧ cs_rows bX8_record 7 = qX8_record_7 := ⟨rfl, rfl, rfl, rfl, rfl, rfl, rfl, rfl⟩
set_option maxRecDepth 100000 in
theorem kX8_record : cs_chkB iX8_record bX8_record = true := by decide +kernel
def qX8_putAside_0 : List cs_W := [(.iconst 0, 0, 0, []), (.istore_n 1, 1, 0, []), (.nop, 1, 0, [])]
def qX8_putAside_1 : List cs_W := [(.nop, 0, 2, [])]
def qX8_putAside_2 : List cs_W := [(.return_, 0, 0, [])]
def qX8_putAside_3 : List cs_W := [(.iload_n 1, 1, 0, []), (.sipush 157, 0, 0, []), (.if_icmp .ge 21, 2, 0, []), (.aload_n 0, 0, 0, []), (.getfield 13, 8, 1, [1]), (.iload_n 1, 1, 0, []), (.aload_n 0, 0, 0, []), (.getfield 7, 8, 0, [1]), (.iload_n 1, 1, 0, []), (.iaload, 0, 0, []), (.iastore, 0, 0, []), (.iinc 1 1, 0, 0, []), (.goto (-22), 1, 0, [])]
def bX8_putAside : cs_BL := [(0, qX8_putAside_0), (2, qX8_putAside_1), (27, qX8_putAside_2), (2, qX8_putAside_3)]
theorem rX8_putAside : cs_rows bX8_putAside 0 = qX8_putAside_0 ∧ cs_rows bX8_putAside 1 = qX8_putAside_1 ∧ cs_rows bX8_putAside 2 = qX8_putAside_2 ∧ cs_rows bX8_putAside 3 = qX8_putAside_3 := ⟨rfl, rfl, rfl, rfl⟩
set_option maxRecDepth 100000 in
theorem kX8_putAside : cs_chkB iX8_putAside bX8_putAside = true := by decide +kernel
def qX8_exchanges_0 : List cs_W := [(.iconst 0, 0, 0, []), (.istore_n 1, 1, 0, []), (.nop, 1, 0, [])]
def qX8_exchanges_1 : List cs_W := [(.nop, 0, 2, [])]
def qX8_exchanges_2 : List cs_W := [(.return_, 0, 0, [])]
def qX8_exchanges_3 : List cs_W := [(.iload_n 1, 1, 0, []), (.sipush 157, 0, 0, []), (.if_icmp .ge 35, 2, 0, []), (.aload_n 0, 0, 0, []), (.getfield 7, 8, 0, [1]), (.iload_n 1, 1, 0, []), (.iaload, 0, 0, []), (.istore_n 2, 2, 0, []), (.aload_n 0, 0, 0, []), (.getfield 7, 8, 0, [1]), (.iload_n 1, 1, 0, []), (.aload_n 0, 0, 0, []), (.getfield 13, 8, 1, [1]), (.iload_n 1, 1, 0, []), (.iaload, 0, 0, []), (.iastore, 0, 0, []), (.aload_n 0, 0, 0, []), (.getfield 13, 8, 1, [1]), (.iload_n 1, 1, 0, []), (.iload_n 2, 2, 0, []), (.iastore, 0, 0, []), (.iinc 1 1, 0, 0, []), (.goto (-36), 1, 0, [])]
def bX8_exchanges : cs_BL := [(0, qX8_exchanges_0), (2, qX8_exchanges_1), (41, qX8_exchanges_2), (2, qX8_exchanges_3)]
theorem rX8_exchanges : cs_rows bX8_exchanges 0 = qX8_exchanges_0 ∧ cs_rows bX8_exchanges 1 = qX8_exchanges_1 ∧ cs_rows bX8_exchanges 2 = qX8_exchanges_2 ∧ cs_rows bX8_exchanges 3 = qX8_exchanges_3 := ⟨rfl, rfl, rfl, rfl⟩
set_option maxRecDepth 100000 in
theorem kX8_exchanges : cs_chkB iX8_exchanges bX8_exchanges = true := by decide +kernel
def qX8_hasArrived_0 : List cs_W := [(.aload_n 0, 0, 0, []), (.iload_n 1, 1, 0, []), (.iconst 5, 0, 0, []), (.invokevirtual 46, 95, 8, [2]), (.bipush (-5), 0, 0, []), (.if_icmp .eq 7, 1, 0, []), (.iconst 1, 0, 0, []), (.goto 4, 2, 0, [])]
def qX8_hasArrived_1 : List cs_W := [(.iconst 0, 0, 0, []), (.nop, 2, 0, [])]
def qX8_hasArrived_2 : List cs_W := [(.ireturn, 0, 1, [])]
def bX8_hasArrived : cs_BL := [(0, qX8_hasArrived_0), (15, qX8_hasArrived_1), (16, qX8_hasArrived_2)]
theorem rX8_hasArrived : cs_rows bX8_hasArrived 0 = qX8_hasArrived_0 ∧ cs_rows bX8_hasArrived 1 = qX8_hasArrived_1 ∧ cs_rows bX8_hasArrived 2 = qX8_hasArrived_2 := ⟨rfl, rfl, rfl⟩
set_option maxRecDepth 100000 in
theorem kX8_hasArrived : cs_chkB iX8_hasArrived bX8_hasArrived = true := by decide +kernel
def qX8_goesUp_0 : List cs_W := [(.aload_n 0, 0, 0, []), (.iload_n 1, 1, 0, []), (.iconst 3, 0, 0, []), (.invokevirtual 46, 95, 8, [2]), (.aload_n 0, 0, 0, []), (.iload_n 1, 1, 0, []), (.iconst 2, 0, 0, []), (.invokevirtual 46, 95, 8, [2]), (.if_icmp .le 7, 1, 0, []), (.iconst 1, 0, 0, []), (.goto 4, 2, 0, [])]
def qX8_goesUp_1 : List cs_W := [(.iconst 0, 0, 0, []), (.nop, 2, 0, [])]
def qX8_goesUp_2 : List cs_W := [(.ireturn, 0, 1, [])]
def bX8_goesUp : cs_BL := [(0, qX8_goesUp_0), (19, qX8_goesUp_1), (20, qX8_goesUp_2)]
theorem rX8_goesUp : cs_rows bX8_goesUp 0 = qX8_goesUp_0 ∧ cs_rows bX8_goesUp 1 = qX8_goesUp_1 ∧ cs_rows bX8_goesUp 2 = qX8_goesUp_2 := ⟨rfl, rfl, rfl⟩
set_option maxRecDepth 100000 in
theorem kX8_goesUp : cs_chkB iX8_goesUp bX8_goesUp = true := by decide +kernel
def qX8_nextOf_0 : List cs_W := [(.aload_n 0, 0, 0, []), (.iload_n 1, 1, 0, []), (.iconst 2, 0, 0, []), (.invokevirtual 46, 95, 8, [2]), (.aload_n 0, 0, 0, []), (.iload_n 1, 1, 0, []), (.invokevirtual 49, 100, 8, [1]), (.ifCond .eq 7, 1, 0, []), (.iconst 1, 0, 0, []), (.goto 4, 2, 0, [])]
def qX8_nextOf_1 : List cs_W := [(.iconst (-1), 0, 0, []), (.nop, 2, 0, [])]
def qX8_nextOf_2 : List cs_W := [(.iadd, 0, 0, []), (.ireturn, 0, 0, [])]
def bX8_nextOf : cs_BL := [(0, qX8_nextOf_0), (18, qX8_nextOf_1), (19, qX8_nextOf_2)]
theorem rX8_nextOf : cs_rows bX8_nextOf 0 = qX8_nextOf_0 ∧ cs_rows bX8_nextOf 1 = qX8_nextOf_1 ∧ cs_rows bX8_nextOf 2 = qX8_nextOf_2 := ⟨rfl, rfl, rfl⟩
set_option maxRecDepth 100000 in
theorem kX8_nextOf : cs_chkB iX8_nextOf bX8_nextOf = true := by decide +kernel
def qX8_lockOf_0 : List cs_W := [(.aload_n 0, 0, 0, []), (.iload_n 1, 1, 0, []), (.invokevirtual 49, 100, 8, [1]), (.ifCond .eq 12, 1, 0, []), (.aload_n 0, 0, 0, []), (.iload_n 1, 1, 0, []), (.iconst 2, 0, 0, []), (.invokevirtual 46, 95, 8, [2]), (.goto 11, 2, 0, [])]
def qX8_lockOf_1 : List cs_W := [(.aload_n 0, 0, 0, []), (.iload_n 1, 1, 0, []), (.iconst 2, 0, 0, []), (.invokevirtual 46, 95, 8, [2]), (.iconst 1, 0, 0, []), (.isub, 0, 0, []), (.nop, 2, 0, [])]
def qX8_lockOf_2 : List cs_W := [(.ireturn, 0, 0, [])]
def bX8_lockOf : cs_BL := [(0, qX8_lockOf_0), (17, qX8_lockOf_1), (25, qX8_lockOf_2)]
theorem rX8_lockOf : cs_rows bX8_lockOf 0 = qX8_lockOf_0 ∧ cs_rows bX8_lockOf 1 = qX8_lockOf_1 ∧ cs_rows bX8_lockOf 2 = qX8_lockOf_2 := ⟨rfl, rfl, rfl⟩
set_option maxRecDepth 100000 in
theorem kX8_lockOf : cs_chkB iX8_lockOf bX8_lockOf = true := by decide +kernel
def qX8_isAground_0 : List cs_W := [(.aload_n 0, 0, 0, []), (.iload_n 1, 1, 0, []), (.iconst 1, 0, 0, []), (.invokevirtual 46, 95, 8, [2]), (.istore_n 2, 2, 0, []), (.aload_n 0, 0, 0, []), (.getfield 7, 8, 0, [1]), (.iconst 0, 0, 0, []), (.aload_n 0, 0, 0, []), (.iload_n 1, 1, 0, []), (.iconst 2, 0, 0, []), (.invokevirtual 46, 95, 8, [2]), (.iadd, 0, 0, []), (.iaload, 0, 0, []), (.iload_n 2, 2, 0, []), (.if_icmp .lt 19, 1, 0, []), (.aload_n 0, 0, 0, []), (.getfield 7, 8, 0, [1]), (.iconst 0, 0, 0, []), (.aload_n 0, 0, 0, []), (.iload_n 1, 1, 0, []), (.invokevirtual 53, 101, 8, [1]), (.iadd, 0, 0, []), (.iaload, 0, 0, []), (.iload_n 2, 2, 0, []), (.if_icmp .ge 7, 2, 0, []), (.nop, 1, 0, [])]
def qX8_isAground_1 : List cs_W := [(.iconst 1, 0, 0, []), (.goto 4, 3, 0, [])]
def qX8_isAground_2 : List cs_W := [(.iconst 0, 0, 0, []), (.nop, 3, 0, [])]
def qX8_isAground_3 : List cs_W := [(.ireturn, 0, 1, [])]
def bX8_isAground : cs_BL := [(0, qX8_isAground_0), (40, qX8_isAground_1), (44, qX8_isAground_2), (45, qX8_isAground_3)]
theorem rX8_isAground : cs_rows bX8_isAground 0 = qX8_isAground_0 ∧ cs_rows bX8_isAground 1 = qX8_isAground_1 ∧ cs_rows bX8_isAground 2 = qX8_isAground_2 ∧ cs_rows bX8_isAground 3 = qX8_isAground_3 := ⟨rfl, rfl, rfl, rfl⟩
set_option maxRecDepth 100000 in
theorem kX8_isAground : cs_chkB iX8_isAground bX8_isAground = true := by decide +kernel
def qX8_waitsAt_0 : List cs_W := [(.aload_n 0, 0, 0, []), (.iload_n 1, 1, 0, []), (.invokevirtual 57, 99, 8, [1]), (.ifCond .ne 25, 1, 0, []), (.aload_n 0, 0, 0, []), (.iload_n 1, 1, 0, []), (.invokevirtual 60, 102, 8, [1]), (.iload_n 2, 2, 0, []), (.if_icmp .ne 16, 1, 0, []), (.aload_n 0, 0, 0, []), (.iload_n 1, 1, 0, []), (.invokevirtual 49, 100, 8, [1]), (.iload_n 3, 3, 0, []), (.if_icmp .ne 7, 1, 0, []), (.iconst 1, 0, 0, []), (.goto 4, 2, 0, [])]
def qX8_waitsAt_1 : List cs_W := [(.iconst 0, 0, 0, []), (.nop, 2, 0, [])]
def qX8_waitsAt_2 : List cs_W := [(.ireturn, 0, 1, [])]
def bX8_waitsAt : cs_BL := [(0, qX8_waitsAt_0), (30, qX8_waitsAt_1), (31, qX8_waitsAt_2)]
theorem rX8_waitsAt : cs_rows bX8_waitsAt 0 = qX8_waitsAt_0 ∧ cs_rows bX8_waitsAt 1 = qX8_waitsAt_1 ∧ cs_rows bX8_waitsAt 2 = qX8_waitsAt_2 := ⟨rfl, rfl, rfl⟩
set_option maxRecDepth 100000 in
theorem kX8_waitsAt : cs_chkB iX8_waitsAt bX8_waitsAt = true := by decide +kernel
def qX8_queue_0 : List cs_W := [(.iconst 0, 0, 0, []), (.istore_n 3, 3, 0, []), (.iconst 0, 0, 0, []), (.istore 4, 4, 0, []), (.nop, 1, 0, [])]
def qX8_queue_1 : List cs_W := [(.nop, 0, 5, [])]
def qX8_queue_2 : List cs_W := [(.iconst 0, 0, 0, []), (.nop, 3, 0, [])]
def qX8_queue_3 : List cs_W := [(.iadd, 0, 0, []), (.istore_n 3, 3, 0, []), (.iinc 4 1, 0, 0, []), (.goto (-35), 1, 0, [])]
def qX8_queue_4 : List cs_W := [(.iload_n 3, 3, 0, []), (.ireturn, 0, 0, [])]
def qX8_queue_5 : List cs_W := [(.iload 4, 4, 0, []), (.aload_n 0, 0, 0, []), (.getfield 7, 8, 0, [1]), (.sipush 150, 0, 0, []), (.iaload, 0, 0, []), (.if_icmp .ge 28, 4, 0, []), (.iload_n 3, 3, 0, []), (.aload_n 0, 0, 0, []), (.iload 4, 4, 0, []), (.iload_n 1, 1, 0, []), (.iload_n 2, 2, 0, []), (.invokevirtual 63, 104, 8, [3]), (.ifCond .eq 7, 2, 0, []), (.iconst 1, 0, 0, []), (.goto 4, 3, 0, [])]
def bX8_queue : cs_BL := [(0, qX8_queue_0), (5, qX8_queue_1), (34, qX8_queue_2), (35, qX8_queue_3), (43, qX8_queue_4), (5, qX8_queue_5)]
theorem rX8_queue : cs_rows bX8_queue 0 = qX8_queue_0 ∧ cs_rows bX8_queue 1 = qX8_queue_1 ∧ cs_rows bX8_queue 2 = qX8_queue_2 ∧ cs_rows bX8_queue 3 = qX8_queue_3 ∧ cs_rows bX8_queue 4 = qX8_queue_4 ∧ cs_rows bX8_queue 5 = qX8_queue_5 := ⟨rfl, rfl, rfl, rfl, rfl, rfl⟩
set_option maxRecDepth 100000 in
theorem kX8_queue : cs_chkB iX8_queue bX8_queue = true := by decide +kernel
def qX8_firstOf_0 : List cs_W := [(.bipush (-5), 0, 0, []), (.istore_n 3, 3, 0, []), (.iconst 0, 0, 0, []), (.istore 4, 4, 0, []), (.nop, 1, 0, [])]
def qX8_firstOf_1 : List cs_W := [(.nop, 0, 6, [])]
def qX8_firstOf_2 : List cs_W := [(.iconst 1, 0, 0, []), (.goto 4, 4, 0, [])]
def qX8_firstOf_3 : List cs_W := [(.iconst 0, 0, 0, []), (.nop, 4, 0, [])]
def qX8_firstOf_4 : List cs_W := [(.istore 5, 5, 0, []), (.iload 5, 5, 0, []), (.ifCond .eq 8, 5, 0, []), (.iload 4, 4, 0, []), (.goto 4, 6, 0, [])]
def qX8_firstOf_5 : List cs_W := [(.iload_n 3, 3, 0, []), (.nop, 6, 0, [])]
def qX8_firstOf_6 : List cs_W := [(.istore_n 3, 3, 0, []), (.iinc 4 1, 0, 0, []), (.goto (-70), 1, 0, [])]
def qX8_firstOf_7 : List cs_W := [(.iload_n 3, 3, 0, []), (.ireturn, 0, 0, [])]
def qX8_firstOf_8 : List cs_W := [(.iload 4, 4, 0, []), (.aload_n 0, 0, 0, []), (.getfield 7, 8, 0, [1]), (.sipush 150, 0, 0, []), (.iaload, 0, 0, []), (.if_icmp .ge 63, 7, 0, []), (.aload_n 0, 0, 0, []), (.iload 4, 4, 0, []), (.iload_n 1, 1, 0, []), (.iload_n 2, 2, 0, []), (.invokevirtual 63, 104, 8, [3]), (.ifCond .eq 31, 3, 0, []), (.iload_n 3, 3, 0, []), (.bipush (-5), 0, 0, []), (.if_icmp .eq 21, 2, 0, []), (.aload_n 0, 0, 0, []), (.iload 4, 4, 0, []), (.bipush 7, 0, 0, []), (.invokevirtual 46, 95, 8, [2]), (.aload_n 0, 0, 0, []), (.iload_n 3, 3, 0, []), (.bipush 7, 0, 0, []), (.invokevirtual 46, 95, 8, [2]), (.if_icmp .ge 7, 3, 0, []), (.nop, 2, 0, [])]
def bX8_firstOf : cs_BL := [(0, qX8_firstOf_0), (6, qX8_firstOf_1), (54, qX8_firstOf_2), (58, qX8_firstOf_3), (59, qX8_firstOf_4), (71, qX8_firstOf_5), (72, qX8_firstOf_6), (79, qX8_firstOf_7), (6, qX8_firstOf_8)]
theorem rX8_firstOf : cs_rows bX8_firstOf 0 = qX8_firstOf_0 ∧ cs_rows bX8_firstOf 1 = qX8_firstOf_1 ∧ cs_rows bX8_firstOf 2 = qX8_firstOf_2 ∧ cs_rows bX8_firstOf 3 = qX8_firstOf_3 ∧ cs_rows bX8_firstOf 4 = qX8_firstOf_4 ∧ cs_rows bX8_firstOf 5 = qX8_firstOf_5 ∧ cs_rows bX8_firstOf 6 = qX8_firstOf_6 ∧ cs_rows bX8_firstOf 7 = qX8_firstOf_7 ∧ cs_rows bX8_firstOf 8 = qX8_firstOf_8 := ⟨rfl, rfl, rfl, rfl, rfl, rfl, rfl, rfl, rfl⟩
set_option maxRecDepth 100000 in
theorem kX8_firstOf : cs_chkB iX8_firstOf bX8_firstOf = true := by decide +kernel
def qX8_placeOf_0 : List cs_W := [(.iconst 0, 0, 0, []), (.istore_n 2, 2, 0, []), (.iconst 0, 0, 0, []), (.istore_n 3, 3, 0, []), (.nop, 1, 0, [])]
def qX8_placeOf_1 : List cs_W := [(.nop, 0, 4, [])]
def qX8_placeOf_2 : List cs_W := [(.iconst 0, 0, 0, []), (.nop, 3, 0, [])]
def qX8_placeOf_3 : List cs_W := [(.iadd, 0, 0, []), (.istore_n 2, 2, 0, []), (.iinc 3 1, 0, 0, []), (.goto (-58), 1, 0, [])]
def qX8_placeOf_4 : List cs_W := [(.iload_n 2, 2, 0, []), (.ireturn, 0, 0, [])]
def qX8_placeOf_5 : List cs_W := [(.iload_n 3, 3, 0, []), (.aload_n 0, 0, 0, []), (.getfield 7, 8, 0, [1]), (.sipush 150, 0, 0, []), (.iaload, 0, 0, []), (.if_icmp .ge 52, 4, 0, []), (.iload_n 2, 2, 0, []), (.aload_n 0, 0, 0, []), (.iload_n 3, 3, 0, []), (.aload_n 0, 0, 0, []), (.iload_n 1, 1, 0, []), (.invokevirtual 60, 102, 8, [1]), (.aload_n 0, 0, 0, []), (.iload_n 1, 1, 0, []), (.invokevirtual 49, 100, 8, [1]), (.invokevirtual 63, 104, 8, [3]), (.ifCond .eq 24, 2, 0, []), (.aload_n 0, 0, 0, []), (.iload_n 3, 3, 0, []), (.bipush 7, 0, 0, []), (.invokevirtual 46, 95, 8, [2]), (.aload_n 0, 0, 0, []), (.iload_n 1, 1, 0, []), (.bipush 7, 0, 0, []), (.invokevirtual 46, 95, 8, [2]), (.if_icmp .ge 7, 2, 0, []), (.iconst 1, 0, 0, []), (.goto 4, 3, 0, [])]
def bX8_placeOf : cs_BL := [(0, qX8_placeOf_0), (4, qX8_placeOf_1), (56, qX8_placeOf_2), (57, qX8_placeOf_3), (65, qX8_placeOf_4), (4, qX8_placeOf_5)]
theorem rX8_placeOf : cs_rows bX8_placeOf 0 = qX8_placeOf_0 ∧ cs_rows bX8_placeOf 1 = qX8_placeOf_1 ∧ cs_rows bX8_placeOf 2 = qX8_placeOf_2 ∧ cs_rows bX8_placeOf 3 = qX8_placeOf_3 ∧ cs_rows bX8_placeOf 4 = qX8_placeOf_4 ∧ cs_rows bX8_placeOf 5 = qX8_placeOf_5 := ⟨rfl, rfl, rfl, rfl, rfl, rfl⟩
set_option maxRecDepth 100000 in
theorem kX8_placeOf : cs_chkB iX8_placeOf bX8_placeOf = true := by decide +kernel
def qX8_joins_0 : List cs_W := [(.aload_n 0, 0, 0, []), (.getfield 7, 8, 0, [1]), (.iload_n 1, 1, 0, []), (.bipush 7, 0, 0, []), (.invokestatic 39, 94, 0, [2]), (.aload_n 0, 0, 0, []), (.getfield 7, 8, 0, [1]), (.sipush 151, 0, 0, []), (.iaload, 0, 0, []), (.iastore, 0, 0, []), (.aload_n 0, 0, 0, []), (.getfield 7, 8, 0, [1]), (.sipush 151, 0, 0, []), (.dup2, 0, 0, []), (.iaload, 0, 0, []), (.iconst 1, 0, 0, []), (.iadd, 0, 0, []), (.iastore, 0, 0, []), (.return_, 0, 0, [])]
def bX8_joins : cs_BL := [(0, qX8_joins_0)]
theorem rX8_joins : cs_rows bX8_joins 0 = qX8_joins_0 := rfl
set_option maxRecDepth 100000 in
theorem kX8_joins : cs_chkB iX8_joins bX8_joins = true := by decide +kernel
def qX8_isHigh_0 : List cs_W := [(.aload_n 0, 0, 0, []), (.getfield 7, 8, 0, [1]), (.bipush 6, 0, 0, []), (.iload_n 1, 1, 0, []), (.iadd, 0, 0, []), (.iaload, 0, 0, []), (.ifCond .le 7, 1, 0, []), (.iconst 1, 0, 0, []), (.goto 4, 2, 0, [])]
def qX8_isHigh_1 : List cs_W := [(.iconst 0, 0, 0, []), (.nop, 2, 0, [])]
def qX8_isHigh_2 : List cs_W := [(.ireturn, 0, 1, [])]
def bX8_isHigh : cs_BL := [(0, qX8_isHigh_0), (16, qX8_isHigh_1), (17, qX8_isHigh_2)]
theorem rX8_isHigh : cs_rows bX8_isHigh 0 = qX8_isHigh_0 ∧ cs_rows bX8_isHigh 1 = qX8_isHigh_1 ∧ cs_rows bX8_isHigh 2 = qX8_isHigh_2 := ⟨rfl, rfl, rfl⟩
set_option maxRecDepth 100000 in
theorem kX8_isHigh : cs_chkB iX8_isHigh bX8_isHigh = true := by decide +kernel
def qX8_canTurn_0 : List cs_W := [(.aload_n 0, 0, 0, []), (.iload_n 1, 1, 0, []), (.invokevirtual 67, 109, 8, [1]), (.ifCond .ne 24, 1, 0, []), (.aload_n 0, 0, 0, []), (.getfield 7, 8, 0, [1]), (.iconst 0, 0, 0, []), (.iload_n 1, 1, 0, []), (.iadd, 0, 0, []), (.iconst 1, 0, 0, []), (.iadd, 0, 0, []), (.iaload, 0, 0, []), (.aload_n 0, 0, 0, []), (.getfield 7, 8, 0, [1]), (.sipush 154, 0, 0, []), (.iaload, 0, 0, []), (.if_icmp .lt 7, 2, 0, []), (.nop, 1, 0, [])]
def qX8_canTurn_1 : List cs_W := [(.iconst 1, 0, 0, []), (.goto 4, 3, 0, [])]
def qX8_canTurn_2 : List cs_W := [(.iconst 0, 0, 0, []), (.nop, 3, 0, [])]
def qX8_canTurn_3 : List cs_W := [(.ireturn, 0, 1, [])]
def bX8_canTurn : cs_BL := [(0, qX8_canTurn_0), (29, qX8_canTurn_1), (33, qX8_canTurn_2), (34, qX8_canTurn_3)]
theorem rX8_canTurn : cs_rows bX8_canTurn 0 = qX8_canTurn_0 ∧ cs_rows bX8_canTurn 1 = qX8_canTurn_1 ∧ cs_rows bX8_canTurn 2 = qX8_canTurn_2 ∧ cs_rows bX8_canTurn 3 = qX8_canTurn_3 := ⟨rfl, rfl, rfl, rfl⟩
set_option maxRecDepth 100000 in
theorem kX8_canTurn : cs_chkB iX8_canTurn bX8_canTurn = true := by decide +kernel
def qX8_turns_0 : List cs_W := [(.aload_n 0, 0, 0, []), (.iload_n 1, 1, 0, []), (.invokevirtual 67, 109, 8, [1]), (.ifCond .ne 55, 1, 0, []), (.aload_n 0, 0, 0, []), (.getfield 7, 8, 0, [1]), (.iconst 0, 0, 0, []), (.iload_n 1, 1, 0, []), (.iadd, 0, 0, []), (.iconst 1, 0, 0, []), (.iadd, 0, 0, []), (.dup2, 0, 0, []), (.iaload, 0, 0, []), (.aload_n 0, 0, 0, []), (.getfield 7, 8, 0, [1]), (.sipush 154, 0, 0, []), (.iaload, 0, 0, []), (.isub, 0, 0, []), (.iastore, 0, 0, []), (.aload_n 0, 0, 0, []), (.getfield 7, 8, 0, [1]), (.bipush 6, 0, 0, []), (.iload_n 1, 1, 0, []), (.iadd, 0, 0, []), (.aload_n 0, 0, 0, []), (.getfield 7, 8, 0, [1]), (.sipush 154, 0, 0, []), (.iaload, 0, 0, []), (.iastore, 0, 0, []), (.aload_n 0, 0, 0, []), (.getfield 7, 8, 0, [1]), (.bipush 16, 0, 0, []), (.iload_n 1, 1, 0, []), (.iadd, 0, 0, []), (.dup2, 0, 0, []), (.iaload, 0, 0, []), (.iconst 1, 0, 0, []), (.iadd, 0, 0, []), (.iastore, 0, 0, []), (.return_, 0, 0, [])]
def qX8_turns_1 : List cs_W := [(.aload_n 0, 0, 0, []), (.getfield 7, 8, 0, [1]), (.iconst 0, 0, 0, []), (.iload_n 1, 1, 0, []), (.iadd, 0, 0, []), (.iaload, 0, 0, []), (.aload_n 0, 0, 0, []), (.getfield 7, 8, 0, [1]), (.bipush 6, 0, 0, []), (.iload_n 1, 1, 0, []), (.iadd, 0, 0, []), (.iaload, 0, 0, []), (.iadd, 0, 0, []), (.istore_n 2, 2, 0, []), (.aload_n 0, 0, 0, []), (.getfield 7, 8, 0, [1]), (.bipush 6, 0, 0, []), (.iload_n 1, 1, 0, []), (.iadd, 0, 0, []), (.iconst 0, 0, 0, []), (.iastore, 0, 0, []), (.aload_n 0, 0, 0, []), (.getfield 7, 8, 0, [1]), (.iconst 0, 0, 0, []), (.iload_n 1, 1, 0, []), (.iadd, 0, 0, []), (.iload_n 2, 2, 0, []), (.bipush 90, 0, 0, []), (.if_icmp .le 8, 2, 0, []), (.bipush 90, 0, 0, []), (.goto 4, 3, 0, [])]
def qX8_turns_2 : List cs_W := [(.iload_n 2, 2, 0, []), (.nop, 3, 0, [])]
def qX8_turns_3 : List cs_W := [(.iastore, 0, 0, []), (.aload_n 0, 0, 0, []), (.getfield 7, 8, 0, [1]), (.sipush 152, 0, 0, []), (.dup2, 0, 0, []), (.iaload, 0, 0, []), (.iload_n 2, 2, 0, []), (.bipush 90, 0, 0, []), (.if_icmp .le 10, 4, 0, []), (.iload_n 2, 2, 0, []), (.bipush 90, 0, 0, []), (.isub, 0, 0, []), (.goto 4, 5, 0, [])]
def qX8_turns_4 : List cs_W := [(.iconst 0, 0, 0, []), (.nop, 5, 0, [])]
def qX8_turns_5 : List cs_W := [(.iadd, 0, 0, []), (.iastore, 0, 0, []), (.return_, 0, 0, [])]
def bX8_turns : cs_BL := [(0, qX8_turns_0), (60, qX8_turns_1), (107, qX8_turns_2), (108, qX8_turns_3), (131, qX8_turns_4), (132, qX8_turns_5)]
theorem rX8_turns : cs_rows bX8_turns 0 = qX8_turns_0 ∧ cs_rows bX8_turns 1 = qX8_turns_1 ∧ cs_rows bX8_turns 2 = qX8_turns_2 ∧ cs_rows bX8_turns 3 = qX8_turns_3 ∧ cs_rows bX8_turns 4 = qX8_turns_4 ∧ cs_rows bX8_turns 5 = qX8_turns_5 := ⟨rfl, rfl, rfl, rfl, rfl, rfl⟩
set_option maxRecDepth 100000 in
theorem kX8_turns : cs_chkB iX8_turns bX8_turns = true := by decide +kernel
def qX8_goes_0 : List cs_W := [(.aload_n 0, 0, 0, []), (.iload_n 1, 1, 0, []), (.iconst 0, 0, 0, []), (.invokevirtual 46, 95, 8, [2]), (.aload_n 0, 0, 0, []), (.iload_n 1, 1, 0, []), (.iconst 4, 0, 0, []), (.invokevirtual 46, 95, 8, [2]), (.isub, 0, 0, []), (.istore_n 2, 2, 0, []), (.aload_n 0, 0, 0, []), (.iload_n 1, 1, 0, []), (.invokevirtual 53, 101, 8, [1]), (.istore_n 3, 3, 0, []), (.aload_n 0, 0, 0, []), (.getfield 7, 8, 0, [1]), (.bipush 11, 0, 0, []), (.aload_n 0, 0, 0, []), (.iload_n 1, 1, 0, []), (.invokevirtual 60, 102, 8, [1]), (.iadd, 0, 0, []), (.dup2, 0, 0, []), (.iaload, 0, 0, []), (.iconst 1, 0, 0, []), (.iadd, 0, 0, []), (.iastore, 0, 0, []), (.aload_n 0, 0, 0, []), (.getfield 7, 8, 0, [1]), (.iload_n 1, 1, 0, []), (.bipush 6, 0, 0, []), (.invokestatic 39, 94, 0, [2]), (.dup2, 0, 0, []), (.iaload, 0, 0, []), (.iconst 1, 0, 0, []), (.iadd, 0, 0, []), (.iastore, 0, 0, []), (.iload_n 2, 2, 0, []), (.aload_n 0, 0, 0, []), (.getfield 7, 8, 0, [1]), (.sipush 155, 0, 0, []), (.iaload, 0, 0, []), (.if_icmp .le 25, 1, 0, []), (.aload_n 0, 0, 0, []), (.getfield 7, 8, 0, [1]), (.iload_n 1, 1, 0, []), (.iconst 4, 0, 0, []), (.invokestatic 39, 94, 0, [2]), (.dup2, 0, 0, []), (.iaload, 0, 0, []), (.aload_n 0, 0, 0, []), (.getfield 7, 8, 0, [1]), (.sipush 155, 0, 0, []), (.iaload, 0, 0, []), (.iadd, 0, 0, []), (.iastore, 0, 0, []), (.return_, 0, 0, [])]
def qX8_goes_1 : List cs_W := [(.aload_n 0, 0, 0, []), (.getfield 7, 8, 0, [1]), (.iload_n 1, 1, 0, []), (.iconst 4, 0, 0, []), (.invokestatic 39, 94, 0, [2]), (.iconst 0, 0, 0, []), (.iastore, 0, 0, []), (.aload_n 0, 0, 0, []), (.getfield 7, 8, 0, [1]), (.iload_n 1, 1, 0, []), (.iconst 2, 0, 0, []), (.invokestatic 39, 94, 0, [2]), (.iload_n 3, 3, 0, []), (.iastore, 0, 0, []), (.iload_n 3, 3, 0, []), (.aload_n 0, 0, 0, []), (.iload_n 1, 1, 0, []), (.iconst 3, 0, 0, []), (.invokevirtual 46, 95, 8, [2]), (.if_icmp .ne 24, 2, 0, []), (.aload_n 0, 0, 0, []), (.getfield 7, 8, 0, [1]), (.iload_n 1, 1, 0, []), (.iconst 5, 0, 0, []), (.invokestatic 39, 94, 0, [2]), (.aload_n 0, 0, 0, []), (.getfield 7, 8, 0, [1]), (.sipush 149, 0, 0, []), (.iaload, 0, 0, []), (.iastore, 0, 0, []), (.goto 8, 3, 0, [])]
def qX8_goes_2 : List cs_W := [(.aload_n 0, 0, 0, []), (.iload_n 1, 1, 0, []), (.invokevirtual 70, 108, 8, [1]), (.nop, 3, 0, [])]
def qX8_goes_3 : List cs_W := [(.return_, 0, 0, [])]
def bX8_goes : cs_BL := [(0, qX8_goes_0), (86, qX8_goes_1), (139, qX8_goes_2), (144, qX8_goes_3)]
theorem rX8_goes : cs_rows bX8_goes 0 = qX8_goes_0 ∧ cs_rows bX8_goes 1 = qX8_goes_1 ∧ cs_rows bX8_goes 2 = qX8_goes_2 ∧ cs_rows bX8_goes 3 = qX8_goes_3 := ⟨rfl, rfl, rfl, rfl⟩
set_option maxRecDepth 100000 in
theorem kX8_goes : cs_chkB iX8_goes bX8_goes = true := by decide +kernel
def qX8_hindrance_0 : List cs_W := [(.aload_n 0, 0, 0, []), (.iload_n 1, 1, 0, []), (.invokevirtual 60, 102, 8, [1]), (.istore_n 2, 2, 0, []), (.aload_n 0, 0, 0, []), (.iload_n 1, 1, 0, []), (.invokevirtual 74, 103, 8, [1]), (.ifCond .eq 5, 1, 0, []), (.iconst 2, 0, 0, []), (.ireturn, 0, 0, [])]
def qX8_hindrance_1 : List cs_W := [(.aload_n 0, 0, 0, []), (.iload_n 1, 1, 0, []), (.invokevirtual 77, 107, 8, [1]), (.ifCond .le 5, 2, 0, []), (.iconst 3, 0, 0, []), (.ireturn, 0, 0, [])]
def qX8_hindrance_2 : List cs_W := [(.aload_n 0, 0, 0, []), (.iload_n 2, 2, 0, []), (.invokevirtual 67, 109, 8, [1]), (.aload_n 0, 0, 0, []), (.iload_n 1, 1, 0, []), (.invokevirtual 49, 100, 8, [1]), (.if_icmp .ne 7, 3, 0, []), (.iconst 4, 0, 0, []), (.goto 16, 5, 0, [])]
def qX8_hindrance_3 : List cs_W := [(.aload_n 0, 0, 0, []), (.iload_n 2, 2, 0, []), (.invokevirtual 80, 110, 8, [1]), (.ifCond .eq 7, 4, 0, []), (.iconst 0, 0, 0, []), (.goto 4, 5, 0, [])]
def qX8_hindrance_4 : List cs_W := [(.iconst 5, 0, 0, []), (.nop, 5, 0, [])]
def qX8_hindrance_5 : List cs_W := [(.ireturn, 0, 0, [])]
def bX8_hindrance : cs_BL := [(0, qX8_hindrance_0), (16, qX8_hindrance_1), (26, qX8_hindrance_2), (43, qX8_hindrance_3), (55, qX8_hindrance_4), (56, qX8_hindrance_5)]
theorem rX8_hindrance : cs_rows bX8_hindrance 0 = qX8_hindrance_0 ∧ cs_rows bX8_hindrance 1 = qX8_hindrance_1 ∧ cs_rows bX8_hindrance 2 = qX8_hindrance_2 ∧ cs_rows bX8_hindrance 3 = qX8_hindrance_3 ∧ cs_rows bX8_hindrance 4 = qX8_hindrance_4 ∧ cs_rows bX8_hindrance 5 = qX8_hindrance_5 := ⟨rfl, rfl, rfl, rfl, rfl, rfl⟩
set_option maxRecDepth 100000 in
theorem kX8_hindrance : cs_chkB iX8_hindrance bX8_hindrance = true := by decide +kernel
def qX8_acts_0 : List cs_W := [(.aload_n 0, 0, 0, []), (.getfield 32, 8, 10, []), (.bipush (-5), 0, 0, []), (.if_icmp .eq 47, 1, 0, []), (.aload_n 0, 0, 0, []), (.aload_n 0, 0, 0, []), (.getfield 32, 8, 10, []), (.invokevirtual 57, 99, 8, [1]), (.ifCond .ne 36, 1, 0, []), (.aload_n 0, 0, 0, []), (.aload_n 0, 0, 0, []), (.getfield 32, 8, 10, []), (.invokevirtual 60, 102, 8, [1]), (.iload_n 1, 1, 0, []), (.if_icmp .ne 24, 1, 0, []), (.aload_n 0, 0, 0, []), (.getfield 83, 8, 11, []), (.bipush (-5), 0, 0, []), (.if_icmp .ne 15, 1, 0, []), (.aload_n 0, 0, 0, []), (.aload_n 0, 0, 0, []), (.aload_n 0, 0, 0, []), (.getfield 32, 8, 10, []), (.invokevirtual 86, 113, 8, [1]), (.putfield 83, 8, 11, []), (.nop, 1, 0, [])]
def qX8_acts_1 : List cs_W := [(.nop, 0, 53, [])]
def qX8_acts_2 : List cs_W := [(.iconst 0, 0, 0, []), (.nop, 3, 0, [])]
def qX8_acts_3 : List cs_W := [(.nop, 0, 66, [])]
def qX8_acts_4 : List cs_W := [(.aload_n 0, 0, 0, []), (.iload_n 1, 1, 0, []), (.iload_n 2, 2, 0, []), (.ifCond .ne 7, 5, 0, []), (.iconst 1, 0, 0, []), (.goto 4, 6, 0, [])]
def qX8_acts_5 : List cs_W := [(.iconst 0, 0, 0, []), (.nop, 6, 0, [])]
def qX8_acts_6 : List cs_W := [(.invokevirtual 99, 105, 8, [2]), (.ifCond .le 16, 7, 0, []), (.aload_n 0, 0, 0, []), (.iload_n 1, 1, 0, []), (.invokevirtual 80, 110, 8, [1]), (.ifCond .eq 8, 7, 0, []), (.aload_n 0, 0, 0, []), (.iload_n 1, 1, 0, []), (.invokevirtual 93, 111, 8, [1]), (.nop, 7, 0, [])]
def qX8_acts_7 : List cs_W := [(.return_, 0, 0, [])]
def qX8_acts_8 : List cs_W := [(.aload_n 0, 0, 0, []), (.iload_n 1, 1, 0, []), (.invokevirtual 67, 109, 8, [1]), (.ifCond .ne 7, 2, 0, []), (.iconst 1, 0, 0, []), (.goto 4, 3, 0, [])]
def qX8_acts_9 : List cs_W := [(.istore_n 2, 2, 0, []), (.aload_n 0, 0, 0, []), (.iload_n 1, 1, 0, []), (.iload_n 2, 2, 0, []), (.invokevirtual 89, 106, 8, [2]), (.istore_n 3, 3, 0, []), (.iload_n 3, 3, 0, []), (.bipush (-5), 0, 0, []), (.if_icmp .eq 32, 4, 0, []), (.aload_n 0, 0, 0, []), (.iload_n 3, 3, 0, []), (.invokevirtual 74, 103, 8, [1]), (.ifCond .ne 54, 7, 0, []), (.aload_n 0, 0, 0, []), (.iload_n 1, 1, 0, []), (.invokevirtual 80, 110, 8, [1]), (.ifCond .eq 46, 7, 0, []), (.aload_n 0, 0, 0, []), (.iload_n 1, 1, 0, []), (.invokevirtual 93, 111, 8, [1]), (.aload_n 0, 0, 0, []), (.iload_n 3, 3, 0, []), (.invokevirtual 96, 112, 8, [1]), (.goto 33, 7, 0, [])]
def bX8_acts : cs_BL := [(0, qX8_acts_0), (53, qX8_acts_1), (65, qX8_acts_2), (66, qX8_acts_3), (109, qX8_acts_4), (119, qX8_acts_5), (120, qX8_acts_6), (139, qX8_acts_7), (53, qX8_acts_8), (66, qX8_acts_9)]
theorem rX8_acts : cs_rows bX8_acts 0 = qX8_acts_0 ∧ cs_rows bX8_acts 1 = qX8_acts_1 ∧ cs_rows bX8_acts 2 = qX8_acts_2 ∧ cs_rows bX8_acts 3 = qX8_acts_3 ∧ cs_rows bX8_acts 4 = qX8_acts_4 ∧ cs_rows bX8_acts 5 = qX8_acts_5 ∧ cs_rows bX8_acts 6 = qX8_acts_6 ∧ cs_rows bX8_acts 7 = qX8_acts_7 ∧ cs_rows bX8_acts 8 = qX8_acts_8 ∧ cs_rows bX8_acts 9 = qX8_acts_9 := ⟨rfl, rfl, rfl, rfl, rfl, rfl, rfl, rfl, rfl, rfl⟩
set_option maxRecDepth 100000 in
theorem kX8_acts : cs_chkB iX8_acts bX8_acts = true := by decide +kernel
def qX8_flows_0 : List cs_W := [(.aload_n 0, 0, 0, []), (.getfield 7, 8, 0, [1]), (.iconst 5, 0, 0, []), (.dup2, 0, 0, []), (.iaload, 0, 0, []), (.aload_n 0, 0, 0, []), (.getfield 7, 8, 0, [1]), (.sipush 156, 0, 0, []), (.iaload, 0, 0, []), (.iadd, 0, 0, []), (.iastore, 0, 0, []), (.aload_n 0, 0, 0, []), (.getfield 7, 8, 0, [1]), (.sipush 153, 0, 0, []), (.dup2, 0, 0, []), (.iaload, 0, 0, []), (.aload_n 0, 0, 0, []), (.getfield 7, 8, 0, [1]), (.sipush 156, 0, 0, []), (.iaload, 0, 0, []), (.iadd, 0, 0, []), (.iastore, 0, 0, []), (.iconst 5, 0, 0, []), (.istore_n 1, 1, 0, []), (.nop, 1, 0, [])]
def qX8_flows_1 : List cs_W := [(.nop, 0, 38, [])]
def qX8_flows_2 : List cs_W := [(.iconst 0, 0, 0, []), (.nop, 3, 0, [])]
def qX8_flows_3 : List cs_W := [(.istore_n 2, 2, 0, []), (.aload_n 0, 0, 0, []), (.getfield 7, 8, 0, [1]), (.iconst 0, 0, 0, []), (.iload_n 1, 1, 0, []), (.iadd, 0, 0, []), (.dup2, 0, 0, []), (.iaload, 0, 0, []), (.iload_n 2, 2, 0, []), (.isub, 0, 0, []), (.iastore, 0, 0, []), (.iload_n 1, 1, 0, []), (.ifCond .le 11, 4, 0, []), (.iconst 0, 0, 0, []), (.iload_n 1, 1, 0, []), (.iadd, 0, 0, []), (.iconst 1, 0, 0, []), (.isub, 0, 0, []), (.goto 6, 5, 0, [])]
def qX8_flows_4 : List cs_W := [(.sipush 152, 0, 0, []), (.nop, 5, 0, [])]
def qX8_flows_5 : List cs_W := [(.istore_n 3, 3, 0, []), (.aload_n 0, 0, 0, []), (.getfield 7, 8, 0, [1]), (.iload_n 3, 3, 0, []), (.dup2, 0, 0, []), (.iaload, 0, 0, []), (.iload_n 2, 2, 0, []), (.iadd, 0, 0, []), (.iastore, 0, 0, []), (.iinc 1 (-1), 0, 0, []), (.goto (-74), 1, 0, [])]
def qX8_flows_6 : List cs_W := [(.return_, 0, 0, [])]
def qX8_flows_7 : List cs_W := [(.iload_n 1, 1, 0, []), (.ifCond .lt 76, 6, 0, []), (.aload_n 0, 0, 0, []), (.getfield 7, 8, 0, [1]), (.iconst 0, 0, 0, []), (.iload_n 1, 1, 0, []), (.iadd, 0, 0, []), (.iaload, 0, 0, []), (.bipush 90, 0, 0, []), (.if_icmp .le 17, 2, 0, []), (.aload_n 0, 0, 0, []), (.getfield 7, 8, 0, [1]), (.iconst 0, 0, 0, []), (.iload_n 1, 1, 0, []), (.iadd, 0, 0, []), (.iaload, 0, 0, []), (.bipush 90, 0, 0, []), (.isub, 0, 0, []), (.goto 4, 3, 0, [])]
def bX8_flows : cs_BL := [(0, qX8_flows_0), (38, qX8_flows_1), (69, qX8_flows_2), (70, qX8_flows_3), (95, qX8_flows_4), (98, qX8_flows_5), (115, qX8_flows_6), (38, qX8_flows_7)]
theorem rX8_flows : cs_rows bX8_flows 0 = qX8_flows_0 ∧ cs_rows bX8_flows 1 = qX8_flows_1 ∧ cs_rows bX8_flows 2 = qX8_flows_2 ∧ cs_rows bX8_flows 3 = qX8_flows_3 ∧ cs_rows bX8_flows 4 = qX8_flows_4 ∧ cs_rows bX8_flows 5 = qX8_flows_5 ∧ cs_rows bX8_flows 6 = qX8_flows_6 ∧ cs_rows bX8_flows 7 = qX8_flows_7 := ⟨rfl, rfl, rfl, rfl, rfl, rfl, rfl, rfl⟩
set_option maxRecDepth 100000 in
theorem kX8_flows : cs_chkB iX8_flows bX8_flows = true := by decide +kernel
def qX8_ticks_0 : List cs_W := [(.iconst 0, 0, 0, []), (.istore_n 1, 1, 0, []), (.nop, 1, 0, [])]
def qX8_ticks_1 : List cs_W := [(.nop, 0, 2, [])]
def qX8_ticks_2 : List cs_W := [(.aload_n 0, 0, 0, []), (.invokevirtual 105, 115, 8, [0]), (.aload_n 0, 0, 0, []), (.getfield 7, 8, 0, [1]), (.sipush 149, 0, 0, []), (.dup2, 0, 0, []), (.iaload, 0, 0, []), (.iconst 1, 0, 0, []), (.iadd, 0, 0, []), (.iastore, 0, 0, []), (.return_, 0, 0, [])]
def qX8_ticks_3 : List cs_W := [(.iload_n 1, 1, 0, []), (.iconst 5, 0, 0, []), (.if_icmp .ge 14, 2, 0, []), (.aload_n 0, 0, 0, []), (.iload_n 1, 1, 0, []), (.invokevirtual 102, 114, 8, [1]), (.iinc 1 1, 0, 0, []), (.goto (-13), 1, 0, [])]
def bX8_ticks : cs_BL := [(0, qX8_ticks_0), (2, qX8_ticks_1), (18, qX8_ticks_2), (2, qX8_ticks_3)]
theorem rX8_ticks : cs_rows bX8_ticks 0 = qX8_ticks_0 ∧ cs_rows bX8_ticks 1 = qX8_ticks_1 ∧ cs_rows bX8_ticks 2 = qX8_ticks_2 ∧ cs_rows bX8_ticks 3 = qX8_ticks_3 := ⟨rfl, rfl, rfl, rfl⟩
set_option maxRecDepth 100000 in
theorem kX8_ticks : cs_chkB iX8_ticks bX8_ticks = true := by decide +kernel
def qX8_arrived_0 : List cs_W := [(.iconst 0, 0, 0, []), (.istore_n 1, 1, 0, []), (.iconst 0, 0, 0, []), (.istore_n 2, 2, 0, []), (.nop, 1, 0, [])]
def qX8_arrived_1 : List cs_W := [(.nop, 0, 4, [])]
def qX8_arrived_2 : List cs_W := [(.iconst 0, 0, 0, []), (.nop, 3, 0, [])]
def qX8_arrived_3 : List cs_W := [(.iadd, 0, 0, []), (.istore_n 1, 1, 0, []), (.iinc 2 1, 0, 0, []), (.goto (-31), 1, 0, [])]
def qX8_arrived_4 : List cs_W := [(.iload_n 1, 1, 0, []), (.ireturn, 0, 0, [])]
def qX8_arrived_5 : List cs_W := [(.iload_n 2, 2, 0, []), (.aload_n 0, 0, 0, []), (.getfield 7, 8, 0, [1]), (.sipush 150, 0, 0, []), (.iaload, 0, 0, []), (.if_icmp .ge 25, 4, 0, []), (.iload_n 1, 1, 0, []), (.aload_n 0, 0, 0, []), (.iload_n 2, 2, 0, []), (.invokevirtual 57, 99, 8, [1]), (.ifCond .eq 7, 2, 0, []), (.iconst 1, 0, 0, []), (.goto 4, 3, 0, [])]
def bX8_arrived : cs_BL := [(0, qX8_arrived_0), (4, qX8_arrived_1), (29, qX8_arrived_2), (30, qX8_arrived_3), (38, qX8_arrived_4), (4, qX8_arrived_5)]
theorem rX8_arrived : cs_rows bX8_arrived 0 = qX8_arrived_0 ∧ cs_rows bX8_arrived 1 = qX8_arrived_1 ∧ cs_rows bX8_arrived 2 = qX8_arrived_2 ∧ cs_rows bX8_arrived 3 = qX8_arrived_3 ∧ cs_rows bX8_arrived 4 = qX8_arrived_4 ∧ cs_rows bX8_arrived 5 = qX8_arrived_5 := ⟨rfl, rfl, rfl, rfl, rfl, rfl⟩
set_option maxRecDepth 100000 in
theorem kX8_arrived : cs_chkB iX8_arrived bX8_arrived = true := by decide +kernel
def qX8_passes_0 : List cs_W := [(.aload_n 0, 0, 0, []), (.invokevirtual 108, 117, 8, [0]), (.istore_n 2, 2, 0, []), (.iconst 0, 0, 0, []), (.istore_n 3, 3, 0, []), (.nop, 1, 0, [])]
def qX8_passes_1 : List cs_W := [(.nop, 0, 7, [])]
def qX8_passes_2 : List cs_W := [(.aload_n 0, 0, 0, []), (.invokevirtual 108, 117, 8, [0]), (.iload_n 2, 2, 0, []), (.isub, 0, 0, []), (.ireturn, 0, 0, [])]
def qX8_passes_3 : List cs_W := [(.iload_n 3, 3, 0, []), (.iload_n 1, 1, 0, []), (.if_icmp .ge 13, 2, 0, []), (.aload_n 0, 0, 0, []), (.invokevirtual 112, 116, 8, [0]), (.iinc 3 1, 0, 0, []), (.goto (-12), 1, 0, [])]
def bX8_passes : cs_BL := [(0, qX8_passes_0), (7, qX8_passes_1), (22, qX8_passes_2), (7, qX8_passes_3)]
theorem rX8_passes : cs_rows bX8_passes 0 = qX8_passes_0 ∧ cs_rows bX8_passes 1 = qX8_passes_1 ∧ cs_rows bX8_passes 2 = qX8_passes_2 ∧ cs_rows bX8_passes 3 = qX8_passes_3 := ⟨rfl, rfl, rfl, rfl⟩
set_option maxRecDepth 100000 in
theorem kX8_passes : cs_chkB iX8_passes bX8_passes = true := by decide +kernel
def qX8_errorOfBoat_0 : List cs_W := [(.iload_n 2, 2, 0, []), (.invokestatic 115, 91, 0, [1]), (.ifCond .eq 10, 1, 0, []), (.iload_n 3, 3, 0, []), (.invokestatic 115, 91, 0, [1]), (.ifCond .ne 5, 2, 0, []), (.nop, 1, 0, [])]
def qX8_errorOfBoat_1 : List cs_W := [(.iconst (-1), 0, 0, []), (.ireturn, 0, 0, [])]
def qX8_errorOfBoat_2 : List cs_W := [(.iload_n 1, 1, 0, []), (.iconst 1, 0, 0, []), (.bipush 6, 0, 0, []), (.invokestatic 35, 90, 0, [3]), (.ifCond .eq 19, 3, 0, []), (.iload 4, 4, 0, []), (.iconst 1, 0, 0, []), (.bipush 60, 0, 0, []), (.invokestatic 35, 90, 0, [3]), (.ifCond .eq 8, 3, 0, []), (.iload_n 2, 2, 0, []), (.iload_n 3, 3, 0, []), (.if_icmp .ne 6, 4, 0, []), (.nop, 3, 0, [])]
def qX8_errorOfBoat_3 : List cs_W := [(.bipush (-2), 0, 0, []), (.ireturn, 0, 0, [])]
def qX8_errorOfBoat_4 : List cs_W := [(.aload_n 0, 0, 0, []), (.getfield 7, 8, 0, [1]), (.sipush 150, 0, 0, []), (.iaload, 0, 0, []), (.bipush 16, 0, 0, []), (.if_icmp .ne 8, 5, 0, []), (.bipush (-3), 0, 0, []), (.goto 4, 6, 0, [])]
def qX8_errorOfBoat_5 : List cs_W := [(.iconst 0, 0, 0, []), (.nop, 6, 0, [])]
def qX8_errorOfBoat_6 : List cs_W := [(.ireturn, 0, 0, [])]
def bX8_errorOfBoat : cs_BL := [(0, qX8_errorOfBoat_0), (14, qX8_errorOfBoat_1), (16, qX8_errorOfBoat_2), (42, qX8_errorOfBoat_3), (45, qX8_errorOfBoat_4), (63, qX8_errorOfBoat_5), (64, qX8_errorOfBoat_6)]
theorem rX8_errorOfBoat : cs_rows bX8_errorOfBoat 0 = qX8_errorOfBoat_0 ∧ cs_rows bX8_errorOfBoat 1 = qX8_errorOfBoat_1 ∧ cs_rows bX8_errorOfBoat 2 = qX8_errorOfBoat_2 ∧ cs_rows bX8_errorOfBoat 3 = qX8_errorOfBoat_3 ∧ cs_rows bX8_errorOfBoat 4 = qX8_errorOfBoat_4 ∧ cs_rows bX8_errorOfBoat 5 = qX8_errorOfBoat_5 ∧ cs_rows bX8_errorOfBoat 6 = qX8_errorOfBoat_6 := ⟨rfl, rfl, rfl, rfl, rfl, rfl, rfl⟩
set_option maxRecDepth 100000 in
theorem kX8_errorOfBoat : cs_chkB iX8_errorOfBoat bX8_errorOfBoat = true := by decide +kernel
def qX8_comes_0 : List cs_W := [(.aload_n 0, 0, 0, []), (.getfield 7, 8, 0, [1]), (.sipush 150, 0, 0, []), (.iaload, 0, 0, []), (.istore 5, 5, 0, []), (.aload_n 0, 0, 0, []), (.getfield 7, 8, 0, [1]), (.sipush 150, 0, 0, []), (.dup2, 0, 0, []), (.iaload, 0, 0, []), (.iconst 1, 0, 0, []), (.iadd, 0, 0, []), (.iastore, 0, 0, []), (.aload_n 0, 0, 0, []), (.getfield 7, 8, 0, [1]), (.iload 5, 5, 0, []), (.iconst 0, 0, 0, []), (.invokestatic 39, 94, 0, [2]), (.iload_n 1, 1, 0, []), (.iastore, 0, 0, []), (.aload_n 0, 0, 0, []), (.getfield 7, 8, 0, [1]), (.iload 5, 5, 0, []), (.iconst 1, 0, 0, []), (.invokestatic 39, 94, 0, [2]), (.iload 4, 4, 0, []), (.iastore, 0, 0, []), (.aload_n 0, 0, 0, []), (.getfield 7, 8, 0, [1]), (.iload 5, 5, 0, []), (.iconst 2, 0, 0, []), (.invokestatic 39, 94, 0, [2]), (.iload_n 2, 2, 0, []), (.iastore, 0, 0, []), (.aload_n 0, 0, 0, []), (.getfield 7, 8, 0, [1]), (.iload 5, 5, 0, []), (.iconst 3, 0, 0, []), (.invokestatic 39, 94, 0, [2]), (.iload_n 3, 3, 0, []), (.iastore, 0, 0, []), (.aload_n 0, 0, 0, []), (.getfield 7, 8, 0, [1]), (.iload 5, 5, 0, []), (.iconst 4, 0, 0, []), (.invokestatic 39, 94, 0, [2]), (.iconst 0, 0, 0, []), (.iastore, 0, 0, []), (.aload_n 0, 0, 0, []), (.getfield 7, 8, 0, [1]), (.iload 5, 5, 0, []), (.iconst 5, 0, 0, []), (.invokestatic 39, 94, 0, [2]), (.bipush (-5), 0, 0, []), (.iastore, 0, 0, []), (.aload_n 0, 0, 0, []), (.getfield 7, 8, 0, [1]), (.iload 5, 5, 0, []), (.bipush 6, 0, 0, []), (.invokestatic 39, 94, 0, [2]), (.iconst 0, 0, 0, []), (.iastore, 0, 0, []), (.aload_n 0, 0, 0, []), (.iload 5, 5, 0, []), (.invokevirtual 70, 108, 8, [1]), (.iload 5, 5, 0, []), (.ireturn, 0, 0, [])]
def bX8_comes : cs_BL := [(0, qX8_comes_0)]
theorem rX8_comes : cs_rows bX8_comes 0 = qX8_comes_0 := rfl
set_option maxRecDepth 100000 in
theorem kX8_comes : cs_chkB iX8_comes bX8_comes = true := by decide +kernel
def qX8_boat_0 : List cs_W := [(.aload_n 0, 0, 0, []), (.iload_n 1, 1, 0, []), (.iload_n 2, 2, 0, []), (.iload_n 3, 3, 0, []), (.iload 4, 4, 0, []), (.invokevirtual 118, 119, 8, [4]), (.istore 5, 5, 0, []), (.iload 5, 5, 0, []), (.ifCond .eq 6, 1, 0, []), (.iload 5, 5, 0, []), (.ireturn, 0, 0, [])]
def qX8_boat_1 : List cs_W := [(.aload_n 0, 0, 0, []), (.invokevirtual 122, 96, 8, [0]), (.aload_n 0, 0, 0, []), (.iload_n 1, 1, 0, []), (.iload_n 2, 2, 0, []), (.iload_n 3, 3, 0, []), (.iload 4, 4, 0, []), (.invokevirtual 125, 120, 8, [4]), (.ireturn, 0, 0, [])]
def bX8_boat : cs_BL := [(0, qX8_boat_0), (19, qX8_boat_1)]
theorem rX8_boat : cs_rows bX8_boat 0 = qX8_boat_0 ∧ cs_rows bX8_boat 1 = qX8_boat_1 := ⟨rfl, rfl⟩
set_option maxRecDepth 100000 in
theorem kX8_boat : cs_chkB iX8_boat bX8_boat = true := by decide +kernel
def qX8_load_0 : List cs_W := [(.aload_n 0, 0, 0, []), (.iload_n 1, 1, 0, []), (.invokevirtual 128, 93, 8, [1]), (.ifCond .ne 5, 1, 0, []), (.iconst (-1), 0, 0, []), (.ireturn, 0, 0, [])]
def qX8_load_1 : List cs_W := [(.iload_n 2, 2, 0, []), (.iconst 1, 0, 0, []), (.bipush 60, 0, 0, []), (.invokestatic 35, 90, 0, [3]), (.ifCond .ne 6, 2, 0, []), (.bipush (-2), 0, 0, []), (.ireturn, 0, 0, [])]
def qX8_load_2 : List cs_W := [(.aload_n 0, 0, 0, []), (.iload_n 1, 1, 0, []), (.invokevirtual 57, 99, 8, [1]), (.ifCond .eq 6, 3, 0, []), (.bipush (-4), 0, 0, []), (.ireturn, 0, 0, [])]
def qX8_load_3 : List cs_W := [(.aload_n 0, 0, 0, []), (.iload_n 1, 1, 0, []), (.iconst 1, 0, 0, []), (.invokevirtual 46, 95, 8, [2]), (.istore_n 3, 3, 0, []), (.iload_n 3, 3, 0, []), (.iload_n 2, 2, 0, []), (.if_icmp .ne 6, 4, 0, []), (.bipush (-5), 0, 0, []), (.ireturn, 0, 0, [])]
def qX8_load_4 : List cs_W := [(.aload_n 0, 0, 0, []), (.invokevirtual 122, 96, 8, [0]), (.aload_n 0, 0, 0, []), (.getfield 7, 8, 0, [1]), (.iload_n 1, 1, 0, []), (.iconst 1, 0, 0, []), (.invokestatic 39, 94, 0, [2]), (.iload_n 2, 2, 0, []), (.iastore, 0, 0, []), (.iload_n 3, 3, 0, []), (.ireturn, 0, 0, [])]
def bX8_load : cs_BL := [(0, qX8_load_0), (10, qX8_load_1), (23, qX8_load_2), (34, qX8_load_3), (49, qX8_load_4)]
theorem rX8_load : cs_rows bX8_load 0 = qX8_load_0 ∧ cs_rows bX8_load 1 = qX8_load_1 ∧ cs_rows bX8_load 2 = qX8_load_2 ∧ cs_rows bX8_load 3 = qX8_load_3 ∧ cs_rows bX8_load 4 = qX8_load_4 := ⟨rfl, rfl, rfl, rfl, rfl⟩
set_option maxRecDepth 100000 in
theorem kX8_load : cs_chkB iX8_load bX8_load = true := by decide +kernel
def qX8_errorOfTurn_0 : List cs_W := [(.iload_n 1, 1, 0, []), (.invokestatic 131, 92, 0, [1]), (.ifCond .ne 7, 1, 0, []), (.iconst (-1), 0, 0, []), (.goto 17, 3, 0, [])]
def qX8_errorOfTurn_1 : List cs_W := [(.aload_n 0, 0, 0, []), (.iload_n 1, 1, 0, []), (.invokevirtual 80, 110, 8, [1]), (.ifCond .eq 7, 2, 0, []), (.iconst 0, 0, 0, []), (.goto 5, 3, 0, [])]
def qX8_errorOfTurn_2 : List cs_W := [(.bipush (-4), 0, 0, []), (.nop, 3, 0, [])]
def qX8_errorOfTurn_3 : List cs_W := [(.ireturn, 0, 0, [])]
def bX8_errorOfTurn : cs_BL := [(0, qX8_errorOfTurn_0), (11, qX8_errorOfTurn_1), (23, qX8_errorOfTurn_2), (25, qX8_errorOfTurn_3)]
theorem rX8_errorOfTurn : cs_rows bX8_errorOfTurn 0 = qX8_errorOfTurn_0 ∧ cs_rows bX8_errorOfTurn 1 = qX8_errorOfTurn_1 ∧ cs_rows bX8_errorOfTurn 2 = qX8_errorOfTurn_2 ∧ cs_rows bX8_errorOfTurn 3 = qX8_errorOfTurn_3 := ⟨rfl, rfl, rfl, rfl⟩
set_option maxRecDepth 100000 in
theorem kX8_errorOfTurn : cs_chkB iX8_errorOfTurn bX8_errorOfTurn = true := by decide +kernel
def qX8_turnsByHand_0 : List cs_W := [(.aload_n 0, 0, 0, []), (.iload_n 1, 1, 0, []), (.invokevirtual 93, 111, 8, [1]), (.aload_n 0, 0, 0, []), (.iload_n 1, 1, 0, []), (.invokevirtual 67, 109, 8, [1]), (.ifCond .eq 7, 1, 0, []), (.iconst 1, 0, 0, []), (.goto 4, 2, 0, [])]
def qX8_turnsByHand_1 : List cs_W := [(.iconst 0, 0, 0, []), (.nop, 2, 0, [])]
def qX8_turnsByHand_2 : List cs_W := [(.ireturn, 0, 0, [])]
def bX8_turnsByHand : cs_BL := [(0, qX8_turnsByHand_0), (17, qX8_turnsByHand_1), (18, qX8_turnsByHand_2)]
theorem rX8_turnsByHand : cs_rows bX8_turnsByHand 0 = qX8_turnsByHand_0 ∧ cs_rows bX8_turnsByHand 1 = qX8_turnsByHand_1 ∧ cs_rows bX8_turnsByHand 2 = qX8_turnsByHand_2 := ⟨rfl, rfl, rfl⟩
set_option maxRecDepth 100000 in
theorem kX8_turnsByHand : cs_chkB iX8_turnsByHand bX8_turnsByHand = true := by decide +kernel
def qX8_turnLock_0 : List cs_W := [(.aload_n 0, 0, 0, []), (.iload_n 1, 1, 0, []), (.invokevirtual 134, 123, 8, [1]), (.istore_n 2, 2, 0, []), (.iload_n 2, 2, 0, []), (.ifCond .eq 5, 1, 0, []), (.iload_n 2, 2, 0, []), (.ireturn, 0, 0, [])]
def qX8_turnLock_1 : List cs_W := [(.aload_n 0, 0, 0, []), (.invokevirtual 122, 96, 8, [0]), (.aload_n 0, 0, 0, []), (.iload_n 1, 1, 0, []), (.invokevirtual 137, 124, 8, [1]), (.ireturn, 0, 0, [])]
def bX8_turnLock : cs_BL := [(0, qX8_turnLock_0), (12, qX8_turnLock_1)]
theorem rX8_turnLock : cs_rows bX8_turnLock 0 = qX8_turnLock_0 ∧ cs_rows bX8_turnLock 1 = qX8_turnLock_1 := ⟨rfl, rfl⟩
set_option maxRecDepth 100000 in
theorem kX8_turnLock : cs_chkB iX8_turnLock bX8_turnLock = true := by decide +kernel
def qX8_becomes_0 : List cs_W := [(.aload_n 0, 0, 0, []), (.getfield 7, 8, 0, [1]), (.iload_n 1, 1, 0, []), (.iaload, 0, 0, []), (.istore_n 3, 3, 0, []), (.iload_n 3, 3, 0, []), (.iload_n 2, 2, 0, []), (.if_icmp .ne 6, 1, 0, []), (.bipush (-5), 0, 0, []), (.ireturn, 0, 0, [])]
def qX8_becomes_1 : List cs_W := [(.aload_n 0, 0, 0, []), (.invokevirtual 122, 96, 8, [0]), (.aload_n 0, 0, 0, []), (.getfield 7, 8, 0, [1]), (.iload_n 1, 1, 0, []), (.iload_n 2, 2, 0, []), (.iastore, 0, 0, []), (.iload_n 3, 3, 0, []), (.ireturn, 0, 0, [])]
def bX8_becomes : cs_BL := [(0, qX8_becomes_0), (15, qX8_becomes_1)]
theorem rX8_becomes : cs_rows bX8_becomes 0 = qX8_becomes_0 ∧ cs_rows bX8_becomes 1 = qX8_becomes_1 := ⟨rfl, rfl⟩
set_option maxRecDepth 100000 in
theorem kX8_becomes : cs_chkB iX8_becomes bX8_becomes = true := by decide +kernel
def qX8_setDepth_0 : List cs_W := [(.iload_n 1, 1, 0, []), (.invokestatic 115, 91, 0, [1]), (.ifCond .ne 5, 1, 0, []), (.iconst (-1), 0, 0, []), (.ireturn, 0, 0, [])]
def qX8_setDepth_1 : List cs_W := [(.iload_n 2, 2, 0, []), (.iconst 0, 0, 0, []), (.bipush 90, 0, 0, []), (.invokestatic 35, 90, 0, [3]), (.ifCond .eq 14, 2, 0, []), (.aload_n 0, 0, 0, []), (.iconst 0, 0, 0, []), (.iload_n 1, 1, 0, []), (.iadd, 0, 0, []), (.iload_n 2, 2, 0, []), (.invokevirtual 140, 126, 8, [2]), (.goto 5, 3, 0, [])]
def qX8_setDepth_2 : List cs_W := [(.bipush (-2), 0, 0, []), (.nop, 3, 0, [])]
def qX8_setDepth_3 : List cs_W := [(.ireturn, 0, 0, [])]
def bX8_setDepth : cs_BL := [(0, qX8_setDepth_0), (9, qX8_setDepth_1), (30, qX8_setDepth_2), (32, qX8_setDepth_3)]
theorem rX8_setDepth : cs_rows bX8_setDepth 0 = qX8_setDepth_0 ∧ cs_rows bX8_setDepth 1 = qX8_setDepth_1 ∧ cs_rows bX8_setDepth 2 = qX8_setDepth_2 ∧ cs_rows bX8_setDepth 3 = qX8_setDepth_3 := ⟨rfl, rfl, rfl, rfl⟩
set_option maxRecDepth 100000 in
theorem kX8_setDepth : cs_chkB iX8_setDepth bX8_setDepth = true := by decide +kernel
def qX8_set_0 : List cs_W := [(.iload_n 1, 1, 0, []), (.iconst 0, 0, 0, []), (.iconst 2, 0, 0, []), (.invokestatic 35, 90, 0, [3]), (.ifCond .ne 5, 1, 0, []), (.iconst (-1), 0, 0, []), (.ireturn, 0, 0, [])]
def qX8_set_1 : List cs_W := [(.iload_n 1, 1, 0, []), (.iconst 1, 0, 0, []), (.if_icmp .ne 13, 2, 0, []), (.iload_n 2, 2, 0, []), (.iconst 1, 0, 0, []), (.bipush 6, 0, 0, []), (.invokestatic 35, 90, 0, [3]), (.goto 18, 5, 0, [])]
def qX8_set_2 : List cs_W := [(.iload_n 2, 2, 0, []), (.iload_n 1, 1, 0, []), (.ifCond .ne 7, 3, 0, []), (.iconst 1, 0, 0, []), (.goto 4, 4, 0, [])]
def qX8_set_3 : List cs_W := [(.iconst 0, 0, 0, []), (.nop, 4, 0, [])]
def qX8_set_4 : List cs_W := [(.bipush 20, 0, 0, []), (.invokestatic 35, 90, 0, [3]), (.nop, 5, 0, [])]
def qX8_set_5 : List cs_W := [(.istore_n 3, 3, 0, []), (.iload_n 3, 3, 0, []), (.ifCond .eq 16, 6, 0, []), (.aload_n 0, 0, 0, []), (.sipush 154, 0, 0, []), (.iload_n 1, 1, 0, []), (.iadd, 0, 0, []), (.iload_n 2, 2, 0, []), (.invokevirtual 140, 126, 8, [2]), (.goto 5, 7, 0, [])]
def qX8_set_6 : List cs_W := [(.bipush (-2), 0, 0, []), (.nop, 7, 0, [])]
def qX8_set_7 : List cs_W := [(.ireturn, 0, 0, [])]
def bX8_set : cs_BL := [(0, qX8_set_0), (11, qX8_set_1), (26, qX8_set_2), (35, qX8_set_3), (36, qX8_set_4), (41, qX8_set_5), (59, qX8_set_6), (61, qX8_set_7)]
theorem rX8_set : cs_rows bX8_set 0 = qX8_set_0 ∧ cs_rows bX8_set 1 = qX8_set_1 ∧ cs_rows bX8_set 2 = qX8_set_2 ∧ cs_rows bX8_set 3 = qX8_set_3 ∧ cs_rows bX8_set 4 = qX8_set_4 ∧ cs_rows bX8_set 5 = qX8_set_5 ∧ cs_rows bX8_set 6 = qX8_set_6 ∧ cs_rows bX8_set 7 = qX8_set_7 := ⟨rfl, rfl, rfl, rfl, rfl, rfl, rfl, rfl⟩
set_option maxRecDepth 100000 in
theorem kX8_set : cs_chkB iX8_set bX8_set = true := by decide +kernel
def qX8_errorOfPass_0 : List cs_W := [(.iload_n 1, 1, 0, []), (.iconst 1, 0, 0, []), (.bipush 99, 0, 0, []), (.invokestatic 35, 90, 0, [3]), (.ifCond .ne 8, 1, 0, []), (.bipush (-2), 0, 0, []), (.goto 24, 3, 0, [])]
def qX8_errorOfPass_1 : List cs_W := [(.aload_n 0, 0, 0, []), (.getfield 7, 8, 0, [1]), (.sipush 149, 0, 0, []), (.iaload, 0, 0, []), (.iload_n 1, 1, 0, []), (.iadd, 0, 0, []), (.ldc 143, 99999, 0, []), (.if_icmp .le 8, 2, 0, []), (.bipush (-3), 0, 0, []), (.goto 4, 3, 0, [])]
def qX8_errorOfPass_2 : List cs_W := [(.iconst 0, 0, 0, []), (.nop, 3, 0, [])]
def qX8_errorOfPass_3 : List cs_W := [(.ireturn, 0, 0, [])]
def bX8_errorOfPass : cs_BL := [(0, qX8_errorOfPass_0), (15, qX8_errorOfPass_1), (35, qX8_errorOfPass_2), (36, qX8_errorOfPass_3)]
theorem rX8_errorOfPass : cs_rows bX8_errorOfPass 0 = qX8_errorOfPass_0 ∧ cs_rows bX8_errorOfPass 1 = qX8_errorOfPass_1 ∧ cs_rows bX8_errorOfPass 2 = qX8_errorOfPass_2 ∧ cs_rows bX8_errorOfPass 3 = qX8_errorOfPass_3 := ⟨rfl, rfl, rfl, rfl⟩
set_option maxRecDepth 100000 in
theorem kX8_errorOfPass : cs_chkB iX8_errorOfPass bX8_errorOfPass = true := by decide +kernel
def qX8_pass_0 : List cs_W := [(.aload_n 0, 0, 0, []), (.iload_n 1, 1, 0, []), (.invokevirtual 144, 129, 8, [1]), (.istore_n 2, 2, 0, []), (.iload_n 2, 2, 0, []), (.ifCond .eq 5, 1, 0, []), (.iload_n 2, 2, 0, []), (.ireturn, 0, 0, [])]
def qX8_pass_1 : List cs_W := [(.aload_n 0, 0, 0, []), (.invokevirtual 122, 96, 8, [0]), (.aload_n 0, 0, 0, []), (.iload_n 1, 1, 0, []), (.invokevirtual 147, 118, 8, [1]), (.ireturn, 0, 0, [])]
def bX8_pass : cs_BL := [(0, qX8_pass_0), (12, qX8_pass_1)]
theorem rX8_pass : cs_rows bX8_pass 0 = qX8_pass_0 ∧ cs_rows bX8_pass 1 = qX8_pass_1 := ⟨rfl, rfl⟩
set_option maxRecDepth 100000 in
theorem kX8_pass : cs_chkB iX8_pass bX8_pass = true := by decide +kernel
def qX8_type_0 : List cs_W := [(.aload_n 0, 0, 0, []), (.getfield 150, 8, 7, []), (.bipush 60, 0, 0, []), (.if_icmp .ne 6, 1, 0, []), (.bipush (-3), 0, 0, []), (.ireturn, 0, 0, [])]
def qX8_type_1 : List cs_W := [(.aload_n 0, 0, 0, []), (.getfield 22, 8, 6, [1]), (.aload_n 0, 0, 0, []), (.getfield 150, 8, 7, []), (.iload_n 1, 1, 0, []), (.iastore, 0, 0, []), (.aload_n 0, 0, 0, []), (.dup, 0, 0, []), (.getfield 150, 8, 7, []), (.iconst 1, 0, 0, []), (.iadd, 0, 0, []), (.putfield 150, 8, 7, []), (.aload_n 0, 0, 0, []), (.getfield 150, 8, 7, []), (.ireturn, 0, 0, [])]
def bX8_type : cs_BL := [(0, qX8_type_0), (12, qX8_type_1)]
theorem rX8_type : cs_rows bX8_type 0 = qX8_type_0 ∧ cs_rows bX8_type 1 = qX8_type_1 := ⟨rfl, rfl⟩
set_option maxRecDepth 100000 in
theorem kX8_type : cs_chkB iX8_type bX8_type = true := by decide +kernel
def qX8_clearText_0 : List cs_W := [(.aload_n 0, 0, 0, []), (.getfield 150, 8, 7, []), (.istore_n 1, 1, 0, []), (.aload_n 0, 0, 0, []), (.iconst 0, 0, 0, []), (.putfield 150, 8, 7, []), (.iload_n 1, 1, 0, []), (.ireturn, 0, 0, [])]
def bX8_clearText : cs_BL := [(0, qX8_clearText_0)]
theorem rX8_clearText : cs_rows bX8_clearText 0 = qX8_clearText_0 := rfl
set_option maxRecDepth 100000 in
theorem kX8_clearText : cs_chkB iX8_clearText bX8_clearText = true := by decide +kernel
def qX8_isNext_0 : List cs_W := [(.aload_n 0, 0, 0, []), (.getfield 153, 8, 13, []), (.ifCond .ne 35, 1, 0, []), (.aload_n 0, 0, 0, []), (.getfield 157, 8, 12, []), (.aload_n 0, 0, 0, []), (.getfield 150, 8, 7, []), (.if_icmp .ge 24, 1, 0, []), (.aload_n 0, 0, 0, []), (.getfield 22, 8, 6, [1]), (.aload_n 0, 0, 0, []), (.getfield 157, 8, 12, []), (.iaload, 0, 0, []), (.iload_n 1, 1, 0, []), (.iload_n 2, 2, 0, []), (.invokestatic 35, 90, 0, [3]), (.ifCond .eq 7, 1, 0, []), (.iconst 1, 0, 0, []), (.goto 4, 2, 0, [])]
def qX8_isNext_1 : List cs_W := [(.iconst 0, 0, 0, []), (.nop, 2, 0, [])]
def qX8_isNext_2 : List cs_W := [(.ireturn, 0, 1, [])]
def bX8_isNext : cs_BL := [(0, qX8_isNext_0), (39, qX8_isNext_1), (40, qX8_isNext_2)]
theorem rX8_isNext : cs_rows bX8_isNext 0 = qX8_isNext_0 ∧ cs_rows bX8_isNext 1 = qX8_isNext_1 ∧ cs_rows bX8_isNext 2 = qX8_isNext_2 := ⟨rfl, rfl, rfl⟩
set_option maxRecDepth 100000 in
theorem kX8_isNext : cs_chkB iX8_isNext bX8_isNext = true := by decide +kernel
def qX8_takes_0 : List cs_W := [(.aload_n 0, 0, 0, []), (.iload_n 1, 1, 0, []), (.iload_n 2, 2, 0, []), (.invokevirtual 160, 133, 8, [2]), (.istore_n 3, 3, 0, []), (.iload_n 3, 3, 0, []), (.ifCond .eq 17, 1, 0, []), (.aload_n 0, 0, 0, []), (.getfield 22, 8, 6, [1]), (.aload_n 0, 0, 0, []), (.getfield 157, 8, 12, []), (.iaload, 0, 0, []), (.iload_n 1, 1, 0, []), (.isub, 0, 0, []), (.goto 4, 2, 0, [])]
def qX8_takes_1 : List cs_W := [(.iconst 0, 0, 0, []), (.nop, 2, 0, [])]
def qX8_takes_2 : List cs_W := [(.istore 4, 4, 0, []), (.aload_n 0, 0, 0, []), (.dup, 0, 0, []), (.getfield 157, 8, 12, []), (.iload_n 3, 3, 0, []), (.ifCond .eq 7, 3, 0, []), (.iconst 1, 0, 0, []), (.goto 4, 4, 0, [])]
def qX8_takes_3 : List cs_W := [(.iconst 0, 0, 0, []), (.nop, 4, 0, [])]
def qX8_takes_4 : List cs_W := [(.iadd, 0, 0, []), (.putfield 157, 8, 12, []), (.aload_n 0, 0, 0, []), (.aload_n 0, 0, 0, []), (.getfield 153, 8, 13, []), (.ifCond .ne 7, 5, 0, []), (.iload_n 3, 3, 0, []), (.ifCond .ne 7, 6, 0, []), (.nop, 5, 0, [])]
def qX8_takes_5 : List cs_W := [(.iconst 1, 0, 0, []), (.goto 4, 7, 0, [])]
def qX8_takes_6 : List cs_W := [(.iconst 0, 0, 0, []), (.nop, 7, 0, [])]
def qX8_takes_7 : List cs_W := [(.putfield 153, 8, 13, [0]), (.iload 4, 4, 0, []), (.ireturn, 0, 0, [])]
def bX8_takes : cs_BL := [(0, qX8_takes_0), (25, qX8_takes_1), (26, qX8_takes_2), (41, qX8_takes_3), (42, qX8_takes_4), (58, qX8_takes_5), (62, qX8_takes_6), (63, qX8_takes_7)]
theorem rX8_takes : cs_rows bX8_takes 0 = qX8_takes_0 ∧ cs_rows bX8_takes 1 = qX8_takes_1 ∧ cs_rows bX8_takes 2 = qX8_takes_2 ∧ cs_rows bX8_takes 3 = qX8_takes_3 ∧ cs_rows bX8_takes 4 = qX8_takes_4 ∧ cs_rows bX8_takes 5 = qX8_takes_5 ∧ cs_rows bX8_takes 6 = qX8_takes_6 ∧ cs_rows bX8_takes 7 = qX8_takes_7 := ⟨rfl, rfl, rfl, rfl, rfl, rfl, rfl, rfl⟩
set_option maxRecDepth 100000 in
theorem kX8_takes : cs_chkB iX8_takes bX8_takes = true := by decide +kernel
def qX8_number_0 : List cs_W := [(.iconst 1, 0, 0, []), (.aload_n 0, 0, 0, []), (.bipush 49, 0, 0, []), (.bipush 57, 0, 0, []), (.invokevirtual 164, 134, 8, [2]), (.iadd, 0, 0, []), (.istore_n 2, 2, 0, []), (.nop, 1, 0, [])]
def qX8_number_1 : List cs_W := [(.nop, 0, 11, [])]
def qX8_number_2 : List cs_W := [(.iload_n 2, 2, 0, []), (.ireturn, 0, 0, [])]
def qX8_number_3 : List cs_W := [(.aload_n 0, 0, 0, []), (.bipush 48, 0, 0, []), (.bipush 57, 0, 0, []), (.invokevirtual 160, 133, 8, [2]), (.ifCond .eq 55, 2, 0, []), (.bipush 10, 0, 0, []), (.iload_n 2, 2, 0, []), (.imul, 0, 0, []), (.aload_n 0, 0, 0, []), (.getfield 22, 8, 6, [1]), (.aload_n 0, 0, 0, []), (.getfield 157, 8, 12, []), (.iaload, 0, 0, []), (.iadd, 0, 0, []), (.bipush 48, 0, 0, []), (.isub, 0, 0, []), (.iload_n 1, 1, 0, []), (.if_icmp .gt 34, 2, 0, []), (.bipush 10, 0, 0, []), (.iload_n 2, 2, 0, []), (.imul, 0, 0, []), (.aload_n 0, 0, 0, []), (.getfield 22, 8, 6, [1]), (.aload_n 0, 0, 0, []), (.getfield 157, 8, 12, []), (.iaload, 0, 0, []), (.iadd, 0, 0, []), (.bipush 48, 0, 0, []), (.isub, 0, 0, []), (.istore_n 2, 2, 0, []), (.aload_n 0, 0, 0, []), (.dup, 0, 0, []), (.getfield 157, 8, 12, []), (.iconst 1, 0, 0, []), (.iadd, 0, 0, []), (.putfield 157, 8, 12, []), (.goto (-60), 1, 0, [])]
def bX8_number : cs_BL := [(0, qX8_number_0), (11, qX8_number_1), (74, qX8_number_2), (11, qX8_number_3)]
theorem rX8_number : cs_rows bX8_number 0 = qX8_number_0 ∧ cs_rows bX8_number 1 = qX8_number_1 ∧ cs_rows bX8_number 2 = qX8_number_2 ∧ cs_rows bX8_number 3 = qX8_number_3 := ⟨rfl, rfl, rfl, rfl⟩
set_option maxRecDepth 100000 in
theorem kX8_number : cs_chkB iX8_number bX8_number = true := by decide +kernel
def qX8_readWay_0 : List cs_W := [(.iconst 0, 0, 0, []), (.istore_n 1, 1, 0, []), (.aload_n 0, 0, 0, []), (.aload_n 0, 0, 0, []), (.bipush 48, 0, 0, []), (.bipush 53, 0, 0, []), (.invokevirtual 164, 134, 8, [2]), (.putfield 167, 8, 16, []), (.aload_n 0, 0, 0, []), (.bipush 62, 0, 0, []), (.bipush 62, 0, 0, []), (.invokevirtual 164, 134, 8, [2]), (.istore_n 1, 1, 0, []), (.aload_n 0, 0, 0, []), (.aload_n 0, 0, 0, []), (.bipush 48, 0, 0, []), (.bipush 53, 0, 0, []), (.invokevirtual 164, 134, 8, [2]), (.putfield 170, 8, 17, []), (.aload_n 0, 0, 0, []), (.bipush 64, 0, 0, []), (.bipush 64, 0, 0, []), (.invokevirtual 164, 134, 8, [2]), (.istore_n 1, 1, 0, []), (.aload_n 0, 0, 0, []), (.aload_n 0, 0, 0, []), (.bipush 60, 0, 0, []), (.invokevirtual 173, 135, 8, [1]), (.putfield 176, 8, 18, []), (.return_, 0, 0, [])]
def bX8_readWay : cs_BL := [(0, qX8_readWay_0)]
theorem rX8_readWay : cs_rows bX8_readWay 0 = qX8_readWay_0 := rfl
set_option maxRecDepth 100000 in
theorem kX8_readWay : cs_chkB iX8_readWay bX8_readWay = true := by decide +kernel
def qX8_readOne_0 : List cs_W := [(.aload_n 0, 0, 0, []), (.aload_n 0, 0, 0, []), (.getfield 157, 8, 12, []), (.aload_n 0, 0, 0, []), (.getfield 150, 8, 7, []), (.if_icmp .ge 15, 1, 0, []), (.aload_n 0, 0, 0, []), (.getfield 22, 8, 6, [1]), (.aload_n 0, 0, 0, []), (.getfield 157, 8, 12, []), (.iaload, 0, 0, []), (.goto 4, 2, 0, [])]
def qX8_readOne_1 : List cs_W := [(.iconst 0, 0, 0, []), (.nop, 2, 0, [])]
def qX8_readOne_2 : List cs_W := [(.putfield 179, 8, 14, []), (.aload_n 0, 0, 0, []), (.aload_n 0, 0, 0, []), (.getfield 153, 8, 13, []), (.ifCond .ne 39, 3, 0, []), (.aload_n 0, 0, 0, []), (.getfield 179, 8, 14, []), (.bipush 98, 0, 0, []), (.if_icmp .eq 34, 4, 0, []), (.aload_n 0, 0, 0, []), (.getfield 179, 8, 14, []), (.bipush 114, 0, 0, []), (.if_icmp .eq 25, 4, 0, []), (.aload_n 0, 0, 0, []), (.getfield 179, 8, 14, []), (.bipush 120, 0, 0, []), (.if_icmp .eq 16, 4, 0, []), (.aload_n 0, 0, 0, []), (.getfield 179, 8, 14, []), (.bipush 46, 0, 0, []), (.if_icmp .eq 7, 4, 0, []), (.nop, 3, 0, [])]
def qX8_readOne_3 : List cs_W := [(.iconst 1, 0, 0, []), (.goto 4, 5, 0, [])]
def qX8_readOne_4 : List cs_W := [(.iconst 0, 0, 0, []), (.nop, 5, 0, [])]
def qX8_readOne_5 : List cs_W := [(.putfield 153, 8, 13, [0]), (.aload_n 0, 0, 0, []), (.dup, 0, 0, []), (.getfield 157, 8, 12, []), (.aload_n 0, 0, 0, []), (.getfield 153, 8, 13, []), (.ifCond .eq 7, 6, 0, []), (.iconst 0, 0, 0, []), (.goto 4, 7, 0, [])]
def qX8_readOne_6 : List cs_W := [(.iconst 1, 0, 0, []), (.nop, 7, 0, [])]
def qX8_readOne_7 : List cs_W := [(.iadd, 0, 0, []), (.putfield 157, 8, 12, []), (.iconst 0, 0, 0, []), (.istore_n 1, 1, 0, []), (.aload_n 0, 0, 0, []), (.getfield 179, 8, 14, []), (.lookupswitch 111 #[(46, 98), (98, 41), (114, 53), (120, 83)], 12, 0, [11, 8, 9, 10])]
def qX8_readOne_8 : List cs_W := [(.aload_n 0, 0, 0, []), (.iconst 1, 0, 0, []), (.putfield 182, 8, 15, []), (.aload_n 0, 0, 0, []), (.invokevirtual 185, 136, 8, [0]), (.goto 66, 13, 0, [])]
def qX8_readOne_9 : List cs_W := [(.aload_n 0, 0, 0, []), (.iconst 2, 0, 0, []), (.aload_n 0, 0, 0, []), (.bipush 50, 0, 0, []), (.bipush 54, 0, 0, []), (.invokevirtual 164, 134, 8, [2]), (.iadd, 0, 0, []), (.putfield 182, 8, 15, []), (.aload_n 0, 0, 0, []), (.bipush 58, 0, 0, []), (.bipush 58, 0, 0, []), (.invokevirtual 164, 134, 8, [2]), (.istore_n 1, 1, 0, []), (.aload_n 0, 0, 0, []), (.invokevirtual 185, 136, 8, [0]), (.goto 36, 13, 0, [])]
def qX8_readOne_10 : List cs_W := [(.aload_n 0, 0, 0, []), (.aload_n 0, 0, 0, []), (.bipush 48, 0, 0, []), (.bipush 52, 0, 0, []), (.invokevirtual 164, 134, 8, [2]), (.putfield 182, 8, 15, []), (.goto 21, 13, 0, [])]
def qX8_readOne_11 : List cs_W := [(.aload_n 0, 0, 0, []), (.aload_n 0, 0, 0, []), (.bipush 99, 0, 0, []), (.invokevirtual 173, 135, 8, [1]), (.putfield 182, 8, 15, []), (.goto 8, 13, 0, [])]
def qX8_readOne_12 : List cs_W := [(.aload_n 0, 0, 0, []), (.iconst 0, 0, 0, []), (.putfield 182, 8, 15, []), (.nop, 13, 0, [])]
def qX8_readOne_13 : List cs_W := [(.return_, 0, 0, [])]
def bX8_readOne : cs_BL := [(0, qX8_readOne_0), (24, qX8_readOne_1), (25, qX8_readOne_2), (72, qX8_readOne_3), (76, qX8_readOne_4), (77, qX8_readOne_5), (96, qX8_readOne_6), (97, qX8_readOne_7), (148, qX8_readOne_8), (160, qX8_readOne_9), (190, qX8_readOne_10), (205, qX8_readOne_11), (218, qX8_readOne_12), (223, qX8_readOne_13)]
theorem rX8_readOne : cs_rows bX8_readOne 0 = qX8_readOne_0 ∧ cs_rows bX8_readOne 1 = qX8_readOne_1 ∧ cs_rows bX8_readOne 2 = qX8_readOne_2 ∧ cs_rows bX8_readOne 3 = qX8_readOne_3 ∧ cs_rows bX8_readOne 4 = qX8_readOne_4 ∧ cs_rows bX8_readOne 5 = qX8_readOne_5 ∧ cs_rows bX8_readOne 6 = qX8_readOne_6 ∧ cs_rows bX8_readOne 7 = qX8_readOne_7 ∧ cs_rows bX8_readOne 8 = qX8_readOne_8 ∧ cs_rows bX8_readOne 9 = qX8_readOne_9 ∧ cs_rows bX8_readOne 10 = qX8_readOne_10 ∧ cs_rows bX8_readOne 11 = qX8_readOne_11 ∧ cs_rows bX8_readOne 12 = qX8_readOne_12 ∧ cs_rows bX8_readOne 13 = qX8_readOne_13 := ⟨rfl, rfl, rfl, rfl, rfl, rfl, rfl, rfl, rfl, rfl, rfl, rfl, rfl, rfl⟩
set_option maxRecDepth 100000 in
theorem kX8_readOne : cs_chkB iX8_readOne bX8_readOne = true := by decide +kernel
def qX8_errorOfOne_0 : List cs_W := [(.aload_n 0, 0, 0, []), (.getfield 179, 8, 14, []), (.bipush 46, 0, 0, []), (.if_icmp .ne 14, 1, 0, []), (.aload_n 0, 0, 0, []), (.aload_n 0, 0, 0, []), (.getfield 182, 8, 15, []), (.invokevirtual 144, 129, 8, [1]), (.goto 43, 3, 0, [])]
def qX8_errorOfOne_1 : List cs_W := [(.aload_n 0, 0, 0, []), (.getfield 179, 8, 14, []), (.bipush 120, 0, 0, []), (.if_icmp .ne 14, 2, 0, []), (.aload_n 0, 0, 0, []), (.aload_n 0, 0, 0, []), (.getfield 182, 8, 15, []), (.invokevirtual 134, 123, 8, [1]), (.goto 23, 3, 0, [])]
def qX8_errorOfOne_2 : List cs_W := [(.aload_n 0, 0, 0, []), (.aload_n 0, 0, 0, []), (.getfield 182, 8, 15, []), (.aload_n 0, 0, 0, []), (.getfield 167, 8, 16, []), (.aload_n 0, 0, 0, []), (.getfield 170, 8, 17, []), (.aload_n 0, 0, 0, []), (.getfield 176, 8, 18, []), (.invokevirtual 118, 119, 8, [4]), (.nop, 3, 0, [])]
def qX8_errorOfOne_3 : List cs_W := [(.ireturn, 0, 0, [])]
def bX8_errorOfOne : cs_BL := [(0, qX8_errorOfOne_0), (20, qX8_errorOfOne_1), (40, qX8_errorOfOne_2), (60, qX8_errorOfOne_3)]
theorem rX8_errorOfOne : cs_rows bX8_errorOfOne 0 = qX8_errorOfOne_0 ∧ cs_rows bX8_errorOfOne 1 = qX8_errorOfOne_1 ∧ cs_rows bX8_errorOfOne 2 = qX8_errorOfOne_2 ∧ cs_rows bX8_errorOfOne 3 = qX8_errorOfOne_3 := ⟨rfl, rfl, rfl, rfl⟩
set_option maxRecDepth 100000 in
theorem kX8_errorOfOne : cs_chkB iX8_errorOfOne bX8_errorOfOne = true := by decide +kernel
def qX8_doesOne_0 : List cs_W := [(.aload_n 0, 0, 0, []), (.getfield 179, 8, 14, []), (.bipush 46, 0, 0, []), (.if_icmp .ne 14, 1, 0, []), (.aload_n 0, 0, 0, []), (.aload_n 0, 0, 0, []), (.getfield 182, 8, 15, []), (.invokevirtual 147, 118, 8, [1]), (.goto 43, 3, 0, [])]
def qX8_doesOne_1 : List cs_W := [(.aload_n 0, 0, 0, []), (.getfield 179, 8, 14, []), (.bipush 120, 0, 0, []), (.if_icmp .ne 14, 2, 0, []), (.aload_n 0, 0, 0, []), (.aload_n 0, 0, 0, []), (.getfield 182, 8, 15, []), (.invokevirtual 137, 124, 8, [1]), (.goto 23, 3, 0, [])]
def qX8_doesOne_2 : List cs_W := [(.aload_n 0, 0, 0, []), (.aload_n 0, 0, 0, []), (.getfield 182, 8, 15, []), (.aload_n 0, 0, 0, []), (.getfield 167, 8, 16, []), (.aload_n 0, 0, 0, []), (.getfield 170, 8, 17, []), (.aload_n 0, 0, 0, []), (.getfield 176, 8, 18, []), (.invokevirtual 125, 120, 8, [4]), (.nop, 3, 0, [])]
def qX8_doesOne_3 : List cs_W := [(.ireturn, 0, 0, [])]
def bX8_doesOne : cs_BL := [(0, qX8_doesOne_0), (20, qX8_doesOne_1), (40, qX8_doesOne_2), (60, qX8_doesOne_3)]
theorem rX8_doesOne : cs_rows bX8_doesOne 0 = qX8_doesOne_0 ∧ cs_rows bX8_doesOne 1 = qX8_doesOne_1 ∧ cs_rows bX8_doesOne 2 = qX8_doesOne_2 ∧ cs_rows bX8_doesOne 3 = qX8_doesOne_3 := ⟨rfl, rfl, rfl, rfl⟩
set_option maxRecDepth 100000 in
theorem kX8_doesOne : cs_chkB iX8_doesOne bX8_doesOne = true := by decide +kernel
def qX8_reads_0 : List cs_W := [(.aload_n 0, 0, 0, []), (.iconst 0, 0, 0, []), (.putfield 157, 8, 12, []), (.aload_n 0, 0, 0, []), (.iconst 0, 0, 0, []), (.putfield 153, 8, 13, [0]), (.aload_n 0, 0, 0, []), (.iconst 0, 0, 0, []), (.putfield 188, 8, 19, []), (.iconst 0, 0, 0, []), (.istore_n 2, 2, 0, []), (.iconst 1, 0, 0, []), (.istore_n 3, 3, 0, []), (.nop, 1, 0, [])]
def qX8_reads_1 : List cs_W := [(.nop, 0, 19, [])]
def qX8_reads_2 : List cs_W := [(.iconst 0, 0, 0, []), (.nop, 3, 0, [])]
def qX8_reads_3 : List cs_W := [(.putfield 188, 8, 19, []), (.aload_n 0, 0, 0, []), (.getfield 153, 8, 13, []), (.ifCond .ne 14, 4, 0, []), (.aload_n 0, 0, 0, []), (.getfield 188, 8, 19, []), (.ifCond .ne 7, 4, 0, []), (.iconst 1, 0, 0, []), (.goto 4, 5, 0, [])]
def qX8_reads_4 : List cs_W := [(.iconst 0, 0, 0, []), (.nop, 5, 0, [])]
def qX8_reads_5 : List cs_W := [(.istore_n 3, 3, 0, []), (.iload_n 3, 3, 0, []), (.ifCond .eq 14, 6, 0, []), (.iload_n 1, 1, 0, []), (.ifCond .eq 10, 6, 0, []), (.aload_n 0, 0, 0, []), (.invokevirtual 197, 139, 8, [0]), (.goto 4, 7, 0, [])]
def qX8_reads_6 : List cs_W := [(.iconst 0, 0, 0, []), (.nop, 7, 0, [])]
def qX8_reads_7 : List cs_W := [(.istore 4, 4, 0, []), (.iload_n 2, 2, 0, []), (.iload_n 3, 3, 0, []), (.ifCond .eq 7, 8, 0, []), (.iconst 1, 0, 0, []), (.goto 4, 9, 0, [])]
def qX8_reads_8 : List cs_W := [(.iconst 0, 0, 0, []), (.nop, 9, 0, [])]
def qX8_reads_9 : List cs_W := [(.iadd, 0, 0, []), (.istore_n 2, 2, 0, []), (.iload_n 3, 3, 0, []), (.ifCond .eq 18, 10, 0, []), (.aload_n 0, 0, 0, []), (.getfield 157, 8, 12, []), (.aload_n 0, 0, 0, []), (.getfield 150, 8, 7, []), (.if_icmp .ge 7, 10, 0, []), (.iconst 1, 0, 0, []), (.goto 4, 11, 0, [])]
def qX8_reads_10 : List cs_W := [(.iconst 0, 0, 0, []), (.nop, 11, 0, [])]
def qX8_reads_11 : List cs_W := [(.istore_n 3, 3, 0, []), (.iload_n 3, 3, 0, []), (.ifCond .eq 26, 14, 0, []), (.aload_n 0, 0, 0, []), (.bipush 59, 0, 0, []), (.bipush 59, 0, 0, []), (.invokevirtual 164, 134, 8, [2]), (.istore 5, 5, 0, []), (.aload_n 0, 0, 0, []), (.getfield 153, 8, 13, []), (.ifCond .ne 7, 12, 0, []), (.iconst 1, 0, 0, []), (.goto 4, 13, 0, [])]
def qX8_reads_12 : List cs_W := [(.iconst 0, 0, 0, []), (.nop, 13, 0, [])]
def qX8_reads_13 : List cs_W := [(.istore_n 3, 3, 0, []), (.nop, 14, 0, [])]
def qX8_reads_14 : List cs_W := [(.goto (-122), 1, 0, [])]
def qX8_reads_15 : List cs_W := [(.iload_n 2, 2, 0, []), (.ireturn, 0, 0, [])]
def qX8_reads_16 : List cs_W := [(.iload_n 3, 3, 0, []), (.ifCond .eq 124, 15, 0, []), (.aload_n 0, 0, 0, []), (.invokevirtual 191, 137, 8, [0]), (.aload_n 0, 0, 0, []), (.iload_n 1, 1, 0, []), (.ifCond .eq 10, 2, 0, []), (.aload_n 0, 0, 0, []), (.invokevirtual 194, 138, 8, [0]), (.goto 4, 3, 0, [])]
def bX8_reads : cs_BL := [(0, qX8_reads_0), (19, qX8_reads_1), (39, qX8_reads_2), (40, qX8_reads_3), (61, qX8_reads_4), (62, qX8_reads_5), (78, qX8_reads_6), (79, qX8_reads_7), (90, qX8_reads_8), (91, qX8_reads_9), (112, qX8_reads_10), (113, qX8_reads_11), (139, qX8_reads_12), (140, qX8_reads_13), (141, qX8_reads_14), (144, qX8_reads_15), (19, qX8_reads_16)]
theorem rX8_reads : cs_rows bX8_reads 0 = qX8_reads_0 ∧ cs_rows bX8_reads 1 = qX8_reads_1 ∧ cs_rows bX8_reads 2 = qX8_reads_2 ∧ cs_rows bX8_reads 3 = qX8_reads_3 ∧ cs_rows bX8_reads 4 = qX8_reads_4 ∧ cs_rows bX8_reads 5 = qX8_reads_5 ∧ cs_rows bX8_reads 6 = qX8_reads_6 ∧ cs_rows bX8_reads 7 = qX8_reads_7 ∧ cs_rows bX8_reads 8 = qX8_reads_8 ∧ cs_rows bX8_reads 9 = qX8_reads_9 ∧ cs_rows bX8_reads 10 = qX8_reads_10 ∧ cs_rows bX8_reads 11 = qX8_reads_11 ∧ cs_rows bX8_reads 12 = qX8_reads_12 ∧ cs_rows bX8_reads 13 = qX8_reads_13 ∧ cs_rows bX8_reads 14 = qX8_reads_14 ∧ cs_rows bX8_reads 15 = qX8_reads_15 ∧ cs_rows bX8_reads 16 = qX8_reads_16 := ⟨rfl, rfl, rfl, rfl, rfl, rfl, rfl, rfl, rfl, rfl, rfl, rfl, rfl, rfl, rfl, rfl, rfl⟩
set_option maxRecDepth 100000 in
theorem kX8_reads : cs_chkB iX8_reads bX8_reads = true := by decide +kernel
def qX8_perform_0 : List cs_W := [(.aload_n 0, 0, 0, []), (.iconst 0, 0, 0, []), (.invokevirtual 200, 140, 8, [1]), (.istore_n 1, 1, 0, []), (.aload_n 0, 0, 0, []), (.getfield 153, 8, 13, []), (.ifCond .eq 11, 1, 0, []), (.bipush (-100), 0, 0, []), (.aload_n 0, 0, 0, []), (.getfield 157, 8, 12, []), (.isub, 0, 0, []), (.ireturn, 0, 0, [])]
def qX8_perform_1 : List cs_W := [(.aload_n 0, 0, 0, []), (.invokevirtual 204, 97, 8, [0]), (.aload_n 0, 0, 0, []), (.iconst 1, 0, 0, []), (.invokevirtual 200, 140, 8, [1]), (.istore_n 1, 1, 0, []), (.aload_n 0, 0, 0, []), (.invokevirtual 207, 98, 8, [0]), (.aload_n 0, 0, 0, []), (.getfield 188, 8, 19, []), (.ifCond .eq 19, 2, 0, []), (.aload_n 0, 0, 0, []), (.iload_n 1, 1, 0, []), (.putfield 25, 8, 8, []), (.aload_n 0, 0, 0, []), (.aload_n 0, 0, 0, []), (.getfield 188, 8, 19, []), (.putfield 29, 8, 9, []), (.bipush (-4), 0, 0, []), (.ireturn, 0, 0, [])]
def qX8_perform_2 : List cs_W := [(.aload_n 0, 0, 0, []), (.invokevirtual 122, 96, 8, [0]), (.aload_n 0, 0, 0, []), (.invokevirtual 207, 98, 8, [0]), (.iload_n 1, 1, 0, []), (.ireturn, 0, 0, [])]
def bX8_perform : cs_BL := [(0, qX8_perform_0), (21, qX8_perform_1), (58, qX8_perform_2)]
theorem rX8_perform : cs_rows bX8_perform 0 = qX8_perform_0 ∧ cs_rows bX8_perform 1 = qX8_perform_1 ∧ cs_rows bX8_perform 2 = qX8_perform_2 := ⟨rfl, rfl, rfl⟩
set_option maxRecDepth 100000 in
theorem kX8_perform : cs_chkB iX8_perform bX8_perform = true := by decide +kernel
def qX8_stopped_0 : List cs_W := [(.iload_n 1, 1, 0, []), (.ifCond .ne 10, 1, 0, []), (.aload_n 0, 0, 0, []), (.getfield 25, 8, 8, []), (.goto 17, 3, 0, [])]
def qX8_stopped_1 : List cs_W := [(.iload_n 1, 1, 0, []), (.iconst 1, 0, 0, []), (.if_icmp .ne 10, 2, 0, []), (.aload_n 0, 0, 0, []), (.getfield 29, 8, 9, []), (.goto 5, 3, 0, [])]
def qX8_stopped_2 : List cs_W := [(.bipush (-2), 0, 0, []), (.nop, 3, 0, [])]
def qX8_stopped_3 : List cs_W := [(.ireturn, 0, 0, [])]
def bX8_stopped : cs_BL := [(0, qX8_stopped_0), (11, qX8_stopped_1), (23, qX8_stopped_2), (25, qX8_stopped_3)]
theorem rX8_stopped : cs_rows bX8_stopped 0 = qX8_stopped_0 ∧ cs_rows bX8_stopped 1 = qX8_stopped_1 ∧ cs_rows bX8_stopped 2 = qX8_stopped_2 ∧ cs_rows bX8_stopped 3 = qX8_stopped_3 := ⟨rfl, rfl, rfl, rfl⟩
set_option maxRecDepth 100000 in
theorem kX8_stopped : cs_chkB iX8_stopped bX8_stopped = true := by decide +kernel
def qX8_undo_0 : List cs_W := [(.aload_n 0, 0, 0, []), (.getfield 43, 8, 3, []), (.ifCond .ne 6, 1, 0, []), (.bipush (-5), 0, 0, []), (.ireturn, 0, 0, [])]
def qX8_undo_1 : List cs_W := [(.aload_n 0, 0, 0, []), (.dup, 0, 0, []), (.getfield 43, 8, 3, []), (.iconst 1, 0, 0, []), (.isub, 0, 0, []), (.putfield 43, 8, 3, []), (.iconst 0, 0, 0, []), (.istore_n 1, 1, 0, []), (.nop, 2, 0, [])]
def qX8_undo_2 : List cs_W := [(.nop, 0, 22, [])]
def qX8_undo_3 : List cs_W := [(.aload_n 0, 0, 0, []), (.getfield 43, 8, 3, []), (.ireturn, 0, 0, [])]
def qX8_undo_4 : List cs_W := [(.iload_n 1, 1, 0, []), (.sipush 157, 0, 0, []), (.if_icmp .ge 30, 3, 0, []), (.aload_n 0, 0, 0, []), (.getfield 7, 8, 0, [1]), (.iload_n 1, 1, 0, []), (.aload_n 0, 0, 0, []), (.getfield 16, 8, 2, [1]), (.sipush 157, 0, 0, []), (.aload_n 0, 0, 0, []), (.getfield 43, 8, 3, []), (.imul, 0, 0, []), (.iload_n 1, 1, 0, []), (.iadd, 0, 0, []), (.iaload, 0, 0, []), (.iastore, 0, 0, []), (.iinc 1 1, 0, 0, []), (.goto (-31), 2, 0, [])]
def bX8_undo : cs_BL := [(0, qX8_undo_0), (10, qX8_undo_1), (22, qX8_undo_2), (56, qX8_undo_3), (22, qX8_undo_4)]
theorem rX8_undo : cs_rows bX8_undo 0 = qX8_undo_0 ∧ cs_rows bX8_undo 1 = qX8_undo_1 ∧ cs_rows bX8_undo 2 = qX8_undo_2 ∧ cs_rows bX8_undo 3 = qX8_undo_3 ∧ cs_rows bX8_undo 4 = qX8_undo_4 := ⟨rfl, rfl, rfl, rfl, rfl⟩
set_option maxRecDepth 100000 in
theorem kX8_undo : cs_chkB iX8_undo bX8_undo = true := by decide +kernel
def qX8_keep_0 : List cs_W := [(.iconst 0, 0, 0, []), (.istore_n 1, 1, 0, []), (.nop, 1, 0, [])]
def qX8_keep_1 : List cs_W := [(.nop, 0, 2, [])]
def qX8_keep_2 : List cs_W := [(.aload_n 0, 0, 0, []), (.iconst 1, 0, 0, []), (.putfield 210, 8, 5, [0]), (.aload_n 0, 0, 0, []), (.getfield 7, 8, 0, [1]), (.sipush 149, 0, 0, []), (.iaload, 0, 0, []), (.ireturn, 0, 0, [])]
def qX8_keep_3 : List cs_W := [(.iload_n 1, 1, 0, []), (.sipush 157, 0, 0, []), (.if_icmp .ge 21, 2, 0, []), (.aload_n 0, 0, 0, []), (.getfield 19, 8, 4, [1]), (.iload_n 1, 1, 0, []), (.aload_n 0, 0, 0, []), (.getfield 7, 8, 0, [1]), (.iload_n 1, 1, 0, []), (.iaload, 0, 0, []), (.iastore, 0, 0, []), (.iinc 1 1, 0, 0, []), (.goto (-22), 1, 0, [])]
def bX8_keep : cs_BL := [(0, qX8_keep_0), (2, qX8_keep_1), (27, qX8_keep_2), (2, qX8_keep_3)]
theorem rX8_keep : cs_rows bX8_keep 0 = qX8_keep_0 ∧ cs_rows bX8_keep 1 = qX8_keep_1 ∧ cs_rows bX8_keep 2 = qX8_keep_2 ∧ cs_rows bX8_keep 3 = qX8_keep_3 := ⟨rfl, rfl, rfl, rfl⟩
set_option maxRecDepth 100000 in
theorem kX8_keep : cs_chkB iX8_keep bX8_keep = true := by decide +kernel
def qX8_restore_0 : List cs_W := [(.aload_n 0, 0, 0, []), (.getfield 210, 8, 5, []), (.ifCond .ne 6, 1, 0, []), (.bipush (-5), 0, 0, []), (.ireturn, 0, 0, [])]
def qX8_restore_1 : List cs_W := [(.aload_n 0, 0, 0, []), (.invokevirtual 122, 96, 8, [0]), (.iconst 0, 0, 0, []), (.istore_n 1, 1, 0, []), (.nop, 2, 0, [])]
def qX8_restore_2 : List cs_W := [(.nop, 0, 16, [])]
def qX8_restore_3 : List cs_W := [(.aload_n 0, 0, 0, []), (.getfield 7, 8, 0, [1]), (.sipush 149, 0, 0, []), (.iaload, 0, 0, []), (.ireturn, 0, 0, [])]
def qX8_restore_4 : List cs_W := [(.iload_n 1, 1, 0, []), (.sipush 157, 0, 0, []), (.if_icmp .ge 21, 3, 0, []), (.aload_n 0, 0, 0, []), (.getfield 7, 8, 0, [1]), (.iload_n 1, 1, 0, []), (.aload_n 0, 0, 0, []), (.getfield 19, 8, 4, [1]), (.iload_n 1, 1, 0, []), (.iaload, 0, 0, []), (.iastore, 0, 0, []), (.iinc 1 1, 0, 0, []), (.goto (-22), 2, 0, [])]
def bX8_restore : cs_BL := [(0, qX8_restore_0), (10, qX8_restore_1), (16, qX8_restore_2), (41, qX8_restore_3), (16, qX8_restore_4)]
theorem rX8_restore : cs_rows bX8_restore 0 = qX8_restore_0 ∧ cs_rows bX8_restore 1 = qX8_restore_1 ∧ cs_rows bX8_restore 2 = qX8_restore_2 ∧ cs_rows bX8_restore 3 = qX8_restore_3 ∧ cs_rows bX8_restore 4 = qX8_restore_4 := ⟨rfl, rfl, rfl, rfl, rfl⟩
set_option maxRecDepth 100000 in
theorem kX8_restore : cs_chkB iX8_restore bX8_restore = true := by decide +kernel
def qX8_boatOf_0 : List cs_W := [(.aload_n 0, 0, 0, []), (.iload_n 1, 1, 0, []), (.invokevirtual 128, 93, 8, [1]), (.ifCond .ne 5, 1, 0, []), (.iconst (-1), 0, 0, []), (.ireturn, 0, 0, [])]
def qX8_boatOf_1 : List cs_W := [(.aload_n 0, 0, 0, []), (.iload_n 1, 1, 0, []), (.invokevirtual 57, 99, 8, [1]), (.istore_n 3, 3, 0, []), (.iload_n 2, 2, 0, []), (.tableswitch 117 0 9 #[55, 55, 55, 55, 55, 62, 72, 87, 102, 110], 14, 0, [2, 2, 2, 2, 2, 3, 6, 9, 12, 13])]
def qX8_boatOf_2 : List cs_W := [(.aload_n 0, 0, 0, []), (.iload_n 1, 1, 0, []), (.iload_n 2, 2, 0, []), (.invokevirtual 46, 95, 8, [2]), (.ireturn, 0, 0, [])]
def qX8_boatOf_3 : List cs_W := [(.iload_n 3, 3, 0, []), (.ifCond .eq 7, 4, 0, []), (.iconst 1, 0, 0, []), (.goto 4, 5, 0, [])]
def qX8_boatOf_4 : List cs_W := [(.iconst 0, 0, 0, []), (.nop, 5, 0, [])]
def qX8_boatOf_5 : List cs_W := [(.ireturn, 0, 0, [])]
def qX8_boatOf_6 : List cs_W := [(.iload_n 3, 3, 0, []), (.ifCond .eq 8, 7, 0, []), (.bipush (-5), 0, 0, []), (.goto 8, 8, 0, [])]
def qX8_boatOf_7 : List cs_W := [(.aload_n 0, 0, 0, []), (.iload_n 1, 1, 0, []), (.invokevirtual 60, 102, 8, [1]), (.nop, 8, 0, [])]
def qX8_boatOf_8 : List cs_W := [(.ireturn, 0, 0, [])]
def qX8_boatOf_9 : List cs_W := [(.iload_n 3, 3, 0, []), (.ifCond .eq 8, 10, 0, []), (.bipush (-5), 0, 0, []), (.goto 8, 11, 0, [])]
def qX8_boatOf_10 : List cs_W := [(.aload_n 0, 0, 0, []), (.iload_n 1, 1, 0, []), (.invokevirtual 77, 107, 8, [1]), (.nop, 11, 0, [])]
def qX8_boatOf_11 : List cs_W := [(.ireturn, 0, 0, [])]
def qX8_boatOf_12 : List cs_W := [(.aload_n 0, 0, 0, []), (.iload_n 1, 1, 0, []), (.bipush 6, 0, 0, []), (.invokevirtual 46, 95, 8, [2]), (.ireturn, 0, 0, [])]
def qX8_boatOf_13 : List cs_W := [(.aload_n 0, 0, 0, []), (.iload_n 1, 1, 0, []), (.iconst 5, 0, 0, []), (.invokevirtual 46, 95, 8, [2]), (.ireturn, 0, 0, [])]
def qX8_boatOf_14 : List cs_W := [(.bipush (-2), 0, 0, []), (.ireturn, 0, 0, [])]
def bX8_boatOf : cs_BL := [(0, qX8_boatOf_0), (10, qX8_boatOf_1), (72, qX8_boatOf_2), (79, qX8_boatOf_3), (87, qX8_boatOf_4), (88, qX8_boatOf_5), (89, qX8_boatOf_6), (98, qX8_boatOf_7), (103, qX8_boatOf_8), (104, qX8_boatOf_9), (113, qX8_boatOf_10), (118, qX8_boatOf_11), (119, qX8_boatOf_12), (127, qX8_boatOf_13), (134, qX8_boatOf_14)]
theorem rX8_boatOf : cs_rows bX8_boatOf 0 = qX8_boatOf_0 ∧ cs_rows bX8_boatOf 1 = qX8_boatOf_1 ∧ cs_rows bX8_boatOf 2 = qX8_boatOf_2 ∧ cs_rows bX8_boatOf 3 = qX8_boatOf_3 ∧ cs_rows bX8_boatOf 4 = qX8_boatOf_4 ∧ cs_rows bX8_boatOf 5 = qX8_boatOf_5 ∧ cs_rows bX8_boatOf 6 = qX8_boatOf_6 ∧ cs_rows bX8_boatOf 7 = qX8_boatOf_7 ∧ cs_rows bX8_boatOf 8 = qX8_boatOf_8 ∧ cs_rows bX8_boatOf 9 = qX8_boatOf_9 ∧ cs_rows bX8_boatOf 10 = qX8_boatOf_10 ∧ cs_rows bX8_boatOf 11 = qX8_boatOf_11 ∧ cs_rows bX8_boatOf 12 = qX8_boatOf_12 ∧ cs_rows bX8_boatOf 13 = qX8_boatOf_13 ∧ cs_rows bX8_boatOf 14 = qX8_boatOf_14 := ⟨rfl, rfl, rfl, rfl, rfl, rfl, rfl, rfl, rfl, rfl, rfl, rfl, rfl, rfl, rfl⟩
set_option maxRecDepth 100000 in
theorem kX8_boatOf : cs_chkB iX8_boatOf bX8_boatOf = true := by decide +kernel
def qX8_lock_0 : List cs_W := [(.iload_n 1, 1, 0, []), (.invokestatic 131, 92, 0, [1]), (.ifCond .ne 5, 1, 0, []), (.iconst (-1), 0, 0, []), (.ireturn, 0, 0, [])]
def qX8_lock_1 : List cs_W := [(.iload_n 2, 2, 0, []), (.tableswitch 122 0 7 #[46, 60, 60, 76, 76, 92, 102, 112], 14, 0, [2, 5, 5, 8, 8, 11, 12, 13])]
def qX8_lock_2 : List cs_W := [(.aload_n 0, 0, 0, []), (.iload_n 1, 1, 0, []), (.invokevirtual 67, 109, 8, [1]), (.ifCond .eq 7, 3, 0, []), (.iconst 1, 0, 0, []), (.goto 4, 4, 0, [])]
def qX8_lock_3 : List cs_W := [(.iconst 0, 0, 0, []), (.nop, 4, 0, [])]
def qX8_lock_4 : List cs_W := [(.ireturn, 0, 0, [])]
def qX8_lock_5 : List cs_W := [(.aload_n 0, 0, 0, []), (.iload_n 1, 1, 0, []), (.iload_n 2, 2, 0, []), (.iconst 1, 0, 0, []), (.if_icmp .ne 7, 6, 0, []), (.iconst 1, 0, 0, []), (.goto 4, 7, 0, [])]
def qX8_lock_6 : List cs_W := [(.iconst 0, 0, 0, []), (.nop, 7, 0, [])]
def qX8_lock_7 : List cs_W := [(.invokevirtual 99, 105, 8, [2]), (.ireturn, 0, 0, [])]
def qX8_lock_8 : List cs_W := [(.aload_n 0, 0, 0, []), (.iload_n 1, 1, 0, []), (.iload_n 2, 2, 0, []), (.iconst 3, 0, 0, []), (.if_icmp .ne 7, 9, 0, []), (.iconst 1, 0, 0, []), (.goto 4, 10, 0, [])]
def qX8_lock_9 : List cs_W := [(.iconst 0, 0, 0, []), (.nop, 10, 0, [])]
def qX8_lock_10 : List cs_W := [(.invokevirtual 89, 106, 8, [2]), (.ireturn, 0, 0, [])]
def qX8_lock_11 : List cs_W := [(.aload_n 0, 0, 0, []), (.getfield 7, 8, 0, [1]), (.bipush 11, 0, 0, []), (.iload_n 1, 1, 0, []), (.iadd, 0, 0, []), (.iaload, 0, 0, []), (.ireturn, 0, 0, [])]
def qX8_lock_12 : List cs_W := [(.aload_n 0, 0, 0, []), (.getfield 7, 8, 0, [1]), (.bipush 16, 0, 0, []), (.iload_n 1, 1, 0, []), (.iadd, 0, 0, []), (.iaload, 0, 0, []), (.ireturn, 0, 0, [])]
def qX8_lock_13 : List cs_W := [(.aload_n 0, 0, 0, []), (.getfield 7, 8, 0, [1]), (.bipush 6, 0, 0, []), (.iload_n 1, 1, 0, []), (.iadd, 0, 0, []), (.iaload, 0, 0, []), (.ireturn, 0, 0, [])]
def qX8_lock_14 : List cs_W := [(.bipush (-2), 0, 0, []), (.ireturn, 0, 0, [])]
def bX8_lock : cs_BL := [(0, qX8_lock_0), (9, qX8_lock_1), (56, qX8_lock_2), (68, qX8_lock_3), (69, qX8_lock_4), (70, qX8_lock_5), (81, qX8_lock_6), (82, qX8_lock_7), (86, qX8_lock_8), (97, qX8_lock_9), (98, qX8_lock_10), (102, qX8_lock_11), (112, qX8_lock_12), (122, qX8_lock_13), (132, qX8_lock_14)]
theorem rX8_lock : cs_rows bX8_lock 0 = qX8_lock_0 ∧ cs_rows bX8_lock 1 = qX8_lock_1 ∧ cs_rows bX8_lock 2 = qX8_lock_2 ∧ cs_rows bX8_lock 3 = qX8_lock_3 ∧ cs_rows bX8_lock 4 = qX8_lock_4 ∧ cs_rows bX8_lock 5 = qX8_lock_5 ∧ cs_rows bX8_lock 6 = qX8_lock_6 ∧ cs_rows bX8_lock 7 = qX8_lock_7 ∧ cs_rows bX8_lock 8 = qX8_lock_8 ∧ cs_rows bX8_lock 9 = qX8_lock_9 ∧ cs_rows bX8_lock 10 = qX8_lock_10 ∧ cs_rows bX8_lock 11 = qX8_lock_11 ∧ cs_rows bX8_lock 12 = qX8_lock_12 ∧ cs_rows bX8_lock 13 = qX8_lock_13 ∧ cs_rows bX8_lock 14 = qX8_lock_14 := ⟨rfl, rfl, rfl, rfl, rfl, rfl, rfl, rfl, rfl, rfl, rfl, rfl, rfl, rfl, rfl⟩
set_option maxRecDepth 100000 in
theorem kX8_lock : cs_chkB iX8_lock bX8_lock = true := by decide +kernel
def qX8_hasPiecesIn_0 : List cs_W := [(.aload_n 0, 0, 0, []), (.iload_n 1, 1, 0, []), (.invokevirtual 57, 99, 8, [1]), (.ifCond .ne 35, 2, 0, []), (.aload_n 0, 0, 0, []), (.iload_n 1, 1, 0, []), (.iconst 2, 0, 0, []), (.invokevirtual 46, 95, 8, [2]), (.iload_n 2, 2, 0, []), (.if_icmp .eq 21, 1, 0, []), (.aload_n 0, 0, 0, []), (.iload_n 1, 1, 0, []), (.iconst 4, 0, 0, []), (.invokevirtual 46, 95, 8, [2]), (.ifCond .le 16, 2, 0, []), (.aload_n 0, 0, 0, []), (.iload_n 1, 1, 0, []), (.invokevirtual 53, 101, 8, [1]), (.iload_n 2, 2, 0, []), (.if_icmp .ne 7, 2, 0, []), (.nop, 1, 0, [])]
def qX8_hasPiecesIn_1 : List cs_W := [(.iconst 1, 0, 0, []), (.goto 4, 3, 0, [])]
def qX8_hasPiecesIn_2 : List cs_W := [(.iconst 0, 0, 0, []), (.nop, 3, 0, [])]
def qX8_hasPiecesIn_3 : List cs_W := [(.ireturn, 0, 1, [])]
def bX8_hasPiecesIn : cs_BL := [(0, qX8_hasPiecesIn_0), (36, qX8_hasPiecesIn_1), (40, qX8_hasPiecesIn_2), (41, qX8_hasPiecesIn_3)]
theorem rX8_hasPiecesIn : cs_rows bX8_hasPiecesIn 0 = qX8_hasPiecesIn_0 ∧ cs_rows bX8_hasPiecesIn 1 = qX8_hasPiecesIn_1 ∧ cs_rows bX8_hasPiecesIn 2 = qX8_hasPiecesIn_2 ∧ cs_rows bX8_hasPiecesIn 3 = qX8_hasPiecesIn_3 := ⟨rfl, rfl, rfl, rfl⟩
set_option maxRecDepth 100000 in
theorem kX8_hasPiecesIn : cs_chkB iX8_hasPiecesIn bX8_hasPiecesIn = true := by decide +kernel
def qX8_pound_0 : List cs_W := [(.iload_n 1, 1, 0, []), (.invokestatic 115, 91, 0, [1]), (.ifCond .ne 5, 1, 0, []), (.iconst (-1), 0, 0, []), (.ireturn, 0, 0, [])]
def qX8_pound_1 : List cs_W := [(.iload_n 2, 2, 0, []), (.iconst 0, 0, 0, []), (.iconst 3, 0, 0, []), (.invokestatic 35, 90, 0, [3]), (.ifCond .ne 6, 2, 0, []), (.bipush (-2), 0, 0, []), (.ireturn, 0, 0, [])]
def qX8_pound_2 : List cs_W := [(.iconst 0, 0, 0, []), (.istore_n 3, 3, 0, []), (.iconst 0, 0, 0, []), (.istore 4, 4, 0, []), (.iconst 0, 0, 0, []), (.istore 5, 5, 0, []), (.iconst 0, 0, 0, []), (.istore 6, 6, 0, []), (.nop, 3, 0, [])]
def qX8_pound_3 : List cs_W := [(.nop, 0, 32, [])]
def qX8_pound_4 : List cs_W := [(.iconst 0, 0, 0, []), (.nop, 5, 0, [])]
def qX8_pound_5 : List cs_W := [(.ior, 0, 0, []), (.istore_n 3, 3, 0, []), (.iload 4, 4, 0, []), (.aload_n 0, 0, 0, []), (.iload 6, 6, 0, []), (.invokevirtual 57, 99, 8, [1]), (.ifCond .eq 21, 6, 0, []), (.aload_n 0, 0, 0, []), (.iload 6, 6, 0, []), (.iconst 2, 0, 0, []), (.invokevirtual 46, 95, 8, [2]), (.iload_n 1, 1, 0, []), (.if_icmp .ne 10, 6, 0, []), (.iconst 1, 0, 0, []), (.iload 6, 6, 0, []), (.ishl, 0, 0, []), (.goto 4, 7, 0, [])]
def qX8_pound_6 : List cs_W := [(.iconst 0, 0, 0, []), (.nop, 7, 0, [])]
def qX8_pound_7 : List cs_W := [(.ior, 0, 0, []), (.istore 4, 4, 0, []), (.iload 7, 7, 0, []), (.ifCond .eq 25, 8, 0, []), (.aload_n 0, 0, 0, []), (.iload 6, 6, 0, []), (.iconst 1, 0, 0, []), (.invokevirtual 46, 95, 8, [2]), (.iload 5, 5, 0, []), (.if_icmp .le 13, 8, 0, []), (.aload_n 0, 0, 0, []), (.iload 6, 6, 0, []), (.iconst 1, 0, 0, []), (.invokevirtual 46, 95, 8, [2]), (.goto 5, 9, 0, [])]
def qX8_pound_8 : List cs_W := [(.iload 5, 5, 0, []), (.nop, 9, 0, [])]
def qX8_pound_9 : List cs_W := [(.istore 5, 5, 0, []), (.iinc 6 1, 0, 0, []), (.goto (-105), 3, 0, [])]
def qX8_pound_10 : List cs_W := [(.iload_n 2, 2, 0, []), (.ifCond .ne 14, 11, 0, []), (.aload_n 0, 0, 0, []), (.getfield 7, 8, 0, [1]), (.iconst 0, 0, 0, []), (.iload_n 1, 1, 0, []), (.iadd, 0, 0, []), (.iaload, 0, 0, []), (.goto 24, 14, 0, [])]
def qX8_pound_11 : List cs_W := [(.iload_n 2, 2, 0, []), (.iconst 1, 0, 0, []), (.if_icmp .ne 7, 12, 0, []), (.iload_n 3, 3, 0, []), (.goto 15, 14, 0, [])]
def qX8_pound_12 : List cs_W := [(.iload_n 2, 2, 0, []), (.iconst 2, 0, 0, []), (.if_icmp .ne 8, 13, 0, []), (.iload 4, 4, 0, []), (.goto 5, 14, 0, [])]
def qX8_pound_13 : List cs_W := [(.iload 5, 5, 0, []), (.nop, 14, 0, [])]
def qX8_pound_14 : List cs_W := [(.ireturn, 0, 0, [])]
def qX8_pound_15 : List cs_W := [(.iload 6, 6, 0, []), (.aload_n 0, 0, 0, []), (.getfield 7, 8, 0, [1]), (.sipush 150, 0, 0, []), (.iaload, 0, 0, []), (.if_icmp .ge 98, 10, 0, []), (.aload_n 0, 0, 0, []), (.iload 6, 6, 0, []), (.iload_n 1, 1, 0, []), (.invokevirtual 213, 148, 8, [2]), (.istore 7, 7, 0, []), (.iload_n 3, 3, 0, []), (.iload 7, 7, 0, []), (.ifCond .eq 10, 4, 0, []), (.iconst 1, 0, 0, []), (.iload 6, 6, 0, []), (.ishl, 0, 0, []), (.goto 4, 5, 0, [])]
def bX8_pound : cs_BL := [(0, qX8_pound_0), (9, qX8_pound_1), (21, qX8_pound_2), (32, qX8_pound_3), (67, qX8_pound_4), (68, qX8_pound_5), (99, qX8_pound_6), (100, qX8_pound_7), (130, qX8_pound_8), (132, qX8_pound_9), (140, qX8_pound_10), (155, qX8_pound_11), (164, qX8_pound_12), (174, qX8_pound_13), (176, qX8_pound_14), (32, qX8_pound_15)]
theorem rX8_pound : cs_rows bX8_pound 0 = qX8_pound_0 ∧ cs_rows bX8_pound 1 = qX8_pound_1 ∧ cs_rows bX8_pound 2 = qX8_pound_2 ∧ cs_rows bX8_pound 3 = qX8_pound_3 ∧ cs_rows bX8_pound 4 = qX8_pound_4 ∧ cs_rows bX8_pound 5 = qX8_pound_5 ∧ cs_rows bX8_pound 6 = qX8_pound_6 ∧ cs_rows bX8_pound 7 = qX8_pound_7 ∧ cs_rows bX8_pound 8 = qX8_pound_8 ∧ cs_rows bX8_pound 9 = qX8_pound_9 ∧ cs_rows bX8_pound 10 = qX8_pound_10 ∧ cs_rows bX8_pound 11 = qX8_pound_11 ∧ cs_rows bX8_pound 12 = qX8_pound_12 ∧ cs_rows bX8_pound 13 = qX8_pound_13 ∧ cs_rows bX8_pound 14 = qX8_pound_14 ∧ cs_rows bX8_pound 15 = qX8_pound_15 := ⟨rfl, rfl, rfl, rfl, rfl, rfl, rfl, rfl, rfl, rfl, rfl, rfl, rfl, rfl, rfl, rfl⟩
set_option maxRecDepth 100000 in
theorem kX8_pound : cs_chkB iX8_pound bX8_pound = true := by decide +kernel
def qX8_reason_0 : List cs_W := [(.aload_n 0, 0, 0, []), (.iload_n 1, 1, 0, []), (.invokevirtual 128, 93, 8, [1]), (.ifCond .ne 5, 1, 0, []), (.iconst (-1), 0, 0, []), (.ireturn, 0, 0, [])]
def qX8_reason_1 : List cs_W := [(.aload_n 0, 0, 0, []), (.iload_n 1, 1, 0, []), (.invokevirtual 57, 99, 8, [1]), (.ifCond .eq 5, 2, 0, []), (.iconst 1, 0, 0, []), (.ireturn, 0, 0, [])]
def qX8_reason_2 : List cs_W := [(.aload_n 0, 0, 0, []), (.invokevirtual 204, 97, 8, [0]), (.aload_n 0, 0, 0, []), (.iload_n 1, 1, 0, []), (.putfield 32, 8, 10, []), (.aload_n 0, 0, 0, []), (.bipush (-5), 0, 0, []), (.putfield 83, 8, 11, []), (.aload_n 0, 0, 0, []), (.invokevirtual 112, 116, 8, [0]), (.aload_n 0, 0, 0, []), (.bipush (-5), 0, 0, []), (.putfield 32, 8, 10, []), (.aload_n 0, 0, 0, []), (.invokevirtual 207, 98, 8, [0]), (.aload_n 0, 0, 0, []), (.getfield 83, 8, 11, []), (.ireturn, 0, 0, [])]
def bX8_reason : cs_BL := [(0, qX8_reason_0), (10, qX8_reason_1), (20, qX8_reason_2)]
theorem rX8_reason : cs_rows bX8_reason 0 = qX8_reason_0 ∧ cs_rows bX8_reason 1 = qX8_reason_1 ∧ cs_rows bX8_reason 2 = qX8_reason_2 := ⟨rfl, rfl, rfl⟩
set_option maxRecDepth 100000 in
theorem kX8_reason : cs_chkB iX8_reason bX8_reason = true := by decide +kernel
def qX8_arrivesIn_0 : List cs_W := [(.aload_n 0, 0, 0, []), (.iload_n 1, 1, 0, []), (.invokevirtual 128, 93, 8, [1]), (.ifCond .ne 5, 1, 0, []), (.iconst (-1), 0, 0, []), (.ireturn, 0, 0, [])]
def qX8_arrivesIn_1 : List cs_W := [(.aload_n 0, 0, 0, []), (.invokevirtual 204, 97, 8, [0]), (.iconst 0, 0, 0, []), (.istore_n 2, 2, 0, []), (.nop, 2, 0, [])]
def qX8_arrivesIn_2 : List cs_W := [(.nop, 0, 16, [])]
def qX8_arrivesIn_3 : List cs_W := [(.aload_n 0, 0, 0, []), (.invokevirtual 207, 98, 8, [0]), (.iload_n 2, 2, 0, []), (.sipush 500, 0, 0, []), (.if_icmp .le 8, 4, 0, []), (.bipush (-5), 0, 0, []), (.goto 4, 5, 0, [])]
def qX8_arrivesIn_4 : List cs_W := [(.iload_n 2, 2, 0, []), (.nop, 5, 0, [])]
def qX8_arrivesIn_5 : List cs_W := [(.ireturn, 0, 0, [])]
def qX8_arrivesIn_6 : List cs_W := [(.iload_n 2, 2, 0, []), (.sipush 500, 0, 0, []), (.if_icmp .gt 21, 3, 0, []), (.aload_n 0, 0, 0, []), (.iload_n 1, 1, 0, []), (.invokevirtual 57, 99, 8, [1]), (.ifCond .ne 13, 3, 0, []), (.aload_n 0, 0, 0, []), (.invokevirtual 112, 116, 8, [0]), (.iinc 2 1, 0, 0, []), (.goto (-22), 2, 0, [])]
def bX8_arrivesIn : cs_BL := [(0, qX8_arrivesIn_0), (10, qX8_arrivesIn_1), (16, qX8_arrivesIn_2), (41, qX8_arrivesIn_3), (57, qX8_arrivesIn_4), (58, qX8_arrivesIn_5), (16, qX8_arrivesIn_6)]
theorem rX8_arrivesIn : cs_rows bX8_arrivesIn 0 = qX8_arrivesIn_0 ∧ cs_rows bX8_arrivesIn 1 = qX8_arrivesIn_1 ∧ cs_rows bX8_arrivesIn 2 = qX8_arrivesIn_2 ∧ cs_rows bX8_arrivesIn 3 = qX8_arrivesIn_3 ∧ cs_rows bX8_arrivesIn 4 = qX8_arrivesIn_4 ∧ cs_rows bX8_arrivesIn 5 = qX8_arrivesIn_5 ∧ cs_rows bX8_arrivesIn 6 = qX8_arrivesIn_6 := ⟨rfl, rfl, rfl, rfl, rfl, rfl, rfl⟩
set_option maxRecDepth 100000 in
theorem kX8_arrivesIn : cs_chkB iX8_arrivesIn bX8_arrivesIn = true := by decide +kernel
def qX8_water_0 : List cs_W := [(.iload_n 1, 1, 0, []), (.iconst 0, 0, 0, []), (.iconst 1, 0, 0, []), (.invokestatic 35, 90, 0, [3]), (.ifCond .ne 6, 1, 0, []), (.bipush (-2), 0, 0, []), (.ireturn, 0, 0, [])]
def qX8_water_1 : List cs_W := [(.iconst 0, 0, 0, []), (.istore_n 2, 2, 0, []), (.iconst 0, 0, 0, []), (.istore_n 3, 3, 0, []), (.nop, 2, 0, [])]
def qX8_water_2 : List cs_W := [(.nop, 0, 16, [])]
def qX8_water_3 : List cs_W := [(.iload_n 2, 2, 0, []), (.ireturn, 0, 0, [])]
def qX8_water_4 : List cs_W := [(.iload_n 3, 3, 0, []), (.bipush 11, 0, 0, []), (.if_icmp .ge 20, 3, 0, []), (.iload_n 2, 2, 0, []), (.aload_n 0, 0, 0, []), (.getfield 7, 8, 0, [1]), (.iconst 0, 0, 0, []), (.iload_n 3, 3, 0, []), (.iadd, 0, 0, []), (.iaload, 0, 0, []), (.iadd, 0, 0, []), (.istore_n 2, 2, 0, []), (.iinc 3 1, 0, 0, []), (.goto (-20), 2, 0, [])]
def bX8_water : cs_BL := [(0, qX8_water_0), (12, qX8_water_1), (16, qX8_water_2), (39, qX8_water_3), (16, qX8_water_4)]
theorem rX8_water : cs_rows bX8_water 0 = qX8_water_0 ∧ cs_rows bX8_water 1 = qX8_water_1 ∧ cs_rows bX8_water 2 = qX8_water_2 ∧ cs_rows bX8_water 3 = qX8_water_3 ∧ cs_rows bX8_water 4 = qX8_water_4 := ⟨rfl, rfl, rfl, rfl, rfl⟩
set_option maxRecDepth 100000 in
theorem kX8_water : cs_chkB iX8_water bX8_water = true := by decide +kernel
def qX8_wouldArrive_0 : List cs_W := [(.aload_n 0, 0, 0, []), (.invokevirtual 204, 97, 8, [0]), (.iload_n 1, 1, 0, []), (.bipush (-5), 0, 0, []), (.if_icmp .eq 8, 1, 0, []), (.aload_n 0, 0, 0, []), (.iload_n 1, 1, 0, []), (.invokevirtual 93, 111, 8, [1]), (.nop, 1, 0, [])]
def qX8_wouldArrive_1 : List cs_W := [(.aload_n 0, 0, 0, []), (.bipush 40, 0, 0, []), (.invokevirtual 147, 118, 8, [1]), (.istore_n 2, 2, 0, []), (.aload_n 0, 0, 0, []), (.invokevirtual 207, 98, 8, [0]), (.iload_n 2, 2, 0, []), (.ireturn, 0, 0, [])]
def bX8_wouldArrive : cs_BL := [(0, qX8_wouldArrive_0), (15, qX8_wouldArrive_1)]
theorem rX8_wouldArrive : cs_rows bX8_wouldArrive 0 = qX8_wouldArrive_0 ∧ cs_rows bX8_wouldArrive 1 = qX8_wouldArrive_1 := ⟨rfl, rfl⟩
set_option maxRecDepth 100000 in
theorem kX8_wouldArrive : cs_chkB iX8_wouldArrive bX8_wouldArrive = true := by decide +kernel
def qX8_bestTurn_0 : List cs_W := [(.iload_n 1, 1, 0, []), (.iconst 0, 0, 0, []), (.iconst 1, 0, 0, []), (.invokestatic 35, 90, 0, [3]), (.ifCond .ne 6, 1, 0, []), (.bipush (-2), 0, 0, []), (.ireturn, 0, 0, [])]
def qX8_bestTurn_1 : List cs_W := [(.bipush (-5), 0, 0, []), (.istore_n 2, 2, 0, []), (.aload_n 0, 0, 0, []), (.bipush (-5), 0, 0, []), (.invokevirtual 216, 153, 8, [1]), (.istore_n 3, 3, 0, []), (.iconst 0, 0, 0, []), (.istore 4, 4, 0, []), (.nop, 2, 0, [])]
def qX8_bestTurn_2 : List cs_W := [(.nop, 0, 25, [])]
def qX8_bestTurn_3 : List cs_W := [(.iconst 0, 0, 0, []), (.nop, 4, 0, [])]
def qX8_bestTurn_4 : List cs_W := [(.istore 5, 5, 0, []), (.iload 5, 5, 0, []), (.iload_n 3, 3, 0, []), (.if_icmp .le 8, 5, 0, []), (.iload 4, 4, 0, []), (.goto 4, 6, 0, [])]
def qX8_bestTurn_5 : List cs_W := [(.iload_n 2, 2, 0, []), (.nop, 6, 0, [])]
def qX8_bestTurn_6 : List cs_W := [(.istore_n 2, 2, 0, []), (.iload 5, 5, 0, []), (.iload_n 3, 3, 0, []), (.if_icmp .le 8, 7, 0, []), (.iload 5, 5, 0, []), (.goto 4, 8, 0, [])]
def qX8_bestTurn_7 : List cs_W := [(.iload_n 3, 3, 0, []), (.nop, 8, 0, [])]
def qX8_bestTurn_8 : List cs_W := [(.istore_n 3, 3, 0, []), (.iinc 4 1, 0, 0, []), (.goto (-56), 2, 0, [])]
def qX8_bestTurn_9 : List cs_W := [(.iload_n 2, 2, 0, []), (.bipush (-5), 0, 0, []), (.if_icmp .ne 8, 10, 0, []), (.bipush (-5), 0, 0, []), (.goto 12, 12, 0, [])]
def qX8_bestTurn_10 : List cs_W := [(.iload_n 1, 1, 0, []), (.ifCond .ne 7, 11, 0, []), (.iload_n 2, 2, 0, []), (.goto 4, 12, 0, [])]
def qX8_bestTurn_11 : List cs_W := [(.iload_n 3, 3, 0, []), (.nop, 12, 0, [])]
def qX8_bestTurn_12 : List cs_W := [(.ireturn, 0, 0, [])]
def qX8_bestTurn_13 : List cs_W := [(.iload 4, 4, 0, []), (.iconst 5, 0, 0, []), (.if_icmp .ge 56, 9, 0, []), (.aload_n 0, 0, 0, []), (.iload 4, 4, 0, []), (.invokevirtual 80, 110, 8, [1]), (.ifCond .eq 12, 3, 0, []), (.aload_n 0, 0, 0, []), (.iload 4, 4, 0, []), (.invokevirtual 216, 153, 8, [1]), (.goto 4, 4, 0, [])]
def bX8_bestTurn : cs_BL := [(0, qX8_bestTurn_0), (12, qX8_bestTurn_1), (25, qX8_bestTurn_2), (49, qX8_bestTurn_3), (50, qX8_bestTurn_4), (63, qX8_bestTurn_5), (64, qX8_bestTurn_6), (76, qX8_bestTurn_7), (77, qX8_bestTurn_8), (84, qX8_bestTurn_9), (95, qX8_bestTurn_10), (103, qX8_bestTurn_11), (104, qX8_bestTurn_12), (25, qX8_bestTurn_13)]
theorem rX8_bestTurn : cs_rows bX8_bestTurn 0 = qX8_bestTurn_0 ∧ cs_rows bX8_bestTurn 1 = qX8_bestTurn_1 ∧ cs_rows bX8_bestTurn 2 = qX8_bestTurn_2 ∧ cs_rows bX8_bestTurn 3 = qX8_bestTurn_3 ∧ cs_rows bX8_bestTurn 4 = qX8_bestTurn_4 ∧ cs_rows bX8_bestTurn 5 = qX8_bestTurn_5 ∧ cs_rows bX8_bestTurn 6 = qX8_bestTurn_6 ∧ cs_rows bX8_bestTurn 7 = qX8_bestTurn_7 ∧ cs_rows bX8_bestTurn 8 = qX8_bestTurn_8 ∧ cs_rows bX8_bestTurn 9 = qX8_bestTurn_9 ∧ cs_rows bX8_bestTurn 10 = qX8_bestTurn_10 ∧ cs_rows bX8_bestTurn 11 = qX8_bestTurn_11 ∧ cs_rows bX8_bestTurn 12 = qX8_bestTurn_12 ∧ cs_rows bX8_bestTurn 13 = qX8_bestTurn_13 := ⟨rfl, rfl, rfl, rfl, rfl, rfl, rfl, rfl, rfl, rfl, rfl, rfl, rfl, rfl⟩
set_option maxRecDepth 100000 in
theorem kX8_bestTurn : cs_chkB iX8_bestTurn bX8_bestTurn = true := by decide +kernel
def qX8_sumOf_0 : List cs_W := [(.iconst 0, 0, 0, []), (.istore_n 2, 2, 0, []), (.iconst 0, 0, 0, []), (.istore_n 3, 3, 0, []), (.nop, 1, 0, [])]
def qX8_sumOf_1 : List cs_W := [(.nop, 0, 4, [])]
def qX8_sumOf_2 : List cs_W := [(.iconst 0, 0, 0, []), (.goto 11, 4, 0, [])]
def qX8_sumOf_3 : List cs_W := [(.aload_n 0, 0, 0, []), (.getfield 7, 8, 0, [1]), (.iload_n 1, 1, 0, []), (.iload_n 3, 3, 0, []), (.iadd, 0, 0, []), (.iaload, 0, 0, []), (.nop, 4, 0, [])]
def qX8_sumOf_4 : List cs_W := [(.iadd, 0, 0, []), (.istore_n 2, 2, 0, []), (.iinc 3 1, 0, 0, []), (.goto (-41), 1, 0, [])]
def qX8_sumOf_5 : List cs_W := [(.iload_n 2, 2, 0, []), (.ireturn, 0, 0, [])]
def qX8_sumOf_6 : List cs_W := [(.iload_n 3, 3, 0, []), (.iconst 5, 0, 0, []), (.if_icmp .ge 42, 5, 0, []), (.iload_n 2, 2, 0, []), (.iload_n 1, 1, 0, []), (.bipush 6, 0, 0, []), (.if_icmp .ne 19, 3, 0, []), (.aload_n 0, 0, 0, []), (.iload_n 3, 3, 0, []), (.invokevirtual 67, 109, 8, [1]), (.ifCond .eq 7, 2, 0, []), (.iconst 1, 0, 0, []), (.goto 15, 4, 0, [])]
def bX8_sumOf : cs_BL := [(0, qX8_sumOf_0), (4, qX8_sumOf_1), (28, qX8_sumOf_2), (32, qX8_sumOf_3), (40, qX8_sumOf_4), (48, qX8_sumOf_5), (4, qX8_sumOf_6)]
theorem rX8_sumOf : cs_rows bX8_sumOf 0 = qX8_sumOf_0 ∧ cs_rows bX8_sumOf 1 = qX8_sumOf_1 ∧ cs_rows bX8_sumOf 2 = qX8_sumOf_2 ∧ cs_rows bX8_sumOf 3 = qX8_sumOf_3 ∧ cs_rows bX8_sumOf 4 = qX8_sumOf_4 ∧ cs_rows bX8_sumOf 5 = qX8_sumOf_5 ∧ cs_rows bX8_sumOf 6 = qX8_sumOf_6 := ⟨rfl, rfl, rfl, rfl, rfl, rfl, rfl⟩
set_option maxRecDepth 100000 in
theorem kX8_sumOf : cs_chkB iX8_sumOf bX8_sumOf = true := by decide +kernel
def qX8_aground_0 : List cs_W := [(.iconst 0, 0, 0, []), (.istore_n 1, 1, 0, []), (.iconst 0, 0, 0, []), (.istore_n 2, 2, 0, []), (.nop, 1, 0, [])]
def qX8_aground_1 : List cs_W := [(.nop, 0, 4, [])]
def qX8_aground_2 : List cs_W := [(.iconst 0, 0, 0, []), (.nop, 3, 0, [])]
def qX8_aground_3 : List cs_W := [(.iadd, 0, 0, []), (.istore_n 1, 1, 0, []), (.iinc 2 1, 0, 0, []), (.goto (-39), 1, 0, [])]
def qX8_aground_4 : List cs_W := [(.iload_n 1, 1, 0, []), (.ireturn, 0, 0, [])]
def qX8_aground_5 : List cs_W := [(.iload_n 2, 2, 0, []), (.aload_n 0, 0, 0, []), (.getfield 7, 8, 0, [1]), (.sipush 150, 0, 0, []), (.iaload, 0, 0, []), (.if_icmp .ge 33, 4, 0, []), (.iload_n 1, 1, 0, []), (.aload_n 0, 0, 0, []), (.iload_n 2, 2, 0, []), (.invokevirtual 57, 99, 8, [1]), (.ifCond .ne 15, 2, 0, []), (.aload_n 0, 0, 0, []), (.iload_n 2, 2, 0, []), (.invokevirtual 74, 103, 8, [1]), (.ifCond .eq 7, 2, 0, []), (.iconst 1, 0, 0, []), (.goto 4, 3, 0, [])]
def bX8_aground : cs_BL := [(0, qX8_aground_0), (4, qX8_aground_1), (37, qX8_aground_2), (38, qX8_aground_3), (46, qX8_aground_4), (4, qX8_aground_5)]
theorem rX8_aground : cs_rows bX8_aground 0 = qX8_aground_0 ∧ cs_rows bX8_aground 1 = qX8_aground_1 ∧ cs_rows bX8_aground 2 = qX8_aground_2 ∧ cs_rows bX8_aground 3 = qX8_aground_3 ∧ cs_rows bX8_aground 4 = qX8_aground_4 ∧ cs_rows bX8_aground 5 = qX8_aground_5 := ⟨rfl, rfl, rfl, rfl, rfl, rfl⟩
set_option maxRecDepth 100000 in
theorem kX8_aground : cs_chkB iX8_aground bX8_aground = true := by decide +kernel
def qX8_ifTicks_0 : List cs_W := [(.iload_n 1, 1, 0, []), (.iconst 1, 0, 0, []), (.sipush 500, 0, 0, []), (.invokestatic 35, 90, 0, [3]), (.ifCond .eq 12, 1, 0, []), (.iload_n 2, 2, 0, []), (.iconst 0, 0, 0, []), (.iconst 3, 0, 0, []), (.invokestatic 35, 90, 0, [3]), (.ifCond .ne 6, 2, 0, []), (.nop, 1, 0, [])]
def qX8_ifTicks_1 : List cs_W := [(.bipush (-2), 0, 0, []), (.ireturn, 0, 0, [])]
def qX8_ifTicks_2 : List cs_W := [(.aload_n 0, 0, 0, []), (.invokevirtual 204, 97, 8, [0]), (.aload_n 0, 0, 0, []), (.bipush 11, 0, 0, []), (.invokevirtual 219, 155, 8, [1]), (.istore_n 3, 3, 0, []), (.aload_n 0, 0, 0, []), (.getfield 7, 8, 0, [1]), (.sipush 152, 0, 0, []), (.iaload, 0, 0, []), (.istore 4, 4, 0, []), (.aload_n 0, 0, 0, []), (.iload_n 1, 1, 0, []), (.invokevirtual 147, 118, 8, [1]), (.istore 5, 5, 0, []), (.iload_n 2, 2, 0, []), (.ifCond .ne 8, 3, 0, []), (.iload 5, 5, 0, []), (.goto 42, 6, 0, [])]
def qX8_ifTicks_3 : List cs_W := [(.iload_n 2, 2, 0, []), (.iconst 1, 0, 0, []), (.if_icmp .ne 14, 4, 0, []), (.aload_n 0, 0, 0, []), (.bipush 11, 0, 0, []), (.invokevirtual 219, 155, 8, [1]), (.iload_n 3, 3, 0, []), (.isub, 0, 0, []), (.goto 26, 6, 0, [])]
def qX8_ifTicks_4 : List cs_W := [(.iload_n 2, 2, 0, []), (.iconst 2, 0, 0, []), (.if_icmp .ne 17, 5, 0, []), (.aload_n 0, 0, 0, []), (.getfield 7, 8, 0, [1]), (.sipush 152, 0, 0, []), (.iaload, 0, 0, []), (.iload 4, 4, 0, []), (.isub, 0, 0, []), (.goto 7, 6, 0, [])]
def qX8_ifTicks_5 : List cs_W := [(.aload_n 0, 0, 0, []), (.invokevirtual 222, 156, 8, [0]), (.nop, 6, 0, [])]
def qX8_ifTicks_6 : List cs_W := [(.istore 6, 6, 0, []), (.aload_n 0, 0, 0, []), (.invokevirtual 207, 98, 8, [0]), (.iload 6, 6, 0, []), (.ireturn, 0, 0, [])]
def bX8_ifTicks : cs_BL := [(0, qX8_ifTicks_0), (20, qX8_ifTicks_1), (23, qX8_ifTicks_2), (60, qX8_ifTicks_3), (76, qX8_ifTicks_4), (95, qX8_ifTicks_5), (99, qX8_ifTicks_6)]
theorem rX8_ifTicks : cs_rows bX8_ifTicks 0 = qX8_ifTicks_0 ∧ cs_rows bX8_ifTicks 1 = qX8_ifTicks_1 ∧ cs_rows bX8_ifTicks 2 = qX8_ifTicks_2 ∧ cs_rows bX8_ifTicks 3 = qX8_ifTicks_3 ∧ cs_rows bX8_ifTicks 4 = qX8_ifTicks_4 ∧ cs_rows bX8_ifTicks 5 = qX8_ifTicks_5 ∧ cs_rows bX8_ifTicks 6 = qX8_ifTicks_6 := ⟨rfl, rfl, rfl, rfl, rfl, rfl, rfl⟩
set_option maxRecDepth 100000 in
theorem kX8_ifTicks : cs_chkB iX8_ifTicks bX8_ifTicks = true := by decide +kernel
def qX8_count_0 : List cs_W := [(.iload_n 1, 1, 0, []), (.tableswitch 162 0 13 #[71, 80, 89, 94, 99, 106, 113, 122, 131, 138, 138, 138, 152, 157], 13, 0, [1, 2, 3, 4, 5, 6, 7, 8, 9, 10, 10, 10, 11, 12])]
def qX8_count_1 : List cs_W := [(.aload_n 0, 0, 0, []), (.getfield 7, 8, 0, [1]), (.sipush 149, 0, 0, []), (.iaload, 0, 0, []), (.ireturn, 0, 0, [])]
def qX8_count_2 : List cs_W := [(.aload_n 0, 0, 0, []), (.getfield 7, 8, 0, [1]), (.sipush 150, 0, 0, []), (.iaload, 0, 0, []), (.ireturn, 0, 0, [])]
def qX8_count_3 : List cs_W := [(.aload_n 0, 0, 0, []), (.invokevirtual 108, 117, 8, [0]), (.ireturn, 0, 0, [])]
def qX8_count_4 : List cs_W := [(.aload_n 0, 0, 0, []), (.invokevirtual 222, 156, 8, [0]), (.ireturn, 0, 0, [])]
def qX8_count_5 : List cs_W := [(.aload_n 0, 0, 0, []), (.bipush 11, 0, 0, []), (.invokevirtual 219, 155, 8, [1]), (.ireturn, 0, 0, [])]
def qX8_count_6 : List cs_W := [(.aload_n 0, 0, 0, []), (.bipush 16, 0, 0, []), (.invokevirtual 219, 155, 8, [1]), (.ireturn, 0, 0, [])]
def qX8_count_7 : List cs_W := [(.aload_n 0, 0, 0, []), (.getfield 7, 8, 0, [1]), (.sipush 152, 0, 0, []), (.iaload, 0, 0, []), (.ireturn, 0, 0, [])]
def qX8_count_8 : List cs_W := [(.aload_n 0, 0, 0, []), (.getfield 7, 8, 0, [1]), (.sipush 153, 0, 0, []), (.iaload, 0, 0, []), (.ireturn, 0, 0, [])]
def qX8_count_9 : List cs_W := [(.aload_n 0, 0, 0, []), (.bipush 6, 0, 0, []), (.invokevirtual 219, 155, 8, [1]), (.ireturn, 0, 0, [])]
def qX8_count_10 : List cs_W := [(.aload_n 0, 0, 0, []), (.getfield 7, 8, 0, [1]), (.sipush 154, 0, 0, []), (.iload_n 1, 1, 0, []), (.iadd, 0, 0, []), (.bipush 9, 0, 0, []), (.isub, 0, 0, []), (.iaload, 0, 0, []), (.ireturn, 0, 0, [])]
def qX8_count_11 : List cs_W := [(.aload_n 0, 0, 0, []), (.getfield 43, 8, 3, []), (.ireturn, 0, 0, [])]
def qX8_count_12 : List cs_W := [(.aload_n 0, 0, 0, []), (.getfield 150, 8, 7, []), (.ireturn, 0, 0, [])]
def qX8_count_13 : List cs_W := [(.bipush (-2), 0, 0, []), (.ireturn, 0, 0, [])]
def bX8_count : cs_BL := [(0, qX8_count_0), (72, qX8_count_1), (81, qX8_count_2), (90, qX8_count_3), (95, qX8_count_4), (100, qX8_count_5), (107, qX8_count_6), (114, qX8_count_7), (123, qX8_count_8), (132, qX8_count_9), (139, qX8_count_10), (153, qX8_count_11), (158, qX8_count_12), (163, qX8_count_13)]
theorem rX8_count : cs_rows bX8_count 0 = qX8_count_0 ∧ cs_rows bX8_count 1 = qX8_count_1 ∧ cs_rows bX8_count 2 = qX8_count_2 ∧ cs_rows bX8_count 3 = qX8_count_3 ∧ cs_rows bX8_count 4 = qX8_count_4 ∧ cs_rows bX8_count 5 = qX8_count_5 ∧ cs_rows bX8_count 6 = qX8_count_6 ∧ cs_rows bX8_count 7 = qX8_count_7 ∧ cs_rows bX8_count 8 = qX8_count_8 ∧ cs_rows bX8_count 9 = qX8_count_9 ∧ cs_rows bX8_count 10 = qX8_count_10 ∧ cs_rows bX8_count 11 = qX8_count_11 ∧ cs_rows bX8_count 12 = qX8_count_12 ∧ cs_rows bX8_count 13 = qX8_count_13 := ⟨rfl, rfl, rfl, rfl, rfl, rfl, rfl, rfl, rfl, rfl, rfl, rfl, rfl, rfl⟩
set_option maxRecDepth 100000 in
theorem kX8_count : cs_chkB iX8_count bX8_count = true := by decide +kernel
