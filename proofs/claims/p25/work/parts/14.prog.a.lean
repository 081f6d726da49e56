/-! ROWS OF THE METHODS IN BLOCKS. Printed by wip/p25/gen3.py. -/
def qX0_init_0 : List cs_W := [(.aload_n 0, 0, 0, []), (.invokespecial 3, 0, 0, []), (.aload_n 0, 0, 0, []), (.bipush (-5), 0, 0, []), (.putfield 9, 0, 6, []), (.return_, 0, 0, [])]
def bX0_init : cs_BL := [(0, qX0_init_0)]
theorem rX0_init : cs_rows bX0_init 0 = qX0_init_0 := rfl
set_option maxRecDepth 100000 in
theorem kX0_init : cs_chkB iX0_init bX0_init = true := by decide +kernel
def qX0_copyFrom_0 : List cs_W := [(.aload_n 0, 0, 0, []), (.aload_n 1, 1, 0, []), (.getfield 15, 0, 0, []), (.putfield 15, 0, 0, []), (.aload_n 0, 0, 0, []), (.aload_n 1, 1, 0, []), (.getfield 18, 0, 1, []), (.putfield 18, 0, 1, []), (.aload_n 0, 0, 0, []), (.aload_n 1, 1, 0, []), (.getfield 21, 0, 2, []), (.putfield 21, 0, 2, []), (.aload_n 0, 0, 0, []), (.aload_n 1, 1, 0, []), (.getfield 24, 0, 3, []), (.putfield 24, 0, 3, []), (.aload_n 0, 0, 0, []), (.aload_n 1, 1, 0, []), (.getfield 27, 0, 4, []), (.putfield 27, 0, 4, []), (.aload_n 0, 0, 0, []), (.aload_n 1, 1, 0, []), (.getfield 30, 0, 5, []), (.putfield 30, 0, 5, []), (.aload_n 0, 0, 0, []), (.aload_n 1, 1, 0, []), (.getfield 9, 0, 6, []), (.putfield 9, 0, 6, []), (.return_, 0, 0, [])]
def bX0_copyFrom : cs_BL := [(0, qX0_copyFrom_0)]
theorem rX0_copyFrom : cs_rows bX0_copyFrom 0 = qX0_copyFrom_0 := rfl
set_option maxRecDepth 100000 in
theorem kX0_copyFrom : cs_chkB iX0_copyFrom bX0_copyFrom = true := by decide +kernel
def qX0_comeTo_0 : List cs_W := [(.aload_n 0, 0, 0, []), (.iload_n 1, 1, 0, []), (.putfield 21, 0, 2, []), (.aload_n 0, 0, 0, []), (.iconst 0, 0, 0, []), (.putfield 27, 0, 4, []), (.aload_n 0, 0, 0, []), (.iconst 0, 0, 0, []), (.putfield 30, 0, 5, []), (.aload_n 0, 0, 0, []), (.bipush (-5), 0, 0, []), (.putfield 9, 0, 6, []), (.return_, 0, 0, [])]
def bX0_comeTo : cs_BL := [(0, qX0_comeTo_0)]
theorem rX0_comeTo : cs_rows bX0_comeTo 0 = qX0_comeTo_0 := rfl
set_option maxRecDepth 100000 in
theorem kX0_comeTo : cs_chkB iX0_comeTo bX0_comeTo = true := by decide +kernel
def qX0_hasArrived_0 : List cs_W := [(.aload_n 0, 0, 0, []), (.getfield 21, 0, 2, []), (.aload_n 0, 0, 0, []), (.getfield 24, 0, 3, []), (.if_icmp .ne 7, 1, 0, []), (.iconst 1, 0, 0, []), (.goto 4, 2, 0, [])]
def qX0_hasArrived_1 : List cs_W := [(.iconst 0, 0, 0, []), (.nop, 2, 0, [])]
def qX0_hasArrived_2 : List cs_W := [(.ireturn, 0, 1, [])]
def bX0_hasArrived : cs_BL := [(0, qX0_hasArrived_0), (15, qX0_hasArrived_1), (16, qX0_hasArrived_2)]
theorem rX0_hasArrived : cs_rows bX0_hasArrived 0 = qX0_hasArrived_0 ∧ cs_rows bX0_hasArrived 1 = qX0_hasArrived_1 ∧ cs_rows bX0_hasArrived 2 = qX0_hasArrived_2 := ⟨rfl, rfl, rfl⟩
set_option maxRecDepth 100000 in
theorem kX0_hasArrived : cs_chkB iX0_hasArrived bX0_hasArrived = true := by decide +kernel
def qX0_nextPound_0 : List cs_W := [(.aload_n 0, 0, 0, []), (.getfield 24, 0, 3, []), (.aload_n 0, 0, 0, []), (.getfield 21, 0, 2, []), (.if_icmp .le 10, 1, 0, []), (.aload_n 0, 0, 0, []), (.getfield 21, 0, 2, []), (.iconst 1, 0, 0, []), (.iadd, 0, 0, []), (.ireturn, 0, 0, [])]
def qX0_nextPound_1 : List cs_W := [(.aload_n 0, 0, 0, []), (.getfield 24, 0, 3, []), (.aload_n 0, 0, 0, []), (.getfield 21, 0, 2, []), (.if_icmp .ge 12, 2, 0, []), (.aload_n 0, 0, 0, []), (.getfield 21, 0, 2, []), (.iconst 1, 0, 0, []), (.isub, 0, 0, []), (.goto 7, 3, 0, [])]
def qX0_nextPound_2 : List cs_W := [(.aload_n 0, 0, 0, []), (.getfield 21, 0, 2, []), (.nop, 3, 0, [])]
def qX0_nextPound_3 : List cs_W := [(.ireturn, 0, 0, [])]
def bX0_nextPound : cs_BL := [(0, qX0_nextPound_0), (18, qX0_nextPound_1), (38, qX0_nextPound_2), (42, qX0_nextPound_3)]
theorem rX0_nextPound : cs_rows bX0_nextPound 0 = qX0_nextPound_0 ∧ cs_rows bX0_nextPound 1 = qX0_nextPound_1 ∧ cs_rows bX0_nextPound 2 = qX0_nextPound_2 ∧ cs_rows bX0_nextPound 3 = qX0_nextPound_3 := ⟨rfl, rfl, rfl, rfl⟩
set_option maxRecDepth 100000 in
theorem kX0_nextPound : cs_chkB iX0_nextPound bX0_nextPound = true := by decide +kernel
def qX0_lockNumber_0 : List cs_W := [(.aload_n 0, 0, 0, []), (.getfield 24, 0, 3, []), (.aload_n 0, 0, 0, []), (.getfield 21, 0, 2, []), (.if_icmp .le 8, 1, 0, []), (.aload_n 0, 0, 0, []), (.getfield 21, 0, 2, []), (.ireturn, 0, 0, [])]
def qX0_lockNumber_1 : List cs_W := [(.aload_n 0, 0, 0, []), (.getfield 24, 0, 3, []), (.aload_n 0, 0, 0, []), (.getfield 21, 0, 2, []), (.if_icmp .ge 12, 2, 0, []), (.aload_n 0, 0, 0, []), (.getfield 21, 0, 2, []), (.iconst 1, 0, 0, []), (.isub, 0, 0, []), (.goto 5, 3, 0, [])]
def qX0_lockNumber_2 : List cs_W := [(.bipush (-5), 0, 0, []), (.nop, 3, 0, [])]
def qX0_lockNumber_3 : List cs_W := [(.ireturn, 0, 0, [])]
def bX0_lockNumber : cs_BL := [(0, qX0_lockNumber_0), (16, qX0_lockNumber_1), (36, qX0_lockNumber_2), (38, qX0_lockNumber_3)]
theorem rX0_lockNumber : cs_rows bX0_lockNumber 0 = qX0_lockNumber_0 ∧ cs_rows bX0_lockNumber 1 = qX0_lockNumber_1 ∧ cs_rows bX0_lockNumber 2 = qX0_lockNumber_2 ∧ cs_rows bX0_lockNumber 3 = qX0_lockNumber_3 := ⟨rfl, rfl, rfl, rfl⟩
set_option maxRecDepth 100000 in
theorem kX0_lockNumber : cs_chkB iX0_lockNumber bX0_lockNumber = true := by decide +kernel
def qX0_isUnderWayIn_0 : List cs_W := [(.aload_n 0, 0, 0, []), (.invokevirtual 33, 3, 0, [0]), (.ifCond .eq 5, 1, 0, []), (.iconst 0, 0, 0, []), (.ireturn, 0, 1, [])]
def qX0_isUnderWayIn_1 : List cs_W := [(.aload_n 0, 0, 0, []), (.getfield 21, 0, 2, []), (.iload_n 1, 1, 0, []), (.if_icmp .eq 18, 2, 0, []), (.aload_n 0, 0, 0, []), (.getfield 27, 0, 4, []), (.ifCond .le 15, 3, 0, []), (.aload_n 0, 0, 0, []), (.invokevirtual 37, 4, 0, [0]), (.iload_n 1, 1, 0, []), (.if_icmp .ne 7, 3, 0, []), (.nop, 2, 0, [])]
def qX0_isUnderWayIn_2 : List cs_W := [(.iconst 1, 0, 0, []), (.goto 4, 4, 0, [])]
def qX0_isUnderWayIn_3 : List cs_W := [(.iconst 0, 0, 0, []), (.nop, 4, 0, [])]
def qX0_isUnderWayIn_4 : List cs_W := [(.ireturn, 0, 1, [])]
def bX0_isUnderWayIn : cs_BL := [(0, qX0_isUnderWayIn_0), (9, qX0_isUnderWayIn_1), (32, qX0_isUnderWayIn_2), (36, qX0_isUnderWayIn_3), (37, qX0_isUnderWayIn_4)]
theorem rX0_isUnderWayIn : cs_rows bX0_isUnderWayIn 0 = qX0_isUnderWayIn_0 ∧ cs_rows bX0_isUnderWayIn 1 = qX0_isUnderWayIn_1 ∧ cs_rows bX0_isUnderWayIn 2 = qX0_isUnderWayIn_2 ∧ cs_rows bX0_isUnderWayIn 3 = qX0_isUnderWayIn_3 ∧ cs_rows bX0_isUnderWayIn 4 = qX0_isUnderWayIn_4 := ⟨rfl, rfl, rfl, rfl, rfl⟩
set_option maxRecDepth 100000 in
theorem kX0_isUnderWayIn : cs_chkB iX0_isUnderWayIn bX0_isUnderWayIn = true := by decide +kernel
def qX4_init_0 : List cs_W := [(.aload_n 0, 0, 0, []), (.invokespecial 3, 0, 0, []), (.aload_n 0, 0, 0, []), (.bipush 16, 0, 0, []), (.newarray .int, 0, 0, []), (.putfield 9, 4, 0, [1]), (.return_, 0, 0, [])]
def bX4_init : cs_BL := [(0, qX4_init_0)]
theorem rX4_init : cs_rows bX4_init 0 = qX4_init_0 := rfl
set_option maxRecDepth 100000 in
theorem kX4_init : cs_chkB iX4_init bX4_init = true := by decide +kernel
def qX3_init_0 : List cs_W := [(.aload_n 0, 0, 0, []), (.invokespecial 3, 0, 0, []), (.aload_n 0, 0, 0, []), (.new 9, 4, 2, []), (.dup, 0, 0, []), (.invokespecial 11, 7, 2, [0, 1, 16]), (.putfield 12, 3, 0, [1]), (.aload_n 0, 0, 0, []), (.new 9, 4, 2, []), (.dup, 0, 0, []), (.invokespecial 11, 7, 2, [0, 1, 16]), (.putfield 18, 3, 1, [1]), (.return_, 0, 0, [])]
def bX3_init : cs_BL := [(0, qX3_init_0)]
theorem rX3_init : cs_rows bX3_init 0 = qX3_init_0 := rfl
set_option maxRecDepth 100000 in
theorem kX3_init : cs_chkB iX3_init bX3_init = true := by decide +kernel
def qX1_init_0 : List cs_W := [(.aload_n 0, 0, 0, []), (.invokespecial 3, 0, 0, []), (.aload_n 0, 0, 0, []), (.bipush 6, 0, 0, []), (.newarray .int, 0, 0, []), (.putfield 9, 1, 0, [1]), (.aload_n 0, 0, 0, []), (.getstatic 15, 0, 0, []), (.arraylength, 3, 0, []), (.newarray .int, 0, 0, []), (.putfield 18, 1, 1, [1]), (.aload_n 0, 0, 0, []), (.iconst 5, 0, 0, []), (.anewarray 21, 4, 0, []), (.putfield 23, 1, 2, [1]), (.aload_n 0, 0, 0, []), (.bipush 16, 0, 0, []), (.anewarray 27, 2, 0, []), (.putfield 29, 1, 3, [1]), (.iconst 0, 0, 0, []), (.istore_n 1, 1, 0, []), (.nop, 1, 0, [])]
def qX1_init_1 : List cs_W := [(.nop, 0, 41, [])]
def qX1_init_2 : List cs_W := [(.iconst 0, 0, 0, []), (.istore_n 1, 1, 0, []), (.nop, 3, 0, [])]
def qX1_init_3 : List cs_W := [(.nop, 0, 63, [])]
def qX1_init_4 : List cs_W := [(.iconst 0, 0, 0, []), (.istore_n 1, 1, 0, []), (.nop, 5, 0, [])]
def qX1_init_5 : List cs_W := [(.nop, 0, 91, [])]
def qX1_init_6 : List cs_W := [(.iconst 0, 0, 0, []), (.istore_n 1, 1, 0, []), (.nop, 7, 0, [])]
def qX1_init_7 : List cs_W := [(.nop, 0, 117, [])]
def qX1_init_8 : List cs_W := [(.return_, 0, 0, [])]
def qX1_init_9 : List cs_W := [(.iload_n 1, 1, 0, []), (.bipush 6, 0, 0, []), (.if_icmp .ge 17, 2, 0, []), (.aload_n 0, 0, 0, []), (.getfield 9, 1, 0, [1]), (.iload_n 1, 1, 0, []), (.bipush 40, 0, 0, []), (.iastore, 0, 0, []), (.iinc 1 1, 0, 0, []), (.goto (-17), 1, 0, [])]
def qX1_init_10 : List cs_W := [(.iload_n 1, 1, 0, []), (.aload_n 0, 0, 0, []), (.getfield 18, 1, 1, [1]), (.arraylength, 3, 0, []), (.if_icmp .ge 20, 4, 0, []), (.aload_n 0, 0, 0, []), (.getfield 18, 1, 1, [1]), (.iload_n 1, 1, 0, []), (.getstatic 15, 0, 0, []), (.iload_n 1, 1, 0, []), (.iaload, 0, 0, []), (.iastore, 0, 0, []), (.iinc 1 1, 0, 0, []), (.goto (-23), 3, 0, [])]
def qX1_init_11 : List cs_W := [(.iload_n 1, 1, 0, []), (.iconst 5, 0, 0, []), (.if_icmp .ge 22, 6, 0, []), (.aload_n 0, 0, 0, []), (.getfield 23, 1, 2, [1]), (.iload_n 1, 1, 0, []), (.new 21, 3, 5, []), (.dup, 0, 0, []), (.invokespecial 33, 8, 2, [0, 4, 36]), (.aastore, 4, 3, []), (.iinc 1 1, 0, 0, []), (.goto (-21), 5, 0, [])]
def qX1_init_12 : List cs_W := [(.iload_n 1, 1, 0, []), (.bipush 16, 0, 0, []), (.if_icmp .ge 22, 8, 0, []), (.aload_n 0, 0, 0, []), (.getfield 29, 1, 3, [1]), (.iload_n 1, 1, 0, []), (.new 27, 0, 7, []), (.dup, 0, 0, []), (.invokespecial 34, 0, 2, [0, 0, 0]), (.aastore, 2, 0, []), (.iinc 1 1, 0, 0, []), (.goto (-22), 7, 0, [])]
def bX1_init : cs_BL := [(0, qX1_init_0), (41, qX1_init_1), (61, qX1_init_2), (63, qX1_init_3), (89, qX1_init_4), (91, qX1_init_5), (115, qX1_init_6), (117, qX1_init_7), (142, qX1_init_8), (41, qX1_init_9), (63, qX1_init_10), (91, qX1_init_11), (117, qX1_init_12)]
theorem rX1_init : cs_rows bX1_init 0 = qX1_init_0 ∧ cs_rows bX1_init 1 = qX1_init_1 ∧ cs_rows bX1_init 2 = qX1_init_2 ∧ cs_rows bX1_init 3 = qX1_init_3 ∧ cs_rows bX1_init 4 = qX1_init_4 ∧ cs_rows bX1_init 5 = qX1_init_5 ∧ cs_rows bX1_init 6 = qX1_init_6 ∧ cs_rows bX1_init 7 = qX1_init_7 ∧ cs_rows bX1_init 8 = qX1_init_8 ∧ cs_rows bX1_init 9 = qX1_init_9 ∧ cs_rows bX1_init 10 = qX1_init_10 ∧ cs_rows bX1_init 11 = qX1_init_11 ∧ cs_rows bX1_init 12 = qX1_init_12 := ⟨rfl, rfl, rfl, rfl, rfl, rfl, rfl, rfl, rfl, rfl, rfl, rfl, rfl⟩
set_option maxRecDepth 100000 in
theorem kX1_init : cs_chkB iX1_init bX1_init = true := by decide +kernel
def qX4_copyFrom_0 : List cs_W := [(.aload_n 0, 0, 0, []), (.aload_n 1, 1, 0, []), (.getfield 15, 4, 1, []), (.putfield 15, 4, 1, []), (.aload_n 1, 1, 0, []), (.getfield 9, 4, 0, [1]), (.iconst 0, 0, 0, []), (.aload_n 0, 0, 0, []), (.getfield 9, 4, 0, [1]), (.iconst 0, 0, 0, []), (.bipush 16, 0, 0, []), (.invokestatic 19, 0, 4, []), (.return_, 0, 0, [])]
def bX4_copyFrom : cs_BL := [(0, qX4_copyFrom_0)]
theorem rX4_copyFrom : cs_rows bX4_copyFrom 0 = qX4_copyFrom_0 := rfl
set_option maxRecDepth 100000 in
theorem kX4_copyFrom : cs_chkB iX4_copyFrom bX4_copyFrom = true := by decide +kernel
def qX3_copyFrom_0 : List cs_W := [(.aload_n 0, 0, 0, []), (.getfield 12, 3, 0, [1]), (.aload_n 1, 1, 0, []), (.getfield 12, 3, 0, [1]), (.invokevirtual 21, 10, 4, [1]), (.aload_n 0, 0, 0, []), (.getfield 18, 3, 1, [1]), (.aload_n 1, 1, 0, []), (.getfield 18, 3, 1, [1]), (.invokevirtual 21, 10, 4, [1]), (.aload_n 0, 0, 0, []), (.aload_n 1, 1, 0, []), (.getfield 25, 3, 2, []), (.putfield 25, 3, 2, []), (.aload_n 0, 0, 0, []), (.aload_n 1, 1, 0, []), (.getfield 29, 3, 3, []), (.putfield 29, 3, 3, []), (.aload_n 0, 0, 0, []), (.aload_n 1, 1, 0, []), (.getfield 32, 3, 4, []), (.putfield 32, 3, 4, []), (.return_, 0, 0, [])]
def bX3_copyFrom : cs_BL := [(0, qX3_copyFrom_0)]
theorem rX3_copyFrom : cs_rows bX3_copyFrom 0 = qX3_copyFrom_0 := rfl
set_option maxRecDepth 100000 in
theorem kX3_copyFrom : cs_chkB iX3_copyFrom bX3_copyFrom = true := by decide +kernel
def qX1_copyFrom_0 : List cs_W := [(.aload_n 1, 1, 0, []), (.getfield 9, 1, 0, [1]), (.iconst 0, 0, 0, []), (.aload_n 0, 0, 0, []), (.getfield 9, 1, 0, [1]), (.iconst 0, 0, 0, []), (.bipush 6, 0, 0, []), (.invokestatic 35, 0, 4, []), (.aload_n 1, 1, 0, []), (.getfield 18, 1, 1, [1]), (.iconst 0, 0, 0, []), (.aload_n 0, 0, 0, []), (.getfield 18, 1, 1, [1]), (.iconst 0, 0, 0, []), (.aload_n 0, 0, 0, []), (.getfield 18, 1, 1, [1]), (.arraylength, 3, 0, []), (.invokestatic 35, 0, 4, []), (.iconst 0, 0, 0, []), (.istore_n 2, 2, 0, []), (.nop, 1, 0, [])]
def qX1_copyFrom_1 : List cs_W := [(.nop, 0, 35, [])]
def qX1_copyFrom_2 : List cs_W := [(.iconst 0, 0, 0, []), (.istore_n 2, 2, 0, []), (.nop, 3, 0, [])]
def qX1_copyFrom_3 : List cs_W := [(.nop, 0, 63, [])]
def qX1_copyFrom_4 : List cs_W := [(.aload_n 0, 0, 0, []), (.aload_n 1, 1, 0, []), (.getfield 45, 1, 4, []), (.putfield 45, 1, 4, []), (.aload_n 0, 0, 0, []), (.aload_n 1, 1, 0, []), (.getfield 52, 1, 5, []), (.putfield 52, 1, 5, []), (.aload_n 0, 0, 0, []), (.aload_n 1, 1, 0, []), (.getfield 55, 1, 6, []), (.putfield 55, 1, 6, []), (.aload_n 0, 0, 0, []), (.aload_n 1, 1, 0, []), (.getfield 58, 1, 7, []), (.putfield 58, 1, 7, []), (.aload_n 0, 0, 0, []), (.aload_n 1, 1, 0, []), (.getfield 61, 1, 8, []), (.putfield 61, 1, 8, []), (.aload_n 0, 0, 0, []), (.aload_n 1, 1, 0, []), (.getfield 64, 1, 9, []), (.putfield 64, 1, 9, []), (.aload_n 0, 0, 0, []), (.aload_n 1, 1, 0, []), (.getfield 67, 1, 10, []), (.putfield 67, 1, 10, []), (.return_, 0, 0, [])]
def qX1_copyFrom_5 : List cs_W := [(.iload_n 2, 2, 0, []), (.iconst 5, 0, 0, []), (.if_icmp .ge 24, 2, 0, []), (.aload_n 0, 0, 0, []), (.getfield 23, 1, 2, [1]), (.iload_n 2, 2, 0, []), (.aaload, 4, 0, []), (.aload_n 1, 1, 0, []), (.getfield 23, 1, 2, [1]), (.iload_n 2, 2, 0, []), (.aaload, 4, 0, []), (.invokevirtual 41, 11, 3, [1]), (.iinc 2 1, 0, 0, []), (.goto (-23), 1, 0, [])]
def qX1_copyFrom_6 : List cs_W := [(.iload_n 2, 2, 0, []), (.aload_n 1, 1, 0, []), (.getfield 45, 1, 4, []), (.if_icmp .ge 24, 4, 0, []), (.aload_n 0, 0, 0, []), (.getfield 29, 1, 3, [1]), (.iload_n 2, 2, 0, []), (.aaload, 2, 0, []), (.aload_n 1, 1, 0, []), (.getfield 29, 1, 3, [1]), (.iload_n 2, 2, 0, []), (.aaload, 2, 0, []), (.invokevirtual 49, 1, 0, [1]), (.iinc 2 1, 0, 0, []), (.goto (-26), 3, 0, [])]
def bX1_copyFrom : cs_BL := [(0, qX1_copyFrom_0), (35, qX1_copyFrom_1), (61, qX1_copyFrom_2), (63, qX1_copyFrom_3), (92, qX1_copyFrom_4), (35, qX1_copyFrom_5), (63, qX1_copyFrom_6)]
theorem rX1_copyFrom : cs_rows bX1_copyFrom 0 = qX1_copyFrom_0 ∧ cs_rows bX1_copyFrom 1 = qX1_copyFrom_1 ∧ cs_rows bX1_copyFrom 2 = qX1_copyFrom_2 ∧ cs_rows bX1_copyFrom 3 = qX1_copyFrom_3 ∧ cs_rows bX1_copyFrom 4 = qX1_copyFrom_4 ∧ cs_rows bX1_copyFrom 5 = qX1_copyFrom_5 ∧ cs_rows bX1_copyFrom 6 = qX1_copyFrom_6 := ⟨rfl, rfl, rfl, rfl, rfl, rfl, rfl⟩
set_option maxRecDepth 100000 in
theorem kX1_copyFrom : cs_chkB iX1_copyFrom bX1_copyFrom = true := by decide +kernel
def qX1_queueOf_0 : List cs_W := [(.aload_n 1, 1, 0, []), (.getfield 80, 0, 3, []), (.aload_n 1, 1, 0, []), (.getfield 173, 0, 2, []), (.if_icmp .le 16, 1, 0, []), (.aload_n 0, 0, 0, []), (.getfield 23, 1, 2, [1]), (.aload_n 1, 1, 0, []), (.getfield 173, 0, 2, []), (.aaload, 4, 0, []), (.getfield 135, 3, 0, [1]), (.areturn, 0, 0, [])]
def qX1_queueOf_1 : List cs_W := [(.aload_n 1, 1, 0, []), (.getfield 80, 0, 3, []), (.aload_n 1, 1, 0, []), (.getfield 173, 0, 2, []), (.if_icmp .ge 20, 2, 0, []), (.aload_n 0, 0, 0, []), (.getfield 23, 1, 2, [1]), (.aload_n 1, 1, 0, []), (.getfield 173, 0, 2, []), (.iconst 1, 0, 0, []), (.isub, 0, 0, []), (.aaload, 4, 0, []), (.getfield 142, 3, 1, [1]), (.goto 4, 3, 0, [])]
def qX1_queueOf_2 : List cs_W := [(.aconst_null, 0, 0, []), (.nop, 3, 0, [])]
def qX1_queueOf_3 : List cs_W := [(.areturn, 0, 0, [])]
def bX1_queueOf : cs_BL := [(0, qX1_queueOf_0), (24, qX1_queueOf_1), (52, qX1_queueOf_2), (53, qX1_queueOf_3)]
theorem rX1_queueOf : cs_rows bX1_queueOf 0 = qX1_queueOf_0 ∧ cs_rows bX1_queueOf 1 = qX1_queueOf_1 ∧ cs_rows bX1_queueOf 2 = qX1_queueOf_2 ∧ cs_rows bX1_queueOf 3 = qX1_queueOf_3 := ⟨rfl, rfl, rfl, rfl⟩
set_option maxRecDepth 100000 in
theorem kX1_queueOf : cs_chkB iX1_queueOf bX1_queueOf = true := by decide +kernel
def qX4_join_0 : List cs_W := [(.aload_n 0, 0, 0, []), (.getfield 15, 4, 1, []), (.bipush 16, 0, 0, []), (.if_icmp .ge 23, 1, 0, []), (.aload_n 0, 0, 0, []), (.getfield 9, 4, 0, [1]), (.aload_n 0, 0, 0, []), (.getfield 15, 4, 1, []), (.iload_n 1, 1, 0, []), (.iastore, 0, 0, []), (.aload_n 0, 0, 0, []), (.dup, 0, 0, []), (.getfield 15, 4, 1, []), (.iconst 1, 0, 0, []), (.iadd, 0, 0, []), (.putfield 15, 4, 1, []), (.nop, 1, 0, [])]
def qX4_join_1 : List cs_W := [(.return_, 0, 0, [])]
def bX4_join : cs_BL := [(0, qX4_join_0), (29, qX4_join_1)]
theorem rX4_join : cs_rows bX4_join 0 = qX4_join_0 ∧ cs_rows bX4_join 1 = qX4_join_1 := ⟨rfl, rfl⟩
set_option maxRecDepth 100000 in
theorem kX4_join : cs_chkB iX4_join bX4_join = true := by decide +kernel
def qX7_isWithin_0 : List cs_W := [(.iload_n 0, 0, 0, []), (.iload_n 1, 1, 0, []), (.if_icmp .lt 12, 1, 0, []), (.iload_n 0, 0, 0, []), (.iload_n 2, 2, 0, []), (.if_icmp .gt 7, 1, 0, []), (.iconst 1, 0, 0, []), (.goto 4, 2, 0, [])]
def qX7_isWithin_1 : List cs_W := [(.iconst 0, 0, 0, []), (.nop, 2, 0, [])]
def qX7_isWithin_2 : List cs_W := [(.ireturn, 0, 1, [])]
def bX7_isWithin : cs_BL := [(0, qX7_isWithin_0), (14, qX7_isWithin_1), (15, qX7_isWithin_2)]
theorem rX7_isWithin : cs_rows bX7_isWithin 0 = qX7_isWithin_0 ∧ cs_rows bX7_isWithin 1 = qX7_isWithin_1 ∧ cs_rows bX7_isWithin 2 = qX7_isWithin_2 := ⟨rfl, rfl, rfl⟩
set_option maxRecDepth 100000 in
theorem kX7_isWithin : cs_chkB iX7_isWithin bX7_isWithin = true := by decide +kernel
def qX1_comeBoat_0 : List cs_W := [(.iload_n 2, 2, 0, []), (.iconst 0, 0, 0, []), (.iconst 5, 0, 0, []), (.invokestatic 70, 15, 1, [3]), (.ifCond .eq 12, 1, 0, []), (.iload_n 3, 3, 0, []), (.iconst 0, 0, 0, []), (.iconst 5, 0, 0, []), (.invokestatic 70, 15, 1, [3]), (.ifCond .ne 5, 2, 0, []), (.nop, 1, 0, [])]
def qX1_comeBoat_1 : List cs_W := [(.iconst (-1), 0, 0, []), (.ireturn, 0, 0, [])]
def qX1_comeBoat_2 : List cs_W := [(.iload_n 1, 1, 0, []), (.iconst 1, 0, 0, []), (.bipush 6, 0, 0, []), (.invokestatic 70, 15, 1, [3]), (.ifCond .eq 19, 3, 0, []), (.iload 4, 4, 0, []), (.iconst 1, 0, 0, []), (.bipush 60, 0, 0, []), (.invokestatic 70, 15, 1, [3]), (.ifCond .eq 8, 3, 0, []), (.iload_n 2, 2, 0, []), (.iload_n 3, 3, 0, []), (.if_icmp .ne 6, 4, 0, []), (.nop, 3, 0, [])]
def qX1_comeBoat_3 : List cs_W := [(.bipush (-2), 0, 0, []), (.ireturn, 0, 0, [])]
def qX1_comeBoat_4 : List cs_W := [(.aload_n 0, 0, 0, []), (.getfield 45, 1, 4, []), (.bipush 16, 0, 0, []), (.if_icmp .lt 6, 5, 0, []), (.bipush (-3), 0, 0, []), (.ireturn, 0, 0, [])]
def qX1_comeBoat_5 : List cs_W := [(.aload_n 0, 0, 0, []), (.getfield 45, 1, 4, []), (.istore 5, 5, 0, []), (.aload_n 0, 0, 0, []), (.getfield 29, 1, 3, [1]), (.iload 5, 5, 0, []), (.aaload, 2, 0, []), (.astore 6, 6, 0, []), (.aload 6, 6, 0, []), (.iload_n 1, 1, 0, []), (.putfield 74, 0, 0, []), (.aload 6, 6, 0, []), (.iload 4, 4, 0, []), (.putfield 77, 0, 1, []), (.aload 6, 6, 0, []), (.iload_n 3, 3, 0, []), (.putfield 80, 0, 3, []), (.aload 6, 6, 0, []), (.iload_n 2, 2, 0, []), (.invokevirtual 83, 2, 0, [1]), (.aload_n 0, 0, 0, []), (.dup, 0, 0, []), (.getfield 45, 1, 4, []), (.iconst 1, 0, 0, []), (.iadd, 0, 0, []), (.putfield 45, 1, 4, []), (.aload_n 0, 0, 0, []), (.aload 6, 6, 0, []), (.invokevirtual 87, 13, 1, [1]), (.astore 7, 7, 0, []), (.aload 7, 7, 0, []), (.ifnull 10, 6, 0, []), (.aload 7, 7, 0, []), (.iload 5, 5, 0, []), (.invokevirtual 91, 14, 4, [1]), (.nop, 6, 0, [])]
def qX1_comeBoat_6 : List cs_W := [(.iload 5, 5, 0, []), (.ireturn, 0, 0, [])]
def bX1_comeBoat : cs_BL := [(0, qX1_comeBoat_0), (18, qX1_comeBoat_1), (20, qX1_comeBoat_2), (46, qX1_comeBoat_3), (49, qX1_comeBoat_4), (61, qX1_comeBoat_5), (131, qX1_comeBoat_6)]
theorem rX1_comeBoat : cs_rows bX1_comeBoat 0 = qX1_comeBoat_0 ∧ cs_rows bX1_comeBoat 1 = qX1_comeBoat_1 ∧ cs_rows bX1_comeBoat 2 = qX1_comeBoat_2 ∧ cs_rows bX1_comeBoat 3 = qX1_comeBoat_3 ∧ cs_rows bX1_comeBoat 4 = qX1_comeBoat_4 ∧ cs_rows bX1_comeBoat 5 = qX1_comeBoat_5 ∧ cs_rows bX1_comeBoat 6 = qX1_comeBoat_6 := ⟨rfl, rfl, rfl, rfl, rfl, rfl, rfl⟩
set_option maxRecDepth 100000 in
theorem kX1_comeBoat : cs_chkB iX1_comeBoat bX1_comeBoat = true := by decide +kernel
def qX1_knowsBoat_0 : List cs_W := [(.iload_n 1, 1, 0, []), (.iconst 0, 0, 0, []), (.aload_n 0, 0, 0, []), (.getfield 45, 1, 4, []), (.iconst 1, 0, 0, []), (.isub, 0, 0, []), (.invokestatic 70, 15, 1, [3]), (.ireturn, 0, 1, [])]
def bX1_knowsBoat : cs_BL := [(0, qX1_knowsBoat_0)]
theorem rX1_knowsBoat : cs_rows bX1_knowsBoat 0 = qX1_knowsBoat_0 := rfl
set_option maxRecDepth 100000 in
theorem kX1_knowsBoat : cs_chkB iX1_knowsBoat bX1_knowsBoat = true := by decide +kernel
def qX1_loadBoat_0 : List cs_W := [(.aload_n 0, 0, 0, []), (.iload_n 1, 1, 0, []), (.invokevirtual 96, 17, 1, [1]), (.ifCond .ne 5, 1, 0, []), (.iconst (-1), 0, 0, []), (.ireturn, 0, 0, [])]
def qX1_loadBoat_1 : List cs_W := [(.iload_n 2, 2, 0, []), (.iconst 1, 0, 0, []), (.bipush 60, 0, 0, []), (.invokestatic 70, 15, 1, [3]), (.ifCond .ne 6, 2, 0, []), (.bipush (-2), 0, 0, []), (.ireturn, 0, 0, [])]
def qX1_loadBoat_2 : List cs_W := [(.aload_n 0, 0, 0, []), (.getfield 29, 1, 3, [1]), (.iload_n 1, 1, 0, []), (.aaload, 2, 0, []), (.astore_n 3, 3, 0, []), (.aload_n 3, 3, 0, []), (.invokevirtual 100, 3, 0, [0]), (.ifCond .eq 6, 3, 0, []), (.bipush (-4), 0, 0, []), (.ireturn, 0, 0, [])]
def qX1_loadBoat_3 : List cs_W := [(.aload_n 3, 3, 0, []), (.getfield 77, 0, 1, []), (.istore 4, 4, 0, []), (.aload_n 3, 3, 0, []), (.iload_n 2, 2, 0, []), (.putfield 77, 0, 1, []), (.iload 4, 4, 0, []), (.iload_n 2, 2, 0, []), (.if_icmp .ne 8, 4, 0, []), (.bipush (-5), 0, 0, []), (.goto 5, 5, 0, [])]
def qX1_loadBoat_4 : List cs_W := [(.iload 4, 4, 0, []), (.nop, 5, 0, [])]
def qX1_loadBoat_5 : List cs_W := [(.ireturn, 0, 0, [])]
def bX1_loadBoat : cs_BL := [(0, qX1_loadBoat_0), (10, qX1_loadBoat_1), (23, qX1_loadBoat_2), (40, qX1_loadBoat_3), (62, qX1_loadBoat_4), (64, qX1_loadBoat_5)]
theorem rX1_loadBoat : cs_rows bX1_loadBoat 0 = qX1_loadBoat_0 ∧ cs_rows bX1_loadBoat 1 = qX1_loadBoat_1 ∧ cs_rows bX1_loadBoat 2 = qX1_loadBoat_2 ∧ cs_rows bX1_loadBoat 3 = qX1_loadBoat_3 ∧ cs_rows bX1_loadBoat 4 = qX1_loadBoat_4 ∧ cs_rows bX1_loadBoat 5 = qX1_loadBoat_5 := ⟨rfl, rfl, rfl, rfl, rfl, rfl⟩
set_option maxRecDepth 100000 in
theorem kX1_loadBoat : cs_chkB iX1_loadBoat bX1_loadBoat = true := by decide +kernel
def qX3_isHigh_0 : List cs_W := [(.aload_n 0, 0, 0, []), (.getfield 25, 3, 2, []), (.ifCond .le 7, 1, 0, []), (.iconst 1, 0, 0, []), (.goto 4, 2, 0, [])]
def qX3_isHigh_1 : List cs_W := [(.iconst 0, 0, 0, []), (.nop, 2, 0, [])]
def qX3_isHigh_2 : List cs_W := [(.ireturn, 0, 1, [])]
def bX3_isHigh : cs_BL := [(0, qX3_isHigh_0), (11, qX3_isHigh_1), (12, qX3_isHigh_2)]
theorem rX3_isHigh : cs_rows bX3_isHigh 0 = qX3_isHigh_0 ∧ cs_rows bX3_isHigh 1 = qX3_isHigh_1 ∧ cs_rows bX3_isHigh 2 = qX3_isHigh_2 := ⟨rfl, rfl, rfl⟩
set_option maxRecDepth 100000 in
theorem kX3_isHigh : cs_chkB iX3_isHigh bX3_isHigh = true := by decide +kernel
def qX1_canTurn_0 : List cs_W := [(.aload_n 0, 0, 0, []), (.getfield 23, 1, 2, [1]), (.iload_n 1, 1, 0, []), (.aaload, 4, 0, []), (.invokevirtual 110, 19, 3, [0]), (.ifCond .ne 20, 1, 0, []), (.aload_n 0, 0, 0, []), (.getfield 9, 1, 0, [1]), (.iload_n 1, 1, 0, []), (.iconst 1, 0, 0, []), (.iadd, 0, 0, []), (.iaload, 0, 0, []), (.aload_n 0, 0, 0, []), (.getfield 18, 1, 1, [1]), (.iconst 0, 0, 0, []), (.iaload, 0, 0, []), (.if_icmp .lt 7, 2, 0, []), (.nop, 1, 0, [])]
def qX1_canTurn_1 : List cs_W := [(.iconst 1, 0, 0, []), (.goto 4, 3, 0, [])]
def qX1_canTurn_2 : List cs_W := [(.iconst 0, 0, 0, []), (.nop, 3, 0, [])]
def qX1_canTurn_3 : List cs_W := [(.ireturn, 0, 1, [])]
def bX1_canTurn : cs_BL := [(0, qX1_canTurn_0), (29, qX1_canTurn_1), (33, qX1_canTurn_2), (34, qX1_canTurn_3)]
theorem rX1_canTurn : cs_rows bX1_canTurn 0 = qX1_canTurn_0 ∧ cs_rows bX1_canTurn 1 = qX1_canTurn_1 ∧ cs_rows bX1_canTurn 2 = qX1_canTurn_2 ∧ cs_rows bX1_canTurn 3 = qX1_canTurn_3 := ⟨rfl, rfl, rfl, rfl⟩
set_option maxRecDepth 100000 in
theorem kX1_canTurn : cs_chkB iX1_canTurn bX1_canTurn = true := by decide +kernel
def qX1_pourInto_0 : List cs_W := [(.iconst 0, 0, 0, []), (.aload_n 0, 0, 0, []), (.getfield 9, 1, 0, [1]), (.iload_n 1, 1, 0, []), (.iaload, 0, 0, []), (.iload_n 2, 2, 0, []), (.iadd, 0, 0, []), (.bipush 90, 0, 0, []), (.isub, 0, 0, []), (.invokestatic 113, 0, 2, []), (.istore_n 3, 3, 0, []), (.aload_n 0, 0, 0, []), (.getfield 9, 1, 0, [1]), (.iload_n 1, 1, 0, []), (.dup2, 0, 0, []), (.iaload, 0, 0, []), (.iload_n 2, 2, 0, []), (.iload_n 3, 3, 0, []), (.isub, 0, 0, []), (.iadd, 0, 0, []), (.iastore, 0, 0, []), (.iload_n 3, 3, 0, []), (.ireturn, 0, 0, [])]
def bX1_pourInto : cs_BL := [(0, qX1_pourInto_0)]
theorem rX1_pourInto : cs_rows bX1_pourInto 0 = qX1_pourInto_0 := rfl
set_option maxRecDepth 100000 in
theorem kX1_pourInto : cs_chkB iX1_pourInto bX1_pourInto = true := by decide +kernel
def qX1_turnChamber_0 : List cs_W := [(.aload_n 0, 0, 0, []), (.getfield 23, 1, 2, [1]), (.iload_n 1, 1, 0, []), (.aaload, 4, 0, []), (.astore_n 2, 2, 0, []), (.aload_n 2, 2, 0, []), (.invokevirtual 110, 19, 3, [0]), (.ifCond .eq 29, 1, 0, []), (.aload_n 0, 0, 0, []), (.dup, 0, 0, []), (.getfield 58, 1, 7, []), (.aload_n 0, 0, 0, []), (.iload_n 1, 1, 0, []), (.aload_n 2, 2, 0, []), (.getfield 179, 3, 2, []), (.invokevirtual 182, 21, 1, [2]), (.iadd, 0, 0, []), (.putfield 58, 1, 7, []), (.aload_n 2, 2, 0, []), (.iconst 0, 0, 0, []), (.putfield 179, 3, 2, []), (.goto 38, 2, 0, [])]
def qX1_turnChamber_1 : List cs_W := [(.aload_n 2, 2, 0, []), (.aload_n 0, 0, 0, []), (.getfield 18, 1, 1, [1]), (.iconst 0, 0, 0, []), (.iaload, 0, 0, []), (.putfield 179, 3, 2, []), (.aload_n 0, 0, 0, []), (.getfield 9, 1, 0, [1]), (.iload_n 1, 1, 0, []), (.iconst 1, 0, 0, []), (.iadd, 0, 0, []), (.dup2, 0, 0, []), (.iaload, 0, 0, []), (.aload_n 2, 2, 0, []), (.getfield 179, 3, 2, []), (.isub, 0, 0, []), (.iastore, 0, 0, []), (.aload_n 2, 2, 0, []), (.dup, 0, 0, []), (.getfield 185, 3, 4, []), (.iconst 1, 0, 0, []), (.iadd, 0, 0, []), (.putfield 185, 3, 4, []), (.nop, 2, 0, [])]
def qX1_turnChamber_2 : List cs_W := [(.return_, 0, 0, [])]
def bX1_turnChamber : cs_BL := [(0, qX1_turnChamber_0), (40, qX1_turnChamber_1), (75, qX1_turnChamber_2)]
theorem rX1_turnChamber : cs_rows bX1_turnChamber 0 = qX1_turnChamber_0 ∧ cs_rows bX1_turnChamber 1 = qX1_turnChamber_1 ∧ cs_rows bX1_turnChamber 2 = qX1_turnChamber_2 := ⟨rfl, rfl, rfl⟩
set_option maxRecDepth 100000 in
theorem kX1_turnChamber : cs_chkB iX1_turnChamber bX1_turnChamber = true := by decide +kernel
def qX1_turnByHand_0 : List cs_W := [(.iload_n 1, 1, 0, []), (.iconst 0, 0, 0, []), (.iconst 4, 0, 0, []), (.invokestatic 70, 15, 1, [3]), (.ifCond .ne 5, 1, 0, []), (.iconst (-1), 0, 0, []), (.ireturn, 0, 0, [])]
def qX1_turnByHand_1 : List cs_W := [(.aload_n 0, 0, 0, []), (.iload_n 1, 1, 0, []), (.invokevirtual 104, 20, 1, [1]), (.ifCond .ne 6, 2, 0, []), (.bipush (-4), 0, 0, []), (.ireturn, 0, 0, [])]
def qX1_turnByHand_2 : List cs_W := [(.aload_n 0, 0, 0, []), (.iload_n 1, 1, 0, []), (.invokevirtual 107, 22, 1, [1]), (.aload_n 0, 0, 0, []), (.getfield 23, 1, 2, [1]), (.iload_n 1, 1, 0, []), (.aaload, 4, 0, []), (.invokevirtual 110, 19, 3, [0]), (.ifCond .eq 7, 3, 0, []), (.iconst 1, 0, 0, []), (.goto 4, 4, 0, [])]
def qX1_turnByHand_3 : List cs_W := [(.iconst 0, 0, 0, []), (.nop, 4, 0, [])]
def qX1_turnByHand_4 : List cs_W := [(.ireturn, 0, 0, [])]
def bX1_turnByHand : cs_BL := [(0, qX1_turnByHand_0), (11, qX1_turnByHand_1), (22, qX1_turnByHand_2), (43, qX1_turnByHand_3), (44, qX1_turnByHand_4)]
theorem rX1_turnByHand : cs_rows bX1_turnByHand 0 = qX1_turnByHand_0 ∧ cs_rows bX1_turnByHand 1 = qX1_turnByHand_1 ∧ cs_rows bX1_turnByHand 2 = qX1_turnByHand_2 ∧ cs_rows bX1_turnByHand 3 = qX1_turnByHand_3 ∧ cs_rows bX1_turnByHand 4 = qX1_turnByHand_4 := ⟨rfl, rfl, rfl, rfl, rfl⟩
set_option maxRecDepth 100000 in
theorem kX1_turnByHand : cs_chkB iX1_turnByHand bX1_turnByHand = true := by decide +kernel
def qX1_changeDepth_0 : List cs_W := [(.iload_n 1, 1, 0, []), (.iconst 0, 0, 0, []), (.iconst 5, 0, 0, []), (.invokestatic 70, 15, 1, [3]), (.ifCond .ne 5, 1, 0, []), (.iconst (-1), 0, 0, []), (.ireturn, 0, 0, [])]
def qX1_changeDepth_1 : List cs_W := [(.iload_n 2, 2, 0, []), (.iconst 0, 0, 0, []), (.bipush 90, 0, 0, []), (.invokestatic 70, 15, 1, [3]), (.ifCond .ne 6, 2, 0, []), (.bipush (-2), 0, 0, []), (.ireturn, 0, 0, [])]
def qX1_changeDepth_2 : List cs_W := [(.aload_n 0, 0, 0, []), (.getfield 9, 1, 0, [1]), (.iload_n 1, 1, 0, []), (.iaload, 0, 0, []), (.istore_n 3, 3, 0, []), (.aload_n 0, 0, 0, []), (.getfield 9, 1, 0, [1]), (.iload_n 1, 1, 0, []), (.iload_n 2, 2, 0, []), (.iastore, 0, 0, []), (.aload_n 0, 0, 0, []), (.dup, 0, 0, []), (.getfield 64, 1, 9, []), (.iconst 0, 0, 0, []), (.iload_n 2, 2, 0, []), (.iload_n 3, 3, 0, []), (.isub, 0, 0, []), (.invokestatic 113, 0, 2, []), (.iadd, 0, 0, []), (.putfield 64, 1, 9, []), (.aload_n 0, 0, 0, []), (.dup, 0, 0, []), (.getfield 67, 1, 10, []), (.iconst 0, 0, 0, []), (.iload_n 3, 3, 0, []), (.iload_n 2, 2, 0, []), (.isub, 0, 0, []), (.invokestatic 113, 0, 2, []), (.iadd, 0, 0, []), (.putfield 67, 1, 10, []), (.iload_n 3, 3, 0, []), (.iload_n 2, 2, 0, []), (.if_icmp .ne 8, 3, 0, []), (.bipush (-5), 0, 0, []), (.goto 4, 4, 0, [])]
def qX1_changeDepth_3 : List cs_W := [(.iload_n 3, 3, 0, []), (.nop, 4, 0, [])]
def qX1_changeDepth_4 : List cs_W := [(.ireturn, 0, 0, [])]
def bX1_changeDepth : cs_BL := [(0, qX1_changeDepth_0), (11, qX1_changeDepth_1), (24, qX1_changeDepth_2), (80, qX1_changeDepth_3), (81, qX1_changeDepth_4)]
theorem rX1_changeDepth : cs_rows bX1_changeDepth 0 = qX1_changeDepth_0 ∧ cs_rows bX1_changeDepth 1 = qX1_changeDepth_1 ∧ cs_rows bX1_changeDepth 2 = qX1_changeDepth_2 ∧ cs_rows bX1_changeDepth 3 = qX1_changeDepth_3 ∧ cs_rows bX1_changeDepth 4 = qX1_changeDepth_4 := ⟨rfl, rfl, rfl, rfl, rfl⟩
set_option maxRecDepth 100000 in
theorem kX1_changeDepth : cs_chkB iX1_changeDepth bX1_changeDepth = true := by decide +kernel
def qX1_changeSetting_0 : List cs_W := [(.iload_n 1, 1, 0, []), (.iconst 0, 0, 0, []), (.aload_n 0, 0, 0, []), (.getfield 18, 1, 1, [1]), (.arraylength, 3, 0, []), (.iconst 1, 0, 0, []), (.isub, 0, 0, []), (.invokestatic 70, 15, 1, [3]), (.ifCond .ne 5, 1, 0, []), (.iconst (-1), 0, 0, []), (.ireturn, 0, 0, [])]
def qX1_changeSetting_1 : List cs_W := [(.iload_n 2, 2, 0, []), (.getstatic 119, 1, 0, []), (.iload_n 1, 1, 0, []), (.iaload, 0, 0, []), (.getstatic 122, 2, 0, []), (.iload_n 1, 1, 0, []), (.iaload, 0, 0, []), (.invokestatic 70, 15, 1, [3]), (.ifCond .ne 6, 2, 0, []), (.bipush (-2), 0, 0, []), (.ireturn, 0, 0, [])]
def qX1_changeSetting_2 : List cs_W := [(.aload_n 0, 0, 0, []), (.getfield 18, 1, 1, [1]), (.iload_n 1, 1, 0, []), (.iaload, 0, 0, []), (.istore_n 3, 3, 0, []), (.aload_n 0, 0, 0, []), (.getfield 18, 1, 1, [1]), (.iload_n 1, 1, 0, []), (.iload_n 2, 2, 0, []), (.iastore, 0, 0, []), (.iload_n 3, 3, 0, []), (.iload_n 2, 2, 0, []), (.if_icmp .ne 8, 3, 0, []), (.bipush (-5), 0, 0, []), (.goto 4, 4, 0, [])]
def qX1_changeSetting_3 : List cs_W := [(.iload_n 3, 3, 0, []), (.nop, 4, 0, [])]
def qX1_changeSetting_4 : List cs_W := [(.ireturn, 0, 0, [])]
def bX1_changeSetting : cs_BL := [(0, qX1_changeSetting_0), (17, qX1_changeSetting_1), (37, qX1_changeSetting_2), (61, qX1_changeSetting_3), (62, qX1_changeSetting_4)]
theorem rX1_changeSetting : cs_rows bX1_changeSetting 0 = qX1_changeSetting_0 ∧ cs_rows bX1_changeSetting 1 = qX1_changeSetting_1 ∧ cs_rows bX1_changeSetting 2 = qX1_changeSetting_2 ∧ cs_rows bX1_changeSetting 3 = qX1_changeSetting_3 ∧ cs_rows bX1_changeSetting 4 = qX1_changeSetting_4 := ⟨rfl, rfl, rfl, rfl, rfl⟩
set_option maxRecDepth 100000 in
theorem kX1_changeSetting : cs_chkB iX1_changeSetting bX1_changeSetting = true := by decide +kernel
def qX4_dropFirst_0 : List cs_W := [(.iconst 1, 0, 0, []), (.istore_n 1, 1, 0, []), (.nop, 1, 0, [])]
def qX4_dropFirst_1 : List cs_W := [(.nop, 0, 2, [])]
def qX4_dropFirst_2 : List cs_W := [(.aload_n 0, 0, 0, []), (.getfield 15, 4, 1, []), (.ifCond .le 13, 3, 0, []), (.aload_n 0, 0, 0, []), (.dup, 0, 0, []), (.getfield 15, 4, 1, []), (.iconst 1, 0, 0, []), (.isub, 0, 0, []), (.putfield 15, 4, 1, []), (.nop, 3, 0, [])]
def qX4_dropFirst_3 : List cs_W := [(.return_, 0, 0, [])]
def qX4_dropFirst_4 : List cs_W := [(.iload_n 1, 1, 0, []), (.aload_n 0, 0, 0, []), (.getfield 15, 4, 1, []), (.if_icmp .ge 23, 2, 0, []), (.aload_n 0, 0, 0, []), (.getfield 9, 4, 0, [1]), (.iload_n 1, 1, 0, []), (.iconst 1, 0, 0, []), (.isub, 0, 0, []), (.aload_n 0, 0, 0, []), (.getfield 9, 4, 0, [1]), (.iload_n 1, 1, 0, []), (.iaload, 0, 0, []), (.iastore, 0, 0, []), (.iinc 1 1, 0, 0, []), (.goto (-25), 1, 0, [])]
def bX4_dropFirst : cs_BL := [(0, qX4_dropFirst_0), (2, qX4_dropFirst_1), (30, qX4_dropFirst_2), (47, qX4_dropFirst_3), (2, qX4_dropFirst_4)]
theorem rX4_dropFirst : cs_rows bX4_dropFirst 0 = qX4_dropFirst_0 ∧ cs_rows bX4_dropFirst 1 = qX4_dropFirst_1 ∧ cs_rows bX4_dropFirst 2 = qX4_dropFirst_2 ∧ cs_rows bX4_dropFirst 3 = qX4_dropFirst_3 ∧ cs_rows bX4_dropFirst 4 = qX4_dropFirst_4 := ⟨rfl, rfl, rfl, rfl, rfl⟩
set_option maxRecDepth 100000 in
theorem kX4_dropFirst : cs_chkB iX4_dropFirst bX4_dropFirst = true := by decide +kernel
def qX1_goThrough_0 : List cs_W := [(.aload_n 0, 0, 0, []), (.getfield 29, 1, 3, [1]), (.iload_n 3, 3, 0, []), (.aaload, 2, 0, []), (.astore 4, 4, 0, []), (.aload_n 1, 1, 0, []), (.dup, 0, 0, []), (.getfield 157, 3, 3, []), (.iconst 1, 0, 0, []), (.iadd, 0, 0, []), (.putfield 157, 3, 3, []), (.aload 4, 4, 0, []), (.dup, 0, 0, []), (.getfield 160, 0, 5, []), (.iconst 1, 0, 0, []), (.iadd, 0, 0, []), (.putfield 160, 0, 5, []), (.aload 4, 4, 0, []), (.aload 4, 4, 0, []), (.getfield 74, 0, 0, []), (.aload 4, 4, 0, []), (.getfield 161, 0, 4, []), (.aload_n 0, 0, 0, []), (.getfield 18, 1, 1, [1]), (.iconst 1, 0, 0, []), (.iaload, 0, 0, []), (.iadd, 0, 0, []), (.invokestatic 164, 0, 3, []), (.putfield 161, 0, 4, []), (.aload 4, 4, 0, []), (.getfield 161, 0, 4, []), (.aload 4, 4, 0, []), (.getfield 74, 0, 0, []), (.if_icmp .ge 4, 1, 0, []), (.return_, 0, 0, [])]
def qX1_goThrough_1 : List cs_W := [(.aload_n 2, 2, 0, []), (.invokevirtual 167, 26, 4, [0]), (.aload 4, 4, 0, []), (.aload 4, 4, 0, []), (.invokevirtual 170, 4, 0, [0]), (.putfield 173, 0, 2, []), (.aload 4, 4, 0, []), (.iconst 0, 0, 0, []), (.putfield 161, 0, 4, []), (.aload_n 0, 0, 0, []), (.aload 4, 4, 0, []), (.invokevirtual 87, 13, 1, [1]), (.astore 5, 5, 0, []), (.aload 5, 5, 0, []), (.ifnonnull 25, 2, 0, []), (.aload 4, 4, 0, []), (.aload_n 0, 0, 0, []), (.getfield 55, 1, 6, []), (.putfield 176, 0, 6, []), (.aload_n 0, 0, 0, []), (.dup, 0, 0, []), (.getfield 52, 1, 5, []), (.iconst 1, 0, 0, []), (.iadd, 0, 0, []), (.putfield 52, 1, 5, []), (.goto 9, 3, 0, [])]
def qX1_goThrough_2 : List cs_W := [(.aload 5, 5, 0, []), (.iload_n 3, 3, 0, []), (.invokevirtual 91, 14, 4, [1]), (.nop, 3, 0, [])]
def qX1_goThrough_3 : List cs_W := [(.return_, 0, 0, [])]
def bX1_goThrough : cs_BL := [(0, qX1_goThrough_0), (68, qX1_goThrough_1), (123, qX1_goThrough_2), (129, qX1_goThrough_3)]
theorem rX1_goThrough : cs_rows bX1_goThrough 0 = qX1_goThrough_0 ∧ cs_rows bX1_goThrough 1 = qX1_goThrough_1 ∧ cs_rows bX1_goThrough 2 = qX1_goThrough_2 ∧ cs_rows bX1_goThrough 3 = qX1_goThrough_3 := ⟨rfl, rfl, rfl, rfl⟩
set_option maxRecDepth 100000 in
theorem kX1_goThrough : cs_chkB iX1_goThrough bX1_goThrough = true := by decide +kernel
def qX1_isAground_0 : List cs_W := [(.aload_n 0, 0, 0, []), (.getfield 9, 1, 0, [1]), (.aload_n 1, 1, 0, []), (.getfield 173, 0, 2, []), (.iaload, 0, 0, []), (.aload_n 0, 0, 0, []), (.getfield 9, 1, 0, [1]), (.aload_n 1, 1, 0, []), (.invokevirtual 170, 4, 0, [0]), (.iaload, 0, 0, []), (.invokestatic 164, 0, 3, []), (.aload_n 1, 1, 0, []), (.getfield 77, 0, 1, []), (.if_icmp .ge 7, 1, 0, []), (.iconst 1, 0, 0, []), (.goto 4, 2, 0, [])]
def qX1_isAground_1 : List cs_W := [(.iconst 0, 0, 0, []), (.nop, 2, 0, [])]
def qX1_isAground_2 : List cs_W := [(.ireturn, 0, 1, [])]
def bX1_isAground : cs_BL := [(0, qX1_isAground_0), (32, qX1_isAground_1), (33, qX1_isAground_2)]
theorem rX1_isAground : cs_rows bX1_isAground 0 = qX1_isAground_0 ∧ cs_rows bX1_isAground 1 = qX1_isAground_1 ∧ cs_rows bX1_isAground 2 = qX1_isAground_2 := ⟨rfl, rfl, rfl⟩
set_option maxRecDepth 100000 in
theorem kX1_isAground : cs_chkB iX1_isAground bX1_isAground = true := by decide +kernel
def qX4_first_0 : List cs_W := [(.aload_n 0, 0, 0, []), (.getfield 15, 4, 1, []), (.ifCond .le 12, 1, 0, []), (.aload_n 0, 0, 0, []), (.getfield 9, 4, 0, [1]), (.iconst 0, 0, 0, []), (.iaload, 0, 0, []), (.goto 5, 2, 0, [])]
def qX4_first_1 : List cs_W := [(.bipush (-5), 0, 0, []), (.nop, 2, 0, [])]
def qX4_first_2 : List cs_W := [(.ireturn, 0, 0, [])]
def bX4_first : cs_BL := [(0, qX4_first_0), (16, qX4_first_1), (18, qX4_first_2)]
theorem rX4_first : cs_rows bX4_first 0 = qX4_first_0 ∧ cs_rows bX4_first 1 = qX4_first_1 ∧ cs_rows bX4_first 2 = qX4_first_2 := ⟨rfl, rfl, rfl⟩
set_option maxRecDepth 100000 in
theorem kX4_first : cs_chkB iX4_first bX4_first = true := by decide +kernel
def qX1_workLock_0 : List cs_W := [(.aload_n 0, 0, 0, []), (.getfield 23, 1, 2, [1]), (.iload_n 1, 1, 0, []), (.aaload, 4, 0, []), (.astore_n 2, 2, 0, []), (.aload_n 2, 2, 0, []), (.getfield 135, 3, 0, [1]), (.getfield 139, 4, 1, []), (.ifCond .ne 13, 1, 0, []), (.aload_n 2, 2, 0, []), (.getfield 142, 3, 1, [1]), (.getfield 139, 4, 1, []), (.ifCond .eq 11, 2, 0, []), (.nop, 1, 0, [])]
def qX1_workLock_1 : List cs_W := [(.aload_n 0, 0, 0, []), (.iload_n 1, 1, 0, []), (.invokevirtual 104, 20, 1, [1]), (.ifCond .ne 4, 3, 0, []), (.nop, 2, 0, [])]
def qX1_workLock_2 : List cs_W := [(.return_, 0, 0, [])]
def qX1_workLock_3 : List cs_W := [(.aload_n 2, 2, 0, []), (.invokevirtual 110, 19, 3, [0]), (.ifCond .eq 10, 4, 0, []), (.aload_n 2, 2, 0, []), (.getfield 142, 3, 1, [1]), (.goto 7, 5, 0, [])]
def qX1_workLock_4 : List cs_W := [(.aload_n 2, 2, 0, []), (.getfield 135, 3, 0, [1]), (.nop, 5, 0, [])]
def qX1_workLock_5 : List cs_W := [(.astore_n 3, 3, 0, []), (.aload_n 3, 3, 0, []), (.invokevirtual 145, 29, 4, [0]), (.istore 4, 4, 0, []), (.aload_n 0, 0, 0, []), (.iload 4, 4, 0, []), (.invokevirtual 96, 17, 1, [1]), (.ifCond .ne 11, 6, 0, []), (.aload_n 0, 0, 0, []), (.iload_n 1, 1, 0, []), (.invokevirtual 107, 22, 1, [1]), (.goto 30, 7, 0, [])]
def qX1_workLock_6 : List cs_W := [(.aload_n 0, 0, 0, []), (.aload_n 0, 0, 0, []), (.getfield 29, 1, 3, [1]), (.iload 4, 4, 0, []), (.aaload, 2, 0, []), (.invokevirtual 149, 28, 1, [1]), (.ifCond .ne 16, 7, 0, []), (.aload_n 0, 0, 0, []), (.iload_n 1, 1, 0, []), (.invokevirtual 107, 22, 1, [1]), (.aload_n 0, 0, 0, []), (.aload_n 2, 2, 0, []), (.aload_n 3, 3, 0, []), (.iload 4, 4, 0, []), (.invokevirtual 153, 27, 1, [3]), (.nop, 7, 0, [])]
def qX1_workLock_7 : List cs_W := [(.return_, 0, 0, [])]
def bX1_workLock : cs_BL := [(0, qX1_workLock_0), (27, qX1_workLock_1), (35, qX1_workLock_2), (36, qX1_workLock_3), (50, qX1_workLock_4), (54, qX1_workLock_5), (78, qX1_workLock_6), (105, qX1_workLock_7)]
theorem rX1_workLock : cs_rows bX1_workLock 0 = qX1_workLock_0 ∧ cs_rows bX1_workLock 1 = qX1_workLock_1 ∧ cs_rows bX1_workLock 2 = qX1_workLock_2 ∧ cs_rows bX1_workLock 3 = qX1_workLock_3 ∧ cs_rows bX1_workLock 4 = qX1_workLock_4 ∧ cs_rows bX1_workLock 5 = qX1_workLock_5 ∧ cs_rows bX1_workLock 6 = qX1_workLock_6 ∧ cs_rows bX1_workLock 7 = qX1_workLock_7 := ⟨rfl, rfl, rfl, rfl, rfl, rfl, rfl, rfl⟩
set_option maxRecDepth 100000 in
theorem kX1_workLock : cs_chkB iX1_workLock bX1_workLock = true := by decide +kernel
def qX1_flowFromSpring_0 : List cs_W := [(.aload_n 0, 0, 0, []), (.getfield 18, 1, 1, [1]), (.iconst 2, 0, 0, []), (.iaload, 0, 0, []), (.istore_n 1, 1, 0, []), (.aload_n 0, 0, 0, []), (.dup, 0, 0, []), (.getfield 61, 1, 8, []), (.iload_n 1, 1, 0, []), (.iadd, 0, 0, []), (.putfield 61, 1, 8, []), (.iconst 5, 0, 0, []), (.istore_n 2, 2, 0, []), (.nop, 1, 0, [])]
def qX1_flowFromSpring_1 : List cs_W := [(.nop, 0, 19, [])]
def qX1_flowFromSpring_2 : List cs_W := [(.aload_n 0, 0, 0, []), (.dup, 0, 0, []), (.getfield 58, 1, 7, []), (.iload_n 1, 1, 0, []), (.iadd, 0, 0, []), (.putfield 58, 1, 7, []), (.return_, 0, 0, [])]
def qX1_flowFromSpring_3 : List cs_W := [(.iload_n 2, 2, 0, []), (.ifCond .lt 16, 2, 0, []), (.aload_n 0, 0, 0, []), (.iload_n 2, 2, 0, []), (.iload_n 1, 1, 0, []), (.invokevirtual 182, 21, 1, [2]), (.istore_n 1, 1, 0, []), (.iinc 2 (-1), 0, 0, []), (.goto (-14), 1, 0, [])]
def bX1_flowFromSpring : cs_BL := [(0, qX1_flowFromSpring_0), (19, qX1_flowFromSpring_1), (36, qX1_flowFromSpring_2), (19, qX1_flowFromSpring_3)]
theorem rX1_flowFromSpring : cs_rows bX1_flowFromSpring 0 = qX1_flowFromSpring_0 ∧ cs_rows bX1_flowFromSpring 1 = qX1_flowFromSpring_1 ∧ cs_rows bX1_flowFromSpring 2 = qX1_flowFromSpring_2 ∧ cs_rows bX1_flowFromSpring 3 = qX1_flowFromSpring_3 := ⟨rfl, rfl, rfl, rfl⟩
set_option maxRecDepth 100000 in
theorem kX1_flowFromSpring : cs_chkB iX1_flowFromSpring bX1_flowFromSpring = true := by decide +kernel
def qX1_stepTick_0 : List cs_W := [(.iconst 0, 0, 0, []), (.istore_n 1, 1, 0, []), (.nop, 1, 0, [])]
def qX1_stepTick_1 : List cs_W := [(.nop, 0, 2, [])]
def qX1_stepTick_2 : List cs_W := [(.aload_n 0, 0, 0, []), (.invokevirtual 132, 31, 1, [0]), (.aload_n 0, 0, 0, []), (.dup, 0, 0, []), (.getfield 55, 1, 6, []), (.iconst 1, 0, 0, []), (.iadd, 0, 0, []), (.putfield 55, 1, 6, []), (.return_, 0, 0, [])]
def qX1_stepTick_3 : List cs_W := [(.iload_n 1, 1, 0, []), (.iconst 5, 0, 0, []), (.if_icmp .ge 14, 2, 0, []), (.aload_n 0, 0, 0, []), (.iload_n 1, 1, 0, []), (.invokevirtual 129, 30, 1, [1]), (.iinc 1 1, 0, 0, []), (.goto (-13), 1, 0, [])]
def bX1_stepTick : cs_BL := [(0, qX1_stepTick_0), (2, qX1_stepTick_1), (18, qX1_stepTick_2), (2, qX1_stepTick_3)]
theorem rX1_stepTick : cs_rows bX1_stepTick 0 = qX1_stepTick_0 ∧ cs_rows bX1_stepTick 1 = qX1_stepTick_1 ∧ cs_rows bX1_stepTick 2 = qX1_stepTick_2 ∧ cs_rows bX1_stepTick 3 = qX1_stepTick_3 := ⟨rfl, rfl, rfl, rfl⟩
set_option maxRecDepth 100000 in
theorem kX1_stepTick : cs_chkB iX1_stepTick bX1_stepTick = true := by decide +kernel
def qX1_letPass_0 : List cs_W := [(.iload_n 1, 1, 0, []), (.iconst 1, 0, 0, []), (.bipush 99, 0, 0, []), (.invokestatic 70, 15, 1, [3]), (.ifCond .ne 6, 1, 0, []), (.bipush (-2), 0, 0, []), (.ireturn, 0, 0, [])]
def qX1_letPass_1 : List cs_W := [(.aload_n 0, 0, 0, []), (.getfield 55, 1, 6, []), (.iload_n 1, 1, 0, []), (.iadd, 0, 0, []), (.ldc 125, 99999, 0, []), (.if_icmp .le 6, 2, 0, []), (.bipush (-3), 0, 0, []), (.ireturn, 0, 0, [])]
def qX1_letPass_2 : List cs_W := [(.aload_n 0, 0, 0, []), (.getfield 52, 1, 5, []), (.istore_n 2, 2, 0, []), (.iconst 0, 0, 0, []), (.istore_n 3, 3, 0, []), (.nop, 3, 0, [])]
def qX1_letPass_3 : List cs_W := [(.nop, 0, 34, [])]
def qX1_letPass_4 : List cs_W := [(.aload_n 0, 0, 0, []), (.getfield 52, 1, 5, []), (.iload_n 2, 2, 0, []), (.isub, 0, 0, []), (.ireturn, 0, 0, [])]
def qX1_letPass_5 : List cs_W := [(.iload_n 3, 3, 0, []), (.iload_n 1, 1, 0, []), (.if_icmp .ge 13, 4, 0, []), (.aload_n 0, 0, 0, []), (.invokevirtual 126, 32, 1, [0]), (.iinc 3 1, 0, 0, []), (.goto (-12), 3, 0, [])]
def bX1_letPass : cs_BL := [(0, qX1_letPass_0), (13, qX1_letPass_1), (27, qX1_letPass_2), (34, qX1_letPass_3), (49, qX1_letPass_4), (34, qX1_letPass_5)]
theorem rX1_letPass : cs_rows bX1_letPass 0 = qX1_letPass_0 ∧ cs_rows bX1_letPass 1 = qX1_letPass_1 ∧ cs_rows bX1_letPass 2 = qX1_letPass_2 ∧ cs_rows bX1_letPass 3 = qX1_letPass_3 ∧ cs_rows bX1_letPass 4 = qX1_letPass_4 ∧ cs_rows bX1_letPass 5 = qX1_letPass_5 := ⟨rfl, rfl, rfl, rfl, rfl, rfl⟩
set_option maxRecDepth 100000 in
theorem kX1_letPass : cs_chkB iX1_letPass bX1_letPass = true := by decide +kernel
def qX4_placeOf_0 : List cs_W := [(.iconst 0, 0, 0, []), (.istore_n 2, 2, 0, []), (.nop, 1, 0, [])]
def qX4_placeOf_1 : List cs_W := [(.nop, 0, 2, [])]
def qX4_placeOf_2 : List cs_W := [(.iinc 2 1, 0, 0, []), (.goto (-23), 1, 0, [])]
def qX4_placeOf_3 : List cs_W := [(.bipush (-5), 0, 0, []), (.ireturn, 0, 0, [])]
def qX4_placeOf_4 : List cs_W := [(.iload_n 2, 2, 0, []), (.aload_n 0, 0, 0, []), (.getfield 15, 4, 1, []), (.if_icmp .ge 21, 3, 0, []), (.aload_n 0, 0, 0, []), (.getfield 9, 4, 0, [1]), (.iload_n 2, 2, 0, []), (.iaload, 0, 0, []), (.iload_n 1, 1, 0, []), (.if_icmp .ne 5, 2, 0, []), (.iload_n 2, 2, 0, []), (.ireturn, 0, 0, [])]
def bX4_placeOf : cs_BL := [(0, qX4_placeOf_0), (2, qX4_placeOf_1), (22, qX4_placeOf_2), (28, qX4_placeOf_3), (2, qX4_placeOf_4)]
theorem rX4_placeOf : cs_rows bX4_placeOf 0 = qX4_placeOf_0 ∧ cs_rows bX4_placeOf 1 = qX4_placeOf_1 ∧ cs_rows bX4_placeOf 2 = qX4_placeOf_2 ∧ cs_rows bX4_placeOf 3 = qX4_placeOf_3 ∧ cs_rows bX4_placeOf 4 = qX4_placeOf_4 := ⟨rfl, rfl, rfl, rfl, rfl⟩
set_option maxRecDepth 100000 in
theorem kX4_placeOf : cs_chkB iX4_placeOf bX4_placeOf = true := by decide +kernel
def qX1_placeInQueue_0 : List cs_W := [(.aload_n 0, 0, 0, []), (.aload_n 0, 0, 0, []), (.getfield 29, 1, 3, [1]), (.iload_n 1, 1, 0, []), (.aaload, 2, 0, []), (.invokevirtual 87, 13, 1, [1]), (.astore_n 2, 2, 0, []), (.aload_n 2, 2, 0, []), (.ifnonnull 8, 1, 0, []), (.bipush (-5), 0, 0, []), (.goto 8, 2, 0, [])]
def qX1_placeInQueue_1 : List cs_W := [(.aload_n 2, 2, 0, []), (.iload_n 1, 1, 0, []), (.invokevirtual 188, 34, 4, [1]), (.nop, 2, 0, [])]
def qX1_placeInQueue_2 : List cs_W := [(.ireturn, 0, 0, [])]
def bX1_placeInQueue : cs_BL := [(0, qX1_placeInQueue_0), (20, qX1_placeInQueue_1), (25, qX1_placeInQueue_2)]
theorem rX1_placeInQueue : cs_rows bX1_placeInQueue 0 = qX1_placeInQueue_0 ∧ cs_rows bX1_placeInQueue 1 = qX1_placeInQueue_1 ∧ cs_rows bX1_placeInQueue 2 = qX1_placeInQueue_2 := ⟨rfl, rfl, rfl⟩
set_option maxRecDepth 100000 in
theorem kX1_placeInQueue : cs_chkB iX1_placeInQueue bX1_placeInQueue = true := by decide +kernel
def qX1_reasonNow_0 : List cs_W := [(.aload_n 0, 0, 0, []), (.getfield 29, 1, 3, [1]), (.iload_n 1, 1, 0, []), (.aaload, 2, 0, []), (.astore_n 2, 2, 0, []), (.aload_n 2, 2, 0, []), (.invokevirtual 192, 5, 0, [0]), (.istore_n 3, 3, 0, []), (.iload_n 3, 3, 0, []), (.bipush (-5), 0, 0, []), (.if_icmp .ne 5, 1, 0, []), (.iconst 1, 0, 0, []), (.ireturn, 0, 0, [])]
def qX1_reasonNow_1 : List cs_W := [(.aload_n 0, 0, 0, []), (.aload_n 2, 2, 0, []), (.invokevirtual 149, 28, 1, [1]), (.ifCond .eq 5, 2, 0, []), (.iconst 2, 0, 0, []), (.ireturn, 0, 0, [])]
def qX1_reasonNow_2 : List cs_W := [(.aload_n 0, 0, 0, []), (.iload_n 1, 1, 0, []), (.invokevirtual 195, 35, 1, [1]), (.ifCond .le 5, 3, 0, []), (.iconst 3, 0, 0, []), (.ireturn, 0, 0, [])]
def qX1_reasonNow_3 : List cs_W := [(.aload_n 2, 2, 0, []), (.getfield 80, 0, 3, []), (.aload_n 2, 2, 0, []), (.getfield 173, 0, 2, []), (.if_icmp .le 7, 4, 0, []), (.iconst 1, 0, 0, []), (.goto 4, 5, 0, [])]
def qX1_reasonNow_4 : List cs_W := [(.iconst 0, 0, 0, []), (.nop, 5, 0, [])]
def qX1_reasonNow_5 : List cs_W := [(.istore 4, 4, 0, []), (.aload_n 0, 0, 0, []), (.getfield 23, 1, 2, [1]), (.iload_n 3, 3, 0, []), (.aaload, 4, 0, []), (.invokevirtual 110, 19, 3, [0]), (.iload 4, 4, 0, []), (.if_icmp .ne 5, 6, 0, []), (.iconst 4, 0, 0, []), (.ireturn, 0, 0, [])]
def qX1_reasonNow_6 : List cs_W := [(.aload_n 0, 0, 0, []), (.iload_n 3, 3, 0, []), (.invokevirtual 104, 20, 1, [1]), (.ifCond .eq 7, 7, 0, []), (.iconst 0, 0, 0, []), (.goto 4, 8, 0, [])]
def qX1_reasonNow_7 : List cs_W := [(.iconst 5, 0, 0, []), (.nop, 8, 0, [])]
def qX1_reasonNow_8 : List cs_W := [(.ireturn, 0, 0, [])]
def bX1_reasonNow : cs_BL := [(0, qX1_reasonNow_0), (20, qX1_reasonNow_1), (30, qX1_reasonNow_2), (40, qX1_reasonNow_3), (55, qX1_reasonNow_4), (56, qX1_reasonNow_5), (74, qX1_reasonNow_6), (86, qX1_reasonNow_7), (87, qX1_reasonNow_8)]
theorem rX1_reasonNow : cs_rows bX1_reasonNow 0 = qX1_reasonNow_0 ∧ cs_rows bX1_reasonNow 1 = qX1_reasonNow_1 ∧ cs_rows bX1_reasonNow 2 = qX1_reasonNow_2 ∧ cs_rows bX1_reasonNow 3 = qX1_reasonNow_3 ∧ cs_rows bX1_reasonNow 4 = qX1_reasonNow_4 ∧ cs_rows bX1_reasonNow 5 = qX1_reasonNow_5 ∧ cs_rows bX1_reasonNow 6 = qX1_reasonNow_6 ∧ cs_rows bX1_reasonNow 7 = qX1_reasonNow_7 ∧ cs_rows bX1_reasonNow 8 = qX1_reasonNow_8 := ⟨rfl, rfl, rfl, rfl, rfl, rfl, rfl, rfl, rfl⟩
set_option maxRecDepth 100000 in
theorem kX1_reasonNow : cs_chkB iX1_reasonNow bX1_reasonNow = true := by decide +kernel
def qX1_tellBoat_0 : List cs_W := [(.aload_n 0, 0, 0, []), (.getfield 29, 1, 3, [1]), (.iload_n 1, 1, 0, []), (.aaload, 2, 0, []), (.astore_n 3, 3, 0, []), (.iload_n 2, 2, 0, []), (.tableswitch 115 0 9 #[56, 61, 66, 71, 76, 81, 94, 99, 105, 110], 13, 0, [1, 2, 3, 4, 5, 6, 9, 10, 11, 12])]
def qX1_tellBoat_1 : List cs_W := [(.aload_n 3, 3, 0, []), (.getfield 74, 0, 0, []), (.ireturn, 0, 0, [])]
def qX1_tellBoat_2 : List cs_W := [(.aload_n 3, 3, 0, []), (.getfield 77, 0, 1, []), (.ireturn, 0, 0, [])]
def qX1_tellBoat_3 : List cs_W := [(.aload_n 3, 3, 0, []), (.getfield 173, 0, 2, []), (.ireturn, 0, 0, [])]
def qX1_tellBoat_4 : List cs_W := [(.aload_n 3, 3, 0, []), (.getfield 80, 0, 3, []), (.ireturn, 0, 0, [])]
def qX1_tellBoat_5 : List cs_W := [(.aload_n 3, 3, 0, []), (.getfield 161, 0, 4, []), (.ireturn, 0, 0, [])]
def qX1_tellBoat_6 : List cs_W := [(.aload_n 3, 3, 0, []), (.invokevirtual 100, 3, 0, [0]), (.ifCond .eq 7, 7, 0, []), (.iconst 1, 0, 0, []), (.goto 4, 8, 0, [])]
def qX1_tellBoat_7 : List cs_W := [(.iconst 0, 0, 0, []), (.nop, 8, 0, [])]
def qX1_tellBoat_8 : List cs_W := [(.ireturn, 0, 0, [])]
def qX1_tellBoat_9 : List cs_W := [(.aload_n 3, 3, 0, []), (.invokevirtual 192, 5, 0, [0]), (.ireturn, 0, 0, [])]
def qX1_tellBoat_10 : List cs_W := [(.aload_n 0, 0, 0, []), (.iload_n 1, 1, 0, []), (.invokevirtual 195, 35, 1, [1]), (.ireturn, 0, 0, [])]
def qX1_tellBoat_11 : List cs_W := [(.aload_n 3, 3, 0, []), (.getfield 160, 0, 5, []), (.ireturn, 0, 0, [])]
def qX1_tellBoat_12 : List cs_W := [(.aload_n 3, 3, 0, []), (.getfield 176, 0, 6, []), (.ireturn, 0, 0, [])]
def qX1_tellBoat_13 : List cs_W := [(.bipush (-2), 0, 0, []), (.ireturn, 0, 0, [])]
def bX1_tellBoat : cs_BL := [(0, qX1_tellBoat_0), (64, qX1_tellBoat_1), (69, qX1_tellBoat_2), (74, qX1_tellBoat_3), (79, qX1_tellBoat_4), (84, qX1_tellBoat_5), (89, qX1_tellBoat_6), (100, qX1_tellBoat_7), (101, qX1_tellBoat_8), (102, qX1_tellBoat_9), (107, qX1_tellBoat_10), (113, qX1_tellBoat_11), (118, qX1_tellBoat_12), (123, qX1_tellBoat_13)]
theorem rX1_tellBoat : cs_rows bX1_tellBoat 0 = qX1_tellBoat_0 ∧ cs_rows bX1_tellBoat 1 = qX1_tellBoat_1 ∧ cs_rows bX1_tellBoat 2 = qX1_tellBoat_2 ∧ cs_rows bX1_tellBoat 3 = qX1_tellBoat_3 ∧ cs_rows bX1_tellBoat 4 = qX1_tellBoat_4 ∧ cs_rows bX1_tellBoat 5 = qX1_tellBoat_5 ∧ cs_rows bX1_tellBoat 6 = qX1_tellBoat_6 ∧ cs_rows bX1_tellBoat 7 = qX1_tellBoat_7 ∧ cs_rows bX1_tellBoat 8 = qX1_tellBoat_8 ∧ cs_rows bX1_tellBoat 9 = qX1_tellBoat_9 ∧ cs_rows bX1_tellBoat 10 = qX1_tellBoat_10 ∧ cs_rows bX1_tellBoat 11 = qX1_tellBoat_11 ∧ cs_rows bX1_tellBoat 12 = qX1_tellBoat_12 ∧ cs_rows bX1_tellBoat 13 = qX1_tellBoat_13 := ⟨rfl, rfl, rfl, rfl, rfl, rfl, rfl, rfl, rfl, rfl, rfl, rfl, rfl, rfl⟩
set_option maxRecDepth 100000 in
theorem kX1_tellBoat : cs_chkB iX1_tellBoat bX1_tellBoat = true := by decide +kernel
def qX1_boatsUnderWayIn_0 : List cs_W := [(.iconst 0, 0, 0, []), (.istore_n 2, 2, 0, []), (.iconst 0, 0, 0, []), (.istore_n 3, 3, 0, []), (.nop, 1, 0, [])]
def qX1_boatsUnderWayIn_1 : List cs_W := [(.nop, 0, 4, [])]
def qX1_boatsUnderWayIn_2 : List cs_W := [(.iinc 3 1, 0, 0, []), (.goto (-30), 1, 0, [])]
def qX1_boatsUnderWayIn_3 : List cs_W := [(.iload_n 2, 2, 0, []), (.ireturn, 0, 0, [])]
def qX1_boatsUnderWayIn_4 : List cs_W := [(.iload_n 3, 3, 0, []), (.aload_n 0, 0, 0, []), (.getfield 45, 1, 4, []), (.if_icmp .ge 28, 3, 0, []), (.aload_n 0, 0, 0, []), (.getfield 29, 1, 3, [1]), (.iload_n 3, 3, 0, []), (.aaload, 2, 0, []), (.iload_n 1, 1, 0, []), (.invokevirtual 207, 6, 0, [1]), (.ifCond .eq 9, 2, 0, []), (.iload_n 2, 2, 0, []), (.iconst 1, 0, 0, []), (.iload_n 3, 3, 0, []), (.ishl, 0, 0, []), (.ior, 0, 0, []), (.istore_n 2, 2, 0, []), (.nop, 2, 0, [])]
def bX1_boatsUnderWayIn : cs_BL := [(0, qX1_boatsUnderWayIn_0), (4, qX1_boatsUnderWayIn_1), (31, qX1_boatsUnderWayIn_2), (37, qX1_boatsUnderWayIn_3), (4, qX1_boatsUnderWayIn_4)]
theorem rX1_boatsUnderWayIn : cs_rows bX1_boatsUnderWayIn 0 = qX1_boatsUnderWayIn_0 ∧ cs_rows bX1_boatsUnderWayIn 1 = qX1_boatsUnderWayIn_1 ∧ cs_rows bX1_boatsUnderWayIn 2 = qX1_boatsUnderWayIn_2 ∧ cs_rows bX1_boatsUnderWayIn 3 = qX1_boatsUnderWayIn_3 ∧ cs_rows bX1_boatsUnderWayIn 4 = qX1_boatsUnderWayIn_4 := ⟨rfl, rfl, rfl, rfl, rfl⟩
set_option maxRecDepth 100000 in
theorem kX1_boatsUnderWayIn : cs_chkB iX1_boatsUnderWayIn bX1_boatsUnderWayIn = true := by decide +kernel
def qX1_boatsArrivedIn_0 : List cs_W := [(.iconst 0, 0, 0, []), (.istore_n 2, 2, 0, []), (.iconst 0, 0, 0, []), (.istore_n 3, 3, 0, []), (.nop, 1, 0, [])]
def qX1_boatsArrivedIn_1 : List cs_W := [(.nop, 0, 4, [])]
def qX1_boatsArrivedIn_2 : List cs_W := [(.iinc 3 1, 0, 0, []), (.goto (-42), 1, 0, [])]
def qX1_boatsArrivedIn_3 : List cs_W := [(.iload_n 2, 2, 0, []), (.ireturn, 0, 0, [])]
def qX1_boatsArrivedIn_4 : List cs_W := [(.iload_n 3, 3, 0, []), (.aload_n 0, 0, 0, []), (.getfield 45, 1, 4, []), (.if_icmp .ge 40, 3, 0, []), (.aload_n 0, 0, 0, []), (.getfield 29, 1, 3, [1]), (.iload_n 3, 3, 0, []), (.aaload, 2, 0, []), (.invokevirtual 100, 3, 0, [0]), (.ifCond .eq 22, 2, 0, []), (.aload_n 0, 0, 0, []), (.getfield 29, 1, 3, [1]), (.iload_n 3, 3, 0, []), (.aaload, 2, 0, []), (.getfield 80, 0, 3, []), (.iload_n 1, 1, 0, []), (.if_icmp .ne 9, 2, 0, []), (.iload_n 2, 2, 0, []), (.iconst 1, 0, 0, []), (.iload_n 3, 3, 0, []), (.ishl, 0, 0, []), (.ior, 0, 0, []), (.istore_n 2, 2, 0, []), (.nop, 2, 0, [])]
def bX1_boatsArrivedIn : cs_BL := [(0, qX1_boatsArrivedIn_0), (4, qX1_boatsArrivedIn_1), (43, qX1_boatsArrivedIn_2), (49, qX1_boatsArrivedIn_3), (4, qX1_boatsArrivedIn_4)]
theorem rX1_boatsArrivedIn : cs_rows bX1_boatsArrivedIn 0 = qX1_boatsArrivedIn_0 ∧ cs_rows bX1_boatsArrivedIn 1 = qX1_boatsArrivedIn_1 ∧ cs_rows bX1_boatsArrivedIn 2 = qX1_boatsArrivedIn_2 ∧ cs_rows bX1_boatsArrivedIn 3 = qX1_boatsArrivedIn_3 ∧ cs_rows bX1_boatsArrivedIn 4 = qX1_boatsArrivedIn_4 := ⟨rfl, rfl, rfl, rfl, rfl⟩
set_option maxRecDepth 100000 in
theorem kX1_boatsArrivedIn : cs_chkB iX1_boatsArrivedIn bX1_boatsArrivedIn = true := by decide +kernel
def qX1_greatestDraughtIn_0 : List cs_W := [(.iconst 0, 0, 0, []), (.istore_n 2, 2, 0, []), (.iconst 0, 0, 0, []), (.istore_n 3, 3, 0, []), (.nop, 1, 0, [])]
def qX1_greatestDraughtIn_1 : List cs_W := [(.nop, 0, 4, [])]
def qX1_greatestDraughtIn_2 : List cs_W := [(.iinc 3 1, 0, 0, []), (.goto (-38), 1, 0, [])]
def qX1_greatestDraughtIn_3 : List cs_W := [(.iload_n 2, 2, 0, []), (.ireturn, 0, 0, [])]
def qX1_greatestDraughtIn_4 : List cs_W := [(.iload_n 3, 3, 0, []), (.aload_n 0, 0, 0, []), (.getfield 45, 1, 4, []), (.if_icmp .ge 36, 3, 0, []), (.aload_n 0, 0, 0, []), (.getfield 29, 1, 3, [1]), (.iload_n 3, 3, 0, []), (.aaload, 2, 0, []), (.iload_n 1, 1, 0, []), (.invokevirtual 207, 6, 0, [1]), (.ifCond .eq 17, 2, 0, []), (.iload_n 2, 2, 0, []), (.aload_n 0, 0, 0, []), (.getfield 29, 1, 3, [1]), (.iload_n 3, 3, 0, []), (.aaload, 2, 0, []), (.getfield 77, 0, 1, []), (.invokestatic 113, 0, 2, []), (.istore_n 2, 2, 0, []), (.nop, 2, 0, [])]
def bX1_greatestDraughtIn : cs_BL := [(0, qX1_greatestDraughtIn_0), (4, qX1_greatestDraughtIn_1), (39, qX1_greatestDraughtIn_2), (45, qX1_greatestDraughtIn_3), (4, qX1_greatestDraughtIn_4)]
theorem rX1_greatestDraughtIn : cs_rows bX1_greatestDraughtIn 0 = qX1_greatestDraughtIn_0 ∧ cs_rows bX1_greatestDraughtIn 1 = qX1_greatestDraughtIn_1 ∧ cs_rows bX1_greatestDraughtIn 2 = qX1_greatestDraughtIn_2 ∧ cs_rows bX1_greatestDraughtIn 3 = qX1_greatestDraughtIn_3 ∧ cs_rows bX1_greatestDraughtIn 4 = qX1_greatestDraughtIn_4 := ⟨rfl, rfl, rfl, rfl, rfl⟩
set_option maxRecDepth 100000 in
theorem kX1_greatestDraughtIn : cs_chkB iX1_greatestDraughtIn bX1_greatestDraughtIn = true := by decide +kernel
def qX1_tellPound_0 : List cs_W := [(.iload_n 2, 2, 0, []), (.tableswitch 56 0 3 #[31, 38, 44, 50], 5, 0, [1, 2, 3, 4])]
def qX1_tellPound_1 : List cs_W := [(.aload_n 0, 0, 0, []), (.getfield 9, 1, 0, [1]), (.iload_n 1, 1, 0, []), (.iaload, 0, 0, []), (.ireturn, 0, 0, [])]
def qX1_tellPound_2 : List cs_W := [(.aload_n 0, 0, 0, []), (.iload_n 1, 1, 0, []), (.invokevirtual 198, 38, 1, [1]), (.ireturn, 0, 0, [])]
def qX1_tellPound_3 : List cs_W := [(.aload_n 0, 0, 0, []), (.iload_n 1, 1, 0, []), (.invokevirtual 201, 39, 1, [1]), (.ireturn, 0, 0, [])]
def qX1_tellPound_4 : List cs_W := [(.aload_n 0, 0, 0, []), (.iload_n 1, 1, 0, []), (.invokevirtual 204, 40, 1, [1]), (.ireturn, 0, 0, [])]
def qX1_tellPound_5 : List cs_W := [(.bipush (-2), 0, 0, []), (.ireturn, 0, 0, [])]
def bX1_tellPound : cs_BL := [(0, qX1_tellPound_0), (32, qX1_tellPound_1), (39, qX1_tellPound_2), (45, qX1_tellPound_3), (51, qX1_tellPound_4), (57, qX1_tellPound_5)]
theorem rX1_tellPound : cs_rows bX1_tellPound 0 = qX1_tellPound_0 ∧ cs_rows bX1_tellPound 1 = qX1_tellPound_1 ∧ cs_rows bX1_tellPound 2 = qX1_tellPound_2 ∧ cs_rows bX1_tellPound 3 = qX1_tellPound_3 ∧ cs_rows bX1_tellPound 4 = qX1_tellPound_4 ∧ cs_rows bX1_tellPound 5 = qX1_tellPound_5 := ⟨rfl, rfl, rfl, rfl, rfl, rfl⟩
set_option maxRecDepth 100000 in
theorem kX1_tellPound : cs_chkB iX1_tellPound bX1_tellPound = true := by decide +kernel
def qX1_waterThere_0 : List cs_W := [(.iconst 0, 0, 0, []), (.istore_n 1, 1, 0, []), (.iconst 0, 0, 0, []), (.istore_n 2, 2, 0, []), (.nop, 1, 0, [])]
def qX1_waterThere_1 : List cs_W := [(.nop, 0, 4, [])]
def qX1_waterThere_2 : List cs_W := [(.iconst 0, 0, 0, []), (.istore_n 2, 2, 0, []), (.nop, 3, 0, [])]
def qX1_waterThere_3 : List cs_W := [(.nop, 0, 27, [])]
def qX1_waterThere_4 : List cs_W := [(.iload_n 1, 1, 0, []), (.ireturn, 0, 0, [])]
def qX1_waterThere_5 : List cs_W := [(.iload_n 2, 2, 0, []), (.bipush 6, 0, 0, []), (.if_icmp .ge 18, 2, 0, []), (.iload_n 1, 1, 0, []), (.aload_n 0, 0, 0, []), (.getfield 9, 1, 0, [1]), (.iload_n 2, 2, 0, []), (.iaload, 0, 0, []), (.iadd, 0, 0, []), (.istore_n 1, 1, 0, []), (.iinc 2 1, 0, 0, []), (.goto (-18), 1, 0, [])]
def qX1_waterThere_6 : List cs_W := [(.iload_n 2, 2, 0, []), (.iconst 5, 0, 0, []), (.if_icmp .ge 21, 4, 0, []), (.iload_n 1, 1, 0, []), (.aload_n 0, 0, 0, []), (.getfield 23, 1, 2, [1]), (.iload_n 2, 2, 0, []), (.aaload, 4, 0, []), (.getfield 179, 3, 2, []), (.iadd, 0, 0, []), (.istore_n 1, 1, 0, []), (.iinc 2 1, 0, 0, []), (.goto (-20), 3, 0, [])]
def bX1_waterThere : cs_BL := [(0, qX1_waterThere_0), (4, qX1_waterThere_1), (25, qX1_waterThere_2), (27, qX1_waterThere_3), (50, qX1_waterThere_4), (4, qX1_waterThere_5), (27, qX1_waterThere_6)]
theorem rX1_waterThere : cs_rows bX1_waterThere 0 = qX1_waterThere_0 ∧ cs_rows bX1_waterThere 1 = qX1_waterThere_1 ∧ cs_rows bX1_waterThere 2 = qX1_waterThere_2 ∧ cs_rows bX1_waterThere 3 = qX1_waterThere_3 ∧ cs_rows bX1_waterThere 4 = qX1_waterThere_4 ∧ cs_rows bX1_waterThere 5 = qX1_waterThere_5 ∧ cs_rows bX1_waterThere 6 = qX1_waterThere_6 := ⟨rfl, rfl, rfl, rfl, rfl, rfl, rfl⟩
set_option maxRecDepth 100000 in
theorem kX1_waterThere : cs_chkB iX1_waterThere bX1_waterThere = true := by decide +kernel
def qX1_waterByAccount_0 : List cs_W := [(.sipush 240, 0, 0, []), (.aload_n 0, 0, 0, []), (.getfield 61, 1, 8, []), (.iadd, 0, 0, []), (.aload_n 0, 0, 0, []), (.getfield 64, 1, 9, []), (.iadd, 0, 0, []), (.aload_n 0, 0, 0, []), (.getfield 58, 1, 7, []), (.isub, 0, 0, []), (.aload_n 0, 0, 0, []), (.getfield 67, 1, 10, []), (.isub, 0, 0, []), (.ireturn, 0, 0, [])]
def bX1_waterByAccount : cs_BL := [(0, qX1_waterByAccount_0)]
theorem rX1_waterByAccount : cs_rows bX1_waterByAccount 0 = qX1_waterByAccount_0 := rfl
set_option maxRecDepth 100000 in
theorem kX1_waterByAccount : cs_chkB iX1_waterByAccount bX1_waterByAccount = true := by decide +kernel
def qX1_countAground_0 : List cs_W := [(.iconst 0, 0, 0, []), (.istore_n 1, 1, 0, []), (.iconst 0, 0, 0, []), (.istore_n 2, 2, 0, []), (.nop, 1, 0, [])]
def qX1_countAground_1 : List cs_W := [(.nop, 0, 4, [])]
def qX1_countAground_2 : List cs_W := [(.iinc 2 1, 0, 0, []), (.goto (-39), 1, 0, [])]
def qX1_countAground_3 : List cs_W := [(.iload_n 1, 1, 0, []), (.ireturn, 0, 0, [])]
def qX1_countAground_4 : List cs_W := [(.iload_n 2, 2, 0, []), (.aload_n 0, 0, 0, []), (.getfield 45, 1, 4, []), (.if_icmp .ge 37, 3, 0, []), (.aload_n 0, 0, 0, []), (.getfield 29, 1, 3, [1]), (.iload_n 2, 2, 0, []), (.aaload, 2, 0, []), (.invokevirtual 100, 3, 0, [0]), (.ifCond .ne 19, 2, 0, []), (.aload_n 0, 0, 0, []), (.aload_n 0, 0, 0, []), (.getfield 29, 1, 3, [1]), (.iload_n 2, 2, 0, []), (.aaload, 2, 0, []), (.invokevirtual 149, 28, 1, [1]), (.ifCond .eq 6, 2, 0, []), (.iinc 1 1, 0, 0, []), (.nop, 2, 0, [])]
def bX1_countAground : cs_BL := [(0, qX1_countAground_0), (4, qX1_countAground_1), (40, qX1_countAground_2), (46, qX1_countAground_3), (4, qX1_countAground_4)]
theorem rX1_countAground : cs_rows bX1_countAground 0 = qX1_countAground_0 ∧ cs_rows bX1_countAground 1 = qX1_countAground_1 ∧ cs_rows bX1_countAground 2 = qX1_countAground_2 ∧ cs_rows bX1_countAground 3 = qX1_countAground_3 ∧ cs_rows bX1_countAground 4 = qX1_countAground_4 := ⟨rfl, rfl, rfl, rfl, rfl⟩
set_option maxRecDepth 100000 in
theorem kX1_countAground : cs_chkB iX1_countAground bX1_countAground = true := by decide +kernel
def qX1_passagesOfAll_0 : List cs_W := [(.iconst 0, 0, 0, []), (.istore_n 1, 1, 0, []), (.iconst 0, 0, 0, []), (.istore_n 2, 2, 0, []), (.nop, 1, 0, [])]
def qX1_passagesOfAll_1 : List cs_W := [(.nop, 0, 4, [])]
def qX1_passagesOfAll_2 : List cs_W := [(.iload_n 1, 1, 0, []), (.ireturn, 0, 0, [])]
def qX1_passagesOfAll_3 : List cs_W := [(.iload_n 2, 2, 0, []), (.iconst 5, 0, 0, []), (.if_icmp .ge 21, 2, 0, []), (.iload_n 1, 1, 0, []), (.aload_n 0, 0, 0, []), (.getfield 23, 1, 2, [1]), (.iload_n 2, 2, 0, []), (.aaload, 4, 0, []), (.getfield 157, 3, 3, []), (.iadd, 0, 0, []), (.istore_n 1, 1, 0, []), (.iinc 2 1, 0, 0, []), (.goto (-20), 1, 0, [])]
def bX1_passagesOfAll : cs_BL := [(0, qX1_passagesOfAll_0), (4, qX1_passagesOfAll_1), (27, qX1_passagesOfAll_2), (4, qX1_passagesOfAll_3)]
theorem rX1_passagesOfAll : cs_rows bX1_passagesOfAll 0 = qX1_passagesOfAll_0 ∧ cs_rows bX1_passagesOfAll 1 = qX1_passagesOfAll_1 ∧ cs_rows bX1_passagesOfAll 2 = qX1_passagesOfAll_2 ∧ cs_rows bX1_passagesOfAll 3 = qX1_passagesOfAll_3 := ⟨rfl, rfl, rfl, rfl⟩
set_option maxRecDepth 100000 in
theorem kX1_passagesOfAll : cs_chkB iX1_passagesOfAll bX1_passagesOfAll = true := by decide +kernel
def qX1_fillingsOfAll_0 : List cs_W := [(.iconst 0, 0, 0, []), (.istore_n 1, 1, 0, []), (.iconst 0, 0, 0, []), (.istore_n 2, 2, 0, []), (.nop, 1, 0, [])]
def qX1_fillingsOfAll_1 : List cs_W := [(.nop, 0, 4, [])]
def qX1_fillingsOfAll_2 : List cs_W := [(.iload_n 1, 1, 0, []), (.ireturn, 0, 0, [])]
def qX1_fillingsOfAll_3 : List cs_W := [(.iload_n 2, 2, 0, []), (.iconst 5, 0, 0, []), (.if_icmp .ge 21, 2, 0, []), (.iload_n 1, 1, 0, []), (.aload_n 0, 0, 0, []), (.getfield 23, 1, 2, [1]), (.iload_n 2, 2, 0, []), (.aaload, 4, 0, []), (.getfield 185, 3, 4, []), (.iadd, 0, 0, []), (.istore_n 1, 1, 0, []), (.iinc 2 1, 0, 0, []), (.goto (-20), 1, 0, [])]
def bX1_fillingsOfAll : cs_BL := [(0, qX1_fillingsOfAll_0), (4, qX1_fillingsOfAll_1), (27, qX1_fillingsOfAll_2), (4, qX1_fillingsOfAll_3)]
theorem rX1_fillingsOfAll : cs_rows bX1_fillingsOfAll 0 = qX1_fillingsOfAll_0 ∧ cs_rows bX1_fillingsOfAll 1 = qX1_fillingsOfAll_1 ∧ cs_rows bX1_fillingsOfAll 2 = qX1_fillingsOfAll_2 ∧ cs_rows bX1_fillingsOfAll 3 = qX1_fillingsOfAll_3 := ⟨rfl, rfl, rfl, rfl⟩
set_option maxRecDepth 100000 in
theorem kX1_fillingsOfAll : cs_chkB iX1_fillingsOfAll bX1_fillingsOfAll = true := by decide +kernel
def qX1_countHigh_0 : List cs_W := [(.iconst 0, 0, 0, []), (.istore_n 1, 1, 0, []), (.iconst 0, 0, 0, []), (.istore_n 2, 2, 0, []), (.nop, 1, 0, [])]
def qX1_countHigh_1 : List cs_W := [(.nop, 0, 4, [])]
def qX1_countHigh_2 : List cs_W := [(.iconst 0, 0, 0, []), (.nop, 3, 0, [])]
def qX1_countHigh_3 : List cs_W := [(.iadd, 0, 0, []), (.istore_n 1, 1, 0, []), (.iinc 2 1, 0, 0, []), (.goto (-28), 1, 0, [])]
def qX1_countHigh_4 : List cs_W := [(.iload_n 1, 1, 0, []), (.ireturn, 0, 0, [])]
def qX1_countHigh_5 : List cs_W := [(.iload_n 2, 2, 0, []), (.iconst 5, 0, 0, []), (.if_icmp .ge 29, 4, 0, []), (.iload_n 1, 1, 0, []), (.aload_n 0, 0, 0, []), (.getfield 23, 1, 2, [1]), (.iload_n 2, 2, 0, []), (.aaload, 4, 0, []), (.invokevirtual 110, 19, 3, [0]), (.ifCond .eq 7, 2, 0, []), (.iconst 1, 0, 0, []), (.goto 4, 3, 0, [])]
def bX1_countHigh : cs_BL := [(0, qX1_countHigh_0), (4, qX1_countHigh_1), (26, qX1_countHigh_2), (27, qX1_countHigh_3), (35, qX1_countHigh_4), (4, qX1_countHigh_5)]
theorem rX1_countHigh : cs_rows bX1_countHigh 0 = qX1_countHigh_0 ∧ cs_rows bX1_countHigh 1 = qX1_countHigh_1 ∧ cs_rows bX1_countHigh 2 = qX1_countHigh_2 ∧ cs_rows bX1_countHigh 3 = qX1_countHigh_3 ∧ cs_rows bX1_countHigh 4 = qX1_countHigh_4 ∧ cs_rows bX1_countHigh 5 = qX1_countHigh_5 := ⟨rfl, rfl, rfl, rfl, rfl, rfl⟩
set_option maxRecDepth 100000 in
theorem kX1_countHigh : cs_chkB iX1_countHigh bX1_countHigh = true := by decide +kernel
def qX1_tellCount_0 : List cs_W := [(.iload_n 1, 1, 0, []), (.tableswitch 129 0 11 #[63, 68, 73, 78, 83, 88, 93, 98, 103, 108, 115, 122], 13, 0, [1, 2, 3, 4, 5, 6, 7, 8, 9, 10, 11, 12])]
def qX1_tellCount_1 : List cs_W := [(.aload_n 0, 0, 0, []), (.getfield 55, 1, 6, []), (.ireturn, 0, 0, [])]
def qX1_tellCount_2 : List cs_W := [(.aload_n 0, 0, 0, []), (.getfield 45, 1, 4, []), (.ireturn, 0, 0, [])]
def qX1_tellCount_3 : List cs_W := [(.aload_n 0, 0, 0, []), (.getfield 52, 1, 5, []), (.ireturn, 0, 0, [])]
def qX1_tellCount_4 : List cs_W := [(.aload_n 0, 0, 0, []), (.invokevirtual 210, 44, 1, [0]), (.ireturn, 0, 0, [])]
def qX1_tellCount_5 : List cs_W := [(.aload_n 0, 0, 0, []), (.invokevirtual 213, 45, 1, [0]), (.ireturn, 0, 0, [])]
def qX1_tellCount_6 : List cs_W := [(.aload_n 0, 0, 0, []), (.invokevirtual 216, 46, 1, [0]), (.ireturn, 0, 0, [])]
def qX1_tellCount_7 : List cs_W := [(.aload_n 0, 0, 0, []), (.getfield 58, 1, 7, []), (.ireturn, 0, 0, [])]
def qX1_tellCount_8 : List cs_W := [(.aload_n 0, 0, 0, []), (.getfield 61, 1, 8, []), (.ireturn, 0, 0, [])]
def qX1_tellCount_9 : List cs_W := [(.aload_n 0, 0, 0, []), (.invokevirtual 219, 47, 1, [0]), (.ireturn, 0, 0, [])]
def qX1_tellCount_10 : List cs_W := [(.aload_n 0, 0, 0, []), (.getfield 18, 1, 1, [1]), (.iconst 0, 0, 0, []), (.iaload, 0, 0, []), (.ireturn, 0, 0, [])]
def qX1_tellCount_11 : List cs_W := [(.aload_n 0, 0, 0, []), (.getfield 18, 1, 1, [1]), (.iconst 1, 0, 0, []), (.iaload, 0, 0, []), (.ireturn, 0, 0, [])]
def qX1_tellCount_12 : List cs_W := [(.aload_n 0, 0, 0, []), (.getfield 18, 1, 1, [1]), (.iconst 2, 0, 0, []), (.iaload, 0, 0, []), (.ireturn, 0, 0, [])]
def qX1_tellCount_13 : List cs_W := [(.bipush (-2), 0, 0, []), (.ireturn, 0, 0, [])]
def bX1_tellCount : cs_BL := [(0, qX1_tellCount_0), (64, qX1_tellCount_1), (69, qX1_tellCount_2), (74, qX1_tellCount_3), (79, qX1_tellCount_4), (84, qX1_tellCount_5), (89, qX1_tellCount_6), (94, qX1_tellCount_7), (99, qX1_tellCount_8), (104, qX1_tellCount_9), (109, qX1_tellCount_10), (116, qX1_tellCount_11), (123, qX1_tellCount_12), (130, qX1_tellCount_13)]
theorem rX1_tellCount : cs_rows bX1_tellCount 0 = qX1_tellCount_0 ∧ cs_rows bX1_tellCount 1 = qX1_tellCount_1 ∧ cs_rows bX1_tellCount 2 = qX1_tellCount_2 ∧ cs_rows bX1_tellCount 3 = qX1_tellCount_3 ∧ cs_rows bX1_tellCount 4 = qX1_tellCount_4 ∧ cs_rows bX1_tellCount 5 = qX1_tellCount_5 ∧ cs_rows bX1_tellCount 6 = qX1_tellCount_6 ∧ cs_rows bX1_tellCount 7 = qX1_tellCount_7 ∧ cs_rows bX1_tellCount 8 = qX1_tellCount_8 ∧ cs_rows bX1_tellCount 9 = qX1_tellCount_9 ∧ cs_rows bX1_tellCount 10 = qX1_tellCount_10 ∧ cs_rows bX1_tellCount 11 = qX1_tellCount_11 ∧ cs_rows bX1_tellCount 12 = qX1_tellCount_12 ∧ cs_rows bX1_tellCount 13 = qX1_tellCount_13 := ⟨rfl, rfl, rfl, rfl, rfl, rfl, rfl, rfl, rfl, rfl, rfl, rfl, rfl, rfl⟩
set_option maxRecDepth 100000 in
theorem kX1_tellCount : cs_chkB iX1_tellCount bX1_tellCount = true := by decide +kernel
def qX2_init_0 : List cs_W := [(.aload_n 0, 0, 0, []), (.invokespecial 3, 0, 0, []), (.aload_n 0, 0, 0, []), (.iconst 4, 0, 0, []), (.anewarray 9, 3, 0, []), (.putfield 11, 2, 0, [1]), (.iconst 0, 0, 0, []), (.istore_n 1, 1, 0, []), (.nop, 1, 0, [])]
def qX2_init_1 : List cs_W := [(.nop, 0, 14, [])]
def qX2_init_2 : List cs_W := [(.return_, 0, 0, [])]
def qX2_init_3 : List cs_W := [(.iload_n 1, 1, 0, []), (.iconst 4, 0, 0, []), (.if_icmp .ge 22, 2, 0, []), (.aload_n 0, 0, 0, []), (.getfield 11, 2, 0, [1]), (.iload_n 1, 1, 0, []), (.new 9, 1, 11, []), (.dup, 0, 0, []), (.invokespecial 17, 9, 1, [0, 45, 347]), (.aastore, 3, 1, []), (.iinc 1 1, 0, 0, []), (.goto (-21), 1, 0, [])]
def bX2_init : cs_BL := [(0, qX2_init_0), (14, qX2_init_1), (38, qX2_init_2), (14, qX2_init_3)]
theorem rX2_init : cs_rows bX2_init 0 = qX2_init_0 ∧ cs_rows bX2_init 1 = qX2_init_1 ∧ cs_rows bX2_init 2 = qX2_init_2 ∧ cs_rows bX2_init 3 = qX2_init_3 := ⟨rfl, rfl, rfl, rfl⟩
set_option maxRecDepth 100000 in
theorem kX2_init : cs_chkB iX2_init bX2_init = true := by decide +kernel
def qX2_dropOldest_0 : List cs_W := [(.aload_n 0, 0, 0, []), (.getfield 11, 2, 0, [1]), (.iconst 0, 0, 0, []), (.aaload, 3, 0, []), (.astore_n 1, 1, 0, []), (.iconst 1, 0, 0, []), (.istore_n 2, 2, 0, []), (.nop, 1, 0, [])]
def qX2_dropOldest_1 : List cs_W := [(.nop, 0, 9, [])]
def qX2_dropOldest_2 : List cs_W := [(.aload_n 0, 0, 0, []), (.getfield 11, 2, 0, [1]), (.iconst 3, 0, 0, []), (.aload_n 1, 1, 0, []), (.aastore, 3, 1, []), (.aload_n 0, 0, 0, []), (.dup, 0, 0, []), (.getfield 18, 2, 1, []), (.iconst 1, 0, 0, []), (.isub, 0, 0, []), (.putfield 18, 2, 1, []), (.return_, 0, 0, [])]
def qX2_dropOldest_3 : List cs_W := [(.iload_n 2, 2, 0, []), (.iconst 4, 0, 0, []), (.if_icmp .ge 23, 2, 0, []), (.aload_n 0, 0, 0, []), (.getfield 11, 2, 0, [1]), (.iload_n 2, 2, 0, []), (.iconst 1, 0, 0, []), (.isub, 0, 0, []), (.aload_n 0, 0, 0, []), (.getfield 11, 2, 0, [1]), (.iload_n 2, 2, 0, []), (.aaload, 3, 0, []), (.aastore, 3, 1, []), (.iinc 2 1, 0, 0, []), (.goto (-22), 1, 0, [])]
def bX2_dropOldest : cs_BL := [(0, qX2_dropOldest_0), (9, qX2_dropOldest_1), (34, qX2_dropOldest_2), (9, qX2_dropOldest_3)]
theorem rX2_dropOldest : cs_rows bX2_dropOldest 0 = qX2_dropOldest_0 ∧ cs_rows bX2_dropOldest 1 = qX2_dropOldest_1 ∧ cs_rows bX2_dropOldest 2 = qX2_dropOldest_2 ∧ cs_rows bX2_dropOldest 3 = qX2_dropOldest_3 := ⟨rfl, rfl, rfl, rfl⟩
set_option maxRecDepth 100000 in
theorem kX2_dropOldest : cs_chkB iX2_dropOldest bX2_dropOldest = true := by decide +kernel
def qX2_push_0 : List cs_W := [(.aload_n 0, 0, 0, []), (.getfield 18, 2, 1, []), (.iconst 4, 0, 0, []), (.if_icmp .ne 7, 1, 0, []), (.aload_n 0, 0, 0, []), (.invokevirtual 22, 50, 2, [0]), (.nop, 1, 0, [])]
def qX2_push_1 : List cs_W := [(.aload_n 0, 0, 0, []), (.getfield 11, 2, 0, [1]), (.aload_n 0, 0, 0, []), (.getfield 18, 2, 1, []), (.aaload, 3, 0, []), (.aload_n 1, 1, 0, []), (.invokevirtual 25, 12, 1, [1]), (.aload_n 0, 0, 0, []), (.dup, 0, 0, []), (.getfield 18, 2, 1, []), (.iconst 1, 0, 0, []), (.iadd, 0, 0, []), (.putfield 18, 2, 1, []), (.return_, 0, 0, [])]
def bX2_push : cs_BL := [(0, qX2_push_0), (12, qX2_push_1)]
theorem rX2_push : cs_rows bX2_push 0 = qX2_push_0 ∧ cs_rows bX2_push 1 = qX2_push_1 := ⟨rfl, rfl⟩
set_option maxRecDepth 100000 in
theorem kX2_push : cs_chkB iX2_push bX2_push = true := by decide +kernel
def qX2_takeLatest_0 : List cs_W := [(.aload_n 0, 0, 0, []), (.getfield 18, 2, 1, []), (.ifCond .ne 5, 1, 0, []), (.aconst_null, 0, 0, []), (.areturn, 0, 0, [])]
def qX2_takeLatest_1 : List cs_W := [(.aload_n 0, 0, 0, []), (.dup, 0, 0, []), (.getfield 18, 2, 1, []), (.iconst 1, 0, 0, []), (.isub, 0, 0, []), (.putfield 18, 2, 1, []), (.aload_n 0, 0, 0, []), (.getfield 11, 2, 0, [1]), (.aload_n 0, 0, 0, []), (.getfield 18, 2, 1, []), (.aaload, 3, 0, []), (.areturn, 0, 0, [])]
def bX2_takeLatest : cs_BL := [(0, qX2_takeLatest_0), (9, qX2_takeLatest_1)]
theorem rX2_takeLatest : cs_rows bX2_takeLatest 0 = qX2_takeLatest_0 ∧ cs_rows bX2_takeLatest 1 = qX2_takeLatest_1 := ⟨rfl, rfl⟩
set_option maxRecDepth 100000 in
theorem kX2_takeLatest : cs_chkB iX2_takeLatest bX2_takeLatest = true := by decide +kernel
def qX3_tellLock_0 : List cs_W := [(.iload_n 1, 1, 0, []), (.tableswitch 107 0 7 #[47, 60, 68, 76, 84, 92, 97, 102], 11, 0, [1, 4, 5, 6, 7, 8, 9, 10])]
def qX3_tellLock_1 : List cs_W := [(.aload_n 0, 0, 0, []), (.invokevirtual 35, 19, 3, [0]), (.ifCond .eq 7, 2, 0, []), (.iconst 1, 0, 0, []), (.goto 4, 3, 0, [])]
def qX3_tellLock_2 : List cs_W := [(.iconst 0, 0, 0, []), (.nop, 3, 0, [])]
def qX3_tellLock_3 : List cs_W := [(.ireturn, 0, 0, [])]
def qX3_tellLock_4 : List cs_W := [(.aload_n 0, 0, 0, []), (.getfield 12, 3, 0, [1]), (.getfield 39, 4, 1, []), (.ireturn, 0, 0, [])]
def qX3_tellLock_5 : List cs_W := [(.aload_n 0, 0, 0, []), (.getfield 18, 3, 1, [1]), (.getfield 39, 4, 1, []), (.ireturn, 0, 0, [])]
def qX3_tellLock_6 : List cs_W := [(.aload_n 0, 0, 0, []), (.getfield 12, 3, 0, [1]), (.invokevirtual 42, 29, 4, [0]), (.ireturn, 0, 0, [])]
def qX3_tellLock_7 : List cs_W := [(.aload_n 0, 0, 0, []), (.getfield 18, 3, 1, [1]), (.invokevirtual 42, 29, 4, [0]), (.ireturn, 0, 0, [])]
def qX3_tellLock_8 : List cs_W := [(.aload_n 0, 0, 0, []), (.getfield 29, 3, 3, []), (.ireturn, 0, 0, [])]
def qX3_tellLock_9 : List cs_W := [(.aload_n 0, 0, 0, []), (.getfield 32, 3, 4, []), (.ireturn, 0, 0, [])]
def qX3_tellLock_10 : List cs_W := [(.aload_n 0, 0, 0, []), (.getfield 25, 3, 2, []), (.ireturn, 0, 0, [])]
def qX3_tellLock_11 : List cs_W := [(.bipush (-2), 0, 0, []), (.ireturn, 0, 0, [])]
def bX3_tellLock : cs_BL := [(0, qX3_tellLock_0), (48, qX3_tellLock_1), (59, qX3_tellLock_2), (60, qX3_tellLock_3), (61, qX3_tellLock_4), (69, qX3_tellLock_5), (77, qX3_tellLock_6), (85, qX3_tellLock_7), (93, qX3_tellLock_8), (98, qX3_tellLock_9), (103, qX3_tellLock_10), (108, qX3_tellLock_11)]
theorem rX3_tellLock : cs_rows bX3_tellLock 0 = qX3_tellLock_0 ∧ cs_rows bX3_tellLock 1 = qX3_tellLock_1 ∧ cs_rows bX3_tellLock 2 = qX3_tellLock_2 ∧ cs_rows bX3_tellLock 3 = qX3_tellLock_3 ∧ cs_rows bX3_tellLock 4 = qX3_tellLock_4 ∧ cs_rows bX3_tellLock 5 = qX3_tellLock_5 ∧ cs_rows bX3_tellLock 6 = qX3_tellLock_6 ∧ cs_rows bX3_tellLock 7 = qX3_tellLock_7 ∧ cs_rows bX3_tellLock 8 = qX3_tellLock_8 ∧ cs_rows bX3_tellLock 9 = qX3_tellLock_9 ∧ cs_rows bX3_tellLock 10 = qX3_tellLock_10 ∧ cs_rows bX3_tellLock 11 = qX3_tellLock_11 := ⟨rfl, rfl, rfl, rfl, rfl, rfl, rfl, rfl, rfl, rfl, rfl, rfl⟩
set_option maxRecDepth 100000 in
theorem kX3_tellLock : cs_chkB iX3_tellLock bX3_tellLock = true := by decide +kernel
def qX5_init_0 : List cs_W := [(.aload_n 0, 0, 0, []), (.invokespecial 1, 0, 0, []), (.return_, 0, 0, [])]
def bX5_init : cs_BL := [(0, qX5_init_0)]
theorem rX5_init : cs_rows bX5_init 0 = qX5_init_0 := rfl
set_option maxRecDepth 100000 in
theorem kX5_init : cs_chkB iX5_init bX5_init = true := by decide +kernel
def qX6_init_0 : List cs_W := [(.aload_n 0, 0, 0, []), (.invokespecial 3, 0, 0, []), (.aload_n 0, 0, 0, []), (.bipush 60, 0, 0, []), (.newarray .char, 1, 0, []), (.putfield 9, 6, 0, [1]), (.aload_n 0, 0, 0, []), (.bipush 20, 0, 0, []), (.anewarray 15, 5, 0, []), (.putfield 17, 6, 2, [1]), (.iconst 0, 0, 0, []), (.istore_n 1, 1, 0, []), (.nop, 1, 0, [])]
def qX6_init_1 : List cs_W := [(.nop, 0, 23, [])]
def qX6_init_2 : List cs_W := [(.return_, 0, 0, [])]
def qX6_init_3 : List cs_W := [(.iload_n 1, 1, 0, []), (.bipush 20, 0, 0, []), (.if_icmp .ge 22, 2, 0, []), (.aload_n 0, 0, 0, []), (.getfield 17, 6, 2, [1]), (.iload_n 1, 1, 0, []), (.new 15, 5, 7, []), (.dup, 0, 0, []), (.invokespecial 21, 54, 2, [0, 0, 0]), (.aastore, 5, 5, []), (.iinc 1 1, 0, 0, []), (.goto (-22), 1, 0, [])]
def bX6_init : cs_BL := [(0, qX6_init_0), (23, qX6_init_1), (48, qX6_init_2), (23, qX6_init_3)]
theorem rX6_init : cs_rows bX6_init 0 = qX6_init_0 ∧ cs_rows bX6_init 1 = qX6_init_1 ∧ cs_rows bX6_init 2 = qX6_init_2 ∧ cs_rows bX6_init 3 = qX6_init_3 := ⟨rfl, rfl, rfl, rfl⟩
set_option maxRecDepth 100000 in
theorem kX6_init : cs_chkB iX6_init bX6_init = true := by decide +kernel
def qX7_init_0 : List cs_W := [(.aload_n 0, 0, 0, []), (.invokespecial 3, 0, 0, []), (.aload_n 0, 0, 0, []), (.new 9, 1, 11, []), (.dup, 0, 0, []), (.invokespecial 11, 9, 1, [0, 45, 347]), (.putfield 12, 7, 0, [1]), (.aload_n 0, 0, 0, []), (.new 9, 1, 11, []), (.dup, 0, 0, []), (.invokespecial 11, 9, 1, [0, 45, 347]), (.putfield 16, 7, 1, [1]), (.aload_n 0, 0, 0, []), (.new 9, 1, 11, []), (.dup, 0, 0, []), (.invokespecial 11, 9, 1, [0, 45, 347]), (.putfield 19, 7, 2, [1]), (.aload_n 0, 0, 0, []), (.new 9, 1, 11, []), (.dup, 0, 0, []), (.invokespecial 11, 9, 1, [0, 45, 347]), (.putfield 22, 7, 3, [1]), (.aload_n 0, 0, 0, []), (.new 25, 2, 2, []), (.dup, 0, 0, []), (.invokespecial 27, 49, 1, [0, 185, 1436]), (.putfield 28, 7, 4, [1]), (.aload_n 0, 0, 0, []), (.new 32, 6, 5, []), (.dup, 0, 0, []), (.invokespecial 34, 55, 1, [0, 22, 220]), (.putfield 35, 7, 5, [1]), (.aload_n 0, 0, 0, []), (.bipush (-5), 0, 0, []), (.putfield 39, 7, 7, []), (.aload_n 0, 0, 0, []), (.bipush (-5), 0, 0, []), (.putfield 43, 7, 8, []), (.return_, 0, 0, [])]
def bX7_init : cs_BL := [(0, qX7_init_0)]
theorem rX7_init : cs_rows bX7_init 0 = qX7_init_0 := rfl
set_option maxRecDepth 100000 in
theorem kX7_init : cs_chkB iX7_init bX7_init = true := by decide +kernel
def qX7_recorded_0 : List cs_W := [(.iload_n 1, 1, 0, []), (.ifCond .lt 14, 1, 0, []), (.aload_n 0, 0, 0, []), (.getfield 28, 7, 4, [1]), (.aload_n 0, 0, 0, []), (.getfield 16, 7, 1, [1]), (.invokevirtual 184, 51, 2, [1]), (.nop, 1, 0, [])]
def qX7_recorded_1 : List cs_W := [(.iload_n 1, 1, 0, []), (.ireturn, 0, 0, [])]
def bX7_recorded : cs_BL := [(0, qX7_recorded_0), (15, qX7_recorded_1)]
theorem rX7_recorded : cs_rows bX7_recorded 0 = qX7_recorded_0 ∧ cs_rows bX7_recorded 1 = qX7_recorded_1 := ⟨rfl, rfl⟩
set_option maxRecDepth 100000 in
theorem kX7_recorded : cs_chkB iX7_recorded bX7_recorded = true := by decide +kernel
def qX7_boat_0 : List cs_W := [(.aload_n 0, 0, 0, []), (.getfield 16, 7, 1, [1]), (.aload_n 0, 0, 0, []), (.getfield 12, 7, 0, [1]), (.invokevirtual 46, 12, 1, [1]), (.aload_n 0, 0, 0, []), (.aload_n 0, 0, 0, []), (.getfield 12, 7, 0, [1]), (.iload_n 1, 1, 0, []), (.iload_n 2, 2, 0, []), (.iload_n 3, 3, 0, []), (.iload 4, 4, 0, []), (.invokevirtual 50, 16, 1, [4]), (.invokevirtual 54, 57, 7, [1]), (.ireturn, 0, 0, [])]
def bX7_boat : cs_BL := [(0, qX7_boat_0)]
theorem rX7_boat : cs_rows bX7_boat 0 = qX7_boat_0 := rfl
set_option maxRecDepth 100000 in
theorem kX7_boat : cs_chkB iX7_boat bX7_boat = true := by decide +kernel
def qX7_load_0 : List cs_W := [(.aload_n 0, 0, 0, []), (.getfield 16, 7, 1, [1]), (.aload_n 0, 0, 0, []), (.getfield 12, 7, 0, [1]), (.invokevirtual 46, 12, 1, [1]), (.aload_n 0, 0, 0, []), (.aload_n 0, 0, 0, []), (.getfield 12, 7, 0, [1]), (.iload_n 1, 1, 0, []), (.iload_n 2, 2, 0, []), (.invokevirtual 58, 18, 1, [2]), (.invokevirtual 54, 57, 7, [1]), (.ireturn, 0, 0, [])]
def bX7_load : cs_BL := [(0, qX7_load_0)]
theorem rX7_load : cs_rows bX7_load 0 = qX7_load_0 := rfl
set_option maxRecDepth 100000 in
theorem kX7_load : cs_chkB iX7_load bX7_load = true := by decide +kernel
def qX7_turnLock_0 : List cs_W := [(.aload_n 0, 0, 0, []), (.getfield 16, 7, 1, [1]), (.aload_n 0, 0, 0, []), (.getfield 12, 7, 0, [1]), (.invokevirtual 46, 12, 1, [1]), (.aload_n 0, 0, 0, []), (.aload_n 0, 0, 0, []), (.getfield 12, 7, 0, [1]), (.iload_n 1, 1, 0, []), (.invokevirtual 62, 23, 1, [1]), (.invokevirtual 54, 57, 7, [1]), (.ireturn, 0, 0, [])]
def bX7_turnLock : cs_BL := [(0, qX7_turnLock_0)]
theorem rX7_turnLock : cs_rows bX7_turnLock 0 = qX7_turnLock_0 := rfl
set_option maxRecDepth 100000 in
theorem kX7_turnLock : cs_chkB iX7_turnLock bX7_turnLock = true := by decide +kernel
def qX7_setDepth_0 : List cs_W := [(.aload_n 0, 0, 0, []), (.getfield 16, 7, 1, [1]), (.aload_n 0, 0, 0, []), (.getfield 12, 7, 0, [1]), (.invokevirtual 46, 12, 1, [1]), (.aload_n 0, 0, 0, []), (.aload_n 0, 0, 0, []), (.getfield 12, 7, 0, [1]), (.iload_n 1, 1, 0, []), (.iload_n 2, 2, 0, []), (.invokevirtual 65, 24, 1, [2]), (.invokevirtual 54, 57, 7, [1]), (.ireturn, 0, 0, [])]
def bX7_setDepth : cs_BL := [(0, qX7_setDepth_0)]
theorem rX7_setDepth : cs_rows bX7_setDepth 0 = qX7_setDepth_0 := rfl
set_option maxRecDepth 100000 in
theorem kX7_setDepth : cs_chkB iX7_setDepth bX7_setDepth = true := by decide +kernel
def qX7_set_0 : List cs_W := [(.aload_n 0, 0, 0, []), (.getfield 16, 7, 1, [1]), (.aload_n 0, 0, 0, []), (.getfield 12, 7, 0, [1]), (.invokevirtual 46, 12, 1, [1]), (.aload_n 0, 0, 0, []), (.aload_n 0, 0, 0, []), (.getfield 12, 7, 0, [1]), (.iload_n 1, 1, 0, []), (.iload_n 2, 2, 0, []), (.invokevirtual 68, 25, 1, [2]), (.invokevirtual 54, 57, 7, [1]), (.ireturn, 0, 0, [])]
def bX7_set : cs_BL := [(0, qX7_set_0)]
theorem rX7_set : cs_rows bX7_set 0 = qX7_set_0 := rfl
set_option maxRecDepth 100000 in
theorem kX7_set : cs_chkB iX7_set bX7_set = true := by decide +kernel
def qX7_pass_0 : List cs_W := [(.aload_n 0, 0, 0, []), (.getfield 16, 7, 1, [1]), (.aload_n 0, 0, 0, []), (.getfield 12, 7, 0, [1]), (.invokevirtual 46, 12, 1, [1]), (.aload_n 0, 0, 0, []), (.aload_n 0, 0, 0, []), (.getfield 12, 7, 0, [1]), (.iload_n 1, 1, 0, []), (.invokevirtual 71, 33, 1, [1]), (.invokevirtual 54, 57, 7, [1]), (.ireturn, 0, 0, [])]
def bX7_pass : cs_BL := [(0, qX7_pass_0)]
theorem rX7_pass : cs_rows bX7_pass 0 = qX7_pass_0 := rfl
set_option maxRecDepth 100000 in
theorem kX7_pass : cs_chkB iX7_pass bX7_pass = true := by decide +kernel
def qX7_undo_0 : List cs_W := [(.aload_n 0, 0, 0, []), (.getfield 28, 7, 4, [1]), (.invokevirtual 99, 52, 2, [0]), (.astore_n 1, 1, 0, []), (.aload_n 1, 1, 0, []), (.ifnonnull 6, 1, 0, []), (.bipush (-5), 0, 0, []), (.ireturn, 0, 0, [])]
def qX7_undo_1 : List cs_W := [(.aload_n 0, 0, 0, []), (.getfield 12, 7, 0, [1]), (.aload_n 1, 1, 0, []), (.invokevirtual 46, 12, 1, [1]), (.aload_n 0, 0, 0, []), (.getfield 28, 7, 4, [1]), (.getfield 103, 2, 1, []), (.ireturn, 0, 0, [])]
def bX7_undo : cs_BL := [(0, qX7_undo_0), (15, qX7_undo_1)]
theorem rX7_undo : cs_rows bX7_undo 0 = qX7_undo_0 ∧ cs_rows bX7_undo 1 = qX7_undo_1 := ⟨rfl, rfl⟩
set_option maxRecDepth 100000 in
theorem kX7_undo : cs_chkB iX7_undo bX7_undo = true := by decide +kernel
def qX7_boatOf_0 : List cs_W := [(.aload_n 0, 0, 0, []), (.getfield 12, 7, 0, [1]), (.iload_n 1, 1, 0, []), (.invokevirtual 111, 17, 1, [1]), (.ifCond .eq 15, 1, 0, []), (.aload_n 0, 0, 0, []), (.getfield 12, 7, 0, [1]), (.iload_n 1, 1, 0, []), (.iload_n 2, 2, 0, []), (.invokevirtual 115, 37, 1, [2]), (.goto 4, 2, 0, [])]
def qX7_boatOf_1 : List cs_W := [(.iconst (-1), 0, 0, []), (.nop, 2, 0, [])]
def qX7_boatOf_2 : List cs_W := [(.ireturn, 0, 0, [])]
def bX7_boatOf : cs_BL := [(0, qX7_boatOf_0), (23, qX7_boatOf_1), (24, qX7_boatOf_2)]
theorem rX7_boatOf : cs_rows bX7_boatOf 0 = qX7_boatOf_0 ∧ cs_rows bX7_boatOf 1 = qX7_boatOf_1 ∧ cs_rows bX7_boatOf 2 = qX7_boatOf_2 := ⟨rfl, rfl, rfl⟩
set_option maxRecDepth 100000 in
theorem kX7_boatOf : cs_chkB iX7_boatOf bX7_boatOf = true := by decide +kernel
def qX7_lock_0 : List cs_W := [(.iload_n 1, 1, 0, []), (.iconst 0, 0, 0, []), (.iconst 4, 0, 0, []), (.invokestatic 118, 15, 0, [3]), (.ifCond .eq 19, 1, 0, []), (.aload_n 0, 0, 0, []), (.getfield 12, 7, 0, [1]), (.getfield 122, 1, 2, [1]), (.iload_n 1, 1, 0, []), (.aaload, 4, 0, []), (.iload_n 2, 2, 0, []), (.invokevirtual 126, 53, 3, [1]), (.goto 4, 2, 0, [])]
def qX7_lock_1 : List cs_W := [(.iconst (-1), 0, 0, []), (.nop, 2, 0, [])]
def qX7_lock_2 : List cs_W := [(.ireturn, 0, 0, [])]
def bX7_lock : cs_BL := [(0, qX7_lock_0), (25, qX7_lock_1), (26, qX7_lock_2)]
theorem rX7_lock : cs_rows bX7_lock 0 = qX7_lock_0 ∧ cs_rows bX7_lock 1 = qX7_lock_1 ∧ cs_rows bX7_lock 2 = qX7_lock_2 := ⟨rfl, rfl, rfl⟩
set_option maxRecDepth 100000 in
theorem kX7_lock : cs_chkB iX7_lock bX7_lock = true := by decide +kernel
def qX7_pound_0 : List cs_W := [(.iload_n 1, 1, 0, []), (.iconst 0, 0, 0, []), (.iconst 5, 0, 0, []), (.invokestatic 118, 15, 0, [3]), (.ifCond .eq 15, 1, 0, []), (.aload_n 0, 0, 0, []), (.getfield 12, 7, 0, [1]), (.iload_n 1, 1, 0, []), (.iload_n 2, 2, 0, []), (.invokevirtual 131, 41, 1, [2]), (.goto 4, 2, 0, [])]
def qX7_pound_1 : List cs_W := [(.iconst (-1), 0, 0, []), (.nop, 2, 0, [])]
def qX7_pound_2 : List cs_W := [(.ireturn, 0, 0, [])]
def bX7_pound : cs_BL := [(0, qX7_pound_0), (21, qX7_pound_1), (22, qX7_pound_2)]
theorem rX7_pound : cs_rows bX7_pound 0 = qX7_pound_0 ∧ cs_rows bX7_pound 1 = qX7_pound_1 ∧ cs_rows bX7_pound 2 = qX7_pound_2 := ⟨rfl, rfl, rfl⟩
set_option maxRecDepth 100000 in
theorem kX7_pound : cs_chkB iX7_pound bX7_pound = true := by decide +kernel
def qX7_reason_0 : List cs_W := [(.aload_n 0, 0, 0, []), (.getfield 12, 7, 0, [1]), (.iload_n 1, 1, 0, []), (.invokevirtual 111, 17, 1, [1]), (.ifCond .ne 5, 1, 0, []), (.iconst (-1), 0, 0, []), (.ireturn, 0, 0, [])]
def qX7_reason_1 : List cs_W := [(.aload_n 0, 0, 0, []), (.getfield 19, 7, 2, [1]), (.aload_n 0, 0, 0, []), (.getfield 12, 7, 0, [1]), (.invokevirtual 46, 12, 1, [1]), (.aload_n 0, 0, 0, []), (.getfield 19, 7, 2, [1]), (.getfield 134, 1, 3, [1]), (.iload_n 1, 1, 0, []), (.aaload, 2, 0, []), (.invokevirtual 138, 5, 0, [0]), (.istore_n 2, 2, 0, []), (.iconst 0, 0, 0, []), (.istore_n 3, 3, 0, []), (.nop, 2, 0, [])]
def qX7_reason_2 : List cs_W := [(.nop, 0, 39, [])]
def qX7_reason_3 : List cs_W := [(.aload_n 0, 0, 0, []), (.getfield 19, 7, 2, [1]), (.iload_n 1, 1, 0, []), (.invokevirtual 148, 36, 1, [1]), (.ireturn, 0, 0, [])]
def qX7_reason_4 : List cs_W := [(.iload_n 3, 3, 0, []), (.iload_n 2, 2, 0, []), (.if_icmp .ge 17, 3, 0, []), (.aload_n 0, 0, 0, []), (.getfield 19, 7, 2, [1]), (.iload_n 3, 3, 0, []), (.invokevirtual 144, 30, 1, [1]), (.iinc 3 1, 0, 0, []), (.goto (-16), 2, 0, [])]
def bX7_reason : cs_BL := [(0, qX7_reason_0), (13, qX7_reason_1), (39, qX7_reason_2), (58, qX7_reason_3), (39, qX7_reason_4)]
theorem rX7_reason : cs_rows bX7_reason 0 = qX7_reason_0 ∧ cs_rows bX7_reason 1 = qX7_reason_1 ∧ cs_rows bX7_reason 2 = qX7_reason_2 ∧ cs_rows bX7_reason 3 = qX7_reason_3 ∧ cs_rows bX7_reason 4 = qX7_reason_4 := ⟨rfl, rfl, rfl, rfl, rfl⟩
set_option maxRecDepth 100000 in
theorem kX7_reason : cs_chkB iX7_reason bX7_reason = true := by decide +kernel
def qX7_arrivesIn_0 : List cs_W := [(.aload_n 0, 0, 0, []), (.getfield 12, 7, 0, [1]), (.iload_n 1, 1, 0, []), (.invokevirtual 111, 17, 1, [1]), (.ifCond .ne 5, 1, 0, []), (.iconst (-1), 0, 0, []), (.ireturn, 0, 0, [])]
def qX7_arrivesIn_1 : List cs_W := [(.aload_n 0, 0, 0, []), (.getfield 19, 7, 2, [1]), (.aload_n 0, 0, 0, []), (.getfield 12, 7, 0, [1]), (.invokevirtual 46, 12, 1, [1]), (.iconst 0, 0, 0, []), (.istore_n 2, 2, 0, []), (.nop, 2, 0, [])]
def qX7_arrivesIn_2 : List cs_W := [(.nop, 0, 26, [])]
def qX7_arrivesIn_3 : List cs_W := [(.aload_n 0, 0, 0, []), (.getfield 19, 7, 2, [1]), (.invokevirtual 154, 32, 1, [0]), (.iinc 2 1, 0, 0, []), (.goto (-34), 2, 0, [])]
def qX7_arrivesIn_4 : List cs_W := [(.bipush (-5), 0, 0, []), (.ireturn, 0, 0, [])]
def qX7_arrivesIn_5 : List cs_W := [(.iload_n 2, 2, 0, []), (.sipush 500, 0, 0, []), (.if_icmp .gt 33, 4, 0, []), (.aload_n 0, 0, 0, []), (.getfield 19, 7, 2, [1]), (.getfield 134, 1, 3, [1]), (.iload_n 1, 1, 0, []), (.aaload, 2, 0, []), (.invokevirtual 151, 3, 0, [0]), (.ifCond .eq 5, 3, 0, []), (.iload_n 2, 2, 0, []), (.ireturn, 0, 0, [])]
def bX7_arrivesIn : cs_BL := [(0, qX7_arrivesIn_0), (13, qX7_arrivesIn_1), (26, qX7_arrivesIn_2), (50, qX7_arrivesIn_3), (63, qX7_arrivesIn_4), (26, qX7_arrivesIn_5)]
theorem rX7_arrivesIn : cs_rows bX7_arrivesIn 0 = qX7_arrivesIn_0 ∧ cs_rows bX7_arrivesIn 1 = qX7_arrivesIn_1 ∧ cs_rows bX7_arrivesIn 2 = qX7_arrivesIn_2 ∧ cs_rows bX7_arrivesIn 3 = qX7_arrivesIn_3 ∧ cs_rows bX7_arrivesIn 4 = qX7_arrivesIn_4 ∧ cs_rows bX7_arrivesIn 5 = qX7_arrivesIn_5 := ⟨rfl, rfl, rfl, rfl, rfl, rfl⟩
set_option maxRecDepth 100000 in
theorem kX7_arrivesIn : cs_chkB iX7_arrivesIn bX7_arrivesIn = true := by decide +kernel
def qX7_water_0 : List cs_W := [(.iload_n 1, 1, 0, []), (.lookupswitch 43 #[(0, 27), (1, 35)], 3, 0, [1, 2])]
def qX7_water_1 : List cs_W := [(.aload_n 0, 0, 0, []), (.getfield 12, 7, 0, [1]), (.invokevirtual 157, 42, 1, [0]), (.ireturn, 0, 0, [])]
def qX7_water_2 : List cs_W := [(.aload_n 0, 0, 0, []), (.getfield 12, 7, 0, [1]), (.invokevirtual 160, 43, 1, [0]), (.ireturn, 0, 0, [])]
def qX7_water_3 : List cs_W := [(.bipush (-2), 0, 0, []), (.ireturn, 0, 0, [])]
def bX7_water : cs_BL := [(0, qX7_water_0), (28, qX7_water_1), (36, qX7_water_2), (44, qX7_water_3)]
theorem rX7_water : cs_rows bX7_water 0 = qX7_water_0 ∧ cs_rows bX7_water 1 = qX7_water_1 ∧ cs_rows bX7_water 2 = qX7_water_2 ∧ cs_rows bX7_water 3 = qX7_water_3 := ⟨rfl, rfl, rfl, rfl⟩
set_option maxRecDepth 100000 in
theorem kX7_water : cs_chkB iX7_water bX7_water = true := by decide +kernel
def qX7_arrivalsAfterTurn_0 : List cs_W := [(.aload_n 0, 0, 0, []), (.getfield 19, 7, 2, [1]), (.aload_n 0, 0, 0, []), (.getfield 12, 7, 0, [1]), (.invokevirtual 46, 12, 1, [1]), (.iload_n 1, 1, 0, []), (.bipush (-5), 0, 0, []), (.if_icmp .eq 11, 1, 0, []), (.aload_n 0, 0, 0, []), (.getfield 19, 7, 2, [1]), (.iload_n 1, 1, 0, []), (.invokevirtual 210, 22, 1, [1]), (.nop, 1, 0, [])]
def qX7_arrivalsAfterTurn_1 : List cs_W := [(.iconst 0, 0, 0, []), (.istore_n 2, 2, 0, []), (.nop, 2, 0, [])]
def qX7_arrivalsAfterTurn_2 : List cs_W := [(.nop, 0, 27, [])]
def qX7_arrivalsAfterTurn_3 : List cs_W := [(.aload_n 0, 0, 0, []), (.getfield 19, 7, 2, [1]), (.getfield 169, 1, 5, []), (.aload_n 0, 0, 0, []), (.getfield 12, 7, 0, [1]), (.getfield 169, 1, 5, []), (.isub, 0, 0, []), (.ireturn, 0, 0, [])]
def qX7_arrivalsAfterTurn_4 : List cs_W := [(.iload_n 2, 2, 0, []), (.bipush 40, 0, 0, []), (.if_icmp .ge 16, 3, 0, []), (.aload_n 0, 0, 0, []), (.getfield 19, 7, 2, [1]), (.invokevirtual 154, 32, 1, [0]), (.iinc 2 1, 0, 0, []), (.goto (-16), 2, 0, [])]
def bX7_arrivalsAfterTurn : cs_BL := [(0, qX7_arrivalsAfterTurn_0), (25, qX7_arrivalsAfterTurn_1), (27, qX7_arrivalsAfterTurn_2), (46, qX7_arrivalsAfterTurn_3), (27, qX7_arrivalsAfterTurn_4)]
theorem rX7_arrivalsAfterTurn : cs_rows bX7_arrivalsAfterTurn 0 = qX7_arrivalsAfterTurn_0 ∧ cs_rows bX7_arrivalsAfterTurn 1 = qX7_arrivalsAfterTurn_1 ∧ cs_rows bX7_arrivalsAfterTurn 2 = qX7_arrivalsAfterTurn_2 ∧ cs_rows bX7_arrivalsAfterTurn 3 = qX7_arrivalsAfterTurn_3 ∧ cs_rows bX7_arrivalsAfterTurn 4 = qX7_arrivalsAfterTurn_4 := ⟨rfl, rfl, rfl, rfl, rfl⟩
set_option maxRecDepth 100000 in
theorem kX7_arrivalsAfterTurn : cs_chkB iX7_arrivalsAfterTurn bX7_arrivalsAfterTurn = true := by decide +kernel
def qX7_bestTurn_0 : List cs_W := [(.iload_n 1, 1, 0, []), (.iconst 0, 0, 0, []), (.iconst 1, 0, 0, []), (.invokestatic 118, 15, 0, [3]), (.ifCond .ne 6, 1, 0, []), (.bipush (-2), 0, 0, []), (.ireturn, 0, 0, [])]
def qX7_bestTurn_1 : List cs_W := [(.bipush (-5), 0, 0, []), (.istore_n 2, 2, 0, []), (.aload_n 0, 0, 0, []), (.bipush (-5), 0, 0, []), (.invokevirtual 163, 71, 7, [1]), (.istore_n 3, 3, 0, []), (.iconst 0, 0, 0, []), (.istore 4, 4, 0, []), (.nop, 2, 0, [])]
def qX7_bestTurn_2 : List cs_W := [(.nop, 0, 25, [])]
def qX7_bestTurn_3 : List cs_W := [(.iconst 0, 0, 0, []), (.nop, 4, 0, [])]
def qX7_bestTurn_4 : List cs_W := [(.istore 5, 5, 0, []), (.iload 5, 5, 0, []), (.iload_n 3, 3, 0, []), (.if_icmp .le 9, 5, 0, []), (.iload 4, 4, 0, []), (.istore_n 2, 2, 0, []), (.iload 5, 5, 0, []), (.istore_n 3, 3, 0, []), (.nop, 5, 0, [])]
def qX7_bestTurn_5 : List cs_W := [(.iinc 4 1, 0, 0, []), (.goto (-45), 2, 0, [])]
def qX7_bestTurn_6 : List cs_W := [(.iload_n 2, 2, 0, []), (.bipush (-5), 0, 0, []), (.if_icmp .eq 7, 7, 0, []), (.iload_n 1, 1, 0, []), (.ifCond .ne 7, 8, 0, []), (.nop, 7, 0, [])]
def qX7_bestTurn_7 : List cs_W := [(.iload_n 2, 2, 0, []), (.goto 4, 9, 0, [])]
def qX7_bestTurn_8 : List cs_W := [(.iload_n 3, 3, 0, []), (.nop, 9, 0, [])]
def qX7_bestTurn_9 : List cs_W := [(.ireturn, 0, 0, [])]
def qX7_bestTurn_10 : List cs_W := [(.iload 4, 4, 0, []), (.iconst 5, 0, 0, []), (.if_icmp .ge 45, 6, 0, []), (.aload_n 0, 0, 0, []), (.getfield 12, 7, 0, [1]), (.iload 4, 4, 0, []), (.invokevirtual 166, 20, 1, [1]), (.ifCond .eq 12, 3, 0, []), (.aload_n 0, 0, 0, []), (.iload 4, 4, 0, []), (.invokevirtual 163, 71, 7, [1]), (.goto 4, 4, 0, [])]
def bX7_bestTurn : cs_BL := [(0, qX7_bestTurn_0), (12, qX7_bestTurn_1), (25, qX7_bestTurn_2), (52, qX7_bestTurn_3), (53, qX7_bestTurn_4), (67, qX7_bestTurn_5), (73, qX7_bestTurn_6), (83, qX7_bestTurn_7), (87, qX7_bestTurn_8), (88, qX7_bestTurn_9), (25, qX7_bestTurn_10)]
theorem rX7_bestTurn : cs_rows bX7_bestTurn 0 = qX7_bestTurn_0 ∧ cs_rows bX7_bestTurn 1 = qX7_bestTurn_1 ∧ cs_rows bX7_bestTurn 2 = qX7_bestTurn_2 ∧ cs_rows bX7_bestTurn 3 = qX7_bestTurn_3 ∧ cs_rows bX7_bestTurn 4 = qX7_bestTurn_4 ∧ cs_rows bX7_bestTurn 5 = qX7_bestTurn_5 ∧ cs_rows bX7_bestTurn 6 = qX7_bestTurn_6 ∧ cs_rows bX7_bestTurn 7 = qX7_bestTurn_7 ∧ cs_rows bX7_bestTurn 8 = qX7_bestTurn_8 ∧ cs_rows bX7_bestTurn 9 = qX7_bestTurn_9 ∧ cs_rows bX7_bestTurn 10 = qX7_bestTurn_10 := ⟨rfl, rfl, rfl, rfl, rfl, rfl, rfl, rfl, rfl, rfl, rfl⟩
set_option maxRecDepth 100000 in
theorem kX7_bestTurn : cs_chkB iX7_bestTurn bX7_bestTurn = true := by decide +kernel
def qX7_ifTicks_0 : List cs_W := [(.iload_n 1, 1, 0, []), (.iconst 1, 0, 0, []), (.sipush 500, 0, 0, []), (.invokestatic 118, 15, 0, [3]), (.ifCond .eq 12, 1, 0, []), (.iload_n 2, 2, 0, []), (.iconst 0, 0, 0, []), (.iconst 3, 0, 0, []), (.invokestatic 118, 15, 0, [3]), (.ifCond .ne 6, 2, 0, []), (.nop, 1, 0, [])]
def qX7_ifTicks_1 : List cs_W := [(.bipush (-2), 0, 0, []), (.ireturn, 0, 0, [])]
def qX7_ifTicks_2 : List cs_W := [(.aload_n 0, 0, 0, []), (.getfield 19, 7, 2, [1]), (.aload_n 0, 0, 0, []), (.getfield 12, 7, 0, [1]), (.invokevirtual 46, 12, 1, [1]), (.iconst 0, 0, 0, []), (.istore_n 3, 3, 0, []), (.nop, 3, 0, [])]
def qX7_ifTicks_3 : List cs_W := [(.nop, 0, 36, [])]
def qX7_ifTicks_4 : List cs_W := [(.iload_n 2, 2, 0, []), (.tableswitch 73 0 2 #[25, 41, 57], 8, 0, [5, 6, 7])]
def qX7_ifTicks_5 : List cs_W := [(.aload_n 0, 0, 0, []), (.getfield 19, 7, 2, [1]), (.getfield 169, 1, 5, []), (.aload_n 0, 0, 0, []), (.getfield 12, 7, 0, [1]), (.getfield 169, 1, 5, []), (.isub, 0, 0, []), (.ireturn, 0, 0, [])]
def qX7_ifTicks_6 : List cs_W := [(.aload_n 0, 0, 0, []), (.getfield 19, 7, 2, [1]), (.invokevirtual 172, 45, 1, [0]), (.aload_n 0, 0, 0, []), (.getfield 12, 7, 0, [1]), (.invokevirtual 172, 45, 1, [0]), (.isub, 0, 0, []), (.ireturn, 0, 0, [])]
def qX7_ifTicks_7 : List cs_W := [(.aload_n 0, 0, 0, []), (.getfield 19, 7, 2, [1]), (.getfield 175, 1, 7, []), (.aload_n 0, 0, 0, []), (.getfield 12, 7, 0, [1]), (.getfield 175, 1, 7, []), (.isub, 0, 0, []), (.ireturn, 0, 0, [])]
def qX7_ifTicks_8 : List cs_W := [(.aload_n 0, 0, 0, []), (.getfield 19, 7, 2, [1]), (.invokevirtual 178, 44, 1, [0]), (.ireturn, 0, 0, [])]
def qX7_ifTicks_9 : List cs_W := [(.iload_n 3, 3, 0, []), (.iload_n 1, 1, 0, []), (.if_icmp .ge 16, 4, 0, []), (.aload_n 0, 0, 0, []), (.getfield 19, 7, 2, [1]), (.invokevirtual 154, 32, 1, [0]), (.iinc 3 1, 0, 0, []), (.goto (-15), 3, 0, [])]
def bX7_ifTicks : cs_BL := [(0, qX7_ifTicks_0), (20, qX7_ifTicks_1), (23, qX7_ifTicks_2), (36, qX7_ifTicks_3), (54, qX7_ifTicks_4), (80, qX7_ifTicks_5), (96, qX7_ifTicks_6), (112, qX7_ifTicks_7), (128, qX7_ifTicks_8), (36, qX7_ifTicks_9)]
theorem rX7_ifTicks : cs_rows bX7_ifTicks 0 = qX7_ifTicks_0 ∧ cs_rows bX7_ifTicks 1 = qX7_ifTicks_1 ∧ cs_rows bX7_ifTicks 2 = qX7_ifTicks_2 ∧ cs_rows bX7_ifTicks 3 = qX7_ifTicks_3 ∧ cs_rows bX7_ifTicks 4 = qX7_ifTicks_4 ∧ cs_rows bX7_ifTicks 5 = qX7_ifTicks_5 ∧ cs_rows bX7_ifTicks 6 = qX7_ifTicks_6 ∧ cs_rows bX7_ifTicks 7 = qX7_ifTicks_7 ∧ cs_rows bX7_ifTicks 8 = qX7_ifTicks_8 ∧ cs_rows bX7_ifTicks 9 = qX7_ifTicks_9 := ⟨rfl, rfl, rfl, rfl, rfl, rfl, rfl, rfl, rfl, rfl⟩
set_option maxRecDepth 100000 in
theorem kX7_ifTicks : cs_chkB iX7_ifTicks bX7_ifTicks = true := by decide +kernel
def qX7_count_0 : List cs_W := [(.iload_n 1, 1, 0, []), (.lookupswitch 43 #[(12, 27), (13, 35)], 3, 0, [1, 2])]
def qX7_count_1 : List cs_W := [(.aload_n 0, 0, 0, []), (.getfield 28, 7, 4, [1]), (.getfield 103, 2, 1, []), (.ireturn, 0, 0, [])]
def qX7_count_2 : List cs_W := [(.aload_n 0, 0, 0, []), (.getfield 35, 7, 5, [1]), (.getfield 78, 6, 1, []), (.ireturn, 0, 0, [])]
def qX7_count_3 : List cs_W := [(.aload_n 0, 0, 0, []), (.getfield 12, 7, 0, [1]), (.iload_n 1, 1, 0, []), (.invokevirtual 181, 48, 1, [1]), (.ireturn, 0, 0, [])]
def bX7_count : cs_BL := [(0, qX7_count_0), (28, qX7_count_1), (36, qX7_count_2), (44, qX7_count_3)]
theorem rX7_count : cs_rows bX7_count 0 = qX7_count_0 ∧ cs_rows bX7_count 1 = qX7_count_1 ∧ cs_rows bX7_count 2 = qX7_count_2 ∧ cs_rows bX7_count 3 = qX7_count_3 := ⟨rfl, rfl, rfl, rfl⟩
set_option maxRecDepth 100000 in
theorem kX7_count : cs_chkB iX7_count bX7_count = true := by decide +kernel
