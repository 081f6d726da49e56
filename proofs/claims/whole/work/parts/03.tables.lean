/-! THE TABLES: methods, fields, links. Printed by wip/whole/gen2.py. -/
def cs_cn : Nat → String := fun k => match k with
  | 0 => RX0
  | 1 => RX1
  | 2 => RX2
  | 3 => RX3
  | 4 => RX4
  | 5 => RX5
  | 6 => RX6
  | 7 => RX7
  | 8 => RX8
  | _ => RL
abbrev cs_MI : Type := MethodName × ByteArray × Nat × Option FieldType × Nat × Nat × Nat × Nat × Nat × Nat
/-- name, code, locals, answer, own class, arguments, frames, words of locals, cells, slots -/
def cs_ms : List cs_MI := [
  (yX0_init, cX0_init, 1, none, 0, 0, 1, 60, 0, 0),
  (yX0_copyFrom, cX0_copyFrom, 2, none, 0, 1, 1, 60, 0, 0),
  (yX0_comeTo, cX0_comeTo, 2, none, 0, 1, 1, 60, 0, 0),
  (yX0_hasArrived, cX0_hasArrived, 1, (some (.boolean)), 0, 0, 1, 60, 0, 0),
  (yX0_nextPound, cX0_nextPound, 1, (some (.int)), 0, 0, 1, 60, 0, 0),
  (yX0_lockNumber, cX0_lockNumber, 1, (some (.int)), 0, 0, 1, 60, 0, 0),
  (yX0_isUnderWayIn, cX0_isUnderWayIn, 2, (some (.boolean)), 0, 1, 2, 80, 0, 0),
  (yX4_init, cX4_init, 1, none, 4, 0, 1, 60, 1, 16),
  (yX3_init, cX3_init, 1, none, 3, 0, 2, 80, 4, 36),
  (yX1_init, cX1_init, 2, none, 1, 0, 3, 100, 45, 347),
  (yX4_copyFrom, cX4_copyFrom, 2, none, 4, 1, 1, 60, 0, 0),
  (yX3_copyFrom, cX3_copyFrom, 2, none, 3, 1, 2, 81, 0, 0),
  (yX1_copyFrom, cX1_copyFrom, 3, none, 1, 1, 3, 102, 0, 0),
  (yX1_queueOf, cX1_queueOf, 2, (some (.object "CanalSteps$Queue")), 1, 1, 1, 60, 0, 0),
  (yX4_join, cX4_join, 2, none, 4, 1, 1, 60, 0, 0),
  (yX7_isWithin, cX7_isWithin, 3, (some (.boolean)), 7, 3, 1, 60, 0, 0),
  (yX1_comeBoat, cX1_comeBoat, 8, (some (.int)), 1, 4, 2, 82, 0, 0),
  (yX1_knowsBoat, cX1_knowsBoat, 2, (some (.boolean)), 1, 1, 2, 82, 0, 0),
  (yX1_loadBoat, cX1_loadBoat, 5, (some (.int)), 1, 2, 3, 103, 0, 0),
  (yX3_isHigh, cX3_isHigh, 1, (some (.boolean)), 3, 0, 1, 60, 0, 0),
  (yX1_canTurn, cX1_canTurn, 2, (some (.boolean)), 1, 1, 2, 80, 0, 0),
  (yX1_pourInto, cX1_pourInto, 4, (some (.int)), 1, 2, 1, 60, 0, 0),
  (yX1_turnChamber, cX1_turnChamber, 3, none, 1, 1, 2, 83, 0, 0),
  (yX1_turnByHand, cX1_turnByHand, 2, (some (.int)), 1, 1, 3, 105, 0, 0),
  (yX1_changeDepth, cX1_changeDepth, 4, (some (.int)), 1, 2, 2, 82, 0, 0),
  (yX1_changeSetting, cX1_changeSetting, 4, (some (.int)), 1, 2, 2, 82, 0, 0),
  (yX4_dropFirst, cX4_dropFirst, 2, none, 4, 0, 1, 60, 0, 0),
  (yX1_goThrough, cX1_goThrough, 6, none, 1, 3, 2, 81, 0, 0),
  (yX1_isAground, cX1_isAground, 2, (some (.boolean)), 1, 1, 2, 80, 0, 0),
  (yX4_first, cX4_first, 1, (some (.int)), 4, 0, 1, 60, 0, 0),
  (yX1_workLock, cX1_workLock, 5, none, 1, 1, 3, 106, 0, 0),
  (yX1_flowFromSpring, cX1_flowFromSpring, 3, none, 1, 0, 2, 83, 0, 0),
  (yX1_stepTick, cX1_stepTick, 2, none, 1, 0, 4, 130, 0, 0),
  (yX1_letPass, cX1_letPass, 4, (some (.int)), 1, 1, 5, 151, 0, 0),
  (yX4_placeOf, cX4_placeOf, 3, (some (.int)), 4, 1, 1, 60, 0, 0),
  (yX1_placeInQueue, cX1_placeInQueue, 3, (some (.int)), 1, 1, 2, 82, 0, 0),
  (yX1_reasonNow, cX1_reasonNow, 5, (some (.int)), 1, 1, 3, 104, 0, 0),
  (yX1_tellBoat, cX1_tellBoat, 4, (some (.int)), 1, 2, 3, 104, 0, 0),
  (yX1_boatsUnderWayIn, cX1_boatsUnderWayIn, 4, (some (.int)), 1, 1, 3, 101, 0, 0),
  (yX1_boatsArrivedIn, cX1_boatsArrivedIn, 4, (some (.int)), 1, 1, 2, 80, 0, 0),
  (yX1_greatestDraughtIn, cX1_greatestDraughtIn, 4, (some (.int)), 1, 1, 3, 101, 0, 0),
  (yX1_tellPound, cX1_tellPound, 3, (some (.int)), 1, 2, 4, 124, 0, 0),
  (yX1_waterThere, cX1_waterThere, 3, (some (.int)), 1, 0, 1, 60, 0, 0),
  (yX1_waterByAccount, cX1_waterByAccount, 1, (some (.int)), 1, 0, 1, 60, 0, 0),
  (yX1_countAground, cX1_countAground, 3, (some (.int)), 1, 0, 3, 101, 0, 0),
  (yX1_passagesOfAll, cX1_passagesOfAll, 3, (some (.int)), 1, 0, 1, 60, 0, 0),
  (yX1_fillingsOfAll, cX1_fillingsOfAll, 3, (some (.int)), 1, 0, 1, 60, 0, 0),
  (yX1_countHigh, cX1_countHigh, 3, (some (.int)), 1, 0, 2, 80, 0, 0),
  (yX1_tellCount, cX1_tellCount, 2, (some (.int)), 1, 1, 4, 123, 0, 0),
  (yX2_init, cX2_init, 2, none, 2, 0, 4, 121, 185, 1436),
  (yX2_dropOldest, cX2_dropOldest, 3, none, 2, 0, 1, 60, 0, 0),
  (yX2_push, cX2_push, 2, none, 2, 1, 4, 124, 0, 0),
  (yX2_takeLatest, cX2_takeLatest, 1, (some (.object "CanalSteps$Canal")), 2, 0, 1, 60, 0, 0),
  (yX3_tellLock, cX3_tellLock, 2, (some (.int)), 3, 1, 2, 80, 0, 0),
  (yX5_init, cX5_init, 1, none, 5, 0, 1, 60, 0, 0),
  (yX6_init, cX6_init, 2, none, 6, 0, 2, 80, 22, 220),
  (yX6_addSign, cX6_addSign, 2, (some (.int)), 6, 1, 1, 60, 0, 0),
  (yX6_skip, cX6_skip, 2, (some (.boolean)), 6, 1, 1, 60, 0, 0),
  (yX6_digitHere, cX6_digitHere, 1, (some (.int)), 6, 0, 2, 82, 0, 0),
  (yX6_readNumber, cX6_readNumber, 5, (some (.int)), 6, 2, 3, 102, 0, 0),
  (yX6_readWay, cX6_readWay, 2, (some (.boolean)), 6, 1, 4, 126, 0, 0),
  (yX6_readThing, cX6_readThing, 2, (some (.boolean)), 6, 1, 5, 147, 0, 0),
  (yX6_readAll, cX6_readAll, 1, (some (.boolean)), 6, 0, 6, 168, 0, 0),
  (yX7_init, cX7_init, 1, none, 7, 0, 5, 142, 393, 3095),
  (yX7_recorded, cX7_recorded, 2, (some (.int)), 7, 1, 5, 145, 0, 0),
  (yX7_boat, cX7_boat, 5, (some (.int)), 7, 4, 6, 166, 0, 0),
  (yX7_load, cX7_load, 3, (some (.int)), 7, 2, 6, 166, 0, 0),
  (yX7_turnLock, cX7_turnLock, 2, (some (.int)), 7, 1, 6, 166, 0, 0),
  (yX7_setDepth, cX7_setDepth, 3, (some (.int)), 7, 2, 6, 166, 0, 0),
  (yX7_set, cX7_set, 3, (some (.int)), 7, 2, 6, 166, 0, 0),
  (yX7_pass, cX7_pass, 2, (some (.int)), 7, 1, 6, 174, 0, 0),
  (yX7_type, cX7_type, 2, (some (.int)), 7, 1, 2, 81, 0, 0),
  (yX7_clearText, cX7_clearText, 2, (some (.int)), 7, 0, 1, 60, 0, 0),
  (yX7_doThing, cX7_doThing, 2, (some (.int)), 7, 1, 6, 174, 0, 0),
  (yX7_perform, cX7_perform, 3, (some (.int)), 7, 0, 7, 195, 0, 0),
  (yX7_stopped, cX7_stopped, 2, (some (.int)), 7, 1, 1, 60, 0, 0),
  (yX7_undo, cX7_undo, 2, (some (.int)), 7, 0, 4, 124, 0, 0),
  (yX7_keep, cX7_keep, 1, (some (.int)), 7, 0, 4, 124, 0, 0),
  (yX7_restore, cX7_restore, 1, (some (.int)), 7, 0, 6, 166, 0, 0),
  (yX7_boatOf, cX7_boatOf, 3, (some (.int)), 7, 2, 4, 127, 0, 0),
  (yX7_lock, cX7_lock, 3, (some (.int)), 7, 2, 3, 101, 0, 0),
  (yX7_pound, cX7_pound, 3, (some (.int)), 7, 2, 5, 146, 0, 0),
  (yX7_reason, cX7_reason, 4, (some (.int)), 7, 1, 4, 130, 0, 0),
  (yX7_arrivesIn, cX7_arrivesIn, 3, (some (.int)), 7, 1, 5, 151, 0, 0),
  (yX7_water, cX7_water, 2, (some (.int)), 7, 1, 2, 82, 0, 0),
  (yX7_arrivalsAfterTurn, cX7_arrivalsAfterTurn, 3, (some (.int)), 7, 1, 5, 151, 0, 0),
  (yX7_bestTurn, cX7_bestTurn, 6, (some (.int)), 7, 1, 6, 173, 0, 0),
  (yX7_ifTicks, cX7_ifTicks, 4, (some (.int)), 7, 2, 5, 151, 0, 0),
  (yX7_count, cX7_count, 2, (some (.int)), 7, 1, 5, 144, 0, 0),
  (yX8_init, cX8_init, 2, none, 8, 0, 1, 60, 5, 1159),
  (yX8_in, cX8_in, 3, (some (.boolean)), 8, 3, 1, 60, 0, 0),
  (yX8_isPound, cX8_isPound, 1, (some (.boolean)), 8, 1, 2, 82, 0, 0),
  (yX8_isLock, cX8_isLock, 1, (some (.boolean)), 8, 1, 2, 82, 0, 0),
  (yX8_isBoat, cX8_isBoat, 2, (some (.boolean)), 8, 1, 2, 82, 0, 0),
  (yX8_of, cX8_of, 2, (some (.int)), 8, 2, 1, 60, 0, 0),
  (yX8_get, cX8_get, 3, (some (.int)), 8, 2, 2, 81, 0, 0),
  (yX8_record, cX8_record, 2, none, 8, 0, 1, 60, 0, 0),
  (yX8_putAside, cX8_putAside, 2, none, 8, 0, 1, 60, 0, 0),
  (yX8_exchanges, cX8_exchanges, 3, none, 8, 0, 1, 60, 0, 0),
  (yX8_hasArrived, cX8_hasArrived, 2, (some (.boolean)), 8, 1, 3, 103, 0, 0),
  (yX8_goesUp, cX8_goesUp, 2, (some (.boolean)), 8, 1, 3, 103, 0, 0),
  (yX8_nextOf, cX8_nextOf, 2, (some (.int)), 8, 1, 4, 124, 0, 0),
  (yX8_lockOf, cX8_lockOf, 2, (some (.int)), 8, 1, 4, 124, 0, 0),
  (yX8_isAground, cX8_isAground, 3, (some (.boolean)), 8, 1, 5, 145, 0, 0),
  (yX8_waitsAt, cX8_waitsAt, 4, (some (.boolean)), 8, 3, 5, 145, 0, 0),
  (yX8_queue, cX8_queue, 5, (some (.int)), 8, 2, 6, 168, 0, 0),
  (yX8_firstOf, cX8_firstOf, 6, (some (.int)), 8, 2, 6, 168, 0, 0),
  (yX8_placeOf, cX8_placeOf, 4, (some (.int)), 8, 1, 6, 168, 0, 0),
  (yX8_joins, cX8_joins, 2, none, 8, 1, 2, 81, 0, 0),
  (yX8_isHigh, cX8_isHigh, 2, (some (.boolean)), 8, 1, 1, 60, 0, 0),
  (yX8_canTurn, cX8_canTurn, 2, (some (.boolean)), 8, 1, 2, 81, 0, 0),
  (yX8_turns, cX8_turns, 3, none, 8, 1, 2, 81, 0, 0),
  (yX8_goes, cX8_goes, 4, none, 8, 1, 5, 145, 0, 0),
  (yX8_hindrance, cX8_hindrance, 3, (some (.int)), 8, 1, 7, 191, 0, 0),
  (yX8_acts, cX8_acts, 4, none, 8, 1, 8, 213, 0, 0),
  (yX8_flows, cX8_flows, 4, none, 8, 0, 1, 60, 0, 0),
  (yX8_ticks, cX8_ticks, 2, none, 8, 0, 9, 236, 0, 0),
  (yX8_arrived, cX8_arrived, 3, (some (.int)), 8, 0, 4, 124, 0, 0),
  (yX8_passes, cX8_passes, 4, (some (.int)), 8, 1, 10, 257, 0, 0),
  (yX8_errorOfBoat, cX8_errorOfBoat, 5, (some (.int)), 8, 4, 3, 102, 0, 0),
  (yX8_comes, cX8_comes, 6, (some (.int)), 8, 4, 3, 102, 0, 0),
  (yX8_boat, cX8_boat, 6, (some (.int)), 8, 4, 4, 127, 0, 0),
  (yX8_load, cX8_load, 4, (some (.int)), 8, 2, 4, 124, 0, 0),
  (yX8_errorOfTurn, cX8_errorOfTurn, 2, (some (.int)), 8, 1, 3, 102, 0, 0),
  (yX8_turnsByHand, cX8_turnsByHand, 2, (some (.int)), 8, 1, 3, 103, 0, 0),
  (yX8_turnLock, cX8_turnLock, 3, (some (.int)), 8, 1, 4, 124, 0, 0),
  (yX8_becomes, cX8_becomes, 4, (some (.int)), 8, 2, 2, 81, 0, 0),
  (yX8_setDepth, cX8_setDepth, 3, (some (.int)), 8, 2, 3, 104, 0, 0),
  (yX8_set, cX8_set, 4, (some (.int)), 8, 2, 3, 104, 0, 0),
  (yX8_errorOfPass, cX8_errorOfPass, 2, (some (.int)), 8, 1, 2, 82, 0, 0),
  (yX8_pass, cX8_pass, 3, (some (.int)), 8, 1, 11, 280, 0, 0),
  (yX8_type, cX8_type, 2, (some (.int)), 8, 1, 1, 60, 0, 0),
  (yX8_clearText, cX8_clearText, 2, (some (.int)), 8, 0, 1, 60, 0, 0),
  (yX8_isNext, cX8_isNext, 3, (some (.boolean)), 8, 2, 2, 82, 0, 0),
  (yX8_takes, cX8_takes, 5, (some (.int)), 8, 2, 3, 104, 0, 0),
  (yX8_number, cX8_number, 3, (some (.int)), 8, 1, 4, 128, 0, 0),
  (yX8_readWay, cX8_readWay, 2, none, 8, 0, 5, 150, 0, 0),
  (yX8_readOne, cX8_readOne, 2, none, 8, 0, 6, 171, 0, 0),
  (yX8_errorOfOne, cX8_errorOfOne, 1, (some (.int)), 8, 0, 4, 126, 0, 0),
  (yX8_doesOne, cX8_doesOne, 1, (some (.int)), 8, 0, 11, 280, 0, 0),
  (yX8_reads, cX8_reads, 6, (some (.int)), 8, 1, 12, 300, 0, 0),
  (yX8_perform, cX8_perform, 2, (some (.int)), 8, 0, 13, 325, 0, 0),
  (yX8_stopped, cX8_stopped, 2, (some (.int)), 8, 1, 1, 60, 0, 0),
  (yX8_undo, cX8_undo, 2, (some (.int)), 8, 0, 1, 60, 0, 0),
  (yX8_keep, cX8_keep, 2, (some (.int)), 8, 0, 1, 60, 0, 0),
  (yX8_restore, cX8_restore, 2, (some (.int)), 8, 0, 2, 81, 0, 0),
  (yX8_boatOf, cX8_boatOf, 4, (some (.int)), 8, 2, 7, 191, 0, 0),
  (yX8_lock, cX8_lock, 3, (some (.int)), 8, 2, 7, 193, 0, 0),
  (yX8_hasPiecesIn, cX8_hasPiecesIn, 3, (some (.boolean)), 8, 2, 5, 145, 0, 0),
  (yX8_pound, cX8_pound, 8, (some (.int)), 8, 2, 6, 167, 0, 0),
  (yX8_reason, cX8_reason, 2, (some (.int)), 8, 1, 10, 257, 0, 0),
  (yX8_arrivesIn, cX8_arrivesIn, 3, (some (.int)), 8, 1, 10, 257, 0, 0),
  (yX8_water, cX8_water, 4, (some (.int)), 8, 1, 2, 82, 0, 0),
  (yX8_wouldArrive, cX8_wouldArrive, 3, (some (.int)), 8, 1, 11, 280, 0, 0),
  (yX8_bestTurn, cX8_bestTurn, 6, (some (.int)), 8, 1, 12, 302, 0, 0),
  (yX8_sumOf, cX8_sumOf, 4, (some (.int)), 8, 1, 2, 81, 0, 0),
  (yX8_aground, cX8_aground, 3, (some (.int)), 8, 0, 6, 167, 0, 0),
  (yX8_ifTicks, cX8_ifTicks, 7, (some (.int)), 8, 2, 11, 280, 0, 0),
  (yX8_count, cX8_count, 2, (some (.int)), 8, 1, 7, 189, 0, 0),
  (yL_law, cL_law, 4, (some .boolean), 9, 1, 14, 346, 400, 4283)]
abbrev iX0_init : Nat := 0
abbrev iX0_copyFrom : Nat := 1
abbrev iX0_comeTo : Nat := 2
abbrev iX0_hasArrived : Nat := 3
abbrev iX0_nextPound : Nat := 4
abbrev iX0_lockNumber : Nat := 5
abbrev iX0_isUnderWayIn : Nat := 6
abbrev iX4_init : Nat := 7
abbrev iX3_init : Nat := 8
abbrev iX1_init : Nat := 9
abbrev iX4_copyFrom : Nat := 10
abbrev iX3_copyFrom : Nat := 11
abbrev iX1_copyFrom : Nat := 12
abbrev iX1_queueOf : Nat := 13
abbrev iX4_join : Nat := 14
abbrev iX7_isWithin : Nat := 15
abbrev iX1_comeBoat : Nat := 16
abbrev iX1_knowsBoat : Nat := 17
abbrev iX1_loadBoat : Nat := 18
abbrev iX3_isHigh : Nat := 19
abbrev iX1_canTurn : Nat := 20
abbrev iX1_pourInto : Nat := 21
abbrev iX1_turnChamber : Nat := 22
abbrev iX1_turnByHand : Nat := 23
abbrev iX1_changeDepth : Nat := 24
abbrev iX1_changeSetting : Nat := 25
abbrev iX4_dropFirst : Nat := 26
abbrev iX1_goThrough : Nat := 27
abbrev iX1_isAground : Nat := 28
abbrev iX4_first : Nat := 29
abbrev iX1_workLock : Nat := 30
abbrev iX1_flowFromSpring : Nat := 31
abbrev iX1_stepTick : Nat := 32
abbrev iX1_letPass : Nat := 33
abbrev iX4_placeOf : Nat := 34
abbrev iX1_placeInQueue : Nat := 35
abbrev iX1_reasonNow : Nat := 36
abbrev iX1_tellBoat : Nat := 37
abbrev iX1_boatsUnderWayIn : Nat := 38
abbrev iX1_boatsArrivedIn : Nat := 39
abbrev iX1_greatestDraughtIn : Nat := 40
abbrev iX1_tellPound : Nat := 41
abbrev iX1_waterThere : Nat := 42
abbrev iX1_waterByAccount : Nat := 43
abbrev iX1_countAground : Nat := 44
abbrev iX1_passagesOfAll : Nat := 45
abbrev iX1_fillingsOfAll : Nat := 46
abbrev iX1_countHigh : Nat := 47
abbrev iX1_tellCount : Nat := 48
abbrev iX2_init : Nat := 49
abbrev iX2_dropOldest : Nat := 50
abbrev iX2_push : Nat := 51
abbrev iX2_takeLatest : Nat := 52
abbrev iX3_tellLock : Nat := 53
abbrev iX5_init : Nat := 54
abbrev iX6_init : Nat := 55
abbrev iX6_addSign : Nat := 56
abbrev iX6_skip : Nat := 57
abbrev iX6_digitHere : Nat := 58
abbrev iX6_readNumber : Nat := 59
abbrev iX6_readWay : Nat := 60
abbrev iX6_readThing : Nat := 61
abbrev iX6_readAll : Nat := 62
abbrev iX7_init : Nat := 63
abbrev iX7_recorded : Nat := 64
abbrev iX7_boat : Nat := 65
abbrev iX7_load : Nat := 66
abbrev iX7_turnLock : Nat := 67
abbrev iX7_setDepth : Nat := 68
abbrev iX7_set : Nat := 69
abbrev iX7_pass : Nat := 70
abbrev iX7_type : Nat := 71
abbrev iX7_clearText : Nat := 72
abbrev iX7_doThing : Nat := 73
abbrev iX7_perform : Nat := 74
abbrev iX7_stopped : Nat := 75
abbrev iX7_undo : Nat := 76
abbrev iX7_keep : Nat := 77
abbrev iX7_restore : Nat := 78
abbrev iX7_boatOf : Nat := 79
abbrev iX7_lock : Nat := 80
abbrev iX7_pound : Nat := 81
abbrev iX7_reason : Nat := 82
abbrev iX7_arrivesIn : Nat := 83
abbrev iX7_water : Nat := 84
abbrev iX7_arrivalsAfterTurn : Nat := 85
abbrev iX7_bestTurn : Nat := 86
abbrev iX7_ifTicks : Nat := 87
abbrev iX7_count : Nat := 88
abbrev iX8_init : Nat := 89
abbrev iX8_in : Nat := 90
abbrev iX8_isPound : Nat := 91
abbrev iX8_isLock : Nat := 92
abbrev iX8_isBoat : Nat := 93
abbrev iX8_of : Nat := 94
abbrev iX8_get : Nat := 95
abbrev iX8_record : Nat := 96
abbrev iX8_putAside : Nat := 97
abbrev iX8_exchanges : Nat := 98
abbrev iX8_hasArrived : Nat := 99
abbrev iX8_goesUp : Nat := 100
abbrev iX8_nextOf : Nat := 101
abbrev iX8_lockOf : Nat := 102
abbrev iX8_isAground : Nat := 103
abbrev iX8_waitsAt : Nat := 104
abbrev iX8_queue : Nat := 105
abbrev iX8_firstOf : Nat := 106
abbrev iX8_placeOf : Nat := 107
abbrev iX8_joins : Nat := 108
abbrev iX8_isHigh : Nat := 109
abbrev iX8_canTurn : Nat := 110
abbrev iX8_turns : Nat := 111
abbrev iX8_goes : Nat := 112
abbrev iX8_hindrance : Nat := 113
abbrev iX8_acts : Nat := 114
abbrev iX8_flows : Nat := 115
abbrev iX8_ticks : Nat := 116
abbrev iX8_arrived : Nat := 117
abbrev iX8_passes : Nat := 118
abbrev iX8_errorOfBoat : Nat := 119
abbrev iX8_comes : Nat := 120
abbrev iX8_boat : Nat := 121
abbrev iX8_load : Nat := 122
abbrev iX8_errorOfTurn : Nat := 123
abbrev iX8_turnsByHand : Nat := 124
abbrev iX8_turnLock : Nat := 125
abbrev iX8_becomes : Nat := 126
abbrev iX8_setDepth : Nat := 127
abbrev iX8_set : Nat := 128
abbrev iX8_errorOfPass : Nat := 129
abbrev iX8_pass : Nat := 130
abbrev iX8_type : Nat := 131
abbrev iX8_clearText : Nat := 132
abbrev iX8_isNext : Nat := 133
abbrev iX8_takes : Nat := 134
abbrev iX8_number : Nat := 135
abbrev iX8_readWay : Nat := 136
abbrev iX8_readOne : Nat := 137
abbrev iX8_errorOfOne : Nat := 138
abbrev iX8_doesOne : Nat := 139
abbrev iX8_reads : Nat := 140
abbrev iX8_perform : Nat := 141
abbrev iX8_stopped : Nat := 142
abbrev iX8_undo : Nat := 143
abbrev iX8_keep : Nat := 144
abbrev iX8_restore : Nat := 145
abbrev iX8_boatOf : Nat := 146
abbrev iX8_lock : Nat := 147
abbrev iX8_hasPiecesIn : Nat := 148
abbrev iX8_pound : Nat := 149
abbrev iX8_reason : Nat := 150
abbrev iX8_arrivesIn : Nat := 151
abbrev iX8_water : Nat := 152
abbrev iX8_wouldArrive : Nat := 153
abbrev iX8_bestTurn : Nat := 154
abbrev iX8_sumOf : Nat := 155
abbrev iX8_aground : Nat := 156
abbrev iX8_ifTicks : Nat := 157
abbrev iX8_count : Nat := 158
abbrev iL_law : Nat := 159
/-- where a method's code stands among the words -/
def cs_cw : List Nat := [123, 324, 335, 372, 448, 541, 576, 87, 81, 70, 319, 315, 308, 339, 343, 331, 328, 368, 364, 388, 384, 396, 392, 380, 407, 415, 459, 455, 444, 440, 436, 463, 432, 427, 549, 545, 596, 537, 572, 582, 586, 568, 610, 614, 636, 632, 650, 654, 644, 197, 355, 351, 520, 558, 221, 214, 471, 491, 503, 499, 495, 487, 483, 62, 347, 304, 360, 376, 403, 411, 423, 467, 475, 508, 479, 512, 516, 524, 528, 532, 553, 564, 590, 600, 606, 622, 618, 628, 640, 659, 735, 732, 777, 758, 746, 766, 739, 922, 926, 762, 838, 850, 834, 846, 858, 870, 862, 854, 750, 785, 781, 793, 866, 842, 830, 874, 826, 822, 818, 729, 743, 725, 754, 774, 789, 770, 801, 797, 805, 813, 809, 878, 882, 906, 902, 910, 898, 894, 914, 918, 890, 886, 930, 934, 938, 942, 946, 950, 958, 954, 962, 966, 970, 978, 974, 986, 990, 982, 994, 0]
/-- fields: own class, pool number, class, field, the word's place -/
def cs_Rf : List (Nat × Nat × Nat × Nat × Nat) := [(7, 12, 7, 0, 273), (7, 16, 7, 1, 274), (7, 19, 7, 2, 275), (7, 22, 7, 3, 276), (7, 28, 7, 4, 277), (7, 35, 7, 5, 278), (7, 39, 7, 7, 280), (7, 43, 7, 8, 281), (7, 78, 6, 1, 255), (7, 85, 6, 4, 261), (7, 88, 6, 3, 259), (7, 91, 6, 2, 257), (7, 103, 2, 1, 204), (7, 104, 7, 6, 279), (7, 108, 1, 6, 164), (7, 122, 1, 2, 157), (7, 134, 1, 3, 159), (7, 169, 1, 5, 162), (7, 175, 1, 7, 166), (7, 187, 5, 0, 224), (7, 192, 5, 1, 226), (7, 195, 5, 2, 228), (7, 198, 5, 3, 230), (7, 201, 5, 4, 232), (7, 204, 5, 5, 234), (7, 207, 5, 6, 236), (0, 9, 0, 6, 137), (0, 15, 0, 0, 125), (0, 18, 0, 1, 127), (0, 21, 0, 2, 129), (0, 24, 0, 3, 131), (0, 27, 0, 4, 133), (0, 30, 0, 5, 135), (1, 9, 1, 0, 154), (1, 18, 1, 1, 155), (1, 23, 1, 2, 156), (1, 29, 1, 3, 158), (1, 45, 1, 4, 160), (1, 52, 1, 5, 161), (1, 55, 1, 6, 163), (1, 58, 1, 7, 165), (1, 61, 1, 8, 167), (1, 64, 1, 9, 168), (1, 67, 1, 10, 169), (1, 74, 0, 0, 126), (1, 77, 0, 1, 128), (1, 80, 0, 3, 132), (1, 135, 3, 0, 100), (1, 139, 4, 1, 92), (1, 142, 3, 1, 102), (1, 157, 3, 3, 106), (1, 160, 0, 5, 136), (1, 161, 0, 4, 134), (1, 173, 0, 2, 130), (1, 176, 0, 6, 138), (1, 179, 3, 2, 104), (1, 185, 3, 4, 108), (2, 11, 2, 0, 202), (2, 18, 2, 1, 203), (3, 12, 3, 0, 99), (3, 18, 3, 1, 101), (3, 25, 3, 2, 103), (3, 29, 3, 3, 105), (3, 32, 3, 4, 107), (3, 39, 4, 1, 91), (4, 9, 4, 0, 89), (4, 15, 4, 1, 90), (6, 9, 6, 0, 253), (6, 17, 6, 2, 256), (6, 22, 6, 1, 254), (6, 26, 6, 4, 260), (6, 29, 6, 3, 258), (6, 40, 5, 1, 225), (6, 50, 5, 0, 223), (6, 53, 5, 5, 233), (6, 56, 5, 6, 235), (6, 59, 5, 2, 227), (6, 62, 5, 3, 229), (6, 65, 5, 4, 231), (8, 7, 8, 0, 661), (8, 13, 8, 1, 662), (8, 16, 8, 2, 663), (8, 19, 8, 4, 665), (8, 22, 8, 6, 667), (8, 25, 8, 8, 669), (8, 29, 8, 9, 670), (8, 32, 8, 10, 671), (8, 43, 8, 3, 664), (8, 83, 8, 11, 672), (8, 150, 8, 7, 668), (8, 153, 8, 13, 674), (8, 157, 8, 12, 673), (8, 167, 8, 16, 677), (8, 170, 8, 17, 678), (8, 176, 8, 18, 679), (8, 179, 8, 14, 675), (8, 182, 8, 15, 676), (8, 188, 8, 19, 680), (8, 210, 8, 5, 666)]
def cs_d : cs_MI := (yL_law, cL_law, 0, none, 0, 0, 0, 0, 0, 0)
/-- virtual calls: own class, pool number, method, places of methodLink, instanceMethod, selects, initialized -/
def cs_Rv : List (Nat × Nat × Nat × Nat × Nat × Nat × Nat) := [(7, 46, 12, 305, 306, 307, 48), (7, 50, 16, 325, 326, 327, 48), (7, 54, 64, 344, 346, 0, 47), (7, 58, 18, 361, 362, 363, 48), (7, 62, 23, 377, 378, 379, 48), (7, 65, 24, 404, 405, 406, 48), (7, 68, 25, 412, 413, 414, 48), (7, 71, 33, 424, 425, 426, 48), (7, 74, 56, 468, 469, 470, 53), (7, 81, 62, 480, 481, 482, 53), (7, 95, 73, 505, 507, 1, 47), (7, 99, 52, 517, 518, 519, 52), (7, 111, 17, 533, 366, 367, 48), (7, 115, 37, 534, 535, 536, 48), (7, 126, 53, 555, 556, 557, 49), (7, 131, 41, 565, 566, 567, 48), (7, 138, 5, 591, 539, 540, 51), (7, 144, 30, 592, 434, 435, 48), (7, 148, 36, 593, 594, 595, 48), (7, 151, 3, 601, 370, 371, 51), (7, 154, 32, 602, 430, 431, 48), (7, 157, 42, 607, 608, 609, 48), (7, 160, 43, 611, 612, 613, 48), (7, 163, 85, 619, 621, 2, 47), (7, 166, 20, 624, 382, 383, 48), (7, 172, 45, 629, 630, 631, 48), (7, 178, 44, 633, 634, 635, 48), (7, 181, 48, 641, 642, 643, 48), (7, 184, 51, 348, 349, 350, 52), (7, 210, 22, 623, 390, 391, 48), (0, 33, 3, 577, 370, 371, 51), (0, 37, 4, 578, 446, 447, 51), (1, 41, 11, 312, 313, 314, 49), (1, 49, 1, 321, 322, 323, 51), (1, 83, 2, 332, 333, 334, 51), (1, 87, 13, 336, 337, 338, 48), (1, 91, 14, 340, 341, 342, 50), (1, 96, 17, 365, 366, 367, 48), (1, 100, 3, 369, 370, 371, 51), (1, 104, 20, 381, 382, 383, 48), (1, 107, 22, 389, 390, 391, 48), (1, 110, 19, 385, 386, 387, 49), (1, 126, 32, 429, 430, 431, 48), (1, 129, 30, 433, 434, 435, 48), (1, 132, 31, 460, 461, 462, 48), (1, 145, 29, 437, 438, 439, 50), (1, 149, 28, 441, 442, 443, 48), (1, 153, 27, 452, 453, 454, 48), (1, 167, 26, 456, 457, 458, 50), (1, 170, 4, 445, 446, 447, 51), (1, 182, 21, 393, 394, 395, 48), (1, 188, 34, 546, 547, 548, 50), (1, 192, 5, 538, 539, 540, 51), (1, 195, 35, 542, 543, 544, 48), (1, 198, 38, 569, 570, 571, 48), (1, 201, 39, 579, 580, 581, 48), (1, 204, 40, 583, 584, 585, 48), (1, 207, 6, 573, 574, 575, 51), (1, 210, 44, 645, 634, 635, 48), (1, 213, 45, 646, 630, 631, 48), (1, 216, 46, 647, 648, 649, 48), (1, 219, 47, 651, 652, 653, 48), (2, 22, 50, 352, 353, 354, 52), (2, 25, 12, 356, 306, 307, 48), (3, 21, 10, 316, 317, 318, 50), (3, 35, 19, 559, 386, 387, 49), (3, 42, 29, 560, 438, 439, 50), (6, 32, 61, 484, 485, 486, 53), (6, 36, 57, 488, 489, 490, 53), (6, 43, 60, 492, 493, 494, 53), (6, 46, 59, 496, 497, 498, 53), (6, 68, 58, 500, 501, 502, 53), (9, 13, 65, 301, 302, 303, 47), (9, 17, 121, 722, 723, 724, 55), (9, 18, 66, 357, 358, 359, 47), (9, 22, 122, 751, 752, 753, 55), (9, 23, 67, 373, 374, 375, 47), (9, 27, 125, 767, 768, 769, 55), (9, 28, 68, 400, 401, 402, 47), (9, 31, 127, 794, 795, 796, 55), (9, 32, 69, 408, 409, 410, 47), (9, 35, 128, 802, 803, 804, 55), (9, 36, 70, 420, 421, 422, 47), (9, 39, 130, 806, 807, 808, 55), (9, 40, 71, 464, 465, 466, 47), (9, 44, 131, 875, 876, 877, 55), (9, 45, 72, 472, 473, 474, 47), (9, 49, 132, 879, 880, 881, 55), (9, 50, 74, 476, 477, 478, 47), (9, 53, 141, 883, 884, 885, 55), (9, 54, 75, 509, 510, 511, 47), (9, 57, 142, 927, 928, 929, 55), (9, 58, 76, 513, 514, 515, 47), (9, 61, 143, 931, 932, 933, 55), (9, 62, 77, 521, 522, 523, 47), (9, 65, 144, 935, 936, 937, 55), (9, 66, 78, 525, 526, 527, 47), (9, 69, 145, 939, 940, 941, 55), (9, 70, 79, 529, 530, 531, 47), (9, 73, 146, 943, 944, 945, 55), (9, 74, 80, 550, 551, 552, 47), (9, 77, 147, 947, 948, 949, 55), (9, 78, 81, 561, 562, 563, 47), (9, 81, 149, 951, 952, 953, 55), (9, 82, 82, 587, 588, 589, 47), (9, 85, 150, 959, 960, 961, 55), (9, 86, 83, 597, 598, 599, 47), (9, 89, 151, 963, 964, 965, 55), (9, 90, 84, 603, 604, 605, 47), (9, 93, 152, 967, 968, 969, 55), (9, 94, 86, 615, 616, 617, 47), (9, 97, 154, 971, 972, 973, 55), (9, 98, 87, 625, 626, 627, 47), (9, 101, 157, 979, 980, 981, 55), (9, 102, 88, 637, 638, 639, 47), (9, 105, 158, 991, 992, 993, 55), (8, 46, 95, 763, 765, 9, 55), (8, 49, 100, 835, 837, 22, 55), (8, 53, 101, 847, 849, 25, 55), (8, 57, 99, 759, 761, 8, 55), (8, 60, 102, 831, 833, 21, 55), (8, 63, 104, 855, 857, 27, 55), (8, 67, 109, 782, 784, 12, 55), (8, 70, 108, 747, 749, 6, 55), (8, 74, 103, 843, 845, 24, 55), (8, 77, 107, 851, 853, 26, 55), (8, 80, 110, 778, 780, 11, 55), (8, 86, 113, 839, 841, 23, 55), (8, 89, 106, 859, 861, 28, 55), (8, 93, 111, 790, 792, 14, 55), (8, 96, 112, 863, 865, 29, 55), (8, 99, 105, 867, 869, 30, 55), (8, 102, 114, 827, 829, 20, 55), (8, 105, 115, 871, 873, 31, 55), (8, 108, 117, 819, 821, 18, 55), (8, 112, 116, 823, 825, 19, 55), (8, 118, 119, 726, 728, 3, 55), (8, 122, 96, 736, 738, 4, 55), (8, 125, 120, 740, 742, 5, 55), (8, 128, 93, 755, 757, 7, 55), (8, 134, 123, 771, 773, 10, 55), (8, 137, 124, 786, 788, 13, 55), (8, 140, 126, 798, 800, 15, 55), (8, 144, 129, 810, 812, 16, 55), (8, 147, 118, 815, 817, 17, 55), (8, 160, 133, 903, 905, 36, 55), (8, 164, 134, 899, 901, 35, 55), (8, 173, 135, 907, 909, 37, 55), (8, 185, 136, 895, 897, 34, 55), (8, 191, 137, 891, 893, 33, 55), (8, 194, 138, 911, 913, 38, 55), (8, 197, 139, 915, 917, 39, 55), (8, 200, 140, 887, 889, 32, 55), (8, 204, 97, 919, 921, 40, 55), (8, 207, 98, 923, 925, 41, 55), (8, 213, 148, 955, 957, 42, 55), (8, 216, 153, 975, 977, 43, 55), (8, 219, 155, 983, 985, 44, 55), (8, 222, 156, 987, 989, 45, 55)]
/-- constructors: own class, pool number, method, places of methodLink, instanceMethod, initialized -/
def cs_Ri : List (Nat × Nat × Nat × Nat × Nat × Nat) := [(7, 11, 9, 68, 69, 48), (7, 27, 49, 195, 196, 52), (7, 34, 55, 212, 213, 53), (2, 17, 9, 201, 69, 48), (9, 9, 63, 60, 61, 47), (9, 12, 89, 657, 658, 55)]
def cs_Rin : List (Nat × Nat × Nat × Nat × Nat × Nat) := [(1, 33, 8, 79, 80, 49), (1, 34, 0, 121, 122, 51), (3, 11, 7, 85, 86, 50), (6, 21, 54, 219, 220, 54)]
/-- static methods: places of methodLink, static, initialized -/
def cs_Rs : List (Nat × Nat × Nat × Nat × Nat × Nat) := [(7, 118, 15, 554, 330, 47), (8, 35, 90, 733, 734, 55), (8, 39, 94, 744, 745, 55), (8, 115, 91, 730, 731, 55), (8, 131, 92, 775, 776, 55)]
def cs_Rsn : List (Nat × Nat × Nat × Nat × Nat × Nat) := [(1, 70, 15, 329, 330, 47), (6, 72, 15, 504, 330, 47)]
def cs_Ro : List (Nat × Nat × Nat) := [(7, 3, 63), (0, 3, 124), (1, 3, 71), (2, 3, 198), (3, 3, 82), (4, 3, 88), (5, 1, 222), (6, 3, 215), (8, 1, 660)]
def cs_Rmax : List (Nat × Nat × Nat) := [(1, 113, 397)]
def cs_Rmin : List (Nat × Nat × Nat) := [(1, 164, 449)]
def cs_Rcpy : List (Nat × Nat × Nat) := [(1, 35, 309), (4, 19, 320)]
/-- new: own class, pool number, class, places of classLink, instantiable, initialized -/
def cs_Rc : List (Nat × Nat × Nat × Nat × Nat × Nat) := [(7, 9, 1, 66, 67, 48), (7, 25, 2, 193, 194, 52), (7, 32, 6, 210, 211, 53), (1, 21, 3, 74, 78, 49), (1, 27, 0, 76, 120, 51), (2, 9, 1, 199, 67, 48), (3, 9, 4, 83, 84, 50), (6, 15, 5, 216, 218, 54), (9, 7, 7, 58, 59, 47), (9, 10, 8, 655, 656, 55)]
/-- the element class of an array type from 2 on -/
def cs_ac : Nat → Nat := fun k => match k with
  | 2 => 0
  | 3 => 1
  | 4 => 3
  | 5 => 5
  | _ => 0
def cs_an : Nat := 6
/-- anewarray: own class, pool number, array type, place of classLink -/
def cs_Ra : List (Nat × Nat × Nat × Nat) := [(1, 21, 4, 74), (1, 27, 2, 76), (2, 9, 3, 199), (6, 15, 5, 216)]
/-- static arrays: name -/
def cs_sn : Nat → String := fun k => match k with
  | 0 => "SETTING_FIRST"
  | 1 => "SETTING_LEAST"
  | 2 => "SETTING_MOST"
  | _ => ""
/-- getstatic: own class, pool number, static array -/
def cs_Rg : List (Nat × Nat × Nat) := [(1, 15, 0), (1, 119, 1), (1, 122, 2)]
/-- ldc: own class, pool number, value, place -/
def cs_Rk : List (Nat × Nat × Nat × Nat) := [(1, 125, 99999, 428), (8, 143, 99999, 814)]
/-- links to a nest mate's private members -/
def cs_NW : List Cond := [.methodLinkNest (cs_cn 1) 33 (cs_ms.getD 8 cs_d).1 "CanalSteps",
  .methodLinkNest (cs_cn 1) 34 (cs_ms.getD 0 cs_d).1 "CanalSteps",
  .methodLinkNest (cs_cn 1) 70 (cs_ms.getD 15 cs_d).1 "CanalSteps",
  .methodLinkNest (cs_cn 3) 11 (cs_ms.getD 7 cs_d).1 "CanalSteps",
  .methodLinkNest (cs_cn 6) 21 (cs_ms.getD 54 cs_d).1 "CanalSteps",
  .methodLinkNest (cs_cn 6) 72 (cs_ms.getD 15 cs_d).1 "CanalSteps",
  .fieldLinkNest (cs_cn 1) 15 RX7 (cs_sn 0) "[I" "CanalSteps",
  .fieldLinkNest (cs_cn 1) 119 RX7 (cs_sn 1) "[I" "CanalSteps",
  .fieldLinkNest (cs_cn 1) 122 RX7 (cs_sn 2) "[I" "CanalSteps"]
def cs_sC : String := RX7
