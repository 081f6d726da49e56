/-! THE TABLES: methods, fields, links. Printed by wip/p25/gen2.py. -/
def cs_cn : Nat → String := fun k => match k with
  | 0 => RX0
  | 1 => RX1
  | 2 => RX2
  | 3 => RX3
  | 4 => RX4
  | 5 => RX5
  | 6 => RX6
  | 7 => RX7
  | _ => RL
abbrev cs_MI : Type := MethodName × ByteArray × Nat × Option FieldType × Nat × Nat × Nat × Nat × Nat × Nat
/-- name, code, locals, answer, own class, arguments, frames, words of locals, cells, slots -/
def cs_ms : List cs_MI := [
  (yX0_init, cX0_init, 1, none, 0, 0, 1, 60, 0, 0),
  (yX0_copyFrom, cX0_copyFrom, 2, none, 0, 1, 1, 60, 0, 0),
  (yX0_comeTo, cX0_comeTo, 2, none, 0, 1, 1, 60, 0, 0),
  (yX0_hasArrived, cX0_hasArrived, 1, (some (.boolean)), 0, 0, 1, 60, 0, 0),
  (yX0_nextPound, cX0_nextPound, 1, (some (.int)), 0, 0, 1, 60, 0, 0),
  (yX0_lockNumber, cX0_lockNumber, 1, (some (.int)), 0, 0, 1, 60, 0, 0),
  (yX0_isUnderWayIn, cX0_isUnderWayIn, 2, (some (.boolean)), 0, 1, 2, 80, 0, 0),
  (yX4_init, cX4_init, 1, none, 4, 0, 1, 60, 1, 16),
  (yX3_init, cX3_init, 1, none, 3, 0, 2, 80, 4, 36),
  (yX1_init, cX1_init, 2, none, 1, 0, 3, 100, 45, 347),
  (yX4_copyFrom, cX4_copyFrom, 2, none, 4, 1, 1, 60, 0, 0),
  (yX3_copyFrom, cX3_copyFrom, 2, none, 3, 1, 2, 81, 0, 0),
  (yX1_copyFrom, cX1_copyFrom, 3, none, 1, 1, 3, 102, 0, 0),
  (yX1_queueOf, cX1_queueOf, 2, (some (.object "CanalSteps$Queue")), 1, 1, 1, 60, 0, 0),
  (yX4_join, cX4_join, 2, none, 4, 1, 1, 60, 0, 0),
  (yX7_isWithin, cX7_isWithin, 3, (some (.boolean)), 7, 3, 1, 60, 0, 0),
  (yX1_comeBoat, cX1_comeBoat, 8, (some (.int)), 1, 4, 2, 82, 0, 0),
  (yX1_knowsBoat, cX1_knowsBoat, 2, (some (.boolean)), 1, 1, 2, 82, 0, 0),
  (yX1_loadBoat, cX1_loadBoat, 5, (some (.int)), 1, 2, 3, 103, 0, 0),
  (yX3_isHigh, cX3_isHigh, 1, (some (.boolean)), 3, 0, 1, 60, 0, 0),
  (yX1_canTurn, cX1_canTurn, 2, (some (.boolean)), 1, 1, 2, 80, 0, 0),
  (yX1_pourInto, cX1_pourInto, 4, (some (.int)), 1, 2, 1, 60, 0, 0),
  (yX1_turnChamber, cX1_turnChamber, 3, none, 1, 1, 2, 83, 0, 0),
  (yX1_turnByHand, cX1_turnByHand, 2, (some (.int)), 1, 1, 3, 105, 0, 0),
  (yX1_changeDepth, cX1_changeDepth, 4, (some (.int)), 1, 2, 2, 82, 0, 0),
  (yX1_changeSetting, cX1_changeSetting, 4, (some (.int)), 1, 2, 2, 82, 0, 0),
  (yX4_dropFirst, cX4_dropFirst, 2, none, 4, 0, 1, 60, 0, 0),
  (yX1_goThrough, cX1_goThrough, 6, none, 1, 3, 2, 81, 0, 0),
  (yX1_isAground, cX1_isAground, 2, (some (.boolean)), 1, 1, 2, 80, 0, 0),
  (yX4_first, cX4_first, 1, (some (.int)), 4, 0, 1, 60, 0, 0),
  (yX1_workLock, cX1_workLock, 5, none, 1, 1, 3, 106, 0, 0),
  (yX1_flowFromSpring, cX1_flowFromSpring, 3, none, 1, 0, 2, 83, 0, 0),
  (yX1_stepTick, cX1_stepTick, 2, none, 1, 0, 4, 130, 0, 0),
  (yX1_letPass, cX1_letPass, 4, (some (.int)), 1, 1, 5, 151, 0, 0),
  (yX4_placeOf, cX4_placeOf, 3, (some (.int)), 4, 1, 1, 60, 0, 0),
  (yX1_placeInQueue, cX1_placeInQueue, 3, (some (.int)), 1, 1, 2, 82, 0, 0),
  (yX1_reasonNow, cX1_reasonNow, 5, (some (.int)), 1, 1, 3, 104, 0, 0),
  (yX1_tellBoat, cX1_tellBoat, 4, (some (.int)), 1, 2, 3, 104, 0, 0),
  (yX1_boatsUnderWayIn, cX1_boatsUnderWayIn, 4, (some (.int)), 1, 1, 3, 101, 0, 0),
  (yX1_boatsArrivedIn, cX1_boatsArrivedIn, 4, (some (.int)), 1, 1, 2, 80, 0, 0),
  (yX1_greatestDraughtIn, cX1_greatestDraughtIn, 4, (some (.int)), 1, 1, 3, 101, 0, 0),
  (yX1_tellPound, cX1_tellPound, 3, (some (.int)), 1, 2, 4, 124, 0, 0),
  (yX1_waterThere, cX1_waterThere, 3, (some (.int)), 1, 0, 1, 60, 0, 0),
  (yX1_waterByAccount, cX1_waterByAccount, 1, (some (.int)), 1, 0, 1, 60, 0, 0),
  (yX1_countAground, cX1_countAground, 3, (some (.int)), 1, 0, 3, 101, 0, 0),
  (yX1_passagesOfAll, cX1_passagesOfAll, 3, (some (.int)), 1, 0, 1, 60, 0, 0),
  (yX1_fillingsOfAll, cX1_fillingsOfAll, 3, (some (.int)), 1, 0, 1, 60, 0, 0),
  (yX1_countHigh, cX1_countHigh, 3, (some (.int)), 1, 0, 2, 80, 0, 0),
  (yX1_tellCount, cX1_tellCount, 2, (some (.int)), 1, 1, 4, 123, 0, 0),
  (yX2_init, cX2_init, 2, none, 2, 0, 4, 121, 185, 1436),
  (yX2_dropOldest, cX2_dropOldest, 3, none, 2, 0, 1, 60, 0, 0),
  (yX2_push, cX2_push, 2, none, 2, 1, 4, 124, 0, 0),
  (yX2_takeLatest, cX2_takeLatest, 1, (some (.object "CanalSteps$Canal")), 2, 0, 1, 60, 0, 0),
  (yX3_tellLock, cX3_tellLock, 2, (some (.int)), 3, 1, 2, 80, 0, 0),
  (yX5_init, cX5_init, 1, none, 5, 0, 1, 60, 0, 0),
  (yX6_init, cX6_init, 2, none, 6, 0, 2, 80, 22, 220),
  (yX7_init, cX7_init, 1, none, 7, 0, 5, 142, 393, 3095),
  (yX7_recorded, cX7_recorded, 2, (some (.int)), 7, 1, 5, 145, 0, 0),
  (yX7_boat, cX7_boat, 5, (some (.int)), 7, 4, 6, 166, 0, 0),
  (yX7_load, cX7_load, 3, (some (.int)), 7, 2, 6, 166, 0, 0),
  (yX7_turnLock, cX7_turnLock, 2, (some (.int)), 7, 1, 6, 166, 0, 0),
  (yX7_setDepth, cX7_setDepth, 3, (some (.int)), 7, 2, 6, 166, 0, 0),
  (yX7_set, cX7_set, 3, (some (.int)), 7, 2, 6, 166, 0, 0),
  (yX7_pass, cX7_pass, 2, (some (.int)), 7, 1, 6, 174, 0, 0),
  (yX7_undo, cX7_undo, 2, (some (.int)), 7, 0, 4, 124, 0, 0),
  (yX7_boatOf, cX7_boatOf, 3, (some (.int)), 7, 2, 4, 127, 0, 0),
  (yX7_lock, cX7_lock, 3, (some (.int)), 7, 2, 3, 101, 0, 0),
  (yX7_pound, cX7_pound, 3, (some (.int)), 7, 2, 5, 146, 0, 0),
  (yX7_reason, cX7_reason, 4, (some (.int)), 7, 1, 4, 130, 0, 0),
  (yX7_arrivesIn, cX7_arrivesIn, 3, (some (.int)), 7, 1, 5, 151, 0, 0),
  (yX7_water, cX7_water, 2, (some (.int)), 7, 1, 2, 82, 0, 0),
  (yX7_arrivalsAfterTurn, cX7_arrivalsAfterTurn, 3, (some (.int)), 7, 1, 5, 151, 0, 0),
  (yX7_bestTurn, cX7_bestTurn, 6, (some (.int)), 7, 1, 6, 173, 0, 0),
  (yX7_ifTicks, cX7_ifTicks, 4, (some (.int)), 7, 2, 5, 151, 0, 0),
  (yX7_count, cX7_count, 2, (some (.int)), 7, 1, 5, 144, 0, 0),
  (yL_cell, cL_cell, 2, (some (.int)), 8, 2, 1, 60, 0, 0),
  (yL_low, cL_low, 2, (some (.int)), 8, 2, 1, 60, 0, 0),
  (yL_act, cL_act, 6, (some (.int)), 8, 2, 7, 195, 0, 0),
  (yL_areAlike, cL_areAlike, 4, (some (.boolean)), 8, 2, 6, 168, 0, 0),
  (yL_areBoatsSo, cL_areBoatsSo, 18, (some (.boolean)), 8, 1, 6, 168, 0, 0),
  (yL_isWaterSo, cL_isWaterSo, 7, (some (.boolean)), 8, 1, 6, 168, 0, 0),
  (yL_isTickSo, cL_isTickSo, 17, (some (.boolean)), 8, 3, 7, 195, 0, 0),
  (yL_isTurnSo, cL_isTurnSo, 10, (some (.boolean)), 8, 2, 7, 198, 0, 0),
  (yL_law, cL_law, 8, (some .boolean), 8, 1, 8, 231, 788, 6208)]
abbrev iX0_init : Nat := 0
abbrev iX0_copyFrom : Nat := 1
abbrev iX0_comeTo : Nat := 2
abbrev iX0_hasArrived : Nat := 3
abbrev iX0_nextPound : Nat := 4
abbrev iX0_lockNumber : Nat := 5
abbrev iX0_isUnderWayIn : Nat := 6
abbrev iX4_init : Nat := 7
abbrev iX3_init : Nat := 8
abbrev iX1_init : Nat := 9
abbrev iX4_copyFrom : Nat := 10
abbrev iX3_copyFrom : Nat := 11
abbrev iX1_copyFrom : Nat := 12
abbrev iX1_queueOf : Nat := 13
abbrev iX4_join : Nat := 14
abbrev iX7_isWithin : Nat := 15
abbrev iX1_comeBoat : Nat := 16
abbrev iX1_knowsBoat : Nat := 17
abbrev iX1_loadBoat : Nat := 18
abbrev iX3_isHigh : Nat := 19
abbrev iX1_canTurn : Nat := 20
abbrev iX1_pourInto : Nat := 21
abbrev iX1_turnChamber : Nat := 22
abbrev iX1_turnByHand : Nat := 23
abbrev iX1_changeDepth : Nat := 24
abbrev iX1_changeSetting : Nat := 25
abbrev iX4_dropFirst : Nat := 26
abbrev iX1_goThrough : Nat := 27
abbrev iX1_isAground : Nat := 28
abbrev iX4_first : Nat := 29
abbrev iX1_workLock : Nat := 30
abbrev iX1_flowFromSpring : Nat := 31
abbrev iX1_stepTick : Nat := 32
abbrev iX1_letPass : Nat := 33
abbrev iX4_placeOf : Nat := 34
abbrev iX1_placeInQueue : Nat := 35
abbrev iX1_reasonNow : Nat := 36
abbrev iX1_tellBoat : Nat := 37
abbrev iX1_boatsUnderWayIn : Nat := 38
abbrev iX1_boatsArrivedIn : Nat := 39
abbrev iX1_greatestDraughtIn : Nat := 40
abbrev iX1_tellPound : Nat := 41
abbrev iX1_waterThere : Nat := 42
abbrev iX1_waterByAccount : Nat := 43
abbrev iX1_countAground : Nat := 44
abbrev iX1_passagesOfAll : Nat := 45
abbrev iX1_fillingsOfAll : Nat := 46
abbrev iX1_countHigh : Nat := 47
abbrev iX1_tellCount : Nat := 48
abbrev iX2_init : Nat := 49
abbrev iX2_dropOldest : Nat := 50
abbrev iX2_push : Nat := 51
abbrev iX2_takeLatest : Nat := 52
abbrev iX3_tellLock : Nat := 53
abbrev iX5_init : Nat := 54
abbrev iX6_init : Nat := 55
abbrev iX7_init : Nat := 56
abbrev iX7_recorded : Nat := 57
abbrev iX7_boat : Nat := 58
abbrev iX7_load : Nat := 59
abbrev iX7_turnLock : Nat := 60
abbrev iX7_setDepth : Nat := 61
abbrev iX7_set : Nat := 62
abbrev iX7_pass : Nat := 63
abbrev iX7_undo : Nat := 64
abbrev iX7_boatOf : Nat := 65
abbrev iX7_lock : Nat := 66
abbrev iX7_pound : Nat := 67
abbrev iX7_reason : Nat := 68
abbrev iX7_arrivesIn : Nat := 69
abbrev iX7_water : Nat := 70
abbrev iX7_arrivalsAfterTurn : Nat := 71
abbrev iX7_bestTurn : Nat := 72
abbrev iX7_ifTicks : Nat := 73
abbrev iX7_count : Nat := 74
abbrev iL_cell : Nat := 75
abbrev iL_low : Nat := 76
abbrev iL_act : Nat := 77
abbrev iL_areAlike : Nat := 78
abbrev iL_areBoatsSo : Nat := 79
abbrev iL_isWaterSo : Nat := 80
abbrev iL_isTickSo : Nat := 81
abbrev iL_isTurnSo : Nat := 82
abbrev iL_law : Nat := 83
/-- where a method's code stands among the words -/
def cs_cw : List Nat := [78, 261, 329, 277, 285, 503, 480, 42, 36, 25, 256, 252, 245, 333, 337, 325, 322, 362, 358, 304, 374, 382, 378, 370, 405, 393, 434, 430, 281, 426, 422, 438, 418, 413, 511, 507, 530, 499, 476, 486, 490, 472, 449, 453, 273, 292, 296, 300, 269, 151, 349, 345, 241, 462, 175, 168, 17, 341, 318, 354, 366, 401, 389, 409, 237, 494, 457, 468, 524, 534, 445, 553, 549, 540, 265, 307, 310, 314, 441, 514, 517, 520, 545, 0]
/-- fields: own class, pool number, class, field, the word's place -/
def cs_Rf : List (Nat × Nat × Nat × Nat × Nat) := [(7, 12, 7, 0, 207), (7, 16, 7, 1, 208), (7, 19, 7, 2, 209), (7, 22, 7, 3, 210), (7, 28, 7, 4, 211), (7, 35, 7, 5, 212), (7, 39, 7, 7, 213), (7, 43, 7, 8, 214), (7, 78, 6, 1, 194), (7, 103, 2, 1, 158), (7, 122, 1, 2, 112), (7, 134, 1, 3, 114), (7, 169, 1, 5, 117), (7, 175, 1, 7, 120), (0, 9, 0, 6, 92), (0, 15, 0, 0, 80), (0, 18, 0, 1, 82), (0, 21, 0, 2, 84), (0, 24, 0, 3, 86), (0, 27, 0, 4, 88), (0, 30, 0, 5, 90), (1, 9, 1, 0, 109), (1, 18, 1, 1, 110), (1, 23, 1, 2, 111), (1, 29, 1, 3, 113), (1, 45, 1, 4, 115), (1, 52, 1, 5, 116), (1, 55, 1, 6, 118), (1, 58, 1, 7, 119), (1, 61, 1, 8, 121), (1, 64, 1, 9, 122), (1, 67, 1, 10, 123), (1, 74, 0, 0, 81), (1, 77, 0, 1, 83), (1, 80, 0, 3, 87), (1, 135, 3, 0, 55), (1, 139, 4, 1, 47), (1, 142, 3, 1, 57), (1, 157, 3, 3, 61), (1, 160, 0, 5, 91), (1, 161, 0, 4, 89), (1, 173, 0, 2, 85), (1, 176, 0, 6, 93), (1, 179, 3, 2, 59), (1, 185, 3, 4, 63), (2, 11, 2, 0, 156), (2, 18, 2, 1, 157), (3, 12, 3, 0, 54), (3, 18, 3, 1, 56), (3, 25, 3, 2, 58), (3, 29, 3, 3, 60), (3, 32, 3, 4, 62), (3, 39, 4, 1, 46), (4, 9, 4, 0, 44), (4, 15, 4, 1, 45), (6, 9, 6, 0, 193), (6, 17, 6, 2, 195)]
def cs_d : cs_MI := (yL_law, cL_law, 0, none, 0, 0, 0, 0, 0, 0)
/-- virtual calls: own class, pool number, method, places of methodLink, instanceMethod, selects, initialized -/
def cs_Rv : List (Nat × Nat × Nat × Nat × Nat × Nat × Nat) := [(7, 46, 12, 242, 243, 244, 4), (7, 50, 16, 319, 320, 321, 4), (7, 54, 57, 338, 340, 0, 3), (7, 58, 18, 355, 356, 357, 4), (7, 62, 23, 367, 368, 369, 4), (7, 65, 24, 402, 403, 404, 4), (7, 68, 25, 390, 391, 392, 4), (7, 71, 33, 410, 411, 412, 4), (7, 99, 52, 238, 239, 240, 8), (7, 111, 17, 495, 360, 361, 4), (7, 115, 37, 496, 497, 498, 4), (7, 126, 53, 459, 460, 461, 5), (7, 131, 41, 469, 470, 471, 4), (7, 138, 5, 525, 501, 502, 7), (7, 144, 30, 526, 420, 421, 4), (7, 148, 36, 527, 528, 529, 4), (7, 151, 3, 535, 275, 276, 7), (7, 154, 32, 536, 416, 417, 4), (7, 157, 42, 446, 447, 448, 4), (7, 160, 43, 450, 451, 452, 4), (7, 163, 71, 550, 552, 1, 3), (7, 166, 20, 555, 372, 373, 4), (7, 172, 45, 541, 290, 291, 4), (7, 178, 44, 542, 271, 272, 4), (7, 181, 48, 266, 267, 268, 4), (7, 184, 51, 342, 343, 344, 8), (7, 210, 22, 554, 376, 377, 4), (0, 33, 3, 481, 275, 276, 7), (0, 37, 4, 482, 283, 284, 7), (1, 41, 11, 249, 250, 251, 5), (1, 49, 1, 258, 259, 260, 7), (1, 83, 2, 326, 327, 328, 7), (1, 87, 13, 330, 331, 332, 4), (1, 91, 14, 334, 335, 336, 6), (1, 96, 17, 359, 360, 361, 4), (1, 100, 3, 274, 275, 276, 7), (1, 104, 20, 371, 372, 373, 4), (1, 107, 22, 375, 376, 377, 4), (1, 110, 19, 301, 302, 303, 5), (1, 126, 32, 415, 416, 417, 4), (1, 129, 30, 419, 420, 421, 4), (1, 132, 31, 435, 436, 437, 4), (1, 145, 29, 423, 424, 425, 6), (1, 149, 28, 278, 279, 280, 4), (1, 153, 27, 427, 428, 429, 4), (1, 167, 26, 431, 432, 433, 6), (1, 170, 4, 282, 283, 284, 7), (1, 182, 21, 379, 380, 381, 4), (1, 188, 34, 508, 509, 510, 6), (1, 192, 5, 500, 501, 502, 7), (1, 195, 35, 504, 505, 506, 4), (1, 198, 38, 473, 474, 475, 4), (1, 201, 39, 483, 484, 485, 4), (1, 204, 40, 487, 488, 489, 4), (1, 207, 6, 477, 478, 479, 7), (1, 210, 44, 270, 271, 272, 4), (1, 213, 45, 289, 290, 291, 4), (1, 216, 46, 293, 294, 295, 4), (1, 219, 47, 297, 298, 299, 4), (2, 22, 50, 346, 347, 348, 8), (2, 25, 12, 350, 243, 244, 4), (3, 21, 10, 253, 254, 255, 6), (3, 35, 19, 463, 302, 303, 5), (3, 42, 29, 464, 424, 425, 6), (8, 14, 58, 315, 316, 317, 3), (8, 20, 74, 262, 263, 264, 3), (8, 24, 59, 351, 352, 353, 3), (8, 27, 60, 363, 364, 365, 3), (8, 30, 62, 386, 387, 388, 3), (8, 33, 61, 398, 399, 400, 3), (8, 36, 63, 406, 407, 408, 3), (8, 39, 70, 442, 443, 444, 3), (8, 42, 66, 454, 455, 456, 3), (8, 45, 67, 465, 466, 467, 3), (8, 48, 65, 491, 492, 493, 3), (8, 51, 68, 521, 522, 523, 3), (8, 54, 69, 531, 532, 533, 3), (8, 57, 73, 537, 538, 539, 3), (8, 60, 64, 234, 235, 236, 3), (8, 64, 72, 546, 547, 548, 3)]
/-- constructors: own class, pool number, method, places of methodLink, instanceMethod, initialized -/
def cs_Ri : List (Nat × Nat × Nat × Nat × Nat × Nat) := [(7, 11, 9, 23, 24, 4), (7, 27, 49, 149, 150, 8), (7, 34, 55, 166, 167, 9), (2, 17, 9, 155, 24, 4), (8, 67, 56, 15, 16, 3)]
def cs_Rin : List (Nat × Nat × Nat × Nat × Nat × Nat) := [(1, 33, 8, 34, 35, 5), (1, 34, 0, 76, 77, 7), (3, 11, 7, 40, 41, 6), (6, 21, 54, 173, 174, 10)]
/-- static methods: places of methodLink, static, initialized -/
def cs_Rs : List (Nat × Nat × Nat × Nat × Nat × Nat) := [(7, 118, 15, 458, 324, 3), (8, 8, 76, 308, 309, 2), (8, 68, 75, 305, 306, 2), (8, 72, 77, 312, 313, 2), (8, 76, 78, 439, 440, 2), (8, 80, 79, 512, 513, 2), (8, 84, 80, 515, 516, 2), (8, 87, 81, 518, 519, 2), (8, 91, 82, 543, 544, 2)]
def cs_Rsn : List (Nat × Nat × Nat × Nat × Nat × Nat) := [(1, 70, 15, 323, 324, 3)]
def cs_Ro : List (Nat × Nat × Nat) := [(7, 3, 18), (0, 3, 79), (1, 3, 26), (2, 3, 152), (3, 3, 37), (4, 3, 43), (5, 1, 176), (6, 3, 169)]
def cs_Rmax : List (Nat × Nat × Nat) := [(1, 113, 383)]
def cs_Rmin : List (Nat × Nat × Nat) := [(1, 164, 286)]
def cs_Rcpy : List (Nat × Nat × Nat) := [(1, 35, 246), (4, 19, 257)]
/-- new: own class, pool number, class, places of classLink, instantiable, initialized -/
def cs_Rc : List (Nat × Nat × Nat × Nat × Nat × Nat) := [(7, 9, 1, 21, 22, 4), (7, 25, 2, 147, 148, 8), (7, 32, 6, 164, 165, 9), (1, 21, 3, 29, 33, 5), (1, 27, 0, 31, 75, 7), (2, 9, 1, 153, 22, 4), (3, 9, 4, 38, 39, 6), (6, 15, 5, 170, 172, 10), (8, 15, 7, 13, 14, 3)]
/-- the element class of an array type from 2 on -/
def cs_ac : Nat → Nat := fun k => match k with
  | 2 => 0
  | 3 => 1
  | 4 => 3
  | 5 => 5
  | _ => 0
def cs_an : Nat := 6
/-- anewarray: own class, pool number, array type, place of classLink -/
def cs_Ra : List (Nat × Nat × Nat × Nat) := [(1, 21, 4, 29), (1, 27, 2, 31), (2, 9, 3, 153), (6, 15, 5, 170)]
/-- static arrays: name -/
def cs_sn : Nat → String := fun k => match k with
  | 0 => "SETTING_FIRST"
  | 1 => "SETTING_LEAST"
  | 2 => "SETTING_MOST"
  | _ => ""
/-- getstatic: own class, pool number, static array -/
def cs_Rg : List (Nat × Nat × Nat) := [(1, 15, 0), (1, 119, 1), (1, 122, 2)]
/-- ldc: own class, pool number, value, place -/
def cs_Rk : List (Nat × Nat × Nat × Nat) := [(1, 125, 99999, 414), (8, 7, 2147483647, 311)]
/-- links to a nest mate's private members -/
def cs_NW : List Cond := [.methodLinkNest (cs_cn 1) 33 (cs_ms.getD 8 cs_d).1 "CanalSteps",
  .methodLinkNest (cs_cn 1) 34 (cs_ms.getD 0 cs_d).1 "CanalSteps",
  .methodLinkNest (cs_cn 1) 70 (cs_ms.getD 15 cs_d).1 "CanalSteps",
  .methodLinkNest (cs_cn 3) 11 (cs_ms.getD 7 cs_d).1 "CanalSteps",
  .methodLinkNest (cs_cn 6) 21 (cs_ms.getD 54 cs_d).1 "CanalSteps",
  .fieldLinkNest (cs_cn 1) 15 RX7 (cs_sn 0) "[I" "CanalSteps",
  .fieldLinkNest (cs_cn 1) 119 RX7 (cs_sn 1) "[I" "CanalSteps",
  .fieldLinkNest (cs_cn 1) 122 RX7 (cs_sn 2) "[I" "CanalSteps"]
def cs_sC : String := RX7
