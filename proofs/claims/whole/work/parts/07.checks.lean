/-! the code tables of all methods, by program out of the printed decode rows and words; each is checked against the bytes in the kernel -/
def mX0_init : pm_I := (yX0_init, cX0_init, 2, none)
def mX0_copyFrom : pm_I := (yX0_copyFrom, cX0_copyFrom, 3, none)
def mX0_hasNode : pm_I := (yX0_hasNode, cX0_hasNode, 2, (some .boolean))
def mX0_hasLine : pm_I := (yX0_hasLine, cX0_hasLine, 2, (some .boolean))
def mX0_addNode : pm_I := (yX0_addNode, cX0_addNode, 6, (some .int))
def mX0_addLine : pm_I := (yX0_addLine, cX0_addLine, 7, (some .int))
def mX0_setLineMask : pm_I := (yX0_setLineMask, cX0_setLineMask, 3, (some .int))
def mX0_setNodeMask : pm_I := (yX0_setNodeMask, cX0_setNodeMask, 3, (some .int))
def mX0_setThreshold : pm_I := (yX0_setThreshold, cX0_setThreshold, 3, (some .int))
def mX0_setLate : pm_I := (yX0_setLate, cX0_setLate, 3, (some .int))
def mX0_giveEdge : pm_I := (yX0_giveEdge, cX0_giveEdge, 3, (some .int))
def mX0_setLevel : pm_I := (yX0_setLevel, cX0_setLevel, 4, (some .int))
def mX0_takeNext : pm_I := (yX0_takeNext, cX0_takeNext, 3, (some .int))
def mX0_endService : pm_I := (yX0_endService, cX0_endService, 2, (some .int))
def mX0_passTicks : pm_I := (yX0_passTicks, cX0_passTicks, 2, (some .int))
def mX0_queueAcknowledge : pm_I := (yX0_queueAcknowledge, cX0_queueAcknowledge, 6, none)
def mX0_acknowledgeDue : pm_I := (yX0_acknowledgeDue, cX0_acknowledgeDue, 4, (some .int))
def mX0_turnInputs : pm_I := (yX0_turnInputs, cX0_turnInputs, 5, none)
def mX0_nextLine : pm_I := (yX0_nextLine, cX0_nextLine, 6, (some .int))
def mX0_passOver : pm_I := (yX0_passOver, cX0_passOver, 2, none)
def mX0_lowestRank : pm_I := (yX0_lowestRank, cX0_lowestRank, 2, (some .int))
def mX0_isReady : pm_I := (yX0_isReady, cX0_isReady, 4, (some .boolean))
def mX0_isMasked : pm_I := (yX0_isMasked, cX0_isMasked, 3, (some .boolean))
def mX0_litSet : pm_I := (yX0_litSet, cX0_litSet, 3, (some .int))
def mX0_readySet : pm_I := (yX0_readySet, cX0_readySet, 4, (some .int))
def mX0_stageSet : pm_I := (yX0_stageSet, cX0_stageSet, 4, (some .int))
def mX0_ownMaskSet : pm_I := (yX0_ownMaskSet, cX0_ownMaskSet, 3, (some .int))
def mX0_anyMaskSet : pm_I := (yX0_anyMaskSet, cX0_anyMaskSet, 3, (some .int))
def mX0_linesBelow : pm_I := (yX0_linesBelow, cX0_linesBelow, 4, (some .int))
def mX0_edgeLineSet : pm_I := (yX0_edgeLineSet, cX0_edgeLineSet, 3, (some .int))
def mX0_tellLine : pm_I := (yX0_tellLine, cX0_tellLine, 4, (some .int))
def mX0_tellNode : pm_I := (yX0_tellNode, cX0_tellNode, 4, (some .int))
def mX0_tellInput : pm_I := (yX0_tellInput, cX0_tellInput, 4, (some .int))
def mX0_tellService : pm_I := (yX0_tellService, cX0_tellService, 3, (some .int))
def mX0_tellWaiting : pm_I := (yX0_tellWaiting, cX0_tellWaiting, 3, (some .int))
def mX0_tellNumber : pm_I := (yX0_tellNumber, cX0_tellNumber, 2, (some .int))
def mX0_allEdges : pm_I := (yX0_allEdges, cX0_allEdges, 3, (some .int))
def mX0_allLost : pm_I := (yX0_allLost, cX0_allLost, 3, (some .int))
def mX0_allTaken : pm_I := (yX0_allTaken, cX0_allTaken, 4, (some .int))
def mX1_init : pm_I := (yX1_init, cX1_init, 1, none)
def mX1_append : pm_I := (yX1_append, cX1_append, 2, (some .int))
def mX1_makeEmpty : pm_I := (yX1_makeEmpty, cX1_makeEmpty, 2, (some .int))
def mX1_runOn : pm_I := (yX1_runOn, cX1_runOn, 4, (some .int))
def mX1_answerOf : pm_I := (yX1_answerOf, cX1_answerOf, 2, (some .int))
def mX1_reasonOf : pm_I := (yX1_reasonOf, cX1_reasonOf, 1, (some .int))
def mX1_readEvent : pm_I := (yX1_readEvent, cX1_readEvent, 1, (some .boolean))
def mX1_readNumber : pm_I := (yX1_readNumber, cX1_readNumber, 3, (some .int))
def mX1_readSign : pm_I := (yX1_readSign, cX1_readSign, 3, (some .boolean))
def mX1_digitAt : pm_I := (yX1_digitAt, cX1_digitAt, 3, (some .int))
def mX1_signAt : pm_I := (yX1_signAt, cX1_signAt, 2, (some .char))
def mX2_init : pm_I := (yX2_init, cX2_init, 2, none)
def mX2_prepare : pm_I := (yX2_prepare, cX2_prepare, 2, none)
def mX2_close : pm_I := (yX2_close, cX2_close, 2, (some .int))
def mX2_restore : pm_I := (yX2_restore, cX2_restore, 2, (some .int))
def mX2_dropOldest : pm_I := (yX2_dropOldest, cX2_dropOldest, 3, none)
def mX3_init : pm_I := (yX3_init, cX3_init, 1, none)
def mX3_copyFrom : pm_I := (yX3_copyFrom, cX3_copyFrom, 2, none)
def mX4_init : pm_I := (yX4_init, cX4_init, 1, none)
def mX4_copyFrom : pm_I := (yX4_copyFrom, cX4_copyFrom, 2, none)
def mX5_init : pm_I := (yX5_init, cX5_init, 1, none)
def mX5_get : pm_I := (yX5_get, cX5_get, 2, (some .int))
def mX5_insert : pm_I := (yX5_insert, cX5_insert, 4, none)
def mX5_remove : pm_I := (yX5_remove, cX5_remove, 3, none)
def mX5_moveBehind : pm_I := (yX5_moveBehind, cX5_moveBehind, 3, none)
def mX5_copyFrom : pm_I := (yX5_copyFrom, cX5_copyFrom, 2, none)
def mX6_init : pm_I := (yX6_init, cX6_init, 1, none)
def mX6_node : pm_I := (yX6_node, cX6_node, 3, (some .int))
def mX6_line : pm_I := (yX6_line, cX6_line, 4, (some .int))
def mX6_mask : pm_I := (yX6_mask, cX6_mask, 3, (some .int))
def mX6_maskNode : pm_I := (yX6_maskNode, cX6_maskNode, 3, (some .int))
def mX6_threshold : pm_I := (yX6_threshold, cX6_threshold, 2, (some .int))
def mX6_late : pm_I := (yX6_late, cX6_late, 2, (some .int))
def mX6_lineOf : pm_I := (yX6_lineOf, cX6_lineOf, 3, (some .int))
def mX6_nodeOf : pm_I := (yX6_nodeOf, cX6_nodeOf, 3, (some .int))
def mX6_inputAt : pm_I := (yX6_inputAt, cX6_inputAt, 3, (some .int))
def mX6_edge : pm_I := (yX6_edge, cX6_edge, 2, (some .int))
def mX6_level : pm_I := (yX6_level, cX6_level, 3, (some .int))
def mX6_take : pm_I := (yX6_take, cX6_take, 1, (some .int))
def mX6_done : pm_I := (yX6_done, cX6_done, 1, (some .int))
def mX6_tick : pm_I := (yX6_tick, cX6_tick, 2, (some .int))
def mX6_next : pm_I := (yX6_next, cX6_next, 2, (some .int))
def mX6_orderAt : pm_I := (yX6_orderAt, cX6_orderAt, 3, (some .int))
def mX6_serviceAt : pm_I := (yX6_serviceAt, cX6_serviceAt, 2, (some .int))
def mX6_waitingAt : pm_I := (yX6_waitingAt, cX6_waitingAt, 2, (some .int))
def mX6_lines : pm_I := (yX6_lines, cX6_lines, 2, (some .int))
def mX6_count : pm_I := (yX6_count, cX6_count, 2, (some .int))
def mX6_undo : pm_I := (yX6_undo, cX6_undo, 1, (some .int))
def mX6_type : pm_I := (yX6_type, cX6_type, 2, (some .int))
def mX6_clearText : pm_I := (yX6_clearText, cX6_clearText, 1, (some .int))
def mX6_fault : pm_I := (yX6_fault, cX6_fault, 2, (some .int))
def mX6_play : pm_I := (yX6_play, cX6_play, 2, (some .int))
def mX6_isBit : pm_I := (yX6_isBit, cX6_isBit, 1, (some .boolean))
def mX6_asBit : pm_I := (yX6_asBit, cX6_asBit, 1, (some .int))
def mX7_init : pm_I := (yX7_init, cX7_init, 1, none)
def mX7_in : pm_I := (yX7_in, cX7_in, 3, (some .boolean))
def mX7_record : pm_I := (yX7_record, cX7_record, 2, none)
def mX7_layAside : pm_I := (yX7_layAside, cX7_layAside, 2, none)
def mX7_layBack : pm_I := (yX7_layBack, cX7_layBack, 2, none)
def mX7_n : pm_I := (yX7_n, cX7_n, 1, (some .int))
def mX7_l : pm_I := (yX7_l, cX7_l, 1, (some .int))
def mX7_isNode : pm_I := (yX7_isNode, cX7_isNode, 2, (some .boolean))
def mX7_isLine : pm_I := (yX7_isLine, cX7_isLine, 2, (some .boolean))
def mX7_isBit : pm_I := (yX7_isBit, cX7_isBit, 1, (some .boolean))
def mX7_hang : pm_I := (yX7_hang, cX7_hang, 3, none)
def mX7_node : pm_I := (yX7_node, cX7_node, 4, (some .int))
def mX7_line : pm_I := (yX7_line, cX7_line, 5, (some .int))
def mX7_isOnWay : pm_I := (yX7_isOnWay, cX7_isOnWay, 4, (some .boolean))
def mX7_linesBy : pm_I := (yX7_linesBy, cX7_linesBy, 4, (some .int))
def mX7_bits : pm_I := (yX7_bits, cX7_bits, 3, (some .int))
def mX7_mask : pm_I := (yX7_mask, cX7_mask, 3, (some .int))
def mX7_maskNode : pm_I := (yX7_maskNode, cX7_maskNode, 3, (some .int))
def mX7_threshold : pm_I := (yX7_threshold, cX7_threshold, 3, (some .int))
def mX7_late : pm_I := (yX7_late, cX7_late, 3, (some .int))
def mX7_isHidden : pm_I := (yX7_isHidden, cX7_isHidden, 4, (some .boolean))
def mX7_isReady : pm_I := (yX7_isReady, cX7_isReady, 4, (some .boolean))
def mX7_layOrder : pm_I := (yX7_layOrder, cX7_layOrder, 6, none)
def mX7_nextLine : pm_I := (yX7_nextLine, cX7_nextLine, 4, (some .int))
def mX7_turnBehind : pm_I := (yX7_turnBehind, cX7_turnBehind, 5, none)
def mX7_turnWay : pm_I := (yX7_turnWay, cX7_turnWay, 4, none)
def mX7_goTake : pm_I := (yX7_goTake, cX7_goTake, 4, none)
def mX7_goDone : pm_I := (yX7_goDone, cX7_goDone, 2, (some .int))
def mX7_litState : pm_I := (yX7_litState, cX7_litState, 4, (some .int))
def mX7_lineOf : pm_I := (yX7_lineOf, cX7_lineOf, 3, (some .int))
def mX7_nodeOf : pm_I := (yX7_nodeOf, cX7_nodeOf, 3, (some .int))
def mX7_inputAt : pm_I := (yX7_inputAt, cX7_inputAt, 3, (some .int))
def mX7_goEdge : pm_I := (yX7_goEdge, cX7_goEdge, 3, (some .int))
def mX7_edge : pm_I := (yX7_edge, cX7_edge, 2, (some .int))
def mX7_canLevel : pm_I := (yX7_canLevel, cX7_canLevel, 3, (some .boolean))
def mX7_level : pm_I := (yX7_level, cX7_level, 3, (some .int))
def mX7_take : pm_I := (yX7_take, cX7_take, 2, (some .int))
def mX7_done : pm_I := (yX7_done, cX7_done, 1, (some .int))
def mX7_goTicks : pm_I := (yX7_goTicks, cX7_goTicks, 5, (some .int))
def mX7_tick : pm_I := (yX7_tick, cX7_tick, 2, (some .int))
def mX7_next : pm_I := (yX7_next, cX7_next, 2, (some .int))
def mX7_orderAt : pm_I := (yX7_orderAt, cX7_orderAt, 4, (some .int))
def mX7_serviceAt : pm_I := (yX7_serviceAt, cX7_serviceAt, 2, (some .int))
def mX7_isAhead : pm_I := (yX7_isAhead, cX7_isAhead, 4, (some .boolean))
def mX7_waitingAt : pm_I := (yX7_waitingAt, cX7_waitingAt, 5, (some .int))
def mX7_isOf : pm_I := (yX7_isOf, cX7_isOf, 3, (some .boolean))
def mX7_linesOf : pm_I := (yX7_linesOf, cX7_linesOf, 4, (some .int))
def mX7_lines : pm_I := (yX7_lines, cX7_lines, 2, (some .int))
def mX7_litEdges : pm_I := (yX7_litEdges, cX7_litEdges, 3, (some .int))
def mX7_count : pm_I := (yX7_count, cX7_count, 2, (some .int))
def mX7_undo : pm_I := (yX7_undo, cX7_undo, 2, (some .int))
def mX7_type : pm_I := (yX7_type, cX7_type, 2, (some .int))
def mX7_clearText : pm_I := (yX7_clearText, cX7_clearText, 2, (some .int))
def mX7_sees : pm_I := (yX7_sees, cX7_sees, 3, (some .boolean))
def mX7_number : pm_I := (yX7_number, cX7_number, 3, (some .int))
def mX7_isForm : pm_I := (yX7_isForm, cX7_isForm, 3, (some .boolean))
def mX7_isRange : pm_I := (yX7_isRange, cX7_isRange, 2, (some .boolean))
def mX7_isPossible : pm_I := (yX7_isPossible, cX7_isPossible, 2, (some .boolean))
def mX7_goEvent : pm_I := (yX7_goEvent, cX7_goEvent, 2, none)
def mX7_isSign : pm_I := (yX7_isSign, cX7_isSign, 1, (some .boolean))
def mX7_run : pm_I := (yX7_run, cX7_run, 3, (some .int))
def mX7_fault : pm_I := (yX7_fault, cX7_fault, 3, (some .int))
def mX7_play : pm_I := (yX7_play, cX7_play, 2, (some .int))
def mJ6_bitCount_0f7a4 : pm_I := (yJ6_bitCount_0f7a4, cJ6_bitCount_0f7a4, 1, (some .int))
def mJ9_max_7cf53 : pm_I := (yJ9_max_7cf53, cJ9_max_7cf53, 2, (some .int))
def mL_law : pm_I := (yL_law, cL_law, 4, (some .boolean))
def pw_Ms : Nat → pm_I := fun a => match a with
  | 0 => mX0_init
  | 1 => mX0_copyFrom
  | 2 => mX0_hasNode
  | 3 => mX0_hasLine
  | 4 => mX0_addNode
  | 5 => mX0_addLine
  | 6 => mX0_setLineMask
  | 7 => mX0_setNodeMask
  | 8 => mX0_setThreshold
  | 9 => mX0_setLate
  | 10 => mX0_giveEdge
  | 11 => mX0_setLevel
  | 12 => mX0_takeNext
  | 13 => mX0_endService
  | 14 => mX0_passTicks
  | 15 => mX0_queueAcknowledge
  | 16 => mX0_acknowledgeDue
  | 17 => mX0_turnInputs
  | 18 => mX0_nextLine
  | 19 => mX0_passOver
  | 20 => mX0_lowestRank
  | 21 => mX0_isReady
  | 22 => mX0_isMasked
  | 23 => mX0_litSet
  | 24 => mX0_readySet
  | 25 => mX0_stageSet
  | 26 => mX0_ownMaskSet
  | 27 => mX0_anyMaskSet
  | 28 => mX0_linesBelow
  | 29 => mX0_edgeLineSet
  | 30 => mX0_tellLine
  | 31 => mX0_tellNode
  | 32 => mX0_tellInput
  | 33 => mX0_tellService
  | 34 => mX0_tellWaiting
  | 35 => mX0_tellNumber
  | 36 => mX0_allEdges
  | 37 => mX0_allLost
  | 38 => mX0_allTaken
  | 39 => mX1_init
  | 40 => mX1_append
  | 41 => mX1_makeEmpty
  | 42 => mX1_runOn
  | 43 => mX1_answerOf
  | 44 => mX1_reasonOf
  | 45 => mX1_readEvent
  | 46 => mX1_readNumber
  | 47 => mX1_readSign
  | 48 => mX1_digitAt
  | 49 => mX1_signAt
  | 50 => mX2_init
  | 51 => mX2_prepare
  | 52 => mX2_close
  | 53 => mX2_restore
  | 54 => mX2_dropOldest
  | 55 => mX3_init
  | 56 => mX3_copyFrom
  | 57 => mX4_init
  | 58 => mX4_copyFrom
  | 59 => mX5_init
  | 60 => mX5_get
  | 61 => mX5_insert
  | 62 => mX5_remove
  | 63 => mX5_moveBehind
  | 64 => mX5_copyFrom
  | 65 => mX6_init
  | 66 => mX6_node
  | 67 => mX6_line
  | 68 => mX6_mask
  | 69 => mX6_maskNode
  | 70 => mX6_threshold
  | 71 => mX6_late
  | 72 => mX6_lineOf
  | 73 => mX6_nodeOf
  | 74 => mX6_inputAt
  | 75 => mX6_edge
  | 76 => mX6_level
  | 77 => mX6_take
  | 78 => mX6_done
  | 79 => mX6_tick
  | 80 => mX6_next
  | 81 => mX6_orderAt
  | 82 => mX6_serviceAt
  | 83 => mX6_waitingAt
  | 84 => mX6_lines
  | 85 => mX6_count
  | 86 => mX6_undo
  | 87 => mX6_type
  | 88 => mX6_clearText
  | 89 => mX6_fault
  | 90 => mX6_play
  | 91 => mX6_isBit
  | 92 => mX6_asBit
  | 93 => mX7_init
  | 94 => mX7_in
  | 95 => mX7_record
  | 96 => mX7_layAside
  | 97 => mX7_layBack
  | 98 => mX7_n
  | 99 => mX7_l
  | 100 => mX7_isNode
  | 101 => mX7_isLine
  | 102 => mX7_isBit
  | 103 => mX7_hang
  | 104 => mX7_node
  | 105 => mX7_line
  | 106 => mX7_isOnWay
  | 107 => mX7_linesBy
  | 108 => mX7_bits
  | 109 => mX7_mask
  | 110 => mX7_maskNode
  | 111 => mX7_threshold
  | 112 => mX7_late
  | 113 => mX7_isHidden
  | 114 => mX7_isReady
  | 115 => mX7_layOrder
  | 116 => mX7_nextLine
  | 117 => mX7_turnBehind
  | 118 => mX7_turnWay
  | 119 => mX7_goTake
  | 120 => mX7_goDone
  | 121 => mX7_litState
  | 122 => mX7_lineOf
  | 123 => mX7_nodeOf
  | 124 => mX7_inputAt
  | 125 => mX7_goEdge
  | 126 => mX7_edge
  | 127 => mX7_canLevel
  | 128 => mX7_level
  | 129 => mX7_take
  | 130 => mX7_done
  | 131 => mX7_goTicks
  | 132 => mX7_tick
  | 133 => mX7_next
  | 134 => mX7_orderAt
  | 135 => mX7_serviceAt
  | 136 => mX7_isAhead
  | 137 => mX7_waitingAt
  | 138 => mX7_isOf
  | 139 => mX7_linesOf
  | 140 => mX7_lines
  | 141 => mX7_litEdges
  | 142 => mX7_count
  | 143 => mX7_undo
  | 144 => mX7_type
  | 145 => mX7_clearText
  | 146 => mX7_sees
  | 147 => mX7_number
  | 148 => mX7_isForm
  | 149 => mX7_isRange
  | 150 => mX7_isPossible
  | 151 => mX7_goEvent
  | 152 => mX7_isSign
  | 153 => mX7_run
  | 154 => mX7_fault
  | 155 => mX7_play
  | 156 => mJ6_bitCount_0f7a4
  | 157 => mJ9_max_7cf53
  | _ => mL_law
/-- fields: the place in the pool, class, slot, whose pool; the word's place in the tables -/
def pw_flx : List ((Nat × Nat × Nat × String) × Nat) := [((7, 3, 0, RX3), 121), ((7, 7, 0, RX7), 649), ((9, 1, 0, RX1), 236), ((9, 5, 0, RX5), 88), ((10, 4, 0, RX4), 97), ((11, 0, 0, RX0), 176), ((11, 2, 0, RX2), 222), ((12, 6, 0, RX6), 262), ((13, 3, 12, RX3), 145), ((13, 7, 1, RX7), 650), ((15, 1, 1, RX1), 237), ((15, 5, 1, RX5), 89), ((16, 6, 1, RX6), 263), ((16, 3, 1, RX3), 123), ((16, 7, 2, RX7), 651), ((18, 2, 1, RX2), 223), ((19, 1, 6, RX1), 244), ((19, 3, 2, RX3), 125), ((19, 7, 3, RX7), 652), ((20, 0, 1, RX0), 177), ((20, 4, 1, RX4), 100), ((22, 6, 2, RX6), 264), ((22, 1, 3, RX1), 241), ((22, 7, 4, RX7), 653), ((23, 3, 3, RX3), 127), ((24, 4, 2, RX4), 101), ((25, 1, 2, RX1), 239), ((25, 7, 5, RX7), 654), ((26, 3, 4, RX3), 129), ((28, 0, 9, RX0), 185), ((28, 4, 3, RX4), 104), ((28, 7, 6, RX7), 655), ((29, 6, 3, RX6), 265), ((29, 3, 5, RX3), 131), ((31, 7, 8, RX7), 657), ((32, 0, 10, RX0), 186), ((32, 3, 6, RX3), 133), ((35, 0, 11, RX0), 187), ((35, 3, 7, RX3), 135), ((38, 3, 8, RX3), 137), ((39, 4, 1, RX0), 99), ((41, 3, 9, RX3), 139), ((43, 4, 3, RX0), 103), ((44, 1, 4, RX1), 242), ((44, 3, 10, RX3), 141), ((46, 0, 2, RX0), 178), ((47, 3, 11, RX3), 143), ((49, 0, 7, RX0), 183), ((52, 1, 5, RX1), 243), ((59, 0, 3, RX0), 179), ((62, 0, 4, RX0), 180), ((65, 0, 5, RX0), 181), ((68, 0, 6, RX0), 182), ((71, 0, 8, RX0), 184), ((84, 4, 2, RX0), 102), ((88, 4, 0, RX0), 98), ((91, 5, 1, RX0), 90), ((98, 3, 0, RX0), 122), ((101, 3, 12, RX0), 146), ((102, 3, 1, RX0), 124), ((105, 3, 2, RX0), 126), ((111, 3, 4, RX0), 130), ((117, 2, 1, RX6), 224), ((121, 1, 1, RX6), 238), ((127, 3, 6, RX0), 134), ((130, 3, 3, RX0), 128), ((131, 7, 7, RX7), 656), ((133, 3, 7, RX0), 136), ((134, 7, 9, RX7), 658), ((136, 3, 10, RX0), 142), ((137, 7, 10, RX7), 659), ((140, 7, 11, RX7), 660), ((144, 1, 6, RX6), 245), ((145, 3, 5, RX0), 132), ((147, 1, 2, RX6), 240), ((148, 3, 8, RX0), 138), ((149, 7, 12, RX7), 661), ((151, 3, 9, RX0), 140), ((170, 3, 11, RX0), 144)]
def pw_msx : List ((Nat × Nat) × Nat × Nat × Nat) := [((44, 1), 638, 56, 637), ((91, 1), 313, 50, 312), ((92, 1), 352, 50, 351), ((94, 3), 699, 57, 698), ((98, 1), 709, 57, 708), ((99, 1), 720, 57, 719), ((102, 1), 702, 57, 701), ((108, 1), 747, 57, 746), ((152, 1), 903, 57, 902), ((156, 1), 355, 59, 354), ((157, 2), 405, 60, 404)]
def pw_mvx : List ((Nat × Nat × Nat) × Nat × Nat × Nat × Nat) := [((1, 1, 0), 286, 51, 284, 285), ((2, 1, 0), 310, 51, 308, 309), ((3, 1, 0), 345, 51, 343, 344), ((4, 2, 0), 306, 51, 304, 305), ((5, 3, 0), 333, 51, 331, 332), ((6, 2, 0), 341, 51, 339, 340), ((7, 2, 0), 366, 51, 364, 365), ((8, 1, 0), 378, 51, 376, 377), ((9, 1, 0), 386, 51, 384, 385), ((10, 1, 0), 441, 51, 439, 440), ((11, 2, 0), 449, 51, 447, 448), ((12, 0, 0), 457, 51, 455, 456), ((13, 0, 0), 482, 51, 480, 481), ((14, 1, 0), 499, 51, 497, 498), ((15, 1, 0), 487, 51, 486, 6), ((16, 0, 0), 491, 51, 490, 7), ((17, 1, 0), 465, 51, 464, 5), ((18, 0, 0), 461, 51, 459, 460), ((19, 1, 0), 514, 51, 512, 513), ((20, 0, 0), 398, 51, 397, 2), ((21, 2, 0), 409, 51, 408, 3), ((22, 1, 0), 413, 51, 412, 4), ((23, 0, 0), 425, 51, 423, 424), ((24, 0, 0), 539, 51, 537, 538), ((25, 1, 0), 543, 51, 541, 542), ((26, 0, 0), 349, 51, 347, 348), ((27, 0, 0), 548, 51, 546, 547), ((28, 1, 0), 370, 51, 369, 1), ((29, 0, 0), 568, 51, 567, 10), ((30, 2, 0), 394, 51, 392, 393), ((31, 2, 0), 421, 51, 419, 420), ((32, 2, 0), 433, 51, 431, 432), ((33, 1, 0), 522, 51, 520, 521), ((34, 1, 0), 530, 51, 528, 529), ((35, 1, 0), 556, 51, 554, 555), ((36, 0, 0), 560, 51, 559, 8), ((37, 0, 0), 564, 51, 563, 9), ((38, 1, 0), 572, 51, 571, 11), ((40, 1, 1), 588, 56, 586, 587), ((41, 0, 1), 596, 56, 594, 595), ((42, 1, 1), 605, 56, 603, 604), ((43, 1, 1), 629, 56, 628, 17), ((45, 0, 1), 609, 56, 608, 12), ((46, 0, 1), 617, 56, 616, 14), ((47, 1, 1), 625, 56, 624, 16), ((48, 1, 1), 621, 56, 620, 15), ((49, 1, 1), 613, 56, 612, 13), ((51, 1, 2), 282, 55, 280, 281), ((52, 1, 2), 321, 55, 319, 320), ((53, 1, 2), 580, 55, 578, 579), ((54, 0, 2), 325, 55, 324, 0), ((56, 1, 3), 301, 54, 299, 300), ((58, 1, 4), 290, 52, 288, 289), ((60, 1, 5), 402, 53, 400, 401), ((61, 2, 5), 317, 53, 315, 316), ((62, 1, 5), 473, 53, 471, 472), ((63, 1, 5), 469, 53, 467, 468), ((64, 1, 5), 294, 53, 292, 293), ((66, 2, 6), 278, 50, 276, 277), ((67, 3, 6), 329, 50, 327, 328), ((68, 2, 6), 337, 50, 335, 336), ((69, 2, 6), 362, 50, 360, 361), ((70, 1, 6), 374, 50, 372, 373), ((71, 1, 6), 382, 50, 380, 381), ((72, 2, 6), 390, 50, 388, 389), ((73, 2, 6), 417, 50, 415, 416), ((74, 2, 6), 429, 50, 427, 428), ((75, 1, 6), 437, 50, 435, 436), ((76, 2, 6), 445, 50, 443, 444), ((77, 0, 6), 453, 50, 451, 452), ((78, 0, 6), 478, 50, 476, 477), ((79, 1, 6), 495, 50, 493, 494), ((80, 0, 6), 504, 50, 502, 503), ((81, 1, 6), 509, 50, 507, 508), ((82, 1, 6), 518, 50, 516, 517), ((83, 1, 6), 526, 50, 524, 525), ((84, 1, 6), 534, 50, 532, 533), ((85, 1, 6), 552, 50, 550, 551), ((86, 0, 6), 576, 50, 574, 575), ((87, 1, 6), 584, 50, 582, 583), ((88, 0, 6), 592, 50, 590, 591), ((89, 1, 6), 600, 50, 598, 599), ((90, 0, 6), 642, 50, 640, 641), ((95, 0, 7), 706, 57, 705, 19), ((96, 0, 7), 852, 57, 851, 38), ((97, 0, 7), 856, 57, 855, 39), ((100, 1, 7), 696, 57, 695, 18), ((101, 1, 7), 728, 57, 727, 21), ((103, 2, 7), 713, 57, 712, 20), ((104, 2, 7), 692, 57, 690, 691), ((105, 3, 7), 717, 57, 715, 716), ((106, 2, 7), 759, 57, 758, 27), ((107, 1, 7), 755, 57, 754, 26), ((109, 2, 7), 724, 57, 722, 723), ((110, 2, 7), 751, 57, 749, 750), ((111, 1, 7), 763, 57, 761, 762), ((112, 1, 7), 767, 57, 765, 766), ((113, 1, 7), 744, 57, 743, 25), ((114, 1, 7), 740, 57, 739, 24), ((115, 0, 7), 811, 57, 810, 32), ((116, 0, 7), 807, 57, 806, 31), ((117, 2, 7), 823, 57, 822, 35), ((118, 1, 7), 819, 57, 818, 34), ((119, 1, 7), 815, 57, 814, 33), ((120, 0, 7), 831, 57, 830, 36), ((121, 2, 7), 775, 57, 774, 28), ((122, 2, 7), 771, 57, 769, 770), ((123, 2, 7), 779, 57, 777, 778), ((124, 2, 7), 783, 57, 781, 782), ((125, 1, 7), 791, 57, 790, 29), ((126, 1, 7), 787, 57, 785, 786), ((127, 2, 7), 799, 57, 798, 30), ((128, 2, 7), 795, 57, 793, 794), ((129, 0, 7), 803, 57, 801, 802), ((130, 0, 7), 827, 57, 825, 826), ((131, 1, 7), 840, 57, 839, 37), ((132, 1, 7), 835, 57, 833, 834), ((133, 0, 7), 844, 57, 842, 843), ((134, 1, 7), 848, 57, 846, 847), ((135, 1, 7), 860, 57, 858, 859), ((136, 2, 7), 868, 57, 867, 40), ((137, 1, 7), 864, 57, 862, 863), ((138, 2, 7), 736, 57, 735, 23), ((139, 1, 7), 732, 57, 731, 22), ((140, 1, 7), 872, 57, 870, 871), ((141, 0, 7), 880, 57, 879, 41), ((142, 1, 7), 876, 57, 874, 875), ((143, 0, 7), 884, 57, 882, 883), ((144, 1, 7), 888, 57, 886, 887), ((145, 0, 7), 892, 57, 890, 891), ((146, 1, 7), 915, 57, 914, 45), ((147, 0, 7), 911, 57, 910, 44), ((148, 1, 7), 907, 57, 906, 43), ((149, 1, 7), 919, 57, 918, 46), ((150, 1, 7), 923, 57, 922, 47), ((151, 1, 7), 927, 57, 926, 48), ((153, 0, 7), 900, 57, 899, 42), ((154, 1, 7), 896, 57, 894, 895), ((155, 0, 7), 931, 57, 929, 930)]
def pw_slx : List ((Nat × Nat × Nat × String) × Nat) := [((35, 94, 3, RX7), 697), ((36, 44, 1, RX1), 636), ((39, 98, 1, RX7), 707), ((47, 102, 1, RX7), 700), ((57, 99, 1, RX7), 718), ((70, 108, 1, RX7), 745), ((81, 91, 1, RX0), 311), ((118, 156, 1, RX0), 353), ((137, 91, 1, RX6), 601), ((152, 152, 1, RX7), 901), ((154, 157, 2, RX0), 403), ((193, 92, 1, RX0), 350)]
def pw_vlx : List ((Nat × Nat × Nat × Nat × String) × Nat) := [((13, 66, 2, 6, RL), 275), ((16, 64, 1, 5, RX4), 291), ((17, 104, 2, 7, RL), 689), ((18, 67, 3, 6, RL), 326), ((19, 62, 1, 5, RX5), 470), ((22, 1, 1, 0, RX2), 283), ((22, 105, 3, 7, RL), 714), ((23, 61, 2, 5, RX5), 474), ((23, 68, 2, 6, RL), 334), ((26, 54, 0, 2, RX2), 322), ((26, 109, 2, 7, RL), 721), ((27, 69, 2, 6, RL), 359), ((28, 45, 0, 1, RX1), 606), ((30, 110, 2, 7, RL), 748), ((31, 70, 1, 6, RL), 371), ((32, 43, 1, 1, RX1), 626), ((33, 51, 1, 2, RX6), 279), ((35, 111, 1, 7, RL), 760), ((36, 71, 1, 6, RL), 379), ((37, 4, 2, 0, RX6), 303), ((39, 112, 1, 7, RL), 764), ((40, 49, 1, 1, RX1), 610), ((40, 72, 2, 6, RL), 387), ((41, 52, 1, 2, RX6), 318), ((43, 122, 2, 7, RL), 768), ((43, 100, 1, 7, RX7), 693), ((44, 73, 2, 6, RL), 414), ((45, 5, 3, 0, RX6), 330), ((47, 10, 1, 0, RX1), 630), ((47, 123, 2, 7, RL), 776), ((48, 74, 2, 6, RL), 426), ((49, 6, 2, 0, RX6), 338), ((50, 95, 0, 7, RX7), 703), ((51, 124, 2, 7, RL), 780), ((52, 7, 2, 0, RX6), 363), ((52, 58, 1, 4, RX0), 287), ((52, 75, 1, 6, RL), 434), ((53, 103, 2, 7, RX7), 710), ((55, 8, 1, 0, RX6), 375), ((55, 11, 2, 0, RX1), 631), ((55, 126, 1, 7, RL), 784), ((56, 56, 1, 3, RX0), 298), ((56, 76, 2, 6, RL), 442), ((58, 9, 1, 0, RX6), 383), ((59, 6, 2, 0, RX1), 632), ((59, 128, 2, 7, RL), 792), ((60, 77, 0, 6, RL), 450), ((60, 106, 2, 7, RX7), 756), ((61, 30, 2, 0, RX6), 391), ((62, 12, 0, 0, RX1), 633), ((64, 31, 2, 0, RX6), 418), ((64, 129, 0, 7, RL), 800), ((64, 101, 1, 7, RX7), 725), ((65, 78, 0, 6, RL), 475), ((66, 13, 0, 0, RX1), 634), ((67, 32, 2, 0, RX6), 430), ((67, 139, 1, 7, RX7), 729), ((68, 130, 0, 7, RL), 824), ((69, 14, 1, 0, RX1), 635), ((69, 79, 1, 6, RL), 492), ((70, 10, 1, 0, RX6), 438), ((72, 46, 0, 1, RX1), 614), ((72, 132, 1, 7, RL), 832), ((73, 11, 2, 0, RX6), 446), ((73, 80, 0, 6, RL), 501), ((73, 107, 1, 7, RX7), 752), ((74, 64, 1, 5, RX0), 302), ((75, 47, 1, 1, RX1), 622), ((76, 12, 0, 0, RX6), 454), ((76, 133, 0, 7, RL), 841), ((76, 113, 1, 7, RX7), 741), ((77, 2, 1, 0, RX0), 307), ((77, 81, 1, 6, RL), 506), ((79, 48, 1, 1, RX1), 618), ((79, 115, 0, 7, RX7), 808), ((80, 13, 0, 0, RX6), 479), ((80, 134, 1, 7, RL), 845), ((81, 82, 1, 6, RL), 515), ((82, 114, 1, 7, RX7), 737), ((83, 14, 1, 0, RX6), 496), ((84, 135, 1, 7, RL), 857), ((85, 83, 1, 6, RL), 523), ((85, 117, 2, 7, RX7), 820), ((86, 18, 0, 0, RX6), 505), ((88, 137, 1, 7, RL), 861), ((88, 118, 1, 7, RX7), 816), ((89, 1, 1, 0, RX6), 510), ((89, 84, 1, 6, RL), 531), ((92, 19, 1, 0, RX6), 511), ((92, 140, 1, 7, RL), 869), ((92, 121, 2, 7, RX7), 772), ((93, 85, 1, 6, RL), 549), ((94, 61, 2, 5, RX0), 314), ((96, 33, 1, 0, RX6), 519), ((96, 142, 1, 7, RL), 873), ((96, 125, 1, 7, RX7), 788), ((97, 86, 0, 6, RL), 573), ((99, 34, 1, 0, RX6), 527), ((99, 127, 2, 7, RX7), 796), ((100, 143, 0, 7, RL), 881), ((101, 87, 1, 6, RL), 581), ((102, 23, 0, 0, RX6), 535), ((102, 116, 0, 7, RX7), 804), ((104, 144, 1, 7, RL), 885), ((105, 24, 0, 0, RX6), 536), ((105, 88, 0, 6, RL), 589), ((106, 119, 1, 7, RX7), 812), ((108, 25, 1, 0, RX6), 540), ((108, 3, 1, 0, RX0), 342), ((108, 145, 0, 7, RL), 889), ((109, 89, 1, 6, RL), 597), ((109, 120, 0, 7, RX7), 828), ((111, 26, 0, 0, RX6), 544), ((112, 154, 1, 7, RL), 893), ((113, 90, 0, 6, RL), 639), ((113, 131, 1, 7, RX7), 837), ((114, 27, 0, 0, RX6), 545), ((114, 26, 0, 0, RX0), 346), ((116, 155, 0, 7, RL), 928), ((116, 96, 0, 7, RX7), 849), ((119, 97, 0, 7, RX7), 853), ((122, 136, 2, 7, RX7), 865), ((124, 35, 1, 0, RX6), 553), ((124, 28, 1, 0, RX0), 367), ((125, 138, 2, 7, RX7), 733), ((127, 53, 1, 2, RX6), 577), ((128, 141, 0, 7, RX7), 877), ((131, 40, 1, 1, RX6), 585), ((134, 41, 0, 1, RX6), 593), ((139, 23, 0, 0, RX0), 422), ((141, 42, 1, 1, RX6), 602), ((142, 18, 0, 0, RX0), 458), ((143, 147, 0, 7, RX7), 908), ((146, 146, 1, 7, RX7), 912), ((155, 148, 1, 7, RX7), 904), ((158, 149, 1, 7, RX7), 916), ((160, 17, 1, 0, RX0), 462), ((161, 150, 1, 7, RX7), 920), ((164, 60, 1, 5, RX0), 399), ((164, 151, 1, 7, RX7), 924), ((167, 62, 1, 5, RX0), 483), ((167, 153, 0, 7, RX7), 897), ((173, 15, 1, 0, RX0), 484), ((176, 16, 0, 0, RX0), 488), ((180, 63, 1, 5, RX0), 466), ((183, 20, 0, 0, RX0), 395), ((186, 21, 2, 0, RX0), 406), ((190, 22, 1, 0, RX0), 410), ((197, 36, 0, 0, RX0), 557), ((200, 37, 0, 0, RX0), 561), ((203, 29, 0, 0, RX0), 565), ((206, 38, 1, 0, RX0), 569)]
def pw_csx : List ((Nat × Int32 × String) × Nat) := [((179, 50000, RX0), 500), ((112, 50000, RX7), 836), ((265, 1431655765, RJ6), 356), ((266, 858993459, RJ6), 357), ((267, 252645135, RJ6), 358)]
/-- a word, by its place in the tables -/
def pw_at (i : Nat) (w : Cond) : Bool := decide (lw_tbl[i]? = some w) && goodWord w
theorem pw_at_ok {i : Nat} {w : Cond} (h : pw_at i w = true) : w ∈ pw_T := by
  unfold pw_at at h
  rw [Bool.and_eq_true, decide_eq_true_eq] at h
  exact List.mem_filter.mpr ⟨List.mem_of_getElem? h.1, h.2⟩
theorem pw_inT {w : Cond} (h : (decide (w ∈ lw_tbl) && goodWord w) = true) : w ∈ pw_T := by
  rw [Bool.and_eq_true, decide_eq_true_eq] at h
  exact List.mem_filter.mpr h
def pw_nat (i : Nat) (f : Cond → Bool) : Bool := match lw_tbl[i]? with
  | some w => f w
  | none => false
def pw_nestF (own : String) (idx ci k : Nat) (w : Cond) : Bool := match w with
  | .fieldLinkNest a b r n d _ => decide (a = own) && decide (b = idx) && decide (r = (pw_tb ci k).1) && decide (n = (pw_tb ci k).2.1) && decide (d = (pw_tb ci k).2.2.1)
  | _ => false
def pw_nestM (own : String) (idx : Nat) (x : MethodName) (w : Cond) : Bool := match w with
  | .methodLinkNest a b y _ => decide (a = own) && decide (b = idx) && decide (y = x)
  | _ => false
theorem pw_clok_all : ∀ ci, ci < 8 → pw_clok ci := by
  intro ci h
  have : ci = 0 ∨ ci = 1 ∨ ci = 2 ∨ ci = 3 ∨ ci = 4 ∨ ci = 5 ∨ ci = 6 ∨ ci = 7 := by omega
  have key : ∀ (ci : Nat), vwCl[ci]? = some (pw_R ci, pw_tb ci, pw_nf ci) → ((u_ws (pw_R ci) (pw_tb ci) (pw_nf ci)).all (fun w => decide (w ∈ lw_tbl) && goodWord w)) = true → (∀ k, k < pw_nf ci → parseFieldDescriptor (pw_tb ci k).2.2.1 = some (pw_ty ci k)) → (∀ a, a < pw_nf ci → ∀ b, b < pw_nf ci → a ≠ b → (pw_tb ci a).2.1 ≠ (pw_tb ci b).2.1) → pw_clok ci :=
    fun ci h1 h2 h3 h4 => ⟨h1, fun w hw => pw_inT (List.all_eq_true.mp h2 w hw), h3, h4⟩
  rcases this with rfl | rfl | rfl | rfl | rfl | rfl | rfl | rfl
  · exact key 0 rfl (by decide +kernel) tyX0_ok nmX0
  · exact key 1 rfl (by decide +kernel) tyX1_ok nmX1
  · exact key 2 rfl (by decide +kernel) tyX2_ok nmX2
  · exact key 3 rfl (by decide +kernel) tyX3_ok nmX3
  · exact key 4 rfl (by decide +kernel) tyX4_ok nmX4
  · exact key 5 rfl (by decide +kernel) tyX5_ok nmX5
  · exact key 6 rfl (by decide +kernel) tyX6_ok nmX6
  · exact key 7 rfl (by decide +kernel) tyX7_ok nmX7
def pw_flb (q : (Nat × Nat × Nat × String) × Nat) : Bool :=
  (pw_at q.2 (Cond.fieldLink q.1.2.2.2 q.1.1 (pw_tb q.1.2.1 q.1.2.2.1).1 (pw_tb q.1.2.1 q.1.2.2.1).2.1 (pw_tb q.1.2.1 q.1.2.2.1).2.2.1) || pw_nat q.2 (pw_nestF q.1.2.2.2 q.1.1 q.1.2.1 q.1.2.2.1)) && (Nat.blt q.1.2.1 8 && Nat.blt q.1.2.2.1 (pw_nf q.1.2.1))
theorem pw_flb_ok {q : (Nat × Nat × Nat × String) × Nat} (h : pw_flb q = true) : pw_fl q.1.2.2.2 q.1.1 q.1.2.1 q.1.2.2.1 ∧ q.1.2.1 < 8 ∧ q.1.2.2.1 < pw_nf q.1.2.1 := by
  unfold pw_flb at h
  rw [Bool.and_eq_true, Bool.and_eq_true, Bool.or_eq_true] at h
  obtain ⟨h, h2, h3⟩ := h
  refine ⟨?_, Nat.blt_eq.mp h2, Nat.blt_eq.mp h3⟩
  rcases h with h | h
  · exact Or.inl (pw_at_ok h)
  · unfold pw_nat at h
    split at h
    · rename_i w hw
      refine Or.inr ?_
      unfold pw_nestF at h
      split at h
      · simp only [Bool.and_eq_true, decide_eq_true_eq] at h
        obtain ⟨⟨⟨⟨rfl, rfl⟩, rfl⟩, rfl⟩, rfl⟩ := h
        exact ⟨_, List.mem_filter.mpr ⟨List.mem_of_getElem? hw, rfl⟩⟩
      · cases h
    · cases h
def pw_fls : List (Nat × Nat × Nat × String) := pw_flx.map (fun q => q.1)
theorem pw_fls_ok : ∀ q ∈ pw_fls, pw_fl q.2.2.2 q.1 q.2.1 q.2.2.1 ∧ q.2.1 < 8 ∧ q.2.2.1 < pw_nf q.2.1 := by
  have h : pw_flx.all pw_flb = true := by decide +kernel
  intro q hq
  obtain ⟨r, hr, rfl⟩ := List.mem_map.mp hq
  exact pw_flb_ok (List.all_eq_true.mp h r hr)
/-- what a method has, whoever calls it -/
def pm_me (y : pm_I) (nargs : Nat) : Prop := Cond.code y.1 y.2.1 y.2.2.1 y.2.2.2 ∈ pw_T ∧ Cond.initialized y.1.cls ∈ pw_T ∧
  (y.1.cls ≠ "java/lang/invoke/MethodHandle" ∧ y.1.cls ≠ "java/lang/invoke/VarHandle" ∧ (parseMethodDescriptor y.1.desc).map (fun d => d.parameters.length) = some nargs) ∧ y.2.2.1 ≤ 11
def pm_meb (y : pm_I) (nargs i j : Nat) : Bool := pw_at i (Cond.code y.1 y.2.1 y.2.2.1 y.2.2.2) && (pw_at j (Cond.initialized y.1.cls) &&
  (decide (y.1.cls ≠ "java/lang/invoke/MethodHandle" ∧ y.1.cls ≠ "java/lang/invoke/VarHandle" ∧ (parseMethodDescriptor y.1.desc).map (fun d => d.parameters.length) = some nargs) && Nat.ble y.2.2.1 11))
theorem pm_meb_ok {y : pm_I} {nargs i j : Nat} (h : pm_meb y nargs i j = true) : pm_me y nargs := by
  unfold pm_meb at h
  rw [Bool.and_eq_true, Bool.and_eq_true, Bool.and_eq_true] at h
  obtain ⟨h1, h2, h3, h4⟩ := h
  exact ⟨pw_at_ok h1, pw_at_ok h2, of_decide_eq_true h3, Nat.le_of_ble_eq_true h4⟩
theorem pw_ms_ok : ∀ q ∈ pw_msx, pm_me (pw_Ms q.1.1) q.1.2 ∧ Cond.static (pw_Ms q.1.1).1 ∈ pw_T := by
  have h : pw_msx.all (fun q => pm_meb (pw_Ms q.1.1) q.1.2 q.2.1 q.2.2.1 && pw_at q.2.2.2 (Cond.static (pw_Ms q.1.1).1)) = true := by decide +kernel
  intro q hq
  have h1 := List.all_eq_true.mp h q hq
  rw [Bool.and_eq_true] at h1
  exact ⟨pm_meb_ok h1.1, pw_at_ok h1.2⟩
def pw_mvb (q : (Nat × Nat × Nat) × Nat × Nat × Nat × Nat) : Bool := pm_meb (pw_Ms q.1.1) q.1.2.1 q.2.1 q.2.2.1 && (pw_at q.2.2.2.1 (Cond.instanceMethod (pw_Ms q.1.1).1) && (pw_at q.2.2.2.2 (Cond.selects (pw_Ms q.1.1).1.cls (pw_Ms q.1.1).1 (pw_Ms q.1.1).1) && (Nat.blt q.1.2.2 8 && decide (pw_R q.1.2.2 = (pw_Ms q.1.1).1.cls))))
theorem pw_mv_ok : ∀ q ∈ pw_mvx, pm_me (pw_Ms q.1.1) q.1.2.1 ∧ Cond.instanceMethod (pw_Ms q.1.1).1 ∈ pw_T ∧ Cond.selects (pw_Ms q.1.1).1.cls (pw_Ms q.1.1).1 (pw_Ms q.1.1).1 ∈ pw_T ∧ q.1.2.2 < 8 ∧ pw_R q.1.2.2 = (pw_Ms q.1.1).1.cls ∧ pw_clok q.1.2.2 := by
  have h0 : (pw_mvx.take 30).all pw_mvb = true := by decide +kernel
  have h1 : ((pw_mvx.drop 30).take 30).all pw_mvb = true := by decide +kernel
  have h2 : ((pw_mvx.drop 60).take 30).all pw_mvb = true := by decide +kernel
  have h3 : ((pw_mvx.drop 90).take 30).all pw_mvb = true := by decide +kernel
  have h4 : (pw_mvx.drop 120).all pw_mvb = true := by decide +kernel
  have h : pw_mvx.all pw_mvb = true := by
    have e : pw_mvx = pw_mvx.take 30 ++ ((pw_mvx.drop 30).take 30 ++ ((pw_mvx.drop 60).take 30 ++ ((pw_mvx.drop 90).take 30 ++ pw_mvx.drop 120))) := by decide +kernel
    rw [e, List.all_append, List.all_append, List.all_append, List.all_append, h0, h1, h2, h3, h4]
    rfl
  intro q hq
  have h1 := List.all_eq_true.mp h q hq
  unfold pw_mvb at h1
  rw [Bool.and_eq_true, Bool.and_eq_true, Bool.and_eq_true, Bool.and_eq_true] at h1
  obtain ⟨h1, h2, h3, h4, h5⟩ := h1
  exact ⟨pm_meb_ok h1, pw_at_ok h2, pw_at_ok h3, Nat.blt_eq.mp h4, of_decide_eq_true h5, pw_clok_all _ (Nat.blt_eq.mp h4)⟩
def pm_lkb (own : String) (idx : Nat) (x : MethodName) (i : Nat) : Bool := pw_at i (Cond.methodLink own idx x) || pw_nat i (pw_nestM own idx x)
theorem pm_lkb_ok {own : String} {idx : Nat} {x : MethodName} {i : Nat} (h : pm_lkb own idx x i = true) : Cond.methodLink own idx x ∈ pw_T ∨ ∃ host, Cond.methodLinkNest own idx x host ∈ pw_N := by
  unfold pm_lkb at h
  rw [Bool.or_eq_true] at h
  rcases h with h | h
  · exact Or.inl (pw_at_ok h)
  · unfold pw_nat at h
    split at h
    · rename_i w hw
      refine Or.inr ?_
      unfold pw_nestM at h
      split at h
      · simp only [Bool.and_eq_true, decide_eq_true_eq] at h
        obtain ⟨⟨rfl, rfl⟩, rfl⟩ := h
        exact ⟨_, List.mem_filter.mpr ⟨List.mem_of_getElem? hw, rfl⟩⟩
      · cases h
    · cases h
theorem pm_me.ln {own : String} {idx nargs : Nat} {y : pm_I} (h : pm_me y nargs) (hl : Cond.methodLink own idx y.1 ∈ pw_T ∨ ∃ host, Cond.methodLinkNest own idx y.1 host ∈ pw_N) : pm_ln own idx y nargs := ⟨h.1, h.2.1, hl, h.2.2.1, h.2.2.2⟩
def pw_sls : List (Nat × Nat × Nat × String) := pw_slx.map (fun q => q.1)
theorem pw_sls_ok : ∀ q ∈ pw_sls, pm_lnS q.2.2.2 q.1 (pw_Ms q.2.1) q.2.2.1 := by
  have h : pw_slx.all (fun q => pm_lkb q.1.2.2.2 q.1.1 (pw_Ms q.1.2.1).1 q.2 && pw_msx.any (fun r => Nat.beq r.1.1 q.1.2.1 && Nat.beq r.1.2 q.1.2.2.1)) = true := by decide +kernel
  intro q hq
  obtain ⟨x, hx, rfl⟩ := List.mem_map.mp hq
  have h1 := List.all_eq_true.mp h x hx
  rw [Bool.and_eq_true] at h1
  obtain ⟨r, hr, h2⟩ := List.any_eq_true.mp h1.2
  rw [Bool.and_eq_true] at h2
  have h3 := pw_ms_ok r hr
  rw [Nat.eq_of_beq_eq_true h2.1, Nat.eq_of_beq_eq_true h2.2] at h3
  exact ⟨h3.1.ln (pm_lkb_ok h1.1), h3.2⟩
def pw_vls : List (Nat × Nat × Nat × Nat × String) := pw_vlx.map (fun q => q.1)
def pw_vlb (q : (Nat × Nat × Nat × Nat × String) × Nat) : Bool := pm_lkb q.1.2.2.2.2 q.1.1 (pw_Ms q.1.2.1).1 q.2 && pw_mvx.any (fun r => Nat.beq r.1.1 q.1.2.1 && (Nat.beq r.1.2.1 q.1.2.2.1 && Nat.beq r.1.2.2 q.1.2.2.2.1))
theorem pw_vls_ok : ∀ q ∈ pw_vls, pm_lnV q.2.2.2.2 q.1 (pw_Ms q.2.1) q.2.2.1 q.2.2.2.1 := by
  have h0 : (pw_vlx.take 60).all pw_vlb = true := by decide +kernel
  have h1 : ((pw_vlx.drop 60).take 60).all pw_vlb = true := by decide +kernel
  have h2 : (pw_vlx.drop 120).all pw_vlb = true := by decide +kernel
  have h : pw_vlx.all pw_vlb = true := by
    have e : pw_vlx = pw_vlx.take 60 ++ ((pw_vlx.drop 60).take 60 ++ pw_vlx.drop 120) := by decide +kernel
    rw [e, List.all_append, List.all_append, h0, h1, h2]
    rfl
  intro q hq
  obtain ⟨x, hx, rfl⟩ := List.mem_map.mp hq
  have h1 := List.all_eq_true.mp h x hx
  unfold pw_vlb at h1
  rw [Bool.and_eq_true] at h1
  obtain ⟨r, hr, h2⟩ := List.any_eq_true.mp h1.2
  rw [Bool.and_eq_true, Bool.and_eq_true] at h2
  have h3 := pw_mv_ok r hr
  rw [Nat.eq_of_beq_eq_true h2.1, Nat.eq_of_beq_eq_true h2.2.1, Nat.eq_of_beq_eq_true h2.2.2] at h3
  exact ⟨h3.1.ln (pm_lkb_ok h1.1), h3.2⟩
def pw_csl : List (Nat × Int32 × String) := pw_csx.map (fun q => q.1)
theorem pw_csl_ok : ∀ q ∈ pw_csl, Cond.constant q.2.2 q.1 q.2.1 ∈ pw_T := by
  have h : pw_csx.all (fun q => pw_at q.2 (Cond.constant q.1.2.2 q.1.1 q.1.2.1)) = true := by decide +kernel
  intro q hq
  obtain ⟨x, hx, rfl⟩ := List.mem_map.mp hq
  exact pw_at_ok (List.all_eq_true.mp h x hx)
/-- the check of an entry, for the kernel -/
def pm_okb (own : String) (code : ByteArray) (pc : Nat) (q : pm_E) : Bool := match q with
  | (i, nx, a, b, c, v, sw) => decide (decode code pc = .ok (i, nx - pc)) && (decide (pc < nx) && match i with
    | .iconst x => decide (nx = pc + 1 ∧ Int32.ofInt x = v)
    | .bipush x => decide (nx = pc + 2 ∧ (Int8.ofInt x).toInt32 = v)
    | .sipush x => decide (nx = pc + 3 ∧ (Int16.ofInt x).toInt32 = v)
    | .ldc x => decide (nx = pc + 2 ∧ (x, v, own) ∈ pw_csl)
    | .ldc_w x => decide (nx = pc + 3 ∧ (x, v, own) ∈ pw_csl)
    | .iload _ => decide (nx = pc + 2)
    | .aload _ => decide (nx = pc + 2)
    | .istore _ => decide (nx = pc + 2)
    | .astore _ => decide (nx = pc + 2)
    | .iinc _ x => decide (nx = pc + 3 ∧ Int32.ofInt x = v)
    | .goto off => decide (nx = pc + 3 ∧ (pc : Int) + off = (a : Int))
    | .ifCond _ off => decide (nx = pc + 3 ∧ (pc : Int) + off = (a : Int))
    | .if_icmp _ off => decide (nx = pc + 3 ∧ (pc : Int) + off = (a : Int))
    | .tableswitch d lo hi offs => decide ((pc : Int) + d = (a : Int) ∧ -2147483648 ≤ lo ∧ hi < 2147483648 ∧ offs.size = (hi + 1 - lo).toNat ∧ sw = (List.range offs.size).map (fun (j : Nat) => (Int32.ofInt (lo + (j : Int)), ((pc : Int) + offs.getD j 0).toNat)) ∧ (List.range offs.size).all (fun (j : Nat) => decide (0 ≤ (pc : Int) + offs.getD j 0)) = true)
    | .lookupswitch d ps => decide ((pc : Int) + d = (a : Int) ∧ (ps.toList.zip (ps.toList.drop 1)).all (fun (a, next) => a.1 < next.1) = true ∧ sw = ps.toList.map (fun q => (Int32.ofInt q.1, ((pc : Int) + q.2).toNat)) ∧ ps.toList.all (fun q => decide (0 ≤ (pc : Int) + q.2 ∧ -2147483648 ≤ q.1 ∧ q.1 < 2147483648)) = true)
    | .getfield x => decide (nx = pc + 3 ∧ (x, a, b, own) ∈ pw_fls ∧ pw_rf a b = (match sw with
      | [] => false
      | _ => true))
    | .putfield x => decide (nx = pc + 3 ∧ (x, a, b, own) ∈ pw_fls ∧ pw_rf a b = false ∧ (pw_tb a b).2.2.2 = false ∧ pw_ty a b = (match sw with
      | [] => .int
      | _ => .boolean))
    | .invokestatic x => decide (nx = pc + 3 ∧ (x, a, b, own) ∈ pw_sls)
    | .invokevirtual x => decide (nx = pc + 3 ∧ (x, a, b, c, own) ∈ pw_vls)
    | _ => decide (nx = pc + 1))
theorem pm_okb_ok {y : pm_I} {pc : Nat} {q : pm_E} (h : pm_okb y.1.cls y.2.1 pc q = true) : pm_ok y pw_Ms pc q := by
  obtain ⟨i, nx, a, b, c, v, sw⟩ := q
  unfold pm_okb at h
  dsimp only at h
  rw [Bool.and_eq_true, Bool.and_eq_true, decide_eq_true_eq, decide_eq_true_eq] at h
  obtain ⟨h1, h2, h⟩ := h
  refine ⟨h1, h2, ?_⟩
  cases i <;> (try dsimp only at h ⊢) <;> rw [decide_eq_true_eq] at h <;> try exact h
  case ldc x => exact ⟨h.1, pw_csl_ok _ h.2⟩
  case ldc_w x => exact ⟨h.1, pw_csl_ok _ h.2⟩
  case getfield x =>
    obtain ⟨h3, h4, h5⟩ := h
    obtain ⟨h6, h7, h8⟩ := pw_fls_ok _ h4
    exact ⟨h3, h7, pw_clok_all _ h7, h8, h6, h5⟩
  case putfield x =>
    obtain ⟨h3, h4, h5, h9, h10⟩ := h
    obtain ⟨h6, h7, h8⟩ := pw_fls_ok _ h4
    refine ⟨h3, h7, pw_clok_all _ h7, h8, h6, h5, h9, ?_⟩
    cases sw <;> exact h10
  case invokestatic x => exact ⟨h.1, pw_sls_ok _ h.2⟩
  case invokevirtual x => exact ⟨h.1, pw_vls_ok _ h.2⟩
def pm_lk : List (Nat × pm_E) → Nat → pm_E
  | [], _ => (.nop, 0, 0, 0, 0, 0, [])
  | (k, q) :: r, pc => bif Nat.beq k pc then q else pm_lk r pc
theorem pm_lk_ok {y : pm_I} {lt : List (Nat × pm_E)} (h : lt.all (fun q => pm_okb y.1.cls y.2.1 q.1 q.2) = true) : ∀ pc, (pm_lk lt pc).1 = .nop ∨ pm_ok y pw_Ms pc (pm_lk lt pc) := by
  intro pc
  induction lt with
  | nil => exact Or.inl rfl
  | cons q r ih =>
    obtain ⟨k, q⟩ := q
    rw [List.all_cons, Bool.and_eq_true] at h
    unfold pm_lk
    cases e : Nat.beq k pc with
    | true =>
      have : k = pc := Nat.eq_of_beq_eq_true e
      subst this
      exact Or.inr (pm_okb_ok h.1)
    | false => exact ih h.2

