/-! classes, methods, call sites, fields, constants: by program out of the claim's own tables -/
def gR : Nat → String := fun c => match c with
  | 0 => RX0
  | 1 => RX1
  | 2 => RX2
  | 3 => RX3
  | 4 => RX4
  | 5 => RX5
  | 6 => RX6
  | 7 => RX7
  | 8 => RX8
  | 9 => RX9
  | 11 => RL
  | _ => "java/lang/Integer"
def gT : Nat → u_T := fun c => match c with
  | 0 => TX0
  | 1 => TX1
  | 2 => TX2
  | 3 => TX3
  | 4 => TX4
  | 5 => TX5
  | 6 => TX6
  | 7 => TX7
  | 8 => TX8
  | 9 => TX9
  | _ => TX0
def gTy : Nat → Nat → FieldType := fun c => match c with
  | 0 => tyX0
  | 1 => tyX1
  | 2 => tyX2
  | 3 => tyX3
  | 4 => tyX4
  | 5 => tyX5
  | 6 => tyX6
  | 7 => tyX7
  | 8 => tyX8
  | 9 => tyX9
  | _ => tyX0
def gN : Nat → Nat := fun c => match c with
  | 0 => 5
  | 1 => 1
  | 2 => 8
  | 3 => 3
  | 4 => 7
  | 5 => 9
  | 6 => 3
  | 7 => 4
  | 8 => 13
  | 9 => 19
  | _ => 0
abbrev gCl : List vw_C := [(RX0, TX0, 5), (RX1, TX1, 1), (RX2, TX2, 8), (RX3, TX3, 3), (RX4, TX4, 7), (RX5, TX5, 9), (RX6, TX6, 3), (RX7, TX7, 4), (RX8, TX8, 13), (RX9, TX9, 19)]
abbrev gMe : Type := MethodName × ByteArray × Nat × Option FieldType × Nat × Bool × Nat
abbrev gM0 : gMe := (yX0_init, cX0_init, 1, none, 0, false, 0)
abbrev gM1 : gMe := (yX0_find, cX0_find, 8, none, 4, false, 0)
abbrev gM2 : gMe := (yX0_sendCrew, cX0_sendCrew, 4, none, 3, true, 0)
abbrev gM3 : gMe := (yX0_choose, cX0_choose, 6, none, 4, false, 0)
abbrev gM4 : gMe := (yX0_tryGoal, cX0_tryGoal, 9, none, 5, false, 0)
abbrev gM5 : gMe := (yX0_noteIfBetter, cX0_noteIfBetter, 3, none, 1, false, 0)
abbrev gM6 : gMe := (yX1_init, cX1_init, 1, none, 0, false, 1)
abbrev gM7 : gMe := (yX1_form, cX1_form, 4, none, 2, false, 1)
abbrev gM8 : gMe := (yX1_merge, cX1_merge, 4, none, 2, false, 1)
abbrev gM9 : gMe := (yX1_areOne, cX1_areOne, 3, (some .boolean), 2, false, 1)
abbrev gM10 : gMe := (yX1_pairsJoined, cX1_pairsJoined, 3, (some .int), 2, false, 1)
abbrev gM11 : gMe := (yX1_sizeWith, cX1_sizeWith, 4, (some .int), 1, false, 1)
abbrev gM12 : gMe := (yX1_howMany, cX1_howMany, 5, (some .int), 1, false, 1)
abbrev gM13 : gMe := (yX2_init, cX2_init, 1, none, 0, false, 2)
abbrev gM14 : gMe := (yX2_clear, cX2_clear, 1, none, 0, false, 2)
abbrev gM15 : gMe := (yX2_addGap, cX2_addGap, 3, none, 1, false, 2)
abbrev gM16 : gMe := (yX2_addStitcher, cX2_addStitcher, 3, none, 1, false, 2)
abbrev gM17 : gMe := (yX2_addRain, cX2_addRain, 2, none, 1, false, 2)
abbrev gM18 : gMe := (yX2_ofGap, cX2_ofGap, 4, (some .int), 2, false, 2)
abbrev gM19 : gMe := (yX2_ofStitcher, cX2_ofStitcher, 4, (some .int), 2, false, 2)
abbrev gM20 : gMe := (yX2_isLight, cX2_isLight, 2, (some .boolean), 1, false, 2)
abbrev gM21 : gMe := (yX2_lightLeft, cX2_lightLeft, 2, (some .int), 1, false, 2)
abbrev gM22 : gMe := (yX2_rainsIn, cX2_rainsIn, 2, (some .boolean), 1, false, 2)
abbrev gM23 : gMe := (yX2_sewnInHour, cX2_sewnInHour, 5, (some .int), 2, false, 2)
abbrev gM24 : gMe := (yX2_oneSeamOn, cX2_oneSeamOn, 6, (some .int), 2, false, 2)
abbrev gM25 : gMe := (yX3_init, cX3_init, 1, none, 0, false, 3)
abbrev gM26 : gMe := (yX3_read, cX3_read, 6, (some .int), 3, false, 3)
abbrev gM27 : gMe := (yX3_readNumbers, cX3_readNumbers, 9, (some .int), 3, false, 3)
abbrev gM28 : gMe := (yX3_takeItem, cX3_takeItem, 3, (some .boolean), 2, false, 3)
abbrev gM29 : gMe := (yX3_takePieces, cX3_takePieces, 2, (some .boolean), 1, false, 3)
abbrev gM30 : gMe := (yX3_takeGap, cX3_takeGap, 2, (some .boolean), 1, false, 3)
abbrev gM31 : gMe := (yX3_takeStitcher, cX3_takeStitcher, 2, (some .boolean), 1, false, 3)
abbrev gM32 : gMe := (yX3_takeLight, cX3_takeLight, 2, (some .boolean), 1, false, 3)
abbrev gM33 : gMe := (yX3_takeRain, cX3_takeRain, 2, (some .boolean), 1, false, 3)
abbrev gM34 : gMe := (yX3_has, cX3_has, 4, (some .boolean), 3, false, 3)
abbrev gM35 : gMe := (yX4_init, cX4_init, 2, none, 0, false, 4)
abbrev gM36 : gMe := (yX4_start, cX4_start, 5, none, 3, false, 4)
abbrev gM37 : gMe := (yX4_lengthen, cX4_lengthen, 6, none, 3, false, 4)
abbrev gM38 : gMe := (yX4_tryNext, cX4_tryNext, 8, none, 5, false, 4)
abbrev gM39 : gMe := (yX4_noteIfBetter, cX4_noteIfBetter, 4, none, 2, false, 4)
abbrev gM40 : gMe := (yX4_standingBehind, cX4_standingBehind, 2, (some (.object "SeamMere$Standing")), 1, false, 4)
abbrev gM41 : gMe := (yX5_init, cX5_init, 1, none, 0, false, 5)
abbrev gM42 : gMe := (yX5_clear, cX5_clear, 1, none, 0, false, 5)
abbrev gM43 : gMe := (yX5_add, cX5_add, 4, none, 3, false, 5)
abbrev gM44 : gMe := (yX5_weigh, cX5_weigh, 5, none, 2, false, 5)
abbrev gM45 : gMe := (yX5_clearWeights, cX5_clearWeights, 2, none, 0, false, 5)
abbrev gM46 : gMe := (yX5_fits, cX5_fits, 3, (some .boolean), 1, false, 5)
abbrev gM47 : gMe := (yX5_countPairs, cX5_countPairs, 6, none, 2, false, 5)
abbrev gM48 : gMe := (yX5_choosePair, cX5_choosePair, 6, none, 1, false, 5)
abbrev gM49 : gMe := (yX5_isSeen, cX5_isSeen, 6, (some .boolean), 2, false, 5)
abbrev gM50 : gMe := (yX6_init, cX6_init, 3, none, 1, false, 6)
abbrev gM51 : gMe := (yX6_clear, cX6_clear, 1, none, 0, false, 6)
abbrev gM52 : gMe := (yX6_add, cX6_add, 3, none, 1, false, 6)
abbrev gM53 : gMe := (yX6_takeLast, cX6_takeLast, 3, none, 1, false, 6)
abbrev gM54 : gMe := (yX6_standingAt, cX6_standingAt, 3, (some (.object "SeamMere$Standing")), 1, false, 6)
abbrev gM55 : gMe := (yX6_slotOf, cX6_slotOf, 2, (some .int), 1, false, 6)
abbrev gM56 : gMe := (yX7_init, cX7_init, 1, none, 0, false, 7)
abbrev gM57 : gMe := (yX7_begin, cX7_begin, 3, none, 1, false, 7)
abbrev gM58 : gMe := (yX7_copyFrom, cX7_copyFrom, 3, none, 1, false, 7)
abbrev gM59 : gMe := (yX7_stitchesOf, cX7_stitchesOf, 2, (some .int), 1, false, 7)
abbrev gM60 : gMe := (yX7_placeOf, cX7_placeOf, 2, (some .int), 1, false, 7)
abbrev gM61 : gMe := (yX7_goalOf, cX7_goalOf, 2, (some .int), 1, false, 7)
abbrev gM62 : gMe := (yX7_isClosed, cX7_isClosed, 3, (some .boolean), 2, false, 7)
abbrev gM63 : gMe := (yX7_closedBits, cX7_closedBits, 4, (some .int), 1, false, 7)
abbrev gM64 : gMe := (yX7_allStitches, cX7_allStitches, 4, (some .int), 1, false, 7)
abbrev gM65 : gMe := (yX7_sentOnes, cX7_sentOnes, 4, (some .int), 1, false, 7)
abbrev gM66 : gMe := (yX7_aim, cX7_aim, 3, none, 2, false, 7)
abbrev gM67 : gMe := (yX7_callAllOff, cX7_callAllOff, 2, none, 0, false, 7)
abbrev gM68 : gMe := (yX7_cutOpen, cX7_cutOpen, 2, none, 1, false, 7)
abbrev gM69 : gMe := (yX7_liveThrough, cX7_liveThrough, 4, none, 2, false, 7)
abbrev gM70 : gMe := (yX7_closeWithin, cX7_closeWithin, 5, (some .int), 3, false, 7)
abbrev gM71 : gMe := (yX7_liveHour, cX7_liveHour, 4, none, 2, false, 7)
abbrev gM72 : gMe := (yX7_flyOrSew, cX7_flyOrSew, 7, none, 2, false, 7)
abbrev gM73 : gMe := (yX7_callOffFrom, cX7_callOffFrom, 3, none, 1, false, 7)
abbrev gM74 : gMe := (yX7_unpick, cX7_unpick, 4, none, 1, false, 7)
abbrev gM75 : gMe := (yX8_init, cX8_init, 3, none, 0, false, 8)
abbrev gM76 : gMe := (yX8_write, cX8_write, 2, (some .int), 1, false, 8)
abbrev gM77 : gMe := (yX8_wipe, cX8_wipe, 2, (some .int), 0, false, 8)
abbrev gM78 : gMe := (yX8_fault, cX8_fault, 1, (some .int), 0, false, 8)
abbrev gM79 : gMe := (yX8_lay, cX8_lay, 2, (some .int), 0, false, 8)
abbrev gM80 : gMe := (yX8_gap, cX8_gap, 3, (some .int), 2, false, 8)
abbrev gM81 : gMe := (yX8_stitcher, cX8_stitcher, 3, (some .int), 2, false, 8)
abbrev gM82 : gMe := (yX8_sky, cX8_sky, 4, (some .int), 2, false, 8)
abbrev gM83 : gMe := (yX8_together, cX8_together, 3, (some .int), 2, false, 8)
abbrev gM84 : gMe := (yX8_send, cX8_send, 5, (some .int), 2, false, 8)
abbrev gM85 : gMe := (yX8_pass, cX8_pass, 2, (some .int), 1, false, 8)
abbrev gM86 : gMe := (yX8_frog, cX8_frog, 2, (some .int), 1, false, 8)
abbrev gM87 : gMe := (yX8_undo, cX8_undo, 1, (some .int), 0, false, 8)
abbrev gM88 : gMe := (yX8_closes, cX8_closes, 2, (some .int), 1, false, 8)
abbrev gM89 : gMe := (yX8_dusk, cX8_dusk, 1, (some .int), 0, false, 8)
abbrev gM90 : gMe := (yX8_order, cX8_order, 4, (some .int), 3, false, 8)
abbrev gM91 : gMe := (yX8_deal, cX8_deal, 3, (some .int), 2, false, 8)
abbrev gM92 : gMe := (yX8_cut, cX8_cut, 7, (some .int), 2, false, 8)
abbrev gM93 : gMe := (yX8_between, cX8_between, 7, (some .int), 2, false, 8)
abbrev gM94 : gMe := (yX8_joins, cX8_joins, 6, (some .int), 1, false, 8)
abbrev gM95 : gMe := (yX8_see, cX8_see, 4, (some .int), 3, false, 8)
abbrev gM96 : gMe := (yX8_forget, cX8_forget, 2, (some .int), 0, false, 8)
abbrev gM97 : gMe := (yX8_seamed, cX8_seamed, 2, (some .int), 1, false, 8)
abbrev gM98 : gMe := (yX8_tells, cX8_tells, 2, (some .int), 1, false, 8)
abbrev gM99 : gMe := (yX8_showers, cX8_showers, 9, (some .int), 4, false, 8)
abbrev gM100 : gMe := (yX8_summer, cX8_summer, 5, (some .int), 3, false, 8)
abbrev gM101 : gMe := (yX8_keep, cX8_keep, 1, (some .int), 0, false, 8)
abbrev gM102 : gMe := (yX8_back, cX8_back, 1, (some .int), 0, false, 8)
abbrev gM103 : gMe := (yX8_count, cX8_count, 2, (some .int), 1, false, 8)
abbrev gM104 : gMe := (yX8_beginAnew, cX8_beginAnew, 1, none, 0, false, 8)
abbrev gM105 : gMe := (yX8_isGap, cX8_isGap, 2, (some .boolean), 1, false, 8)
abbrev gM106 : gMe := (yX8_isStitcher, cX8_isStitcher, 2, (some .boolean), 1, false, 8)
abbrev gM107 : gMe := (yX8_isPiece, cX8_isPiece, 2, (some .boolean), 1, false, 8)
abbrev gM108 : gMe := (yX8_weightOf, cX8_weightOf, 5, (some .int), 3, true, 8)
abbrev gM109 : gMe := (yX8_isClosedBehind, cX8_isClosedBehind, 5, (some .boolean), 3, false, 8)
abbrev gM110 : gMe := (yX8_drawOf, cX8_drawOf, 4, (some .int), 2, true, 8)
abbrev gM111 : gMe := (yX8_actByDraw, cX8_actByDraw, 4, none, 1, false, 8)
abbrev gM112 : gMe := (yX8_commonDivisor, cX8_commonDivisor, 6, (some .int), 2, true, 8)
abbrev gM113 : gMe := (yX8_isIn, cX8_isIn, 3, (some .boolean), 3, true, 8)
abbrev gM114 : gMe := (yX8_isBit, cX8_isBit, 2, (some .boolean), 2, true, 8)
abbrev gM115 : gMe := (yX8_bitOf, cX8_bitOf, 2, (some .int), 2, true, 8)
abbrev gM116 : gMe := (yX8_asNumber, cX8_asNumber, 1, (some .int), 1, true, 8)
abbrev gM117 : gMe := (yX8_at, cX8_at, 2, (some .int), 2, true, 8)
abbrev gM118 : gMe := (yX8_setAt, cX8_setAt, 3, none, 3, true, 8)
abbrev gM119 : gMe := (yX9_init, cX9_init, 2, none, 0, false, 9)
abbrev gM120 : gMe := (yX9_gapTold, cX9_gapTold, 7, none, 5, false, 9)
abbrev gM121 : gMe := (yX9_stitcherTold, cX9_stitcherTold, 4, none, 3, false, 9)
abbrev gM122 : gMe := (yX9_in, cX9_in, 3, (some .boolean), 3, true, 9)
abbrev gM123 : gMe := (yX9_has, cX9_has, 2, (some .boolean), 2, true, 9)
abbrev gM124 : gMe := (yX9_bits, cX9_bits, 3, (some .int), 1, true, 9)
abbrev gM125 : gMe := (yX9_write, cX9_write, 2, (some .int), 1, false, 9)
abbrev gM126 : gMe := (yX9_wipe, cX9_wipe, 2, (some .int), 0, false, 9)
abbrev gM127 : gMe := (yX9_letterAt, cX9_letterAt, 2, (some .int), 1, false, 9)
abbrev gM128 : gMe := (yX9_isFigure, cX9_isFigure, 1, (some .boolean), 1, true, 9)
abbrev gM129 : gMe := (yX9_readsNumbers, cX9_readsNumbers, 4, (some .boolean), 1, false, 9)
abbrev gM130 : gMe := (yX9_readsPieces, cX9_readsPieces, 1, (some .boolean), 0, false, 9)
abbrev gM131 : gMe := (yX9_readsGap, cX9_readsGap, 4, (some .boolean), 0, false, 9)
abbrev gM132 : gMe := (yX9_readsStitcher, cX9_readsStitcher, 3, (some .boolean), 0, false, 9)
abbrev gM133 : gMe := (yX9_readsLight, cX9_readsLight, 1, (some .boolean), 0, false, 9)
abbrev gM134 : gMe := (yX9_readsRain, cX9_readsRain, 1, (some .boolean), 0, false, 9)
abbrev gM135 : gMe := (yX9_readsItem, cX9_readsItem, 2, (some .boolean), 0, false, 9)
abbrev gM136 : gMe := (yX9_fault, cX9_fault, 2, (some .int), 0, false, 9)
abbrev gM137 : gMe := (yX9_lay, cX9_lay, 2, (some .int), 0, false, 9)
abbrev gM138 : gMe := (yX9_isGap, cX9_isGap, 2, (some .boolean), 1, false, 9)
abbrev gM139 : gMe := (yX9_isStitcher, cX9_isStitcher, 2, (some .boolean), 1, false, 9)
abbrev gM140 : gMe := (yX9_isPiece, cX9_isPiece, 2, (some .boolean), 1, false, 9)
abbrev gM141 : gMe := (yX9_of, cX9_of, 3, (some .int), 2, false, 9)
abbrev gM142 : gMe := (yX9_isClosed, cX9_isClosed, 3, (some .boolean), 2, false, 9)
abbrev gM143 : gMe := (yX9_closed, cX9_closed, 4, (some .int), 1, false, 9)
abbrev gM144 : gMe := (yX9_isLight, cX9_isLight, 2, (some .boolean), 1, false, 9)
abbrev gM145 : gMe := (yX9_rains, cX9_rains, 2, (some .boolean), 1, false, 9)
abbrev gM146 : gMe := (yX9_sews, cX9_sews, 5, (some .int), 2, false, 9)
abbrev gM147 : gMe := (yX9_flies, cX9_flies, 9, none, 2, false, 9)
abbrev gM148 : gMe := (yX9_passes, cX9_passes, 5, none, 2, false, 9)
abbrev gM149 : gMe := (yX9_goes, cX9_goes, 2, none, 1, false, 9)
abbrev gM150 : gMe := (yX9_gap, cX9_gap, 3, (some .int), 2, false, 9)
abbrev gM151 : gMe := (yX9_stitcher, cX9_stitcher, 3, (some .int), 2, false, 9)
abbrev gM152 : gMe := (yX9_sky, cX9_sky, 3, (some .int), 2, false, 9)
abbrev gM153 : gMe := (yX9_onward, cX9_onward, 6, (some .int), 2, false, 9)
abbrev gM154 : gMe := (yX9_reached, cX9_reached, 5, (some .int), 2, false, 9)
abbrev gM155 : gMe := (yX9_pairs, cX9_pairs, 4, (some .int), 1, false, 9)
abbrev gM156 : gMe := (yX9_heaps, cX9_heaps, 5, (some .int), 1, false, 9)
abbrev gM157 : gMe := (yX9_together, cX9_together, 3, (some .int), 2, false, 9)
abbrev gM158 : gMe := (yX9_remember, cX9_remember, 2, none, 0, false, 9)
abbrev gM159 : gMe := (yX9_isSendable, cX9_isSendable, 4, (some .boolean), 3, false, 9)
abbrev gM160 : gMe := (yX9_send, cX9_send, 4, (some .int), 2, false, 9)
abbrev gM161 : gMe := (yX9_pass, cX9_pass, 3, (some .int), 1, false, 9)
abbrev gM162 : gMe := (yX9_frog, cX9_frog, 2, (some .int), 1, false, 9)
abbrev gM163 : gMe := (yX9_undo, cX9_undo, 2, (some .int), 0, false, 9)
abbrev gM164 : gMe := (yX9_copyNow, cX9_copyNow, 2, none, 0, false, 9)
abbrev gM165 : gMe := (yX9_closes, cX9_closes, 3, (some .int), 1, false, 9)
abbrev gM166 : gMe := (yX9_dusk, cX9_dusk, 2, (some .int), 0, false, 9)
abbrev gM167 : gMe := (yX9_inRow, cX9_inRow, 5, (some .int), 2, false, 9)
abbrev gM168 : gMe := (yX9_rowHours, cX9_rowHours, 10, (some .int), 3, false, 9)
abbrev gM169 : gMe := (yX9_rowMany, cX9_rowMany, 4, (some .int), 1, false, 9)
abbrev gM170 : gMe := (yX9_order, cX9_order, 10, (some .int), 3, false, 9)
abbrev gM171 : gMe := (yX9_dealt, cX9_dealt, 5, (some .int), 2, false, 9)
abbrev gM172 : gMe := (yX9_closedBy, cX9_closedBy, 5, (some .int), 2, false, 9)
abbrev gM173 : gMe := (yX9_deal, cX9_deal, 8, (some .int), 2, false, 9)
abbrev gM174 : gMe := (yX9_cut, cX9_cut, 7, (some .int), 2, false, 9)
abbrev gM175 : gMe := (yX9_between, cX9_between, 5, (some .int), 2, false, 9)
abbrev gM176 : gMe := (yX9_joins, cX9_joins, 7, (some .int), 1, false, 9)
abbrev gM177 : gMe := (yX9_see, cX9_see, 4, (some .int), 3, false, 9)
abbrev gM178 : gMe := (yX9_forget, cX9_forget, 2, (some .int), 0, false, 9)
abbrev gM179 : gMe := (yX9_isSo, cX9_isSo, 4, (some .boolean), 1, false, 9)
abbrev gM180 : gMe := (yX9_seamed, cX9_seamed, 6, (some .int), 1, false, 9)
abbrev gM181 : gMe := (yX9_isSeen, cX9_isSeen, 5, (some .boolean), 2, false, 9)
abbrev gM182 : gMe := (yX9_tells, cX9_tells, 9, (some .int), 1, false, 9)
abbrev gM183 : gMe := (yX9_common, cX9_common, 5, (some .int), 2, true, 9)
abbrev gM184 : gMe := (yX9_showers, cX9_showers, 10, (some .int), 4, false, 9)
abbrev gM185 : gMe := (yX9_stitches, cX9_stitches, 4, (some .int), 1, false, 9)
abbrev gM186 : gMe := (yX9_draws, cX9_draws, 5, none, 2, false, 9)
abbrev gM187 : gMe := (yX9_summer, cX9_summer, 7, (some .int), 3, false, 9)
abbrev gM188 : gMe := (yX9_keep, cX9_keep, 2, (some .int), 0, false, 9)
abbrev gM189 : gMe := (yX9_back, cX9_back, 2, (some .int), 0, false, 9)
abbrev gM190 : gMe := (yX9_sent, cX9_sent, 3, (some .int), 0, false, 9)
abbrev gM191 : gMe := (yX9_count, cX9_count, 2, (some .int), 1, false, 9)
abbrev gM192 : gMe := (yJ6_bitCount_0f7a4, cJ6_bitCount_0f7a4, 1, (some .int), 1, true, 10)
abbrev gML : List gMe := [gM0, gM1, gM2, gM3, gM4, gM5, gM6, gM7, gM8, gM9, gM10, gM11, gM12, gM13, gM14, gM15, gM16, gM17, gM18, gM19, gM20, gM21, gM22, gM23, gM24, gM25, gM26, gM27, gM28, gM29, gM30, gM31, gM32, gM33, gM34, gM35, gM36, gM37, gM38, gM39, gM40, gM41, gM42, gM43, gM44, gM45, gM46, gM47, gM48, gM49, gM50, gM51, gM52, gM53, gM54, gM55, gM56, gM57, gM58, gM59, gM60, gM61, gM62, gM63, gM64, gM65, gM66, gM67, gM68, gM69, gM70, gM71, gM72, gM73, gM74, gM75, gM76, gM77, gM78, gM79, gM80, gM81, gM82, gM83, gM84, gM85, gM86, gM87, gM88, gM89, gM90, gM91, gM92, gM93, gM94, gM95, gM96, gM97, gM98, gM99, gM100, gM101, gM102, gM103, gM104, gM105, gM106, gM107, gM108, gM109, gM110, gM111, gM112, gM113, gM114, gM115, gM116, gM117, gM118, gM119, gM120, gM121, gM122, gM123, gM124, gM125, gM126, gM127, gM128, gM129, gM130, gM131, gM132, gM133, gM134, gM135, gM136, gM137, gM138, gM139, gM140, gM141, gM142, gM143, gM144, gM145, gM146, gM147, gM148, gM149, gM150, gM151, gM152, gM153, gM154, gM155, gM156, gM157, gM158, gM159, gM160, gM161, gM162, gM163, gM164, gM165, gM166, gM167, gM168, gM169, gM170, gM171, gM172, gM173, gM174, gM175, gM176, gM177, gM178, gM179, gM180, gM181, gM182, gM183, gM184, gM185, gM186, gM187, gM188, gM189, gM190, gM191, gM192]
abbrev gTB : List Cond := lw_tbl.filter goodWord
set_option maxRecDepth 100000 in
theorem gTB_in {w : Cond} {i : Nat} (h : lw_tbl[i]? = some w) (g : goodWord w = true) : w ∈ gTB := List.mem_filter.mpr ⟨List.mem_of_getElem? h, g⟩
/-- what the tables say of a method -/
def gMok (q : gMe) : Prop := Cond.code q.1 q.2.1 q.2.2.1 q.2.2.2.1 ∈ gTB ∧ Cond.initialized q.1.cls ∈ gTB ∧ (q.1.cls ≠ "java/lang/invoke/MethodHandle" ∧ q.1.cls ≠ "java/lang/invoke/VarHandle" ∧ (parseMethodDescriptor q.1.desc).map (fun d => d.parameters.length) = some q.2.2.2.2.1) ∧ plainName q.1.cls = true ∧ q.1.cls = gR q.2.2.2.2.2.2 ∧ q.2.2.1 ≤ 60 ∧ (if q.2.2.2.2.2.1 = true then Cond.static q.1 ∈ gTB else Cond.instanceMethod q.1 ∈ gTB) ∧ (q.2.2.2.2.2.1 = false → q.1.name ≠ "<init>" → Cond.selects q.1.cls q.1 q.1 ∈ gTB)
set_option maxRecDepth 100000 in
theorem gMok_0 : gMok gM0 := ⟨gTB_in (i := 290) (by decide +kernel) (by decide +kernel), gTB_in (i := 81) (by decide +kernel) (by decide +kernel), by decide +kernel, by decide +kernel, rfl, by decide, gTB_in (i := 289) (by decide +kernel) (by decide +kernel), fun _ h => absurd rfl h⟩
set_option maxRecDepth 100000 in
theorem gMok_1 : gMok gM1 := ⟨gTB_in (i := 734) (by decide +kernel) (by decide +kernel), gTB_in (i := 81) (by decide +kernel) (by decide +kernel), by decide +kernel, by decide +kernel, rfl, by decide, gTB_in (i := 732) (by decide +kernel) (by decide +kernel), fun _ _ => gTB_in (i := 733) (by decide +kernel) (by decide +kernel)⟩
set_option maxRecDepth 100000 in
theorem gMok_2 : gMok gM2 := ⟨gTB_in (i := 738) (by decide +kernel) (by decide +kernel), gTB_in (i := 81) (by decide +kernel) (by decide +kernel), by decide +kernel, by decide +kernel, rfl, by decide, gTB_in (i := 737) (by decide +kernel) (by decide +kernel), fun h _ => by cases h⟩
set_option maxRecDepth 100000 in
theorem gMok_3 : gMok gM3 := ⟨gTB_in (i := 748) (by decide +kernel) (by decide +kernel), gTB_in (i := 81) (by decide +kernel) (by decide +kernel), by decide +kernel, by decide +kernel, rfl, by decide, gTB_in (i := 747) (by decide +kernel) (by decide +kernel), fun _ _ => gTB_in (i := 22) (by decide +kernel) (by decide +kernel)⟩
set_option maxRecDepth 100000 in
theorem gMok_4 : gMok gM4 := ⟨gTB_in (i := 757) (by decide +kernel) (by decide +kernel), gTB_in (i := 81) (by decide +kernel) (by decide +kernel), by decide +kernel, by decide +kernel, rfl, by decide, gTB_in (i := 756) (by decide +kernel) (by decide +kernel), fun _ _ => gTB_in (i := 24) (by decide +kernel) (by decide +kernel)⟩
set_option maxRecDepth 100000 in
theorem gMok_5 : gMok gM5 := ⟨gTB_in (i := 752) (by decide +kernel) (by decide +kernel), gTB_in (i := 81) (by decide +kernel) (by decide +kernel), by decide +kernel, by decide +kernel, rfl, by decide, gTB_in (i := 751) (by decide +kernel) (by decide +kernel), fun _ _ => gTB_in (i := 23) (by decide +kernel) (by decide +kernel)⟩
set_option maxRecDepth 100000 in
theorem gMok_6 : gMok gM6 := ⟨gTB_in (i := 247) (by decide +kernel) (by decide +kernel), gTB_in (i := 79) (by decide +kernel) (by decide +kernel), by decide +kernel, by decide +kernel, rfl, by decide, gTB_in (i := 246) (by decide +kernel) (by decide +kernel), fun _ h => absurd rfl h⟩
set_option maxRecDepth 100000 in
theorem gMok_7 : gMok gM7 := ⟨gTB_in (i := 575) (by decide +kernel) (by decide +kernel), gTB_in (i := 79) (by decide +kernel) (by decide +kernel), by decide +kernel, by decide +kernel, rfl, by decide, gTB_in (i := 573) (by decide +kernel) (by decide +kernel), fun _ _ => gTB_in (i := 574) (by decide +kernel) (by decide +kernel)⟩
set_option maxRecDepth 100000 in
theorem gMok_8 : gMok gM8 := ⟨gTB_in (i := 588) (by decide +kernel) (by decide +kernel), gTB_in (i := 79) (by decide +kernel) (by decide +kernel), by decide +kernel, by decide +kernel, rfl, by decide, gTB_in (i := 587) (by decide +kernel) (by decide +kernel), fun _ _ => gTB_in (i := 12) (by decide +kernel) (by decide +kernel)⟩
set_option maxRecDepth 100000 in
theorem gMok_9 : gMok gM9 := ⟨gTB_in (i := 592) (by decide +kernel) (by decide +kernel), gTB_in (i := 79) (by decide +kernel) (by decide +kernel), by decide +kernel, by decide +kernel, rfl, by decide, gTB_in (i := 590) (by decide +kernel) (by decide +kernel), fun _ _ => gTB_in (i := 591) (by decide +kernel) (by decide +kernel)⟩
set_option maxRecDepth 100000 in
theorem gMok_10 : gMok gM10 := ⟨gTB_in (i := 779) (by decide +kernel) (by decide +kernel), gTB_in (i := 79) (by decide +kernel) (by decide +kernel), by decide +kernel, by decide +kernel, rfl, by decide, gTB_in (i := 777) (by decide +kernel) (by decide +kernel), fun _ _ => gTB_in (i := 778) (by decide +kernel) (by decide +kernel)⟩
set_option maxRecDepth 100000 in
theorem gMok_11 : gMok gM11 := ⟨gTB_in (i := 784) (by decide +kernel) (by decide +kernel), gTB_in (i := 79) (by decide +kernel) (by decide +kernel), by decide +kernel, by decide +kernel, rfl, by decide, gTB_in (i := 783) (by decide +kernel) (by decide +kernel), fun _ _ => gTB_in (i := 25) (by decide +kernel) (by decide +kernel)⟩
set_option maxRecDepth 100000 in
theorem gMok_12 : gMok gM12 := ⟨gTB_in (i := 890) (by decide +kernel) (by decide +kernel), gTB_in (i := 79) (by decide +kernel) (by decide +kernel), by decide +kernel, by decide +kernel, rfl, by decide, gTB_in (i := 888) (by decide +kernel) (by decide +kernel), fun _ _ => gTB_in (i := 889) (by decide +kernel) (by decide +kernel)⟩
set_option maxRecDepth 100000 in
theorem gMok_13 : gMok gM13 := ⟨gTB_in (i := 117) (by decide +kernel) (by decide +kernel), gTB_in (i := 74) (by decide +kernel) (by decide +kernel), by decide +kernel, by decide +kernel, rfl, by decide, gTB_in (i := 116) (by decide +kernel) (by decide +kernel), fun _ h => absurd rfl h⟩
set_option maxRecDepth 100000 in
theorem gMok_14 : gMok gM14 := ⟨gTB_in (i := 372) (by decide +kernel) (by decide +kernel), gTB_in (i := 74) (by decide +kernel) (by decide +kernel), by decide +kernel, by decide +kernel, rfl, by decide, gTB_in (i := 370) (by decide +kernel) (by decide +kernel), fun _ _ => gTB_in (i := 371) (by decide +kernel) (by decide +kernel)⟩
set_option maxRecDepth 100000 in
theorem gMok_15 : gMok gM15 := ⟨gTB_in (i := 403) (by decide +kernel) (by decide +kernel), gTB_in (i := 74) (by decide +kernel) (by decide +kernel), by decide +kernel, by decide +kernel, rfl, by decide, gTB_in (i := 401) (by decide +kernel) (by decide +kernel), fun _ _ => gTB_in (i := 402) (by decide +kernel) (by decide +kernel)⟩
set_option maxRecDepth 100000 in
theorem gMok_16 : gMok gM16 := ⟨gTB_in (i := 413) (by decide +kernel) (by decide +kernel), gTB_in (i := 74) (by decide +kernel) (by decide +kernel), by decide +kernel, by decide +kernel, rfl, by decide, gTB_in (i := 411) (by decide +kernel) (by decide +kernel), fun _ _ => gTB_in (i := 412) (by decide +kernel) (by decide +kernel)⟩
set_option maxRecDepth 100000 in
theorem gMok_17 : gMok gM17 := ⟨gTB_in (i := 425) (by decide +kernel) (by decide +kernel), gTB_in (i := 74) (by decide +kernel) (by decide +kernel), by decide +kernel, by decide +kernel, rfl, by decide, gTB_in (i := 423) (by decide +kernel) (by decide +kernel), fun _ _ => gTB_in (i := 424) (by decide +kernel) (by decide +kernel)⟩
set_option maxRecDepth 100000 in
theorem gMok_18 : gMok gM18 := ⟨gTB_in (i := 516) (by decide +kernel) (by decide +kernel), gTB_in (i := 74) (by decide +kernel) (by decide +kernel), by decide +kernel, by decide +kernel, rfl, by decide, gTB_in (i := 514) (by decide +kernel) (by decide +kernel), fun _ _ => gTB_in (i := 515) (by decide +kernel) (by decide +kernel)⟩
set_option maxRecDepth 100000 in
theorem gMok_19 : gMok gM19 := ⟨gTB_in (i := 438) (by decide +kernel) (by decide +kernel), gTB_in (i := 74) (by decide +kernel) (by decide +kernel), by decide +kernel, by decide +kernel, rfl, by decide, gTB_in (i := 436) (by decide +kernel) (by decide +kernel), fun _ _ => gTB_in (i := 437) (by decide +kernel) (by decide +kernel)⟩
set_option maxRecDepth 100000 in
theorem gMok_20 : gMok gM20 := ⟨gTB_in (i := 554) (by decide +kernel) (by decide +kernel), gTB_in (i := 74) (by decide +kernel) (by decide +kernel), by decide +kernel, by decide +kernel, rfl, by decide, gTB_in (i := 552) (by decide +kernel) (by decide +kernel), fun _ _ => gTB_in (i := 553) (by decide +kernel) (by decide +kernel)⟩
set_option maxRecDepth 100000 in
theorem gMok_21 : gMok gM21 := ⟨gTB_in (i := 689) (by decide +kernel) (by decide +kernel), gTB_in (i := 74) (by decide +kernel) (by decide +kernel), by decide +kernel, by decide +kernel, rfl, by decide, gTB_in (i := 687) (by decide +kernel) (by decide +kernel), fun _ _ => gTB_in (i := 688) (by decide +kernel) (by decide +kernel)⟩
set_option maxRecDepth 100000 in
theorem gMok_22 : gMok gM22 := ⟨gTB_in (i := 558) (by decide +kernel) (by decide +kernel), gTB_in (i := 74) (by decide +kernel) (by decide +kernel), by decide +kernel, by decide +kernel, rfl, by decide, gTB_in (i := 556) (by decide +kernel) (by decide +kernel), fun _ _ => gTB_in (i := 557) (by decide +kernel) (by decide +kernel)⟩
set_option maxRecDepth 100000 in
theorem gMok_23 : gMok gM23 := ⟨gTB_in (i := 640) (by decide +kernel) (by decide +kernel), gTB_in (i := 74) (by decide +kernel) (by decide +kernel), by decide +kernel, by decide +kernel, rfl, by decide, gTB_in (i := 638) (by decide +kernel) (by decide +kernel), fun _ _ => gTB_in (i := 639) (by decide +kernel) (by decide +kernel)⟩
set_option maxRecDepth 100000 in
theorem gMok_24 : gMok gM24 := ⟨gTB_in (i := 770) (by decide +kernel) (by decide +kernel), gTB_in (i := 74) (by decide +kernel) (by decide +kernel), by decide +kernel, by decide +kernel, rfl, by decide, gTB_in (i := 768) (by decide +kernel) (by decide +kernel), fun _ _ => gTB_in (i := 769) (by decide +kernel) (by decide +kernel)⟩
set_option maxRecDepth 100000 in
theorem gMok_25 : gMok gM25 := ⟨gTB_in (i := 100) (by decide +kernel) (by decide +kernel), gTB_in (i := 73) (by decide +kernel) (by decide +kernel), by decide +kernel, by decide +kernel, rfl, by decide, gTB_in (i := 99) (by decide +kernel) (by decide +kernel), fun _ h => absurd rfl h⟩
set_option maxRecDepth 100000 in
theorem gMok_26 : gMok gM26 := ⟨gTB_in (i := 368) (by decide +kernel) (by decide +kernel), gTB_in (i := 73) (by decide +kernel) (by decide +kernel), by decide +kernel, by decide +kernel, rfl, by decide, gTB_in (i := 366) (by decide +kernel) (by decide +kernel), fun _ _ => gTB_in (i := 367) (by decide +kernel) (by decide +kernel)⟩
set_option maxRecDepth 100000 in
theorem gMok_27 : gMok gM27 := ⟨gTB_in (i := 376) (by decide +kernel) (by decide +kernel), gTB_in (i := 73) (by decide +kernel) (by decide +kernel), by decide +kernel, by decide +kernel, rfl, by decide, gTB_in (i := 375) (by decide +kernel) (by decide +kernel), fun _ _ => gTB_in (i := 0) (by decide +kernel) (by decide +kernel)⟩
set_option maxRecDepth 100000 in
theorem gMok_28 : gMok gM28 := ⟨gTB_in (i := 387) (by decide +kernel) (by decide +kernel), gTB_in (i := 73) (by decide +kernel) (by decide +kernel), by decide +kernel, by decide +kernel, rfl, by decide, gTB_in (i := 386) (by decide +kernel) (by decide +kernel), fun _ _ => gTB_in (i := 1) (by decide +kernel) (by decide +kernel)⟩
set_option maxRecDepth 100000 in
theorem gMok_29 : gMok gM29 := ⟨gTB_in (i := 391) (by decide +kernel) (by decide +kernel), gTB_in (i := 73) (by decide +kernel) (by decide +kernel), by decide +kernel, by decide +kernel, rfl, by decide, gTB_in (i := 390) (by decide +kernel) (by decide +kernel), fun _ _ => gTB_in (i := 2) (by decide +kernel) (by decide +kernel)⟩
set_option maxRecDepth 100000 in
theorem gMok_30 : gMok gM30 := ⟨gTB_in (i := 399) (by decide +kernel) (by decide +kernel), gTB_in (i := 73) (by decide +kernel) (by decide +kernel), by decide +kernel, by decide +kernel, rfl, by decide, gTB_in (i := 398) (by decide +kernel) (by decide +kernel), fun _ _ => gTB_in (i := 4) (by decide +kernel) (by decide +kernel)⟩
set_option maxRecDepth 100000 in
theorem gMok_31 : gMok gM31 := ⟨gTB_in (i := 409) (by decide +kernel) (by decide +kernel), gTB_in (i := 73) (by decide +kernel) (by decide +kernel), by decide +kernel, by decide +kernel, rfl, by decide, gTB_in (i := 408) (by decide +kernel) (by decide +kernel), fun _ _ => gTB_in (i := 5) (by decide +kernel) (by decide +kernel)⟩
set_option maxRecDepth 100000 in
theorem gMok_32 : gMok gM32 := ⟨gTB_in (i := 417) (by decide +kernel) (by decide +kernel), gTB_in (i := 73) (by decide +kernel) (by decide +kernel), by decide +kernel, by decide +kernel, rfl, by decide, gTB_in (i := 416) (by decide +kernel) (by decide +kernel), fun _ _ => gTB_in (i := 6) (by decide +kernel) (by decide +kernel)⟩
set_option maxRecDepth 100000 in
theorem gMok_33 : gMok gM33 := ⟨gTB_in (i := 421) (by decide +kernel) (by decide +kernel), gTB_in (i := 73) (by decide +kernel) (by decide +kernel), by decide +kernel, by decide +kernel, rfl, by decide, gTB_in (i := 420) (by decide +kernel) (by decide +kernel), fun _ _ => gTB_in (i := 7) (by decide +kernel) (by decide +kernel)⟩
set_option maxRecDepth 100000 in
theorem gMok_34 : gMok gM34 := ⟨gTB_in (i := 395) (by decide +kernel) (by decide +kernel), gTB_in (i := 73) (by decide +kernel) (by decide +kernel), by decide +kernel, by decide +kernel, rfl, by decide, gTB_in (i := 394) (by decide +kernel) (by decide +kernel), fun _ _ => gTB_in (i := 3) (by decide +kernel) (by decide +kernel)⟩
set_option maxRecDepth 100000 in
theorem gMok_35 : gMok gM35 := ⟨gTB_in (i := 257) (by decide +kernel) (by decide +kernel), gTB_in (i := 80) (by decide +kernel) (by decide +kernel), by decide +kernel, by decide +kernel, rfl, by decide, gTB_in (i := 256) (by decide +kernel) (by decide +kernel), fun _ h => absurd rfl h⟩
set_option maxRecDepth 100000 in
theorem gMok_36 : gMok gM36 := ⟨gTB_in (i := 698) (by decide +kernel) (by decide +kernel), gTB_in (i := 80) (by decide +kernel) (by decide +kernel), by decide +kernel, by decide +kernel, rfl, by decide, gTB_in (i := 696) (by decide +kernel) (by decide +kernel), fun _ _ => gTB_in (i := 697) (by decide +kernel) (by decide +kernel)⟩
set_option maxRecDepth 100000 in
theorem gMok_37 : gMok gM37 := ⟨gTB_in (i := 711) (by decide +kernel) (by decide +kernel), gTB_in (i := 80) (by decide +kernel) (by decide +kernel), by decide +kernel, by decide +kernel, rfl, by decide, gTB_in (i := 710) (by decide +kernel) (by decide +kernel), fun _ _ => gTB_in (i := 19) (by decide +kernel) (by decide +kernel)⟩
set_option maxRecDepth 100000 in
theorem gMok_38 : gMok gM38 := ⟨gTB_in (i := 716) (by decide +kernel) (by decide +kernel), gTB_in (i := 80) (by decide +kernel) (by decide +kernel), by decide +kernel, by decide +kernel, rfl, by decide, gTB_in (i := 715) (by decide +kernel) (by decide +kernel), fun _ _ => gTB_in (i := 20) (by decide +kernel) (by decide +kernel)⟩
set_option maxRecDepth 100000 in
theorem gMok_39 : gMok gM39 := ⟨gTB_in (i := 723) (by decide +kernel) (by decide +kernel), gTB_in (i := 80) (by decide +kernel) (by decide +kernel), by decide +kernel, by decide +kernel, rfl, by decide, gTB_in (i := 722) (by decide +kernel) (by decide +kernel), fun _ _ => gTB_in (i := 21) (by decide +kernel) (by decide +kernel)⟩
set_option maxRecDepth 100000 in
theorem gMok_40 : gMok gM40 := ⟨gTB_in (i := 702) (by decide +kernel) (by decide +kernel), gTB_in (i := 80) (by decide +kernel) (by decide +kernel), by decide +kernel, by decide +kernel, rfl, by decide, gTB_in (i := 701) (by decide +kernel) (by decide +kernel), fun _ _ => gTB_in (i := 18) (by decide +kernel) (by decide +kernel)⟩
set_option maxRecDepth 100000 in
theorem gMok_41 : gMok gM41 := ⟨gTB_in (i := 208) (by decide +kernel) (by decide +kernel), gTB_in (i := 78) (by decide +kernel) (by decide +kernel), by decide +kernel, by decide +kernel, rfl, by decide, gTB_in (i := 207) (by decide +kernel) (by decide +kernel), fun _ h => absurd rfl h⟩
set_option maxRecDepth 100000 in
theorem gMok_42 : gMok gM42 := ⟨gTB_in (i := 446) (by decide +kernel) (by decide +kernel), gTB_in (i := 78) (by decide +kernel) (by decide +kernel), by decide +kernel, by decide +kernel, rfl, by decide, gTB_in (i := 444) (by decide +kernel) (by decide +kernel), fun _ _ => gTB_in (i := 445) (by decide +kernel) (by decide +kernel)⟩
set_option maxRecDepth 100000 in
theorem gMok_43 : gMok gM43 := ⟨gTB_in (i := 793) (by decide +kernel) (by decide +kernel), gTB_in (i := 78) (by decide +kernel) (by decide +kernel), by decide +kernel, by decide +kernel, rfl, by decide, gTB_in (i := 791) (by decide +kernel) (by decide +kernel), fun _ _ => gTB_in (i := 792) (by decide +kernel) (by decide +kernel)⟩
set_option maxRecDepth 100000 in
theorem gMok_44 : gMok gM44 := ⟨gTB_in (i := 806) (by decide +kernel) (by decide +kernel), gTB_in (i := 78) (by decide +kernel) (by decide +kernel), by decide +kernel, by decide +kernel, rfl, by decide, gTB_in (i := 804) (by decide +kernel) (by decide +kernel), fun _ _ => gTB_in (i := 805) (by decide +kernel) (by decide +kernel)⟩
set_option maxRecDepth 100000 in
theorem gMok_45 : gMok gM45 := ⟨gTB_in (i := 810) (by decide +kernel) (by decide +kernel), gTB_in (i := 78) (by decide +kernel) (by decide +kernel), by decide +kernel, by decide +kernel, rfl, by decide, gTB_in (i := 809) (by decide +kernel) (by decide +kernel), fun _ _ => gTB_in (i := 26) (by decide +kernel) (by decide +kernel)⟩
set_option maxRecDepth 100000 in
theorem gMok_46 : gMok gM46 := ⟨gTB_in (i := 815) (by decide +kernel) (by decide +kernel), gTB_in (i := 78) (by decide +kernel) (by decide +kernel), by decide +kernel, by decide +kernel, rfl, by decide, gTB_in (i := 814) (by decide +kernel) (by decide +kernel), fun _ _ => gTB_in (i := 27) (by decide +kernel) (by decide +kernel)⟩
set_option maxRecDepth 100000 in
theorem gMok_47 : gMok gM47 := ⟨gTB_in (i := 822) (by decide +kernel) (by decide +kernel), gTB_in (i := 78) (by decide +kernel) (by decide +kernel), by decide +kernel, by decide +kernel, rfl, by decide, gTB_in (i := 821) (by decide +kernel) (by decide +kernel), fun _ _ => gTB_in (i := 28) (by decide +kernel) (by decide +kernel)⟩
set_option maxRecDepth 100000 in
theorem gMok_48 : gMok gM48 := ⟨gTB_in (i := 830) (by decide +kernel) (by decide +kernel), gTB_in (i := 78) (by decide +kernel) (by decide +kernel), by decide +kernel, by decide +kernel, rfl, by decide, gTB_in (i := 828) (by decide +kernel) (by decide +kernel), fun _ _ => gTB_in (i := 829) (by decide +kernel) (by decide +kernel)⟩
set_option maxRecDepth 100000 in
theorem gMok_49 : gMok gM49 := ⟨gTB_in (i := 835) (by decide +kernel) (by decide +kernel), gTB_in (i := 78) (by decide +kernel) (by decide +kernel), by decide +kernel, by decide +kernel, rfl, by decide, gTB_in (i := 834) (by decide +kernel) (by decide +kernel), fun _ _ => gTB_in (i := 29) (by decide +kernel) (by decide +kernel)⟩
set_option maxRecDepth 100000 in
theorem gMok_50 : gMok gM50 := ⟨gTB_in (i := 185) (by decide +kernel) (by decide +kernel), gTB_in (i := 76) (by decide +kernel) (by decide +kernel), by decide +kernel, by decide +kernel, rfl, by decide, gTB_in (i := 184) (by decide +kernel) (by decide +kernel), fun _ h => absurd rfl h⟩
set_option maxRecDepth 100000 in
theorem gMok_51 : gMok gM51 := ⟨gTB_in (i := 442) (by decide +kernel) (by decide +kernel), gTB_in (i := 76) (by decide +kernel) (by decide +kernel), by decide +kernel, by decide +kernel, rfl, by decide, gTB_in (i := 440) (by decide +kernel) (by decide +kernel), fun _ _ => gTB_in (i := 441) (by decide +kernel) (by decide +kernel)⟩
set_option maxRecDepth 100000 in
theorem gMok_52 : gMok gM52 := ⟨gTB_in (i := 600) (by decide +kernel) (by decide +kernel), gTB_in (i := 76) (by decide +kernel) (by decide +kernel), by decide +kernel, by decide +kernel, rfl, by decide, gTB_in (i := 598) (by decide +kernel) (by decide +kernel), fun _ _ => gTB_in (i := 599) (by decide +kernel) (by decide +kernel)⟩
set_option maxRecDepth 100000 in
theorem gMok_53 : gMok gM53 := ⟨gTB_in (i := 672) (by decide +kernel) (by decide +kernel), gTB_in (i := 76) (by decide +kernel) (by decide +kernel), by decide +kernel, by decide +kernel, rfl, by decide, gTB_in (i := 670) (by decide +kernel) (by decide +kernel), fun _ _ => gTB_in (i := 671) (by decide +kernel) (by decide +kernel)⟩
set_option maxRecDepth 100000 in
theorem gMok_54 : gMok gM54 := ⟨gTB_in (i := 608) (by decide +kernel) (by decide +kernel), gTB_in (i := 76) (by decide +kernel) (by decide +kernel), by decide +kernel, by decide +kernel, rfl, by decide, gTB_in (i := 607) (by decide +kernel) (by decide +kernel), fun _ _ => gTB_in (i := 14) (by decide +kernel) (by decide +kernel)⟩
set_option maxRecDepth 100000 in
theorem gMok_55 : gMok gM55 := ⟨gTB_in (i := 604) (by decide +kernel) (by decide +kernel), gTB_in (i := 76) (by decide +kernel) (by decide +kernel), by decide +kernel, by decide +kernel, rfl, by decide, gTB_in (i := 603) (by decide +kernel) (by decide +kernel), fun _ _ => gTB_in (i := 13) (by decide +kernel) (by decide +kernel)⟩
set_option maxRecDepth 100000 in
theorem gMok_56 : gMok gM56 := ⟨gTB_in (i := 165) (by decide +kernel) (by decide +kernel), gTB_in (i := 75) (by decide +kernel) (by decide +kernel), by decide +kernel, by decide +kernel, rfl, by decide, gTB_in (i := 164) (by decide +kernel) (by decide +kernel), fun _ h => absurd rfl h⟩
set_option maxRecDepth 100000 in
theorem gMok_57 : gMok gM57 := ⟨gTB_in (i := 433) (by decide +kernel) (by decide +kernel), gTB_in (i := 75) (by decide +kernel) (by decide +kernel), by decide +kernel, by decide +kernel, rfl, by decide, gTB_in (i := 431) (by decide +kernel) (by decide +kernel), fun _ _ => gTB_in (i := 432) (by decide +kernel) (by decide +kernel)⟩
set_option maxRecDepth 100000 in
theorem gMok_58 : gMok gM58 := ⟨gTB_in (i := 612) (by decide +kernel) (by decide +kernel), gTB_in (i := 75) (by decide +kernel) (by decide +kernel), by decide +kernel, by decide +kernel, rfl, by decide, gTB_in (i := 610) (by decide +kernel) (by decide +kernel), fun _ _ => gTB_in (i := 611) (by decide +kernel) (by decide +kernel)⟩
set_option maxRecDepth 100000 in
theorem gMok_59 : gMok gM59 := ⟨gTB_in (i := 520) (by decide +kernel) (by decide +kernel), gTB_in (i := 75) (by decide +kernel) (by decide +kernel), by decide +kernel, by decide +kernel, rfl, by decide, gTB_in (i := 518) (by decide +kernel) (by decide +kernel), fun _ _ => gTB_in (i := 519) (by decide +kernel) (by decide +kernel)⟩
set_option maxRecDepth 100000 in
theorem gMok_60 : gMok gM60 := ⟨gTB_in (i := 541) (by decide +kernel) (by decide +kernel), gTB_in (i := 75) (by decide +kernel) (by decide +kernel), by decide +kernel, by decide +kernel, rfl, by decide, gTB_in (i := 539) (by decide +kernel) (by decide +kernel), fun _ _ => gTB_in (i := 540) (by decide +kernel) (by decide +kernel)⟩
set_option maxRecDepth 100000 in
theorem gMok_61 : gMok gM61 := ⟨gTB_in (i := 545) (by decide +kernel) (by decide +kernel), gTB_in (i := 75) (by decide +kernel) (by decide +kernel), by decide +kernel, by decide +kernel, rfl, by decide, gTB_in (i := 543) (by decide +kernel) (by decide +kernel), fun _ _ => gTB_in (i := 544) (by decide +kernel) (by decide +kernel)⟩
set_option maxRecDepth 100000 in
theorem gMok_62 : gMok gM62 := ⟨gTB_in (i := 525) (by decide +kernel) (by decide +kernel), gTB_in (i := 75) (by decide +kernel) (by decide +kernel), by decide +kernel, by decide +kernel, rfl, by decide, gTB_in (i := 523) (by decide +kernel) (by decide +kernel), fun _ _ => gTB_in (i := 524) (by decide +kernel) (by decide +kernel)⟩
set_option maxRecDepth 100000 in
theorem gMok_63 : gMok gM63 := ⟨gTB_in (i := 570) (by decide +kernel) (by decide +kernel), gTB_in (i := 75) (by decide +kernel) (by decide +kernel), by decide +kernel, by decide +kernel, rfl, by decide, gTB_in (i := 568) (by decide +kernel) (by decide +kernel), fun _ _ => gTB_in (i := 569) (by decide +kernel) (by decide +kernel)⟩
set_option maxRecDepth 100000 in
theorem gMok_64 : gMok gM64 := ⟨gTB_in (i := 869) (by decide +kernel) (by decide +kernel), gTB_in (i := 75) (by decide +kernel) (by decide +kernel), by decide +kernel, by decide +kernel, rfl, by decide, gTB_in (i := 867) (by decide +kernel) (by decide +kernel), fun _ _ => gTB_in (i := 868) (by decide +kernel) (by decide +kernel)⟩
set_option maxRecDepth 100000 in
theorem gMok_65 : gMok gM65 := ⟨gTB_in (i := 885) (by decide +kernel) (by decide +kernel), gTB_in (i := 75) (by decide +kernel) (by decide +kernel), by decide +kernel, by decide +kernel, rfl, by decide, gTB_in (i := 883) (by decide +kernel) (by decide +kernel), fun _ _ => gTB_in (i := 884) (by decide +kernel) (by decide +kernel)⟩
set_option maxRecDepth 100000 in
theorem gMok_66 : gMok gM66 := ⟨gTB_in (i := 616) (by decide +kernel) (by decide +kernel), gTB_in (i := 75) (by decide +kernel) (by decide +kernel), by decide +kernel, by decide +kernel, rfl, by decide, gTB_in (i := 614) (by decide +kernel) (by decide +kernel), fun _ _ => gTB_in (i := 615) (by decide +kernel) (by decide +kernel)⟩
set_option maxRecDepth 100000 in
theorem gMok_67 : gMok gM67 := ⟨gTB_in (i := 707) (by decide +kernel) (by decide +kernel), gTB_in (i := 75) (by decide +kernel) (by decide +kernel), by decide +kernel, by decide +kernel, rfl, by decide, gTB_in (i := 705) (by decide +kernel) (by decide +kernel), fun _ _ => gTB_in (i := 706) (by decide +kernel) (by decide +kernel)⟩
set_option maxRecDepth 100000 in
theorem gMok_68 : gMok gM68 := ⟨gTB_in (i := 658) (by decide +kernel) (by decide +kernel), gTB_in (i := 75) (by decide +kernel) (by decide +kernel), by decide +kernel, by decide +kernel, rfl, by decide, gTB_in (i := 656) (by decide +kernel) (by decide +kernel), fun _ _ => gTB_in (i := 657) (by decide +kernel) (by decide +kernel)⟩
set_option maxRecDepth 100000 in
theorem gMok_69 : gMok gM69 := ⟨gTB_in (i := 624) (by decide +kernel) (by decide +kernel), gTB_in (i := 75) (by decide +kernel) (by decide +kernel), by decide +kernel, by decide +kernel, rfl, by decide, gTB_in (i := 622) (by decide +kernel) (by decide +kernel), fun _ _ => gTB_in (i := 623) (by decide +kernel) (by decide +kernel)⟩
set_option maxRecDepth 100000 in
theorem gMok_70 : gMok gM70 := ⟨gTB_in (i := 681) (by decide +kernel) (by decide +kernel), gTB_in (i := 75) (by decide +kernel) (by decide +kernel), by decide +kernel, by decide +kernel, rfl, by decide, gTB_in (i := 679) (by decide +kernel) (by decide +kernel), fun _ _ => gTB_in (i := 680) (by decide +kernel) (by decide +kernel)⟩
set_option maxRecDepth 100000 in
theorem gMok_71 : gMok gM71 := ⟨gTB_in (i := 629) (by decide +kernel) (by decide +kernel), gTB_in (i := 75) (by decide +kernel) (by decide +kernel), by decide +kernel, by decide +kernel, rfl, by decide, gTB_in (i := 627) (by decide +kernel) (by decide +kernel), fun _ _ => gTB_in (i := 628) (by decide +kernel) (by decide +kernel)⟩
set_option maxRecDepth 100000 in
theorem gMok_72 : gMok gM72 := ⟨gTB_in (i := 634) (by decide +kernel) (by decide +kernel), gTB_in (i := 75) (by decide +kernel) (by decide +kernel), by decide +kernel, by decide +kernel, rfl, by decide, gTB_in (i := 633) (by decide +kernel) (by decide +kernel), fun _ _ => gTB_in (i := 15) (by decide +kernel) (by decide +kernel)⟩
set_option maxRecDepth 100000 in
theorem gMok_73 : gMok gM73 := ⟨gTB_in (i := 646) (by decide +kernel) (by decide +kernel), gTB_in (i := 75) (by decide +kernel) (by decide +kernel), by decide +kernel, by decide +kernel, rfl, by decide, gTB_in (i := 645) (by decide +kernel) (by decide +kernel), fun _ _ => gTB_in (i := 16) (by decide +kernel) (by decide +kernel)⟩
set_option maxRecDepth 100000 in
theorem gMok_74 : gMok gM74 := ⟨gTB_in (i := 650) (by decide +kernel) (by decide +kernel), gTB_in (i := 75) (by decide +kernel) (by decide +kernel), by decide +kernel, by decide +kernel, rfl, by decide, gTB_in (i := 649) (by decide +kernel) (by decide +kernel), fun _ _ => gTB_in (i := 17) (by decide +kernel) (by decide +kernel)⟩
set_option maxRecDepth 100000 in
theorem gMok_75 : gMok gM75 := ⟨gTB_in (i := 92) (by decide +kernel) (by decide +kernel), gTB_in (i := 72) (by decide +kernel) (by decide +kernel), by decide +kernel, by decide +kernel, rfl, by decide, gTB_in (i := 91) (by decide +kernel) (by decide +kernel), fun _ h => absurd rfl h⟩
set_option maxRecDepth 100000 in
theorem gMok_76 : gMok gM76 := ⟨gTB_in (i := 491) (by decide +kernel) (by decide +kernel), gTB_in (i := 72) (by decide +kernel) (by decide +kernel), by decide +kernel, by decide +kernel, rfl, by decide, gTB_in (i := 489) (by decide +kernel) (by decide +kernel), fun _ _ => gTB_in (i := 490) (by decide +kernel) (by decide +kernel)⟩
set_option maxRecDepth 100000 in
theorem gMok_77 : gMok gM77 := ⟨gTB_in (i := 495) (by decide +kernel) (by decide +kernel), gTB_in (i := 72) (by decide +kernel) (by decide +kernel), by decide +kernel, by decide +kernel, rfl, by decide, gTB_in (i := 493) (by decide +kernel) (by decide +kernel), fun _ _ => gTB_in (i := 494) (by decide +kernel) (by decide +kernel)⟩
set_option maxRecDepth 100000 in
theorem gMok_78 : gMok gM78 := ⟨gTB_in (i := 499) (by decide +kernel) (by decide +kernel), gTB_in (i := 72) (by decide +kernel) (by decide +kernel), by decide +kernel, by decide +kernel, rfl, by decide, gTB_in (i := 497) (by decide +kernel) (by decide +kernel), fun _ _ => gTB_in (i := 498) (by decide +kernel) (by decide +kernel)⟩
set_option maxRecDepth 100000 in
theorem gMok_79 : gMok gM79 := ⟨gTB_in (i := 503) (by decide +kernel) (by decide +kernel), gTB_in (i := 72) (by decide +kernel) (by decide +kernel), by decide +kernel, by decide +kernel, rfl, by decide, gTB_in (i := 501) (by decide +kernel) (by decide +kernel), fun _ _ => gTB_in (i := 502) (by decide +kernel) (by decide +kernel)⟩
set_option maxRecDepth 100000 in
theorem gMok_80 : gMok gM80 := ⟨gTB_in (i := 507) (by decide +kernel) (by decide +kernel), gTB_in (i := 72) (by decide +kernel) (by decide +kernel), by decide +kernel, by decide +kernel, rfl, by decide, gTB_in (i := 505) (by decide +kernel) (by decide +kernel), fun _ _ => gTB_in (i := 506) (by decide +kernel) (by decide +kernel)⟩
set_option maxRecDepth 100000 in
theorem gMok_81 : gMok gM81 := ⟨gTB_in (i := 533) (by decide +kernel) (by decide +kernel), gTB_in (i := 72) (by decide +kernel) (by decide +kernel), by decide +kernel, by decide +kernel, rfl, by decide, gTB_in (i := 531) (by decide +kernel) (by decide +kernel), fun _ _ => gTB_in (i := 532) (by decide +kernel) (by decide +kernel)⟩
set_option maxRecDepth 100000 in
theorem gMok_82 : gMok gM82 := ⟨gTB_in (i := 550) (by decide +kernel) (by decide +kernel), gTB_in (i := 72) (by decide +kernel) (by decide +kernel), by decide +kernel, by decide +kernel, rfl, by decide, gTB_in (i := 548) (by decide +kernel) (by decide +kernel), fun _ _ => gTB_in (i := 549) (by decide +kernel) (by decide +kernel)⟩
set_option maxRecDepth 100000 in
theorem gMok_83 : gMok gM83 := ⟨gTB_in (i := 562) (by decide +kernel) (by decide +kernel), gTB_in (i := 72) (by decide +kernel) (by decide +kernel), by decide +kernel, by decide +kernel, rfl, by decide, gTB_in (i := 560) (by decide +kernel) (by decide +kernel), fun _ _ => gTB_in (i := 561) (by decide +kernel) (by decide +kernel)⟩
set_option maxRecDepth 100000 in
theorem gMok_84 : gMok gM84 := ⟨gTB_in (i := 596) (by decide +kernel) (by decide +kernel), gTB_in (i := 72) (by decide +kernel) (by decide +kernel), by decide +kernel, by decide +kernel, rfl, by decide, gTB_in (i := 594) (by decide +kernel) (by decide +kernel), fun _ _ => gTB_in (i := 595) (by decide +kernel) (by decide +kernel)⟩
set_option maxRecDepth 100000 in
theorem gMok_85 : gMok gM85 := ⟨gTB_in (i := 620) (by decide +kernel) (by decide +kernel), gTB_in (i := 72) (by decide +kernel) (by decide +kernel), by decide +kernel, by decide +kernel, rfl, by decide, gTB_in (i := 618) (by decide +kernel) (by decide +kernel), fun _ _ => gTB_in (i := 619) (by decide +kernel) (by decide +kernel)⟩
set_option maxRecDepth 100000 in
theorem gMok_86 : gMok gM86 := ⟨gTB_in (i := 654) (by decide +kernel) (by decide +kernel), gTB_in (i := 72) (by decide +kernel) (by decide +kernel), by decide +kernel, by decide +kernel, rfl, by decide, gTB_in (i := 652) (by decide +kernel) (by decide +kernel), fun _ _ => gTB_in (i := 653) (by decide +kernel) (by decide +kernel)⟩
set_option maxRecDepth 100000 in
theorem gMok_87 : gMok gM87 := ⟨gTB_in (i := 668) (by decide +kernel) (by decide +kernel), gTB_in (i := 72) (by decide +kernel) (by decide +kernel), by decide +kernel, by decide +kernel, rfl, by decide, gTB_in (i := 666) (by decide +kernel) (by decide +kernel), fun _ _ => gTB_in (i := 667) (by decide +kernel) (by decide +kernel)⟩
set_option maxRecDepth 100000 in
theorem gMok_88 : gMok gM88 := ⟨gTB_in (i := 676) (by decide +kernel) (by decide +kernel), gTB_in (i := 72) (by decide +kernel) (by decide +kernel), by decide +kernel, by decide +kernel, rfl, by decide, gTB_in (i := 674) (by decide +kernel) (by decide +kernel), fun _ _ => gTB_in (i := 675) (by decide +kernel) (by decide +kernel)⟩
set_option maxRecDepth 100000 in
theorem gMok_89 : gMok gM89 := ⟨gTB_in (i := 685) (by decide +kernel) (by decide +kernel), gTB_in (i := 72) (by decide +kernel) (by decide +kernel), by decide +kernel, by decide +kernel, rfl, by decide, gTB_in (i := 683) (by decide +kernel) (by decide +kernel), fun _ _ => gTB_in (i := 684) (by decide +kernel) (by decide +kernel)⟩
set_option maxRecDepth 100000 in
theorem gMok_90 : gMok gM90 := ⟨gTB_in (i := 694) (by decide +kernel) (by decide +kernel), gTB_in (i := 72) (by decide +kernel) (by decide +kernel), by decide +kernel, by decide +kernel, rfl, by decide, gTB_in (i := 692) (by decide +kernel) (by decide +kernel), fun _ _ => gTB_in (i := 693) (by decide +kernel) (by decide +kernel)⟩
set_option maxRecDepth 100000 in
theorem gMok_91 : gMok gM91 := ⟨gTB_in (i := 730) (by decide +kernel) (by decide +kernel), gTB_in (i := 72) (by decide +kernel) (by decide +kernel), by decide +kernel, by decide +kernel, rfl, by decide, gTB_in (i := 728) (by decide +kernel) (by decide +kernel), fun _ _ => gTB_in (i := 729) (by decide +kernel) (by decide +kernel)⟩
set_option maxRecDepth 100000 in
theorem gMok_92 : gMok gM92 := ⟨gTB_in (i := 762) (by decide +kernel) (by decide +kernel), gTB_in (i := 72) (by decide +kernel) (by decide +kernel), by decide +kernel, by decide +kernel, rfl, by decide, gTB_in (i := 760) (by decide +kernel) (by decide +kernel), fun _ _ => gTB_in (i := 761) (by decide +kernel) (by decide +kernel)⟩
set_option maxRecDepth 100000 in
theorem gMok_93 : gMok gM93 := ⟨gTB_in (i := 766) (by decide +kernel) (by decide +kernel), gTB_in (i := 72) (by decide +kernel) (by decide +kernel), by decide +kernel, by decide +kernel, rfl, by decide, gTB_in (i := 764) (by decide +kernel) (by decide +kernel), fun _ _ => gTB_in (i := 765) (by decide +kernel) (by decide +kernel)⟩
set_option maxRecDepth 100000 in
theorem gMok_94 : gMok gM94 := ⟨gTB_in (i := 775) (by decide +kernel) (by decide +kernel), gTB_in (i := 72) (by decide +kernel) (by decide +kernel), by decide +kernel, by decide +kernel, rfl, by decide, gTB_in (i := 773) (by decide +kernel) (by decide +kernel), fun _ _ => gTB_in (i := 774) (by decide +kernel) (by decide +kernel)⟩
set_option maxRecDepth 100000 in
theorem gMok_95 : gMok gM95 := ⟨gTB_in (i := 789) (by decide +kernel) (by decide +kernel), gTB_in (i := 72) (by decide +kernel) (by decide +kernel), by decide +kernel, by decide +kernel, rfl, by decide, gTB_in (i := 787) (by decide +kernel) (by decide +kernel), fun _ _ => gTB_in (i := 788) (by decide +kernel) (by decide +kernel)⟩
set_option maxRecDepth 100000 in
theorem gMok_96 : gMok gM96 := ⟨gTB_in (i := 798) (by decide +kernel) (by decide +kernel), gTB_in (i := 72) (by decide +kernel) (by decide +kernel), by decide +kernel, by decide +kernel, rfl, by decide, gTB_in (i := 796) (by decide +kernel) (by decide +kernel), fun _ _ => gTB_in (i := 797) (by decide +kernel) (by decide +kernel)⟩
set_option maxRecDepth 100000 in
theorem gMok_97 : gMok gM97 := ⟨gTB_in (i := 802) (by decide +kernel) (by decide +kernel), gTB_in (i := 72) (by decide +kernel) (by decide +kernel), by decide +kernel, by decide +kernel, rfl, by decide, gTB_in (i := 800) (by decide +kernel) (by decide +kernel), fun _ _ => gTB_in (i := 801) (by decide +kernel) (by decide +kernel)⟩
set_option maxRecDepth 100000 in
theorem gMok_98 : gMok gM98 := ⟨gTB_in (i := 826) (by decide +kernel) (by decide +kernel), gTB_in (i := 72) (by decide +kernel) (by decide +kernel), by decide +kernel, by decide +kernel, rfl, by decide, gTB_in (i := 824) (by decide +kernel) (by decide +kernel), fun _ _ => gTB_in (i := 825) (by decide +kernel) (by decide +kernel)⟩
set_option maxRecDepth 100000 in
theorem gMok_99 : gMok gM99 := ⟨gTB_in (i := 839) (by decide +kernel) (by decide +kernel), gTB_in (i := 72) (by decide +kernel) (by decide +kernel), by decide +kernel, by decide +kernel, rfl, by decide, gTB_in (i := 837) (by decide +kernel) (by decide +kernel), fun _ _ => gTB_in (i := 838) (by decide +kernel) (by decide +kernel)⟩
set_option maxRecDepth 100000 in
theorem gMok_100 : gMok gM100 := ⟨gTB_in (i := 855) (by decide +kernel) (by decide +kernel), gTB_in (i := 72) (by decide +kernel) (by decide +kernel), by decide +kernel, by decide +kernel, rfl, by decide, gTB_in (i := 853) (by decide +kernel) (by decide +kernel), fun _ _ => gTB_in (i := 854) (by decide +kernel) (by decide +kernel)⟩
set_option maxRecDepth 100000 in
theorem gMok_101 : gMok gM101 := ⟨gTB_in (i := 873) (by decide +kernel) (by decide +kernel), gTB_in (i := 72) (by decide +kernel) (by decide +kernel), by decide +kernel, by decide +kernel, rfl, by decide, gTB_in (i := 871) (by decide +kernel) (by decide +kernel), fun _ _ => gTB_in (i := 872) (by decide +kernel) (by decide +kernel)⟩
set_option maxRecDepth 100000 in
theorem gMok_102 : gMok gM102 := ⟨gTB_in (i := 877) (by decide +kernel) (by decide +kernel), gTB_in (i := 72) (by decide +kernel) (by decide +kernel), by decide +kernel, by decide +kernel, rfl, by decide, gTB_in (i := 875) (by decide +kernel) (by decide +kernel), fun _ _ => gTB_in (i := 876) (by decide +kernel) (by decide +kernel)⟩
set_option maxRecDepth 100000 in
theorem gMok_103 : gMok gM103 := ⟨gTB_in (i := 881) (by decide +kernel) (by decide +kernel), gTB_in (i := 72) (by decide +kernel) (by decide +kernel), by decide +kernel, by decide +kernel, rfl, by decide, gTB_in (i := 879) (by decide +kernel) (by decide +kernel), fun _ _ => gTB_in (i := 880) (by decide +kernel) (by decide +kernel)⟩
set_option maxRecDepth 100000 in
theorem gMok_104 : gMok gM104 := ⟨gTB_in (i := 429) (by decide +kernel) (by decide +kernel), gTB_in (i := 72) (by decide +kernel) (by decide +kernel), by decide +kernel, by decide +kernel, rfl, by decide, gTB_in (i := 428) (by decide +kernel) (by decide +kernel), fun _ _ => gTB_in (i := 8) (by decide +kernel) (by decide +kernel)⟩
set_option maxRecDepth 100000 in
theorem gMok_105 : gMok gM105 := ⟨gTB_in (i := 511) (by decide +kernel) (by decide +kernel), gTB_in (i := 72) (by decide +kernel) (by decide +kernel), by decide +kernel, by decide +kernel, rfl, by decide, gTB_in (i := 510) (by decide +kernel) (by decide +kernel), fun _ _ => gTB_in (i := 9) (by decide +kernel) (by decide +kernel)⟩
set_option maxRecDepth 100000 in
theorem gMok_106 : gMok gM106 := ⟨gTB_in (i := 537) (by decide +kernel) (by decide +kernel), gTB_in (i := 72) (by decide +kernel) (by decide +kernel), by decide +kernel, by decide +kernel, rfl, by decide, gTB_in (i := 536) (by decide +kernel) (by decide +kernel), fun _ _ => gTB_in (i := 10) (by decide +kernel) (by decide +kernel)⟩
set_option maxRecDepth 100000 in
theorem gMok_107 : gMok gM107 := ⟨gTB_in (i := 566) (by decide +kernel) (by decide +kernel), gTB_in (i := 72) (by decide +kernel) (by decide +kernel), by decide +kernel, by decide +kernel, rfl, by decide, gTB_in (i := 565) (by decide +kernel) (by decide +kernel), fun _ _ => gTB_in (i := 11) (by decide +kernel) (by decide +kernel)⟩
set_option maxRecDepth 100000 in
theorem gMok_108 : gMok gM108 := ⟨gTB_in (i := 842) (by decide +kernel) (by decide +kernel), gTB_in (i := 72) (by decide +kernel) (by decide +kernel), by decide +kernel, by decide +kernel, rfl, by decide, gTB_in (i := 841) (by decide +kernel) (by decide +kernel), fun h _ => by cases h⟩
set_option maxRecDepth 100000 in
theorem gMok_109 : gMok gM109 := ⟨gTB_in (i := 847) (by decide +kernel) (by decide +kernel), gTB_in (i := 72) (by decide +kernel) (by decide +kernel), by decide +kernel, by decide +kernel, rfl, by decide, gTB_in (i := 846) (by decide +kernel) (by decide +kernel), fun _ _ => gTB_in (i := 30) (by decide +kernel) (by decide +kernel)⟩
set_option maxRecDepth 100000 in
theorem gMok_110 : gMok gM110 := ⟨gTB_in (i := 858) (by decide +kernel) (by decide +kernel), gTB_in (i := 72) (by decide +kernel) (by decide +kernel), by decide +kernel, by decide +kernel, rfl, by decide, gTB_in (i := 857) (by decide +kernel) (by decide +kernel), fun h _ => by cases h⟩
set_option maxRecDepth 100000 in
theorem gMok_111 : gMok gM111 := ⟨gTB_in (i := 865) (by decide +kernel) (by decide +kernel), gTB_in (i := 72) (by decide +kernel) (by decide +kernel), by decide +kernel, by decide +kernel, rfl, by decide, gTB_in (i := 864) (by decide +kernel) (by decide +kernel), fun _ _ => gTB_in (i := 31) (by decide +kernel) (by decide +kernel)⟩
set_option maxRecDepth 100000 in
theorem gMok_112 : gMok gM112 := ⟨gTB_in (i := 851) (by decide +kernel) (by decide +kernel), gTB_in (i := 72) (by decide +kernel) (by decide +kernel), by decide +kernel, by decide +kernel, rfl, by decide, gTB_in (i := 850) (by decide +kernel) (by decide +kernel), fun h _ => by cases h⟩
set_option maxRecDepth 100000 in
theorem gMok_113 : gMok gM113 := ⟨gTB_in (i := 382) (by decide +kernel) (by decide +kernel), gTB_in (i := 72) (by decide +kernel) (by decide +kernel), by decide +kernel, by decide +kernel, rfl, by decide, gTB_in (i := 381) (by decide +kernel) (by decide +kernel), fun h _ => by cases h⟩
set_option maxRecDepth 100000 in
theorem gMok_114 : gMok gM114 := ⟨gTB_in (i := 579) (by decide +kernel) (by decide +kernel), gTB_in (i := 72) (by decide +kernel) (by decide +kernel), by decide +kernel, by decide +kernel, rfl, by decide, gTB_in (i := 578) (by decide +kernel) (by decide +kernel), fun h _ => by cases h⟩
set_option maxRecDepth 100000 in
theorem gMok_115 : gMok gM115 := ⟨gTB_in (i := 582) (by decide +kernel) (by decide +kernel), gTB_in (i := 72) (by decide +kernel) (by decide +kernel), by decide +kernel, by decide +kernel, rfl, by decide, gTB_in (i := 581) (by decide +kernel) (by decide +kernel), fun h _ => by cases h⟩
set_option maxRecDepth 100000 in
theorem gMok_116 : gMok gM116 := ⟨gTB_in (i := 529) (by decide +kernel) (by decide +kernel), gTB_in (i := 72) (by decide +kernel) (by decide +kernel), by decide +kernel, by decide +kernel, rfl, by decide, gTB_in (i := 528) (by decide +kernel) (by decide +kernel), fun h _ => by cases h⟩
set_option maxRecDepth 100000 in
theorem gMok_117 : gMok gM117 := ⟨gTB_in (i := 379) (by decide +kernel) (by decide +kernel), gTB_in (i := 72) (by decide +kernel) (by decide +kernel), by decide +kernel, by decide +kernel, rfl, by decide, gTB_in (i := 378) (by decide +kernel) (by decide +kernel), fun h _ => by cases h⟩
set_option maxRecDepth 100000 in
theorem gMok_118 : gMok gM118 := ⟨gTB_in (i := 364) (by decide +kernel) (by decide +kernel), gTB_in (i := 72) (by decide +kernel) (by decide +kernel), by decide +kernel, by decide +kernel, rfl, by decide, gTB_in (i := 363) (by decide +kernel) (by decide +kernel), fun h _ => by cases h⟩
set_option maxRecDepth 100000 in
theorem gMok_119 : gMok gM119 := ⟨gTB_in (i := 895) (by decide +kernel) (by decide +kernel), gTB_in (i := 86) (by decide +kernel) (by decide +kernel), by decide +kernel, by decide +kernel, rfl, by decide, gTB_in (i := 894) (by decide +kernel) (by decide +kernel), fun _ h => absurd rfl h⟩
set_option maxRecDepth 100000 in
theorem gMok_120 : gMok gM120 := ⟨gTB_in (i := 900) (by decide +kernel) (by decide +kernel), gTB_in (i := 86) (by decide +kernel) (by decide +kernel), by decide +kernel, by decide +kernel, rfl, by decide, gTB_in (i := 899) (by decide +kernel) (by decide +kernel), fun _ _ => gTB_in (i := 32) (by decide +kernel) (by decide +kernel)⟩
set_option maxRecDepth 100000 in
theorem gMok_121 : gMok gM121 := ⟨gTB_in (i := 904) (by decide +kernel) (by decide +kernel), gTB_in (i := 86) (by decide +kernel) (by decide +kernel), by decide +kernel, by decide +kernel, rfl, by decide, gTB_in (i := 903) (by decide +kernel) (by decide +kernel), fun _ _ => gTB_in (i := 33) (by decide +kernel) (by decide +kernel)⟩
set_option maxRecDepth 100000 in
theorem gMok_122 : gMok gM122 := ⟨gTB_in (i := 969) (by decide +kernel) (by decide +kernel), gTB_in (i := 86) (by decide +kernel) (by decide +kernel), by decide +kernel, by decide +kernel, rfl, by decide, gTB_in (i := 968) (by decide +kernel) (by decide +kernel), fun h _ => by cases h⟩
set_option maxRecDepth 100000 in
theorem gMok_123 : gMok gM123 := ⟨gTB_in (i := 1076) (by decide +kernel) (by decide +kernel), gTB_in (i := 86) (by decide +kernel) (by decide +kernel), by decide +kernel, by decide +kernel, rfl, by decide, gTB_in (i := 1075) (by decide +kernel) (by decide +kernel), fun h _ => by cases h⟩
set_option maxRecDepth 100000 in
theorem gMok_124 : gMok gM124 := ⟨gTB_in (i := 1115) (by decide +kernel) (by decide +kernel), gTB_in (i := 86) (by decide +kernel) (by decide +kernel), by decide +kernel, by decide +kernel, rfl, by decide, gTB_in (i := 1114) (by decide +kernel) (by decide +kernel), fun h _ => by cases h⟩
set_option maxRecDepth 100000 in
theorem gMok_125 : gMok gM125 := ⟨gTB_in (i := 966) (by decide +kernel) (by decide +kernel), gTB_in (i := 86) (by decide +kernel) (by decide +kernel), by decide +kernel, by decide +kernel, rfl, by decide, gTB_in (i := 964) (by decide +kernel) (by decide +kernel), fun _ _ => gTB_in (i := 965) (by decide +kernel) (by decide +kernel)⟩
set_option maxRecDepth 100000 in
theorem gMok_126 : gMok gM126 := ⟨gTB_in (i := 973) (by decide +kernel) (by decide +kernel), gTB_in (i := 86) (by decide +kernel) (by decide +kernel), by decide +kernel, by decide +kernel, rfl, by decide, gTB_in (i := 971) (by decide +kernel) (by decide +kernel), fun _ _ => gTB_in (i := 972) (by decide +kernel) (by decide +kernel)⟩
set_option maxRecDepth 100000 in
theorem gMok_127 : gMok gM127 := ⟨gTB_in (i := 985) (by decide +kernel) (by decide +kernel), gTB_in (i := 86) (by decide +kernel) (by decide +kernel), by decide +kernel, by decide +kernel, rfl, by decide, gTB_in (i := 984) (by decide +kernel) (by decide +kernel), fun _ _ => gTB_in (i := 35) (by decide +kernel) (by decide +kernel)⟩
set_option maxRecDepth 100000 in
theorem gMok_128 : gMok gM128 := ⟨gTB_in (i := 996) (by decide +kernel) (by decide +kernel), gTB_in (i := 86) (by decide +kernel) (by decide +kernel), by decide +kernel, by decide +kernel, rfl, by decide, gTB_in (i := 995) (by decide +kernel) (by decide +kernel), fun h _ => by cases h⟩
set_option maxRecDepth 100000 in
theorem gMok_129 : gMok gM129 := ⟨gTB_in (i := 993) (by decide +kernel) (by decide +kernel), gTB_in (i := 86) (by decide +kernel) (by decide +kernel), by decide +kernel, by decide +kernel, rfl, by decide, gTB_in (i := 992) (by decide +kernel) (by decide +kernel), fun _ _ => gTB_in (i := 37) (by decide +kernel) (by decide +kernel)⟩
set_option maxRecDepth 100000 in
theorem gMok_130 : gMok gM130 := ⟨gTB_in (i := 989) (by decide +kernel) (by decide +kernel), gTB_in (i := 86) (by decide +kernel) (by decide +kernel), by decide +kernel, by decide +kernel, rfl, by decide, gTB_in (i := 988) (by decide +kernel) (by decide +kernel), fun _ _ => gTB_in (i := 36) (by decide +kernel) (by decide +kernel)⟩
set_option maxRecDepth 100000 in
theorem gMok_131 : gMok gM131 := ⟨gTB_in (i := 1000) (by decide +kernel) (by decide +kernel), gTB_in (i := 86) (by decide +kernel) (by decide +kernel), by decide +kernel, by decide +kernel, rfl, by decide, gTB_in (i := 999) (by decide +kernel) (by decide +kernel), fun _ _ => gTB_in (i := 38) (by decide +kernel) (by decide +kernel)⟩
set_option maxRecDepth 100000 in
theorem gMok_132 : gMok gM132 := ⟨gTB_in (i := 1004) (by decide +kernel) (by decide +kernel), gTB_in (i := 86) (by decide +kernel) (by decide +kernel), by decide +kernel, by decide +kernel, rfl, by decide, gTB_in (i := 1003) (by decide +kernel) (by decide +kernel), fun _ _ => gTB_in (i := 39) (by decide +kernel) (by decide +kernel)⟩
set_option maxRecDepth 100000 in
theorem gMok_133 : gMok gM133 := ⟨gTB_in (i := 1008) (by decide +kernel) (by decide +kernel), gTB_in (i := 86) (by decide +kernel) (by decide +kernel), by decide +kernel, by decide +kernel, rfl, by decide, gTB_in (i := 1007) (by decide +kernel) (by decide +kernel), fun _ _ => gTB_in (i := 40) (by decide +kernel) (by decide +kernel)⟩
set_option maxRecDepth 100000 in
theorem gMok_134 : gMok gM134 := ⟨gTB_in (i := 1012) (by decide +kernel) (by decide +kernel), gTB_in (i := 86) (by decide +kernel) (by decide +kernel), by decide +kernel, by decide +kernel, rfl, by decide, gTB_in (i := 1011) (by decide +kernel) (by decide +kernel), fun _ _ => gTB_in (i := 41) (by decide +kernel) (by decide +kernel)⟩
set_option maxRecDepth 100000 in
theorem gMok_135 : gMok gM135 := ⟨gTB_in (i := 981) (by decide +kernel) (by decide +kernel), gTB_in (i := 86) (by decide +kernel) (by decide +kernel), by decide +kernel, by decide +kernel, rfl, by decide, gTB_in (i := 980) (by decide +kernel) (by decide +kernel), fun _ _ => gTB_in (i := 34) (by decide +kernel) (by decide +kernel)⟩
set_option maxRecDepth 100000 in
theorem gMok_136 : gMok gM136 := ⟨gTB_in (i := 977) (by decide +kernel) (by decide +kernel), gTB_in (i := 86) (by decide +kernel) (by decide +kernel), by decide +kernel, by decide +kernel, rfl, by decide, gTB_in (i := 975) (by decide +kernel) (by decide +kernel), fun _ _ => gTB_in (i := 976) (by decide +kernel) (by decide +kernel)⟩
set_option maxRecDepth 100000 in
theorem gMok_137 : gMok gM137 := ⟨gTB_in (i := 1016) (by decide +kernel) (by decide +kernel), gTB_in (i := 86) (by decide +kernel) (by decide +kernel), by decide +kernel, by decide +kernel, rfl, by decide, gTB_in (i := 1014) (by decide +kernel) (by decide +kernel), fun _ _ => gTB_in (i := 1015) (by decide +kernel) (by decide +kernel)⟩
set_option maxRecDepth 100000 in
theorem gMok_138 : gMok gM138 := ⟨gTB_in (i := 1025) (by decide +kernel) (by decide +kernel), gTB_in (i := 86) (by decide +kernel) (by decide +kernel), by decide +kernel, by decide +kernel, rfl, by decide, gTB_in (i := 1024) (by decide +kernel) (by decide +kernel), fun _ _ => gTB_in (i := 42) (by decide +kernel) (by decide +kernel)⟩
set_option maxRecDepth 100000 in
theorem gMok_139 : gMok gM139 := ⟨gTB_in (i := 1041) (by decide +kernel) (by decide +kernel), gTB_in (i := 86) (by decide +kernel) (by decide +kernel), by decide +kernel, by decide +kernel, rfl, by decide, gTB_in (i := 1040) (by decide +kernel) (by decide +kernel), fun _ _ => gTB_in (i := 45) (by decide +kernel) (by decide +kernel)⟩
set_option maxRecDepth 100000 in
theorem gMok_140 : gMok gM140 := ⟨gTB_in (i := 1061) (by decide +kernel) (by decide +kernel), gTB_in (i := 86) (by decide +kernel) (by decide +kernel), by decide +kernel, by decide +kernel, rfl, by decide, gTB_in (i := 1060) (by decide +kernel) (by decide +kernel), fun _ _ => gTB_in (i := 48) (by decide +kernel) (by decide +kernel)⟩
set_option maxRecDepth 100000 in
theorem gMok_141 : gMok gM141 := ⟨gTB_in (i := 1029) (by decide +kernel) (by decide +kernel), gTB_in (i := 86) (by decide +kernel) (by decide +kernel), by decide +kernel, by decide +kernel, rfl, by decide, gTB_in (i := 1028) (by decide +kernel) (by decide +kernel), fun _ _ => gTB_in (i := 43) (by decide +kernel) (by decide +kernel)⟩
set_option maxRecDepth 100000 in
theorem gMok_142 : gMok gM142 := ⟨gTB_in (i := 1033) (by decide +kernel) (by decide +kernel), gTB_in (i := 86) (by decide +kernel) (by decide +kernel), by decide +kernel, by decide +kernel, rfl, by decide, gTB_in (i := 1032) (by decide +kernel) (by decide +kernel), fun _ _ => gTB_in (i := 44) (by decide +kernel) (by decide +kernel)⟩
set_option maxRecDepth 100000 in
theorem gMok_143 : gMok gM143 := ⟨gTB_in (i := 1065) (by decide +kernel) (by decide +kernel), gTB_in (i := 86) (by decide +kernel) (by decide +kernel), by decide +kernel, by decide +kernel, rfl, by decide, gTB_in (i := 1064) (by decide +kernel) (by decide +kernel), fun _ _ => gTB_in (i := 49) (by decide +kernel) (by decide +kernel)⟩
set_option maxRecDepth 100000 in
theorem gMok_144 : gMok gM144 := ⟨gTB_in (i := 1049) (by decide +kernel) (by decide +kernel), gTB_in (i := 86) (by decide +kernel) (by decide +kernel), by decide +kernel, by decide +kernel, rfl, by decide, gTB_in (i := 1048) (by decide +kernel) (by decide +kernel), fun _ _ => gTB_in (i := 46) (by decide +kernel) (by decide +kernel)⟩
set_option maxRecDepth 100000 in
theorem gMok_145 : gMok gM145 := ⟨gTB_in (i := 1053) (by decide +kernel) (by decide +kernel), gTB_in (i := 86) (by decide +kernel) (by decide +kernel), by decide +kernel, by decide +kernel, rfl, by decide, gTB_in (i := 1052) (by decide +kernel) (by decide +kernel), fun _ _ => gTB_in (i := 47) (by decide +kernel) (by decide +kernel)⟩
set_option maxRecDepth 100000 in
theorem gMok_146 : gMok gM146 := ⟨gTB_in (i := 1108) (by decide +kernel) (by decide +kernel), gTB_in (i := 86) (by decide +kernel) (by decide +kernel), by decide +kernel, by decide +kernel, rfl, by decide, gTB_in (i := 1107) (by decide +kernel) (by decide +kernel), fun _ _ => gTB_in (i := 57) (by decide +kernel) (by decide +kernel)⟩
set_option maxRecDepth 100000 in
theorem gMok_147 : gMok gM147 := ⟨gTB_in (i := 1104) (by decide +kernel) (by decide +kernel), gTB_in (i := 86) (by decide +kernel) (by decide +kernel), by decide +kernel, by decide +kernel, rfl, by decide, gTB_in (i := 1103) (by decide +kernel) (by decide +kernel), fun _ _ => gTB_in (i := 56) (by decide +kernel) (by decide +kernel)⟩
set_option maxRecDepth 100000 in
theorem gMok_148 : gMok gM148 := ⟨gTB_in (i := 1100) (by decide +kernel) (by decide +kernel), gTB_in (i := 86) (by decide +kernel) (by decide +kernel), by decide +kernel, by decide +kernel, rfl, by decide, gTB_in (i := 1099) (by decide +kernel) (by decide +kernel), fun _ _ => gTB_in (i := 55) (by decide +kernel) (by decide +kernel)⟩
set_option maxRecDepth 100000 in
theorem gMok_149 : gMok gM149 := ⟨gTB_in (i := 1096) (by decide +kernel) (by decide +kernel), gTB_in (i := 86) (by decide +kernel) (by decide +kernel), by decide +kernel, by decide +kernel, rfl, by decide, gTB_in (i := 1095) (by decide +kernel) (by decide +kernel), fun _ _ => gTB_in (i := 54) (by decide +kernel) (by decide +kernel)⟩
set_option maxRecDepth 100000 in
theorem gMok_150 : gMok gM150 := ⟨gTB_in (i := 1021) (by decide +kernel) (by decide +kernel), gTB_in (i := 86) (by decide +kernel) (by decide +kernel), by decide +kernel, by decide +kernel, rfl, by decide, gTB_in (i := 1019) (by decide +kernel) (by decide +kernel), fun _ _ => gTB_in (i := 1020) (by decide +kernel) (by decide +kernel)⟩
set_option maxRecDepth 100000 in
theorem gMok_151 : gMok gM151 := ⟨gTB_in (i := 1037) (by decide +kernel) (by decide +kernel), gTB_in (i := 86) (by decide +kernel) (by decide +kernel), by decide +kernel, by decide +kernel, rfl, by decide, gTB_in (i := 1035) (by decide +kernel) (by decide +kernel), fun _ _ => gTB_in (i := 1036) (by decide +kernel) (by decide +kernel)⟩
set_option maxRecDepth 100000 in
theorem gMok_152 : gMok gM152 := ⟨gTB_in (i := 1045) (by decide +kernel) (by decide +kernel), gTB_in (i := 86) (by decide +kernel) (by decide +kernel), by decide +kernel, by decide +kernel, rfl, by decide, gTB_in (i := 1043) (by decide +kernel) (by decide +kernel), fun _ _ => gTB_in (i := 1044) (by decide +kernel) (by decide +kernel)⟩
set_option maxRecDepth 100000 in
theorem gMok_153 : gMok gM153 := ⟨gTB_in (i := 1073) (by decide +kernel) (by decide +kernel), gTB_in (i := 86) (by decide +kernel) (by decide +kernel), by decide +kernel, by decide +kernel, rfl, by decide, gTB_in (i := 1072) (by decide +kernel) (by decide +kernel), fun _ _ => gTB_in (i := 51) (by decide +kernel) (by decide +kernel)⟩
set_option maxRecDepth 100000 in
theorem gMok_154 : gMok gM154 := ⟨gTB_in (i := 1069) (by decide +kernel) (by decide +kernel), gTB_in (i := 86) (by decide +kernel) (by decide +kernel), by decide +kernel, by decide +kernel, rfl, by decide, gTB_in (i := 1068) (by decide +kernel) (by decide +kernel), fun _ _ => gTB_in (i := 50) (by decide +kernel) (by decide +kernel)⟩
set_option maxRecDepth 100000 in
theorem gMok_155 : gMok gM155 := ⟨gTB_in (i := 1176) (by decide +kernel) (by decide +kernel), gTB_in (i := 86) (by decide +kernel) (by decide +kernel), by decide +kernel, by decide +kernel, rfl, by decide, gTB_in (i := 1175) (by decide +kernel) (by decide +kernel), fun _ _ => gTB_in (i := 64) (by decide +kernel) (by decide +kernel)⟩
set_option maxRecDepth 100000 in
theorem gMok_156 : gMok gM156 := ⟨gTB_in (i := 1243) (by decide +kernel) (by decide +kernel), gTB_in (i := 86) (by decide +kernel) (by decide +kernel), by decide +kernel, by decide +kernel, rfl, by decide, gTB_in (i := 1242) (by decide +kernel) (by decide +kernel), fun _ _ => gTB_in (i := 70) (by decide +kernel) (by decide +kernel)⟩
set_option maxRecDepth 100000 in
theorem gMok_157 : gMok gM157 := ⟨gTB_in (i := 1057) (by decide +kernel) (by decide +kernel), gTB_in (i := 86) (by decide +kernel) (by decide +kernel), by decide +kernel, by decide +kernel, rfl, by decide, gTB_in (i := 1055) (by decide +kernel) (by decide +kernel), fun _ _ => gTB_in (i := 1056) (by decide +kernel) (by decide +kernel)⟩
set_option maxRecDepth 100000 in
theorem gMok_158 : gMok gM158 := ⟨gTB_in (i := 1088) (by decide +kernel) (by decide +kernel), gTB_in (i := 86) (by decide +kernel) (by decide +kernel), by decide +kernel, by decide +kernel, rfl, by decide, gTB_in (i := 1087) (by decide +kernel) (by decide +kernel), fun _ _ => gTB_in (i := 53) (by decide +kernel) (by decide +kernel)⟩
set_option maxRecDepth 100000 in
theorem gMok_159 : gMok gM159 := ⟨gTB_in (i := 1084) (by decide +kernel) (by decide +kernel), gTB_in (i := 86) (by decide +kernel) (by decide +kernel), by decide +kernel, by decide +kernel, rfl, by decide, gTB_in (i := 1083) (by decide +kernel) (by decide +kernel), fun _ _ => gTB_in (i := 52) (by decide +kernel) (by decide +kernel)⟩
set_option maxRecDepth 100000 in
theorem gMok_160 : gMok gM160 := ⟨gTB_in (i := 1080) (by decide +kernel) (by decide +kernel), gTB_in (i := 86) (by decide +kernel) (by decide +kernel), by decide +kernel, by decide +kernel, rfl, by decide, gTB_in (i := 1078) (by decide +kernel) (by decide +kernel), fun _ _ => gTB_in (i := 1079) (by decide +kernel) (by decide +kernel)⟩
set_option maxRecDepth 100000 in
theorem gMok_161 : gMok gM161 := ⟨gTB_in (i := 1092) (by decide +kernel) (by decide +kernel), gTB_in (i := 86) (by decide +kernel) (by decide +kernel), by decide +kernel, by decide +kernel, rfl, by decide, gTB_in (i := 1090) (by decide +kernel) (by decide +kernel), fun _ _ => gTB_in (i := 1091) (by decide +kernel) (by decide +kernel)⟩
set_option maxRecDepth 100000 in
theorem gMok_162 : gMok gM162 := ⟨gTB_in (i := 1112) (by decide +kernel) (by decide +kernel), gTB_in (i := 86) (by decide +kernel) (by decide +kernel), by decide +kernel, by decide +kernel, rfl, by decide, gTB_in (i := 1110) (by decide +kernel) (by decide +kernel), fun _ _ => gTB_in (i := 1111) (by decide +kernel) (by decide +kernel)⟩
set_option maxRecDepth 100000 in
theorem gMok_163 : gMok gM163 := ⟨gTB_in (i := 1119) (by decide +kernel) (by decide +kernel), gTB_in (i := 86) (by decide +kernel) (by decide +kernel), by decide +kernel, by decide +kernel, rfl, by decide, gTB_in (i := 1117) (by decide +kernel) (by decide +kernel), fun _ _ => gTB_in (i := 1118) (by decide +kernel) (by decide +kernel)⟩
set_option maxRecDepth 100000 in
theorem gMok_164 : gMok gM164 := ⟨gTB_in (i := 1127) (by decide +kernel) (by decide +kernel), gTB_in (i := 86) (by decide +kernel) (by decide +kernel), by decide +kernel, by decide +kernel, rfl, by decide, gTB_in (i := 1126) (by decide +kernel) (by decide +kernel), fun _ _ => gTB_in (i := 58) (by decide +kernel) (by decide +kernel)⟩
set_option maxRecDepth 100000 in
theorem gMok_165 : gMok gM165 := ⟨gTB_in (i := 1123) (by decide +kernel) (by decide +kernel), gTB_in (i := 86) (by decide +kernel) (by decide +kernel), by decide +kernel, by decide +kernel, rfl, by decide, gTB_in (i := 1121) (by decide +kernel) (by decide +kernel), fun _ _ => gTB_in (i := 1122) (by decide +kernel) (by decide +kernel)⟩
set_option maxRecDepth 100000 in
theorem gMok_166 : gMok gM166 := ⟨gTB_in (i := 1131) (by decide +kernel) (by decide +kernel), gTB_in (i := 86) (by decide +kernel) (by decide +kernel), by decide +kernel, by decide +kernel, rfl, by decide, gTB_in (i := 1129) (by decide +kernel) (by decide +kernel), fun _ _ => gTB_in (i := 1130) (by decide +kernel) (by decide +kernel)⟩
set_option maxRecDepth 100000 in
theorem gMok_167 : gMok gM167 := ⟨gTB_in (i := 1143) (by decide +kernel) (by decide +kernel), gTB_in (i := 86) (by decide +kernel) (by decide +kernel), by decide +kernel, by decide +kernel, rfl, by decide, gTB_in (i := 1142) (by decide +kernel) (by decide +kernel), fun _ _ => gTB_in (i := 60) (by decide +kernel) (by decide +kernel)⟩
set_option maxRecDepth 100000 in
theorem gMok_168 : gMok gM168 := ⟨gTB_in (i := 1148) (by decide +kernel) (by decide +kernel), gTB_in (i := 86) (by decide +kernel) (by decide +kernel), by decide +kernel, by decide +kernel, rfl, by decide, gTB_in (i := 1147) (by decide +kernel) (by decide +kernel), fun _ _ => gTB_in (i := 61) (by decide +kernel) (by decide +kernel)⟩
set_option maxRecDepth 100000 in
theorem gMok_169 : gMok gM169 := ⟨gTB_in (i := 1139) (by decide +kernel) (by decide +kernel), gTB_in (i := 86) (by decide +kernel) (by decide +kernel), by decide +kernel, by decide +kernel, rfl, by decide, gTB_in (i := 1138) (by decide +kernel) (by decide +kernel), fun _ _ => gTB_in (i := 59) (by decide +kernel) (by decide +kernel)⟩
set_option maxRecDepth 100000 in
theorem gMok_170 : gMok gM170 := ⟨gTB_in (i := 1135) (by decide +kernel) (by decide +kernel), gTB_in (i := 86) (by decide +kernel) (by decide +kernel), by decide +kernel, by decide +kernel, rfl, by decide, gTB_in (i := 1133) (by decide +kernel) (by decide +kernel), fun _ _ => gTB_in (i := 1134) (by decide +kernel) (by decide +kernel)⟩
set_option maxRecDepth 100000 in
theorem gMok_171 : gMok gM171 := ⟨gTB_in (i := 1160) (by decide +kernel) (by decide +kernel), gTB_in (i := 86) (by decide +kernel) (by decide +kernel), by decide +kernel, by decide +kernel, rfl, by decide, gTB_in (i := 1159) (by decide +kernel) (by decide +kernel), fun _ _ => gTB_in (i := 63) (by decide +kernel) (by decide +kernel)⟩
set_option maxRecDepth 100000 in
theorem gMok_172 : gMok gM172 := ⟨gTB_in (i := 1156) (by decide +kernel) (by decide +kernel), gTB_in (i := 86) (by decide +kernel) (by decide +kernel), by decide +kernel, by decide +kernel, rfl, by decide, gTB_in (i := 1155) (by decide +kernel) (by decide +kernel), fun _ _ => gTB_in (i := 62) (by decide +kernel) (by decide +kernel)⟩
set_option maxRecDepth 100000 in
theorem gMok_173 : gMok gM173 := ⟨gTB_in (i := 1152) (by decide +kernel) (by decide +kernel), gTB_in (i := 86) (by decide +kernel) (by decide +kernel), by decide +kernel, by decide +kernel, rfl, by decide, gTB_in (i := 1150) (by decide +kernel) (by decide +kernel), fun _ _ => gTB_in (i := 1151) (by decide +kernel) (by decide +kernel)⟩
set_option maxRecDepth 100000 in
theorem gMok_174 : gMok gM174 := ⟨gTB_in (i := 1164) (by decide +kernel) (by decide +kernel), gTB_in (i := 86) (by decide +kernel) (by decide +kernel), by decide +kernel, by decide +kernel, rfl, by decide, gTB_in (i := 1162) (by decide +kernel) (by decide +kernel), fun _ _ => gTB_in (i := 1163) (by decide +kernel) (by decide +kernel)⟩
set_option maxRecDepth 100000 in
theorem gMok_175 : gMok gM175 := ⟨gTB_in (i := 1168) (by decide +kernel) (by decide +kernel), gTB_in (i := 86) (by decide +kernel) (by decide +kernel), by decide +kernel, by decide +kernel, rfl, by decide, gTB_in (i := 1166) (by decide +kernel) (by decide +kernel), fun _ _ => gTB_in (i := 1167) (by decide +kernel) (by decide +kernel)⟩
set_option maxRecDepth 100000 in
theorem gMok_176 : gMok gM176 := ⟨gTB_in (i := 1172) (by decide +kernel) (by decide +kernel), gTB_in (i := 86) (by decide +kernel) (by decide +kernel), by decide +kernel, by decide +kernel, rfl, by decide, gTB_in (i := 1170) (by decide +kernel) (by decide +kernel), fun _ _ => gTB_in (i := 1171) (by decide +kernel) (by decide +kernel)⟩
set_option maxRecDepth 100000 in
theorem gMok_177 : gMok gM177 := ⟨gTB_in (i := 1180) (by decide +kernel) (by decide +kernel), gTB_in (i := 86) (by decide +kernel) (by decide +kernel), by decide +kernel, by decide +kernel, rfl, by decide, gTB_in (i := 1178) (by decide +kernel) (by decide +kernel), fun _ _ => gTB_in (i := 1179) (by decide +kernel) (by decide +kernel)⟩
set_option maxRecDepth 100000 in
theorem gMok_178 : gMok gM178 := ⟨gTB_in (i := 1184) (by decide +kernel) (by decide +kernel), gTB_in (i := 86) (by decide +kernel) (by decide +kernel), by decide +kernel, by decide +kernel, rfl, by decide, gTB_in (i := 1182) (by decide +kernel) (by decide +kernel), fun _ _ => gTB_in (i := 1183) (by decide +kernel) (by decide +kernel)⟩
set_option maxRecDepth 100000 in
theorem gMok_179 : gMok gM179 := ⟨gTB_in (i := 1192) (by decide +kernel) (by decide +kernel), gTB_in (i := 86) (by decide +kernel) (by decide +kernel), by decide +kernel, by decide +kernel, rfl, by decide, gTB_in (i := 1191) (by decide +kernel) (by decide +kernel), fun _ _ => gTB_in (i := 65) (by decide +kernel) (by decide +kernel)⟩
set_option maxRecDepth 100000 in
theorem gMok_180 : gMok gM180 := ⟨gTB_in (i := 1188) (by decide +kernel) (by decide +kernel), gTB_in (i := 86) (by decide +kernel) (by decide +kernel), by decide +kernel, by decide +kernel, rfl, by decide, gTB_in (i := 1186) (by decide +kernel) (by decide +kernel), fun _ _ => gTB_in (i := 1187) (by decide +kernel) (by decide +kernel)⟩
set_option maxRecDepth 100000 in
theorem gMok_181 : gMok gM181 := ⟨gTB_in (i := 1201) (by decide +kernel) (by decide +kernel), gTB_in (i := 86) (by decide +kernel) (by decide +kernel), by decide +kernel, by decide +kernel, rfl, by decide, gTB_in (i := 1200) (by decide +kernel) (by decide +kernel), fun _ _ => gTB_in (i := 66) (by decide +kernel) (by decide +kernel)⟩
set_option maxRecDepth 100000 in
theorem gMok_182 : gMok gM182 := ⟨gTB_in (i := 1196) (by decide +kernel) (by decide +kernel), gTB_in (i := 86) (by decide +kernel) (by decide +kernel), by decide +kernel, by decide +kernel, rfl, by decide, gTB_in (i := 1194) (by decide +kernel) (by decide +kernel), fun _ _ => gTB_in (i := 1195) (by decide +kernel) (by decide +kernel)⟩
set_option maxRecDepth 100000 in
theorem gMok_183 : gMok gM183 := ⟨gTB_in (i := 1208) (by decide +kernel) (by decide +kernel), gTB_in (i := 86) (by decide +kernel) (by decide +kernel), by decide +kernel, by decide +kernel, rfl, by decide, gTB_in (i := 1207) (by decide +kernel) (by decide +kernel), fun h _ => by cases h⟩
set_option maxRecDepth 100000 in
theorem gMok_184 : gMok gM184 := ⟨gTB_in (i := 1205) (by decide +kernel) (by decide +kernel), gTB_in (i := 86) (by decide +kernel) (by decide +kernel), by decide +kernel, by decide +kernel, rfl, by decide, gTB_in (i := 1203) (by decide +kernel) (by decide +kernel), fun _ _ => gTB_in (i := 1204) (by decide +kernel) (by decide +kernel)⟩
set_option maxRecDepth 100000 in
theorem gMok_185 : gMok gM185 := ⟨gTB_in (i := 1223) (by decide +kernel) (by decide +kernel), gTB_in (i := 86) (by decide +kernel) (by decide +kernel), by decide +kernel, by decide +kernel, rfl, by decide, gTB_in (i := 1222) (by decide +kernel) (by decide +kernel), fun _ _ => gTB_in (i := 68) (by decide +kernel) (by decide +kernel)⟩
set_option maxRecDepth 100000 in
theorem gMok_186 : gMok gM186 := ⟨gTB_in (i := 1219) (by decide +kernel) (by decide +kernel), gTB_in (i := 86) (by decide +kernel) (by decide +kernel), by decide +kernel, by decide +kernel, rfl, by decide, gTB_in (i := 1218) (by decide +kernel) (by decide +kernel), fun _ _ => gTB_in (i := 67) (by decide +kernel) (by decide +kernel)⟩
set_option maxRecDepth 100000 in
theorem gMok_187 : gMok gM187 := ⟨gTB_in (i := 1212) (by decide +kernel) (by decide +kernel), gTB_in (i := 86) (by decide +kernel) (by decide +kernel), by decide +kernel, by decide +kernel, rfl, by decide, gTB_in (i := 1210) (by decide +kernel) (by decide +kernel), fun _ _ => gTB_in (i := 1211) (by decide +kernel) (by decide +kernel)⟩
set_option maxRecDepth 100000 in
theorem gMok_188 : gMok gM188 := ⟨gTB_in (i := 1227) (by decide +kernel) (by decide +kernel), gTB_in (i := 86) (by decide +kernel) (by decide +kernel), by decide +kernel, by decide +kernel, rfl, by decide, gTB_in (i := 1225) (by decide +kernel) (by decide +kernel), fun _ _ => gTB_in (i := 1226) (by decide +kernel) (by decide +kernel)⟩
set_option maxRecDepth 100000 in
theorem gMok_189 : gMok gM189 := ⟨gTB_in (i := 1231) (by decide +kernel) (by decide +kernel), gTB_in (i := 86) (by decide +kernel) (by decide +kernel), by decide +kernel, by decide +kernel, rfl, by decide, gTB_in (i := 1229) (by decide +kernel) (by decide +kernel), fun _ _ => gTB_in (i := 1230) (by decide +kernel) (by decide +kernel)⟩
set_option maxRecDepth 100000 in
theorem gMok_190 : gMok gM190 := ⟨gTB_in (i := 1239) (by decide +kernel) (by decide +kernel), gTB_in (i := 86) (by decide +kernel) (by decide +kernel), by decide +kernel, by decide +kernel, rfl, by decide, gTB_in (i := 1238) (by decide +kernel) (by decide +kernel), fun _ _ => gTB_in (i := 69) (by decide +kernel) (by decide +kernel)⟩
set_option maxRecDepth 100000 in
theorem gMok_191 : gMok gM191 := ⟨gTB_in (i := 1235) (by decide +kernel) (by decide +kernel), gTB_in (i := 86) (by decide +kernel) (by decide +kernel), by decide +kernel, by decide +kernel, rfl, by decide, gTB_in (i := 1233) (by decide +kernel) (by decide +kernel), fun _ _ => gTB_in (i := 1234) (by decide +kernel) (by decide +kernel)⟩
set_option maxRecDepth 100000 in
theorem gMok_192 : gMok gM192 := ⟨gTB_in (i := 661) (by decide +kernel) (by decide +kernel), gTB_in (i := 87) (by decide +kernel) (by decide +kernel), by decide +kernel, by decide +kernel, rfl, by decide, gTB_in (i := 660) (by decide +kernel) (by decide +kernel), fun h _ => by cases h⟩
set_option maxRecDepth 100000 in
theorem gMok_b0 : ∀ q ∈ ([gM0, gM1, gM2, gM3, gM4, gM5, gM6, gM7, gM8, gM9, gM10, gM11, gM12, gM13, gM14, gM15] : List gMe), gMok q := List.forall_mem_cons.mpr ⟨gMok_0, List.forall_mem_cons.mpr ⟨gMok_1, List.forall_mem_cons.mpr ⟨gMok_2, List.forall_mem_cons.mpr ⟨gMok_3, List.forall_mem_cons.mpr ⟨gMok_4, List.forall_mem_cons.mpr ⟨gMok_5, List.forall_mem_cons.mpr ⟨gMok_6, List.forall_mem_cons.mpr ⟨gMok_7, List.forall_mem_cons.mpr ⟨gMok_8, List.forall_mem_cons.mpr ⟨gMok_9, List.forall_mem_cons.mpr ⟨gMok_10, List.forall_mem_cons.mpr ⟨gMok_11, List.forall_mem_cons.mpr ⟨gMok_12, List.forall_mem_cons.mpr ⟨gMok_13, List.forall_mem_cons.mpr ⟨gMok_14, List.forall_mem_cons.mpr ⟨gMok_15, fun _ h => absurd h List.not_mem_nil⟩⟩⟩⟩⟩⟩⟩⟩⟩⟩⟩⟩⟩⟩⟩⟩
set_option maxRecDepth 100000 in
theorem gMok_b1 : ∀ q ∈ ([gM16, gM17, gM18, gM19, gM20, gM21, gM22, gM23, gM24, gM25, gM26, gM27, gM28, gM29, gM30, gM31] : List gMe), gMok q := List.forall_mem_cons.mpr ⟨gMok_16, List.forall_mem_cons.mpr ⟨gMok_17, List.forall_mem_cons.mpr ⟨gMok_18, List.forall_mem_cons.mpr ⟨gMok_19, List.forall_mem_cons.mpr ⟨gMok_20, List.forall_mem_cons.mpr ⟨gMok_21, List.forall_mem_cons.mpr ⟨gMok_22, List.forall_mem_cons.mpr ⟨gMok_23, List.forall_mem_cons.mpr ⟨gMok_24, List.forall_mem_cons.mpr ⟨gMok_25, List.forall_mem_cons.mpr ⟨gMok_26, List.forall_mem_cons.mpr ⟨gMok_27, List.forall_mem_cons.mpr ⟨gMok_28, List.forall_mem_cons.mpr ⟨gMok_29, List.forall_mem_cons.mpr ⟨gMok_30, List.forall_mem_cons.mpr ⟨gMok_31, fun _ h => absurd h List.not_mem_nil⟩⟩⟩⟩⟩⟩⟩⟩⟩⟩⟩⟩⟩⟩⟩⟩
set_option maxRecDepth 100000 in
theorem gMok_b2 : ∀ q ∈ ([gM32, gM33, gM34, gM35, gM36, gM37, gM38, gM39, gM40, gM41, gM42, gM43, gM44, gM45, gM46, gM47] : List gMe), gMok q := List.forall_mem_cons.mpr ⟨gMok_32, List.forall_mem_cons.mpr ⟨gMok_33, List.forall_mem_cons.mpr ⟨gMok_34, List.forall_mem_cons.mpr ⟨gMok_35, List.forall_mem_cons.mpr ⟨gMok_36, List.forall_mem_cons.mpr ⟨gMok_37, List.forall_mem_cons.mpr ⟨gMok_38, List.forall_mem_cons.mpr ⟨gMok_39, List.forall_mem_cons.mpr ⟨gMok_40, List.forall_mem_cons.mpr ⟨gMok_41, List.forall_mem_cons.mpr ⟨gMok_42, List.forall_mem_cons.mpr ⟨gMok_43, List.forall_mem_cons.mpr ⟨gMok_44, List.forall_mem_cons.mpr ⟨gMok_45, List.forall_mem_cons.mpr ⟨gMok_46, List.forall_mem_cons.mpr ⟨gMok_47, fun _ h => absurd h List.not_mem_nil⟩⟩⟩⟩⟩⟩⟩⟩⟩⟩⟩⟩⟩⟩⟩⟩
set_option maxRecDepth 100000 in
theorem gMok_b3 : ∀ q ∈ ([gM48, gM49, gM50, gM51, gM52, gM53, gM54, gM55, gM56, gM57, gM58, gM59, gM60, gM61, gM62, gM63] : List gMe), gMok q := List.forall_mem_cons.mpr ⟨gMok_48, List.forall_mem_cons.mpr ⟨gMok_49, List.forall_mem_cons.mpr ⟨gMok_50, List.forall_mem_cons.mpr ⟨gMok_51, List.forall_mem_cons.mpr ⟨gMok_52, List.forall_mem_cons.mpr ⟨gMok_53, List.forall_mem_cons.mpr ⟨gMok_54, List.forall_mem_cons.mpr ⟨gMok_55, List.forall_mem_cons.mpr ⟨gMok_56, List.forall_mem_cons.mpr ⟨gMok_57, List.forall_mem_cons.mpr ⟨gMok_58, List.forall_mem_cons.mpr ⟨gMok_59, List.forall_mem_cons.mpr ⟨gMok_60, List.forall_mem_cons.mpr ⟨gMok_61, List.forall_mem_cons.mpr ⟨gMok_62, List.forall_mem_cons.mpr ⟨gMok_63, fun _ h => absurd h List.not_mem_nil⟩⟩⟩⟩⟩⟩⟩⟩⟩⟩⟩⟩⟩⟩⟩⟩
set_option maxRecDepth 100000 in
theorem gMok_b4 : ∀ q ∈ ([gM64, gM65, gM66, gM67, gM68, gM69, gM70, gM71, gM72, gM73, gM74, gM75, gM76, gM77, gM78, gM79] : List gMe), gMok q := List.forall_mem_cons.mpr ⟨gMok_64, List.forall_mem_cons.mpr ⟨gMok_65, List.forall_mem_cons.mpr ⟨gMok_66, List.forall_mem_cons.mpr ⟨gMok_67, List.forall_mem_cons.mpr ⟨gMok_68, List.forall_mem_cons.mpr ⟨gMok_69, List.forall_mem_cons.mpr ⟨gMok_70, List.forall_mem_cons.mpr ⟨gMok_71, List.forall_mem_cons.mpr ⟨gMok_72, List.forall_mem_cons.mpr ⟨gMok_73, List.forall_mem_cons.mpr ⟨gMok_74, List.forall_mem_cons.mpr ⟨gMok_75, List.forall_mem_cons.mpr ⟨gMok_76, List.forall_mem_cons.mpr ⟨gMok_77, List.forall_mem_cons.mpr ⟨gMok_78, List.forall_mem_cons.mpr ⟨gMok_79, fun _ h => absurd h List.not_mem_nil⟩⟩⟩⟩⟩⟩⟩⟩⟩⟩⟩⟩⟩⟩⟩⟩
set_option maxRecDepth 100000 in
theorem gMok_b5 : ∀ q ∈ ([gM80, gM81, gM82, gM83, gM84, gM85, gM86, gM87, gM88, gM89, gM90, gM91, gM92, gM93, gM94, gM95] : List gMe), gMok q := List.forall_mem_cons.mpr ⟨gMok_80, List.forall_mem_cons.mpr ⟨gMok_81, List.forall_mem_cons.mpr ⟨gMok_82, List.forall_mem_cons.mpr ⟨gMok_83, List.forall_mem_cons.mpr ⟨gMok_84, List.forall_mem_cons.mpr ⟨gMok_85, List.forall_mem_cons.mpr ⟨gMok_86, List.forall_mem_cons.mpr ⟨gMok_87, List.forall_mem_cons.mpr ⟨gMok_88, List.forall_mem_cons.mpr ⟨gMok_89, List.forall_mem_cons.mpr ⟨gMok_90, List.forall_mem_cons.mpr ⟨gMok_91, List.forall_mem_cons.mpr ⟨gMok_92, List.forall_mem_cons.mpr ⟨gMok_93, List.forall_mem_cons.mpr ⟨gMok_94, List.forall_mem_cons.mpr ⟨gMok_95, fun _ h => absurd h List.not_mem_nil⟩⟩⟩⟩⟩⟩⟩⟩⟩⟩⟩⟩⟩⟩⟩⟩
set_option maxRecDepth 100000 in
theorem gMok_b6 : ∀ q ∈ ([gM96, gM97, gM98, gM99, gM100, gM101, gM102, gM103, gM104, gM105, gM106, gM107, gM108, gM109, gM110, gM111] : List gMe), gMok q := List.forall_mem_cons.mpr ⟨gMok_96, List.forall_mem_cons.mpr ⟨gMok_97, List.forall_mem_cons.mpr ⟨gMok_98, List.forall_mem_cons.mpr ⟨gMok_99, List.forall_mem_cons.mpr ⟨gMok_100, List.forall_mem_cons.mpr ⟨gMok_101, List.forall_mem_cons.mpr ⟨gMok_102, List.forall_mem_cons.mpr ⟨gMok_103, List.forall_mem_cons.mpr ⟨gMok_104, List.forall_mem_cons.mpr ⟨gMok_105, List.forall_mem_cons.mpr ⟨gMok_106, List.forall_mem_cons.mpr ⟨gMok_107, List.forall_mem_cons.mpr ⟨gMok_108, List.forall_mem_cons.mpr ⟨gMok_109, List.forall_mem_cons.mpr ⟨gMok_110, List.forall_mem_cons.mpr ⟨gMok_111, fun _ h => absurd h List.not_mem_nil⟩⟩⟩⟩⟩⟩⟩⟩⟩⟩⟩⟩⟩⟩⟩⟩
set_option maxRecDepth 100000 in
theorem gMok_b7 : ∀ q ∈ ([gM112, gM113, gM114, gM115, gM116, gM117, gM118, gM119, gM120, gM121, gM122, gM123, gM124, gM125, gM126, gM127] : List gMe), gMok q := List.forall_mem_cons.mpr ⟨gMok_112, List.forall_mem_cons.mpr ⟨gMok_113, List.forall_mem_cons.mpr ⟨gMok_114, List.forall_mem_cons.mpr ⟨gMok_115, List.forall_mem_cons.mpr ⟨gMok_116, List.forall_mem_cons.mpr ⟨gMok_117, List.forall_mem_cons.mpr ⟨gMok_118, List.forall_mem_cons.mpr ⟨gMok_119, List.forall_mem_cons.mpr ⟨gMok_120, List.forall_mem_cons.mpr ⟨gMok_121, List.forall_mem_cons.mpr ⟨gMok_122, List.forall_mem_cons.mpr ⟨gMok_123, List.forall_mem_cons.mpr ⟨gMok_124, List.forall_mem_cons.mpr ⟨gMok_125, List.forall_mem_cons.mpr ⟨gMok_126, List.forall_mem_cons.mpr ⟨gMok_127, fun _ h => absurd h List.not_mem_nil⟩⟩⟩⟩⟩⟩⟩⟩⟩⟩⟩⟩⟩⟩⟩⟩
set_option maxRecDepth 100000 in
theorem gMok_b8 : ∀ q ∈ ([gM128, gM129, gM130, gM131, gM132, gM133, gM134, gM135, gM136, gM137, gM138, gM139, gM140, gM141, gM142, gM143] : List gMe), gMok q := List.forall_mem_cons.mpr ⟨gMok_128, List.forall_mem_cons.mpr ⟨gMok_129, List.forall_mem_cons.mpr ⟨gMok_130, List.forall_mem_cons.mpr ⟨gMok_131, List.forall_mem_cons.mpr ⟨gMok_132, List.forall_mem_cons.mpr ⟨gMok_133, List.forall_mem_cons.mpr ⟨gMok_134, List.forall_mem_cons.mpr ⟨gMok_135, List.forall_mem_cons.mpr ⟨gMok_136, List.forall_mem_cons.mpr ⟨gMok_137, List.forall_mem_cons.mpr ⟨gMok_138, List.forall_mem_cons.mpr ⟨gMok_139, List.forall_mem_cons.mpr ⟨gMok_140, List.forall_mem_cons.mpr ⟨gMok_141, List.forall_mem_cons.mpr ⟨gMok_142, List.forall_mem_cons.mpr ⟨gMok_143, fun _ h => absurd h List.not_mem_nil⟩⟩⟩⟩⟩⟩⟩⟩⟩⟩⟩⟩⟩⟩⟩⟩
set_option maxRecDepth 100000 in
theorem gMok_b9 : ∀ q ∈ ([gM144, gM145, gM146, gM147, gM148, gM149, gM150, gM151, gM152, gM153, gM154, gM155, gM156, gM157, gM158, gM159] : List gMe), gMok q := List.forall_mem_cons.mpr ⟨gMok_144, List.forall_mem_cons.mpr ⟨gMok_145, List.forall_mem_cons.mpr ⟨gMok_146, List.forall_mem_cons.mpr ⟨gMok_147, List.forall_mem_cons.mpr ⟨gMok_148, List.forall_mem_cons.mpr ⟨gMok_149, List.forall_mem_cons.mpr ⟨gMok_150, List.forall_mem_cons.mpr ⟨gMok_151, List.forall_mem_cons.mpr ⟨gMok_152, List.forall_mem_cons.mpr ⟨gMok_153, List.forall_mem_cons.mpr ⟨gMok_154, List.forall_mem_cons.mpr ⟨gMok_155, List.forall_mem_cons.mpr ⟨gMok_156, List.forall_mem_cons.mpr ⟨gMok_157, List.forall_mem_cons.mpr ⟨gMok_158, List.forall_mem_cons.mpr ⟨gMok_159, fun _ h => absurd h List.not_mem_nil⟩⟩⟩⟩⟩⟩⟩⟩⟩⟩⟩⟩⟩⟩⟩⟩
set_option maxRecDepth 100000 in
theorem gMok_b10 : ∀ q ∈ ([gM160, gM161, gM162, gM163, gM164, gM165, gM166, gM167, gM168, gM169, gM170, gM171, gM172, gM173, gM174, gM175] : List gMe), gMok q := List.forall_mem_cons.mpr ⟨gMok_160, List.forall_mem_cons.mpr ⟨gMok_161, List.forall_mem_cons.mpr ⟨gMok_162, List.forall_mem_cons.mpr ⟨gMok_163, List.forall_mem_cons.mpr ⟨gMok_164, List.forall_mem_cons.mpr ⟨gMok_165, List.forall_mem_cons.mpr ⟨gMok_166, List.forall_mem_cons.mpr ⟨gMok_167, List.forall_mem_cons.mpr ⟨gMok_168, List.forall_mem_cons.mpr ⟨gMok_169, List.forall_mem_cons.mpr ⟨gMok_170, List.forall_mem_cons.mpr ⟨gMok_171, List.forall_mem_cons.mpr ⟨gMok_172, List.forall_mem_cons.mpr ⟨gMok_173, List.forall_mem_cons.mpr ⟨gMok_174, List.forall_mem_cons.mpr ⟨gMok_175, fun _ h => absurd h List.not_mem_nil⟩⟩⟩⟩⟩⟩⟩⟩⟩⟩⟩⟩⟩⟩⟩⟩
set_option maxRecDepth 100000 in
theorem gMok_b11 : ∀ q ∈ ([gM176, gM177, gM178, gM179, gM180, gM181, gM182, gM183, gM184, gM185, gM186, gM187, gM188, gM189, gM190, gM191] : List gMe), gMok q := List.forall_mem_cons.mpr ⟨gMok_176, List.forall_mem_cons.mpr ⟨gMok_177, List.forall_mem_cons.mpr ⟨gMok_178, List.forall_mem_cons.mpr ⟨gMok_179, List.forall_mem_cons.mpr ⟨gMok_180, List.forall_mem_cons.mpr ⟨gMok_181, List.forall_mem_cons.mpr ⟨gMok_182, List.forall_mem_cons.mpr ⟨gMok_183, List.forall_mem_cons.mpr ⟨gMok_184, List.forall_mem_cons.mpr ⟨gMok_185, List.forall_mem_cons.mpr ⟨gMok_186, List.forall_mem_cons.mpr ⟨gMok_187, List.forall_mem_cons.mpr ⟨gMok_188, List.forall_mem_cons.mpr ⟨gMok_189, List.forall_mem_cons.mpr ⟨gMok_190, List.forall_mem_cons.mpr ⟨gMok_191, fun _ h => absurd h List.not_mem_nil⟩⟩⟩⟩⟩⟩⟩⟩⟩⟩⟩⟩⟩⟩⟩⟩
set_option maxRecDepth 100000 in
theorem gMok_b12 : ∀ q ∈ ([gM192] : List gMe), gMok q := List.forall_mem_cons.mpr ⟨gMok_192, fun _ h => absurd h List.not_mem_nil⟩
set_option maxRecDepth 100000 in
theorem gMok_all : ∀ q ∈ gML, gMok q := by
  show ∀ q ∈ ([gM0, gM1, gM2, gM3, gM4, gM5, gM6, gM7, gM8, gM9, gM10, gM11, gM12, gM13, gM14, gM15] ++ ([gM16, gM17, gM18, gM19, gM20, gM21, gM22, gM23, gM24, gM25, gM26, gM27, gM28, gM29, gM30, gM31] ++ ([gM32, gM33, gM34, gM35, gM36, gM37, gM38, gM39, gM40, gM41, gM42, gM43, gM44, gM45, gM46, gM47] ++ ([gM48, gM49, gM50, gM51, gM52, gM53, gM54, gM55, gM56, gM57, gM58, gM59, gM60, gM61, gM62, gM63] ++ ([gM64, gM65, gM66, gM67, gM68, gM69, gM70, gM71, gM72, gM73, gM74, gM75, gM76, gM77, gM78, gM79] ++ ([gM80, gM81, gM82, gM83, gM84, gM85, gM86, gM87, gM88, gM89, gM90, gM91, gM92, gM93, gM94, gM95] ++ ([gM96, gM97, gM98, gM99, gM100, gM101, gM102, gM103, gM104, gM105, gM106, gM107, gM108, gM109, gM110, gM111] ++ ([gM112, gM113, gM114, gM115, gM116, gM117, gM118, gM119, gM120, gM121, gM122, gM123, gM124, gM125, gM126, gM127] ++ ([gM128, gM129, gM130, gM131, gM132, gM133, gM134, gM135, gM136, gM137, gM138, gM139, gM140, gM141, gM142, gM143] ++ ([gM144, gM145, gM146, gM147, gM148, gM149, gM150, gM151, gM152, gM153, gM154, gM155, gM156, gM157, gM158, gM159] ++ ([gM160, gM161, gM162, gM163, gM164, gM165, gM166, gM167, gM168, gM169, gM170, gM171, gM172, gM173, gM174, gM175] ++ ([gM176, gM177, gM178, gM179, gM180, gM181, gM182, gM183, gM184, gM185, gM186, gM187, gM188, gM189, gM190, gM191] ++ ([gM192])))))))))))) : List gMe), gMok q
  exact List.forall_mem_append.mpr ⟨gMok_b0, List.forall_mem_append.mpr ⟨gMok_b1, List.forall_mem_append.mpr ⟨gMok_b2, List.forall_mem_append.mpr ⟨gMok_b3, List.forall_mem_append.mpr ⟨gMok_b4, List.forall_mem_append.mpr ⟨gMok_b5, List.forall_mem_append.mpr ⟨gMok_b6, List.forall_mem_append.mpr ⟨gMok_b7, List.forall_mem_append.mpr ⟨gMok_b8, List.forall_mem_append.mpr ⟨gMok_b9, List.forall_mem_append.mpr ⟨gMok_b10, List.forall_mem_append.mpr ⟨gMok_b11, gMok_b12⟩⟩⟩⟩⟩⟩⟩⟩⟩⟩⟩⟩
def gCS : Nat → List (Nat × Nat × Nat) := fun c => match c with
  | 0 => [(3, 6, 0), (36, 0, 58), (42, 1, 2), (68, 2, 114), (72, 0, 66), (46, 0, 70), (50, 2, 118), (54, 0, 63), (58, 1, 192), (64, 0, 3), (76, 0, 5), (84, 2, 117), (80, 0, 4), (88, 2, 115)]
  | 1 => [(3, 6, 0), (15, 2, 118), (25, 2, 114), (29, 0, 18), (33, 2, 117), (37, 0, 8), (41, 0, 9), (44, 0, 11), (48, 2, 116)]
  | 2 => [(3, 6, 0), (37, 2, 117), (41, 2, 118), (51, 0, 19), (54, 0, 18), (45, 9, 0), (57, 2, 114)]
  | 3 => [(3, 6, 0), (23, 0, 14), (28, 0, 27), (32, 2, 117), (40, 2, 113), (44, 2, 118), (36, 0, 28), (48, 0, 29), (64, 0, 34), (52, 0, 30), (73, 0, 15), (55, 0, 31), (80, 0, 16), (58, 0, 32), (61, 0, 33), (89, 0, 17)]
  | 4 => [(3, 6, 0), (37, 4, 56), (38, 0, 40), (42, 0, 58), (46, 0, 67), (54, 0, 62), (58, 0, 38), (62, 0, 66), (66, 0, 70), (70, 2, 118), (74, 0, 39), (81, 2, 117), (77, 0, 37)]
  | 5 => [(3, 6, 0), (40, 2, 118), (44, 0, 45), (52, 0, 7), (58, 0, 46), (66, 2, 117), (70, 0, 9), (74, 2, 116), (62, 0, 47), (81, 9, 0), (87, 0, 49)]
  | 6 => [(1, 6, 0), (16, 9, 0), (28, 4, 56), (29, 0, 55), (33, 0, 54), (37, 0, 58)]
  | 7 => [(3, 6, 0), (25, 2, 118), (29, 0, 19), (35, 2, 117), (39, 0, 18), (45, 0, 62), (56, 0, 22), (60, 0, 71), (64, 0, 20), (67, 0, 72), (75, 8, 0), (80, 9, 0), (83, 0, 23), (86, 0, 73), (71, 0, 74), (52, 2, 116)]
  | 8 => [(1, 6, 0), (19, 4, 25), (26, 4, 13), (36, 4, 56), (46, 3, 50), (58, 4, 41), (65, 4, 6), (72, 3, 35), (79, 4, 0), (86, 10, 0), (92, 8, 0), (98, 11, 0), (102, 1, 118), (106, 0, 26), (110, 0, 104), (302, 0, 57), (292, 0, 51), (250, 0, 42), (119, 0, 105), (123, 1, 113), (127, 0, 18), (130, 0, 59), (134, 0, 62), (138, 1, 116), (142, 0, 106), (145, 0, 60), (148, 0, 61), (151, 0, 19), (157, 0, 20), (160, 0, 22), (163, 0, 107), (166, 0, 63), (170, 0, 7), (318, 1, 115), (174, 0, 9), (178, 0, 52), (182, 0, 66), (186, 0, 69), (189, 0, 68), (192, 1, 192), (200, 0, 53), (203, 0, 58), (206, 0, 70), (210, 0, 21), (213, 0, 36), (217, 7, 37), (230, 1, 117), (234, 0, 1), (240, 0, 24), (243, 0, 10), (247, 0, 43), (253, 0, 44), (263, 0, 48), (273, 1, 108), (305, 1, 114), (277, 0, 109), (308, 0, 71), (280, 1, 112), (283, 1, 110), (286, 0, 111), (289, 0, 64), (296, 0, 65), (299, 0, 12)]
  | 9 => [(1, 6, 0), (46, 0, 120), (50, 0, 121), (54, 1, 122), (96, 0, 135), (65, 0, 127), (80, 0, 130), (73, 0, 129), (69, 1, 128), (84, 0, 131), (87, 0, 132), (90, 0, 133), (93, 0, 134), (99, 0, 136), (137, 0, 138), (112, 0, 141), (116, 0, 142), (140, 0, 139), (123, 0, 144), (130, 0, 145), (156, 0, 140), (159, 0, 143), (150, 0, 154), (147, 0, 153), (143, 1, 123), (166, 0, 159), (170, 0, 158), (173, 0, 149), (133, 0, 148), (126, 0, 147), (120, 0, 146), (153, 1, 124), (177, 0, 164), (184, 0, 169), (180, 0, 167), (187, 0, 168), (194, 0, 172), (191, 0, 171), (197, 0, 155), (200, 0, 179), (203, 0, 180), (206, 0, 181), (209, 1, 183), (218, 0, 186), (221, 0, 185), (224, 0, 190), (227, 0, 156)]
  | 11 => [(9, 5, 75), (13, 0, 76), (18, 0, 77), (23, 0, 78), (27, 0, 79), (31, 0, 80), (36, 0, 81), (40, 0, 82), (44, 0, 83), (48, 0, 84), (52, 0, 85), (56, 0, 86), (60, 0, 87), (64, 0, 88), (68, 0, 89), (72, 0, 90), (77, 0, 91), (81, 0, 92), (85, 0, 93), (89, 0, 94), (93, 0, 95), (97, 0, 96), (101, 0, 97), (105, 0, 98), (109, 0, 99), (114, 0, 100), (118, 0, 101), (122, 0, 102), (126, 0, 103), (12, 3, 119), (17, 0, 125), (22, 0, 126), (26, 0, 136), (30, 0, 137), (35, 0, 150), (39, 0, 151), (43, 0, 152), (47, 0, 157), (51, 0, 160), (55, 0, 161), (59, 0, 162), (63, 0, 163), (67, 0, 165), (71, 0, 166), (76, 0, 170), (80, 0, 173), (84, 0, 174), (88, 0, 175), (92, 0, 176), (96, 0, 177), (100, 0, 178), (104, 0, 180), (108, 0, 182), (113, 0, 184), (117, 0, 187), (121, 0, 188), (125, 0, 189), (129, 0, 191)]
  | _ => []
def gFS : Nat → List (Nat × Nat × Nat) := fun c => match c with
  | 0 => [(28, 2, 1), (33, 2, 2), (9, 0, 0), (15, 0, 1), (19, 0, 2), (22, 0, 3), (25, 0, 4)]
  | 1 => [(52, 2, 0), (19, 2, 1), (9, 1, 0)]
  | 2 => [(21, 2, 0), (25, 2, 1), (28, 2, 2), (31, 2, 3), (34, 2, 4), (9, 2, 5), (15, 2, 6), (18, 2, 7)]
  | 3 => [(9, 3, 0), (15, 3, 1), (19, 3, 2), (67, 2, 0), (70, 2, 1), (77, 2, 2), (83, 2, 3), (86, 2, 4)]
  | 4 => [(49, 2, 1), (9, 4, 0), (15, 4, 1), (18, 4, 2), (22, 4, 3), (27, 4, 4), (31, 4, 5), (34, 4, 6)]
  | 5 => [(78, 2, 0), (47, 2, 1), (9, 5, 0), (15, 5, 1), (18, 5, 2), (21, 5, 3), (24, 5, 4), (27, 5, 5), (31, 5, 6), (34, 5, 7), (37, 5, 8)]
  | 6 => [(7, 6, 0), (13, 6, 1), (24, 6, 2)]
  | 7 => [(42, 2, 1), (49, 2, 2), (9, 7, 0), (15, 7, 1), (19, 7, 2), (22, 7, 3)]
  | 8 => [(293, 2, 0), (113, 2, 1), (116, 2, 2), (154, 7, 0), (197, 6, 0), (246, 5, 0), (257, 5, 1), (260, 5, 2), (267, 5, 3), (270, 5, 4), (221, 4, 0), (224, 4, 1), (227, 4, 2), (238, 0, 0), (239, 0, 1), (9, 8, 0), (13, 8, 1), (20, 8, 2), (27, 8, 3), (31, 8, 4), (37, 8, 5), (41, 8, 6), (49, 8, 7), (53, 8, 8), (59, 8, 9), (66, 8, 10), (73, 8, 11), (80, 8, 12)]
  | 9 => [(58, 9, 0), (7, 9, 1), (62, 9, 2), (13, 9, 3), (16, 9, 4), (19, 9, 5), (76, 9, 6), (22, 9, 7), (25, 9, 8), (28, 9, 9), (103, 9, 10), (163, 9, 11), (31, 9, 12), (109, 9, 13), (34, 9, 14), (37, 9, 15), (40, 9, 16), (106, 9, 17), (43, 9, 18)]
  | _ => []
def gNS : Nat → List (Nat × Nat) := fun c => match c with
  | 0 => []
  | 1 => []
  | 2 => []
  | 3 => []
  | 4 => [(25, 7)]
  | 5 => []
  | 6 => [(22, 7)]
  | 7 => []
  | 8 => [(17, 3), (24, 2), (34, 7), (44, 6), (56, 5), (63, 1), (70, 4), (77, 0)]
  | 9 => []
  | 11 => [(7, 8), (10, 9)]
  | _ => []
abbrev gKS : List ((Nat × Nat) × Int32) := [((10, 265), 1431655765), ((10, 266), 858993459), ((10, 267), 252645135), ((9, 183), 1000000)]
abbrev gKL : List ((Nat × Nat) × Int64) := [((8, 312), 7919), ((8, 314), 6151), ((8, 316), 65521), ((9, 212), 7919), ((9, 214), 6151), ((9, 216), 65521)]
abbrev gNW : List Cond := [.methodLinkNest "SeamMere" 19 ⟨"SeamMere$Reader", "<init>", "()V"⟩ "SeamMere", .methodLinkNest "SeamMere" 26 ⟨"SeamMere$Mere", "<init>", "()V"⟩ "SeamMere", .methodLinkNest "SeamMere" 36 ⟨"SeamMere$Standing", "<init>", "()V"⟩ "SeamMere", .methodLinkNest "SeamMere$Shelf" 28 ⟨"SeamMere$Standing", "<init>", "()V"⟩ "SeamMere", .methodLinkNest "SeamMere" 58 ⟨"SeamMere$Seen", "<init>", "()V"⟩ "SeamMere", .methodLinkNest "SeamMere" 65 ⟨"SeamMere$Heaps", "<init>", "()V"⟩ "SeamMere", .methodLinkNest "SeamMere$RowSearch" 37 ⟨"SeamMere$Standing", "<init>", "()V"⟩ "SeamMere", .methodLinkNest "SeamMere" 79 ⟨"SeamMere$DealSearch", "<init>", "()V"⟩ "SeamMere", .methodLinkNest "SeamMere$Reader" 32 ⟨"SeamMere", "at", "([II)I"⟩ "SeamMere", .methodLinkNest "SeamMere$Reader" 40 ⟨"SeamMere", "isIn", "(III)Z"⟩ "SeamMere", .methodLinkNest "SeamMere$Reader" 44 ⟨"SeamMere", "setAt", "([III)V"⟩ "SeamMere", .methodLinkNest "SeamMere$Mere" 37 ⟨"SeamMere", "at", "([II)I"⟩ "SeamMere", .methodLinkNest "SeamMere$Mere" 41 ⟨"SeamMere", "setAt", "([III)V"⟩ "SeamMere", .methodLinkNest "SeamMere$Standing" 25 ⟨"SeamMere", "setAt", "([III)V"⟩ "SeamMere", .methodLinkNest "SeamMere$Standing" 35 ⟨"SeamMere", "at", "([II)I"⟩ "SeamMere", .methodLinkNest "SeamMere$Heaps" 15 ⟨"SeamMere", "setAt", "([III)V"⟩ "SeamMere", .methodLinkNest "SeamMere$Heaps" 25 ⟨"SeamMere", "isBit", "(II)Z"⟩ "SeamMere", .methodLinkNest "SeamMere$Heaps" 33 ⟨"SeamMere", "at", "([II)I"⟩ "SeamMere", .methodLinkNest "SeamMere" 217 ⟨"SeamMere$RowSearch", "lengthen", "(LSeamMere$Mere;II)V"⟩ "SeamMere", .methodLinkNest "SeamMere$RowSearch" 70 ⟨"SeamMere", "setAt", "([III)V"⟩ "SeamMere", .methodLinkNest "SeamMere$RowSearch" 81 ⟨"SeamMere", "at", "([II)I"⟩ "SeamMere", .methodLinkNest "SeamMere$DealSearch" 68 ⟨"SeamMere", "isBit", "(II)Z"⟩ "SeamMere", .methodLinkNest "SeamMere$DealSearch" 50 ⟨"SeamMere", "setAt", "([III)V"⟩ "SeamMere", .methodLinkNest "SeamMere$DealSearch" 84 ⟨"SeamMere", "at", "([II)I"⟩ "SeamMere", .methodLinkNest "SeamMere$DealSearch" 88 ⟨"SeamMere", "bitOf", "(II)I"⟩ "SeamMere", .methodLinkNest "SeamMere$Mere" 57 ⟨"SeamMere", "isBit", "(II)Z"⟩ "SeamMere", .methodLinkNest "SeamMere$Heaps" 48 ⟨"SeamMere", "asNumber", "(Z)I"⟩ "SeamMere", .methodLinkNest "SeamMere$Seen" 40 ⟨"SeamMere", "setAt", "([III)V"⟩ "SeamMere", .methodLinkNest "SeamMere$Seen" 66 ⟨"SeamMere", "at", "([II)I"⟩ "SeamMere", .methodLinkNest "SeamMere$Seen" 74 ⟨"SeamMere", "asNumber", "(Z)I"⟩ "SeamMere", .methodLinkNest "SeamMere$Standing" 52 ⟨"SeamMere", "asNumber", "(Z)I"⟩ "SeamMere"]
set_option maxRecDepth 100000 in
theorem gNW_in : ∀ w ∈ gNW, w ∈ lw_tbl := List.forall_mem_cons.mpr ⟨List.mem_of_getElem? (i := 98) (by decide +kernel), List.forall_mem_cons.mpr ⟨List.mem_of_getElem? (i := 115) (by decide +kernel), List.forall_mem_cons.mpr ⟨List.mem_of_getElem? (i := 163) (by decide +kernel), List.forall_mem_cons.mpr ⟨List.mem_of_getElem? (i := 192) (by decide +kernel), List.forall_mem_cons.mpr ⟨List.mem_of_getElem? (i := 206) (by decide +kernel), List.forall_mem_cons.mpr ⟨List.mem_of_getElem? (i := 245) (by decide +kernel), List.forall_mem_cons.mpr ⟨List.mem_of_getElem? (i := 260) (by decide +kernel), List.forall_mem_cons.mpr ⟨List.mem_of_getElem? (i := 288) (by decide +kernel), List.forall_mem_cons.mpr ⟨List.mem_of_getElem? (i := 377) (by decide +kernel), List.forall_mem_cons.mpr ⟨List.mem_of_getElem? (i := 380) (by decide +kernel), List.forall_mem_cons.mpr ⟨List.mem_of_getElem? (i := 383) (by decide +kernel), List.forall_mem_cons.mpr ⟨List.mem_of_getElem? (i := 404) (by decide +kernel), List.forall_mem_cons.mpr ⟨List.mem_of_getElem? (i := 405) (by decide +kernel), List.forall_mem_cons.mpr ⟨List.mem_of_getElem? (i := 434) (by decide +kernel), List.forall_mem_cons.mpr ⟨List.mem_of_getElem? (i := 521) (by decide +kernel), List.forall_mem_cons.mpr ⟨List.mem_of_getElem? (i := 576) (by decide +kernel), List.forall_mem_cons.mpr ⟨List.mem_of_getElem? (i := 577) (by decide +kernel), List.forall_mem_cons.mpr ⟨List.mem_of_getElem? (i := 584) (by decide +kernel), List.forall_mem_cons.mpr ⟨List.mem_of_getElem? (i := 708) (by decide +kernel), List.forall_mem_cons.mpr ⟨List.mem_of_getElem? (i := 719) (by decide +kernel), List.forall_mem_cons.mpr ⟨List.mem_of_getElem? (i := 724) (by decide +kernel), List.forall_mem_cons.mpr ⟨List.mem_of_getElem? (i := 739) (by decide +kernel), List.forall_mem_cons.mpr ⟨List.mem_of_getElem? (i := 742) (by decide +kernel), List.forall_mem_cons.mpr ⟨List.mem_of_getElem? (i := 753) (by decide +kernel), List.forall_mem_cons.mpr ⟨List.mem_of_getElem? (i := 758) (by decide +kernel), List.forall_mem_cons.mpr ⟨List.mem_of_getElem? (i := 771) (by decide +kernel), List.forall_mem_cons.mpr ⟨List.mem_of_getElem? (i := 785) (by decide +kernel), List.forall_mem_cons.mpr ⟨List.mem_of_getElem? (i := 794) (by decide +kernel), List.forall_mem_cons.mpr ⟨List.mem_of_getElem? (i := 816) (by decide +kernel), List.forall_mem_cons.mpr ⟨List.mem_of_getElem? (i := 818) (by decide +kernel), List.forall_mem_cons.mpr ⟨List.mem_of_getElem? (i := 886) (by decide +kernel), fun _ h => absurd h List.not_mem_nil⟩⟩⟩⟩⟩⟩⟩⟩⟩⟩⟩⟩⟩⟩⟩⟩⟩⟩⟩⟩⟩⟩⟩⟩⟩⟩⟩⟩⟩⟩⟩
/-- what the tables say of a call site: kind, target -/
def gCok (o : Nat) (q : Nat × Nat × Nat) : Prop := match q.2.1 with
  | 0 => Cond.methodLink (gR o) q.1 (gML.getD q.2.2 gM0).1 ∈ gTB ∧ (gML.getD q.2.2 gM0).2.2.2.2.2.1 = false ∧ (gML.getD q.2.2 gM0).1.name ≠ "<init>"
  | 1 => Cond.methodLink (gR o) q.1 (gML.getD q.2.2 gM0).1 ∈ gTB ∧ (gML.getD q.2.2 gM0).2.2.2.2.2.1 = true
  | 2 => Cond.methodLinkNest (gR o) q.1 (gML.getD q.2.2 gM0).1 "SeamMere" ∈ gNW ∧ (gML.getD q.2.2 gM0).2.2.2.2.2.1 = true
  | 3 => Cond.methodLink (gR o) q.1 (gML.getD q.2.2 gM0).1 ∈ gTB ∧ (gML.getD q.2.2 gM0).2.2.2.2.2.1 = false ∧ (gML.getD q.2.2 gM0).1.name = "<init>" ∧ (gML.getD q.2.2 gM0).2.2.2.1 = none
  | 4 => Cond.methodLinkNest (gR o) q.1 (gML.getD q.2.2 gM0).1 "SeamMere" ∈ gNW ∧ (gML.getD q.2.2 gM0).2.2.2.2.2.1 = false ∧ (gML.getD q.2.2 gM0).1.name = "<init>" ∧ (gML.getD q.2.2 gM0).2.2.2.1 = none
  | 7 => Cond.methodLinkNest (gR o) q.1 (gML.getD q.2.2 gM0).1 "SeamMere" ∈ gNW ∧ (gML.getD q.2.2 gM0).2.2.2.2.2.1 = false ∧ (gML.getD q.2.2 gM0).1.name ≠ "<init>"
  | 6 => Cond.methodLink (gR o) q.1 Lib.objectInit ∈ gTB
  | 8 => Cond.methodLink (gR o) q.1 Lib.Math.min.name ∈ gTB
  | 9 => Cond.methodLink (gR o) q.1 Lib.Math.max.name ∈ gTB
  | _ => True
set_option maxRecDepth 100000 in
theorem gCok_0_3 : gCok 0 (3, 6, 0) := gTB_in (i := 291) (by decide +kernel) (by decide +kernel)
set_option maxRecDepth 100000 in
theorem gCok_0_36 : gCok 0 (36, 0, 58) := ⟨gTB_in (i := 735) (by decide +kernel) (by decide +kernel), rfl, by decide +kernel⟩
set_option maxRecDepth 100000 in
theorem gCok_0_42 : gCok 0 (42, 1, 2) := ⟨gTB_in (i := 736) (by decide +kernel) (by decide +kernel), rfl⟩
set_option maxRecDepth 100000 in
theorem gCok_0_68 : gCok 0 (68, 2, 114) := ⟨List.mem_of_getElem? (i := 21) rfl, rfl⟩
set_option maxRecDepth 100000 in
theorem gCok_0_72 : gCok 0 (72, 0, 66) := ⟨gTB_in (i := 740) (by decide +kernel) (by decide +kernel), rfl, by decide +kernel⟩
set_option maxRecDepth 100000 in
theorem gCok_0_46 : gCok 0 (46, 0, 70) := ⟨gTB_in (i := 741) (by decide +kernel) (by decide +kernel), rfl, by decide +kernel⟩
set_option maxRecDepth 100000 in
theorem gCok_0_50 : gCok 0 (50, 2, 118) := ⟨List.mem_of_getElem? (i := 22) rfl, rfl⟩
set_option maxRecDepth 100000 in
theorem gCok_0_54 : gCok 0 (54, 0, 63) := ⟨gTB_in (i := 743) (by decide +kernel) (by decide +kernel), rfl, by decide +kernel⟩
set_option maxRecDepth 100000 in
theorem gCok_0_58 : gCok 0 (58, 1, 192) := ⟨gTB_in (i := 744) (by decide +kernel) (by decide +kernel), rfl⟩
set_option maxRecDepth 100000 in
theorem gCok_0_64 : gCok 0 (64, 0, 3) := ⟨gTB_in (i := 745) (by decide +kernel) (by decide +kernel), rfl, by decide +kernel⟩
set_option maxRecDepth 100000 in
theorem gCok_0_76 : gCok 0 (76, 0, 5) := ⟨gTB_in (i := 749) (by decide +kernel) (by decide +kernel), rfl, by decide +kernel⟩
set_option maxRecDepth 100000 in
theorem gCok_0_84 : gCok 0 (84, 2, 117) := ⟨List.mem_of_getElem? (i := 23) rfl, rfl⟩
set_option maxRecDepth 100000 in
theorem gCok_0_80 : gCok 0 (80, 0, 4) := ⟨gTB_in (i := 754) (by decide +kernel) (by decide +kernel), rfl, by decide +kernel⟩
set_option maxRecDepth 100000 in
theorem gCok_0_88 : gCok 0 (88, 2, 115) := ⟨List.mem_of_getElem? (i := 24) rfl, rfl⟩
set_option maxRecDepth 100000 in
theorem gCokS0_b0 : ∀ q ∈ ([(3, 6, 0), (36, 0, 58), (42, 1, 2), (68, 2, 114), (72, 0, 66), (46, 0, 70), (50, 2, 118), (54, 0, 63), (58, 1, 192), (64, 0, 3), (76, 0, 5), (84, 2, 117), (80, 0, 4), (88, 2, 115)] : List (Nat × Nat × Nat)), gCok 0 q := List.forall_mem_cons.mpr ⟨gCok_0_3, List.forall_mem_cons.mpr ⟨gCok_0_36, List.forall_mem_cons.mpr ⟨gCok_0_42, List.forall_mem_cons.mpr ⟨gCok_0_68, List.forall_mem_cons.mpr ⟨gCok_0_72, List.forall_mem_cons.mpr ⟨gCok_0_46, List.forall_mem_cons.mpr ⟨gCok_0_50, List.forall_mem_cons.mpr ⟨gCok_0_54, List.forall_mem_cons.mpr ⟨gCok_0_58, List.forall_mem_cons.mpr ⟨gCok_0_64, List.forall_mem_cons.mpr ⟨gCok_0_76, List.forall_mem_cons.mpr ⟨gCok_0_84, List.forall_mem_cons.mpr ⟨gCok_0_80, List.forall_mem_cons.mpr ⟨gCok_0_88, fun _ h => absurd h List.not_mem_nil⟩⟩⟩⟩⟩⟩⟩⟩⟩⟩⟩⟩⟩⟩
set_option maxRecDepth 100000 in
theorem gCokA0 : ∀ q ∈ gCS 0, gCok 0 q := by
  show ∀ q ∈ ([(3, 6, 0), (36, 0, 58), (42, 1, 2), (68, 2, 114), (72, 0, 66), (46, 0, 70), (50, 2, 118), (54, 0, 63), (58, 1, 192), (64, 0, 3), (76, 0, 5), (84, 2, 117), (80, 0, 4), (88, 2, 115)] : List (Nat × Nat × Nat)), gCok 0 q
  exact gCokS0_b0
set_option maxRecDepth 100000 in
theorem gCok_1_3 : gCok 1 (3, 6, 0) := gTB_in (i := 248) (by decide +kernel) (by decide +kernel)
set_option maxRecDepth 100000 in
theorem gCok_1_15 : gCok 1 (15, 2, 118) := ⟨List.mem_of_getElem? (i := 15) rfl, rfl⟩
set_option maxRecDepth 100000 in
theorem gCok_1_25 : gCok 1 (25, 2, 114) := ⟨List.mem_of_getElem? (i := 16) rfl, rfl⟩
set_option maxRecDepth 100000 in
theorem gCok_1_29 : gCok 1 (29, 0, 18) := ⟨gTB_in (i := 583) (by decide +kernel) (by decide +kernel), rfl, by decide +kernel⟩
set_option maxRecDepth 100000 in
theorem gCok_1_33 : gCok 1 (33, 2, 117) := ⟨List.mem_of_getElem? (i := 17) rfl, rfl⟩
set_option maxRecDepth 100000 in
theorem gCok_1_37 : gCok 1 (37, 0, 8) := ⟨gTB_in (i := 585) (by decide +kernel) (by decide +kernel), rfl, by decide +kernel⟩
set_option maxRecDepth 100000 in
theorem gCok_1_41 : gCok 1 (41, 0, 9) := ⟨gTB_in (i := 780) (by decide +kernel) (by decide +kernel), rfl, by decide +kernel⟩
set_option maxRecDepth 100000 in
theorem gCok_1_44 : gCok 1 (44, 0, 11) := ⟨gTB_in (i := 781) (by decide +kernel) (by decide +kernel), rfl, by decide +kernel⟩
set_option maxRecDepth 100000 in
theorem gCok_1_48 : gCok 1 (48, 2, 116) := ⟨List.mem_of_getElem? (i := 26) rfl, rfl⟩
set_option maxRecDepth 100000 in
theorem gCokS1_b0 : ∀ q ∈ ([(3, 6, 0), (15, 2, 118), (25, 2, 114), (29, 0, 18), (33, 2, 117), (37, 0, 8), (41, 0, 9), (44, 0, 11), (48, 2, 116)] : List (Nat × Nat × Nat)), gCok 1 q := List.forall_mem_cons.mpr ⟨gCok_1_3, List.forall_mem_cons.mpr ⟨gCok_1_15, List.forall_mem_cons.mpr ⟨gCok_1_25, List.forall_mem_cons.mpr ⟨gCok_1_29, List.forall_mem_cons.mpr ⟨gCok_1_33, List.forall_mem_cons.mpr ⟨gCok_1_37, List.forall_mem_cons.mpr ⟨gCok_1_41, List.forall_mem_cons.mpr ⟨gCok_1_44, List.forall_mem_cons.mpr ⟨gCok_1_48, fun _ h => absurd h List.not_mem_nil⟩⟩⟩⟩⟩⟩⟩⟩⟩
set_option maxRecDepth 100000 in
theorem gCokA1 : ∀ q ∈ gCS 1, gCok 1 q := by
  show ∀ q ∈ ([(3, 6, 0), (15, 2, 118), (25, 2, 114), (29, 0, 18), (33, 2, 117), (37, 0, 8), (41, 0, 9), (44, 0, 11), (48, 2, 116)] : List (Nat × Nat × Nat)), gCok 1 q
  exact gCokS1_b0
set_option maxRecDepth 100000 in
theorem gCok_2_3 : gCok 2 (3, 6, 0) := gTB_in (i := 118) (by decide +kernel) (by decide +kernel)
set_option maxRecDepth 100000 in
theorem gCok_2_37 : gCok 2 (37, 2, 117) := ⟨List.mem_of_getElem? (i := 11) rfl, rfl⟩
set_option maxRecDepth 100000 in
theorem gCok_2_41 : gCok 2 (41, 2, 118) := ⟨List.mem_of_getElem? (i := 12) rfl, rfl⟩
set_option maxRecDepth 100000 in
theorem gCok_2_51 : gCok 2 (51, 0, 19) := ⟨gTB_in (i := 641) (by decide +kernel) (by decide +kernel), rfl, by decide +kernel⟩
set_option maxRecDepth 100000 in
theorem gCok_2_54 : gCok 2 (54, 0, 18) := ⟨gTB_in (i := 642) (by decide +kernel) (by decide +kernel), rfl, by decide +kernel⟩
set_option maxRecDepth 100000 in
theorem gCok_2_45 : gCok 2 (45, 9, 0) := gTB_in (i := 690) (by decide +kernel) (by decide +kernel)
set_option maxRecDepth 100000 in
theorem gCok_2_57 : gCok 2 (57, 2, 114) := ⟨List.mem_of_getElem? (i := 25) rfl, rfl⟩
set_option maxRecDepth 100000 in
theorem gCokS2_b0 : ∀ q ∈ ([(3, 6, 0), (37, 2, 117), (41, 2, 118), (51, 0, 19), (54, 0, 18), (45, 9, 0), (57, 2, 114)] : List (Nat × Nat × Nat)), gCok 2 q := List.forall_mem_cons.mpr ⟨gCok_2_3, List.forall_mem_cons.mpr ⟨gCok_2_37, List.forall_mem_cons.mpr ⟨gCok_2_41, List.forall_mem_cons.mpr ⟨gCok_2_51, List.forall_mem_cons.mpr ⟨gCok_2_54, List.forall_mem_cons.mpr ⟨gCok_2_45, List.forall_mem_cons.mpr ⟨gCok_2_57, fun _ h => absurd h List.not_mem_nil⟩⟩⟩⟩⟩⟩⟩
set_option maxRecDepth 100000 in
theorem gCokA2 : ∀ q ∈ gCS 2, gCok 2 q := by
  show ∀ q ∈ ([(3, 6, 0), (37, 2, 117), (41, 2, 118), (51, 0, 19), (54, 0, 18), (45, 9, 0), (57, 2, 114)] : List (Nat × Nat × Nat)), gCok 2 q
  exact gCokS2_b0
set_option maxRecDepth 100000 in
theorem gCok_3_3 : gCok 3 (3, 6, 0) := gTB_in (i := 101) (by decide +kernel) (by decide +kernel)
set_option maxRecDepth 100000 in
theorem gCok_3_23 : gCok 3 (23, 0, 14) := ⟨gTB_in (i := 369) (by decide +kernel) (by decide +kernel), rfl, by decide +kernel⟩
set_option maxRecDepth 100000 in
theorem gCok_3_28 : gCok 3 (28, 0, 27) := ⟨gTB_in (i := 373) (by decide +kernel) (by decide +kernel), rfl, by decide +kernel⟩
set_option maxRecDepth 100000 in
theorem gCok_3_32 : gCok 3 (32, 2, 117) := ⟨List.mem_of_getElem? (i := 8) rfl, rfl⟩
set_option maxRecDepth 100000 in
theorem gCok_3_40 : gCok 3 (40, 2, 113) := ⟨List.mem_of_getElem? (i := 9) rfl, rfl⟩
set_option maxRecDepth 100000 in
theorem gCok_3_44 : gCok 3 (44, 2, 118) := ⟨List.mem_of_getElem? (i := 10) rfl, rfl⟩
set_option maxRecDepth 100000 in
theorem gCok_3_36 : gCok 3 (36, 0, 28) := ⟨gTB_in (i := 384) (by decide +kernel) (by decide +kernel), rfl, by decide +kernel⟩
set_option maxRecDepth 100000 in
theorem gCok_3_48 : gCok 3 (48, 0, 29) := ⟨gTB_in (i := 388) (by decide +kernel) (by decide +kernel), rfl, by decide +kernel⟩
set_option maxRecDepth 100000 in
theorem gCok_3_64 : gCok 3 (64, 0, 34) := ⟨gTB_in (i := 392) (by decide +kernel) (by decide +kernel), rfl, by decide +kernel⟩
set_option maxRecDepth 100000 in
theorem gCok_3_52 : gCok 3 (52, 0, 30) := ⟨gTB_in (i := 396) (by decide +kernel) (by decide +kernel), rfl, by decide +kernel⟩
set_option maxRecDepth 100000 in
theorem gCok_3_73 : gCok 3 (73, 0, 15) := ⟨gTB_in (i := 400) (by decide +kernel) (by decide +kernel), rfl, by decide +kernel⟩
set_option maxRecDepth 100000 in
theorem gCok_3_55 : gCok 3 (55, 0, 31) := ⟨gTB_in (i := 406) (by decide +kernel) (by decide +kernel), rfl, by decide +kernel⟩
set_option maxRecDepth 100000 in
theorem gCok_3_80 : gCok 3 (80, 0, 16) := ⟨gTB_in (i := 410) (by decide +kernel) (by decide +kernel), rfl, by decide +kernel⟩
set_option maxRecDepth 100000 in
theorem gCok_3_58 : gCok 3 (58, 0, 32) := ⟨gTB_in (i := 414) (by decide +kernel) (by decide +kernel), rfl, by decide +kernel⟩
set_option maxRecDepth 100000 in
theorem gCok_3_61 : gCok 3 (61, 0, 33) := ⟨gTB_in (i := 418) (by decide +kernel) (by decide +kernel), rfl, by decide +kernel⟩
set_option maxRecDepth 100000 in
theorem gCok_3_89 : gCok 3 (89, 0, 17) := ⟨gTB_in (i := 422) (by decide +kernel) (by decide +kernel), rfl, by decide +kernel⟩
set_option maxRecDepth 100000 in
theorem gCokS3_b0 : ∀ q ∈ ([(3, 6, 0), (23, 0, 14), (28, 0, 27), (32, 2, 117), (40, 2, 113), (44, 2, 118), (36, 0, 28), (48, 0, 29), (64, 0, 34), (52, 0, 30), (73, 0, 15), (55, 0, 31), (80, 0, 16), (58, 0, 32), (61, 0, 33), (89, 0, 17)] : List (Nat × Nat × Nat)), gCok 3 q := List.forall_mem_cons.mpr ⟨gCok_3_3, List.forall_mem_cons.mpr ⟨gCok_3_23, List.forall_mem_cons.mpr ⟨gCok_3_28, List.forall_mem_cons.mpr ⟨gCok_3_32, List.forall_mem_cons.mpr ⟨gCok_3_40, List.forall_mem_cons.mpr ⟨gCok_3_44, List.forall_mem_cons.mpr ⟨gCok_3_36, List.forall_mem_cons.mpr ⟨gCok_3_48, List.forall_mem_cons.mpr ⟨gCok_3_64, List.forall_mem_cons.mpr ⟨gCok_3_52, List.forall_mem_cons.mpr ⟨gCok_3_73, List.forall_mem_cons.mpr ⟨gCok_3_55, List.forall_mem_cons.mpr ⟨gCok_3_80, List.forall_mem_cons.mpr ⟨gCok_3_58, List.forall_mem_cons.mpr ⟨gCok_3_61, List.forall_mem_cons.mpr ⟨gCok_3_89, fun _ h => absurd h List.not_mem_nil⟩⟩⟩⟩⟩⟩⟩⟩⟩⟩⟩⟩⟩⟩⟩⟩
set_option maxRecDepth 100000 in
theorem gCokA3 : ∀ q ∈ gCS 3, gCok 3 q := by
  show ∀ q ∈ ([(3, 6, 0), (23, 0, 14), (28, 0, 27), (32, 2, 117), (40, 2, 113), (44, 2, 118), (36, 0, 28), (48, 0, 29), (64, 0, 34), (52, 0, 30), (73, 0, 15), (55, 0, 31), (80, 0, 16), (58, 0, 32), (61, 0, 33), (89, 0, 17)] : List (Nat × Nat × Nat)), gCok 3 q
  exact gCokS3_b0
set_option maxRecDepth 100000 in
theorem gCok_4_3 : gCok 4 (3, 6, 0) := gTB_in (i := 258) (by decide +kernel) (by decide +kernel)
set_option maxRecDepth 100000 in
theorem gCok_4_37 : gCok 4 (37, 4, 56) := ⟨List.mem_of_getElem? (i := 6) rfl, rfl, rfl, rfl⟩
set_option maxRecDepth 100000 in
theorem gCok_4_38 : gCok 4 (38, 0, 40) := ⟨gTB_in (i := 699) (by decide +kernel) (by decide +kernel), rfl, by decide +kernel⟩
set_option maxRecDepth 100000 in
theorem gCok_4_42 : gCok 4 (42, 0, 58) := ⟨gTB_in (i := 703) (by decide +kernel) (by decide +kernel), rfl, by decide +kernel⟩
set_option maxRecDepth 100000 in
theorem gCok_4_46 : gCok 4 (46, 0, 67) := ⟨gTB_in (i := 704) (by decide +kernel) (by decide +kernel), rfl, by decide +kernel⟩
set_option maxRecDepth 100000 in
theorem gCok_4_54 : gCok 4 (54, 0, 62) := ⟨gTB_in (i := 712) (by decide +kernel) (by decide +kernel), rfl, by decide +kernel⟩
set_option maxRecDepth 100000 in
theorem gCok_4_58 : gCok 4 (58, 0, 38) := ⟨gTB_in (i := 713) (by decide +kernel) (by decide +kernel), rfl, by decide +kernel⟩
set_option maxRecDepth 100000 in
theorem gCok_4_62 : gCok 4 (62, 0, 66) := ⟨gTB_in (i := 717) (by decide +kernel) (by decide +kernel), rfl, by decide +kernel⟩
set_option maxRecDepth 100000 in
theorem gCok_4_66 : gCok 4 (66, 0, 70) := ⟨gTB_in (i := 718) (by decide +kernel) (by decide +kernel), rfl, by decide +kernel⟩
set_option maxRecDepth 100000 in
theorem gCok_4_70 : gCok 4 (70, 2, 118) := ⟨List.mem_of_getElem? (i := 19) rfl, rfl⟩
set_option maxRecDepth 100000 in
theorem gCok_4_74 : gCok 4 (74, 0, 39) := ⟨gTB_in (i := 720) (by decide +kernel) (by decide +kernel), rfl, by decide +kernel⟩
set_option maxRecDepth 100000 in
theorem gCok_4_81 : gCok 4 (81, 2, 117) := ⟨List.mem_of_getElem? (i := 20) rfl, rfl⟩
set_option maxRecDepth 100000 in
theorem gCok_4_77 : gCok 4 (77, 0, 37) := ⟨gTB_in (i := 725) (by decide +kernel) (by decide +kernel), rfl, by decide +kernel⟩
set_option maxRecDepth 100000 in
theorem gCokS4_b0 : ∀ q ∈ ([(3, 6, 0), (37, 4, 56), (38, 0, 40), (42, 0, 58), (46, 0, 67), (54, 0, 62), (58, 0, 38), (62, 0, 66), (66, 0, 70), (70, 2, 118), (74, 0, 39), (81, 2, 117), (77, 0, 37)] : List (Nat × Nat × Nat)), gCok 4 q := List.forall_mem_cons.mpr ⟨gCok_4_3, List.forall_mem_cons.mpr ⟨gCok_4_37, List.forall_mem_cons.mpr ⟨gCok_4_38, List.forall_mem_cons.mpr ⟨gCok_4_42, List.forall_mem_cons.mpr ⟨gCok_4_46, List.forall_mem_cons.mpr ⟨gCok_4_54, List.forall_mem_cons.mpr ⟨gCok_4_58, List.forall_mem_cons.mpr ⟨gCok_4_62, List.forall_mem_cons.mpr ⟨gCok_4_66, List.forall_mem_cons.mpr ⟨gCok_4_70, List.forall_mem_cons.mpr ⟨gCok_4_74, List.forall_mem_cons.mpr ⟨gCok_4_81, List.forall_mem_cons.mpr ⟨gCok_4_77, fun _ h => absurd h List.not_mem_nil⟩⟩⟩⟩⟩⟩⟩⟩⟩⟩⟩⟩⟩
set_option maxRecDepth 100000 in
theorem gCokA4 : ∀ q ∈ gCS 4, gCok 4 q := by
  show ∀ q ∈ ([(3, 6, 0), (37, 4, 56), (38, 0, 40), (42, 0, 58), (46, 0, 67), (54, 0, 62), (58, 0, 38), (62, 0, 66), (66, 0, 70), (70, 2, 118), (74, 0, 39), (81, 2, 117), (77, 0, 37)] : List (Nat × Nat × Nat)), gCok 4 q
  exact gCokS4_b0
set_option maxRecDepth 100000 in
theorem gCok_5_3 : gCok 5 (3, 6, 0) := gTB_in (i := 209) (by decide +kernel) (by decide +kernel)
set_option maxRecDepth 100000 in
theorem gCok_5_40 : gCok 5 (40, 2, 118) := ⟨List.mem_of_getElem? (i := 27) rfl, rfl⟩
set_option maxRecDepth 100000 in
theorem gCok_5_44 : gCok 5 (44, 0, 45) := ⟨gTB_in (i := 807) (by decide +kernel) (by decide +kernel), rfl, by decide +kernel⟩
set_option maxRecDepth 100000 in
theorem gCok_5_52 : gCok 5 (52, 0, 7) := ⟨gTB_in (i := 811) (by decide +kernel) (by decide +kernel), rfl, by decide +kernel⟩
set_option maxRecDepth 100000 in
theorem gCok_5_58 : gCok 5 (58, 0, 46) := ⟨gTB_in (i := 812) (by decide +kernel) (by decide +kernel), rfl, by decide +kernel⟩
set_option maxRecDepth 100000 in
theorem gCok_5_66 : gCok 5 (66, 2, 117) := ⟨List.mem_of_getElem? (i := 28) rfl, rfl⟩
set_option maxRecDepth 100000 in
theorem gCok_5_70 : gCok 5 (70, 0, 9) := ⟨gTB_in (i := 817) (by decide +kernel) (by decide +kernel), rfl, by decide +kernel⟩
set_option maxRecDepth 100000 in
theorem gCok_5_74 : gCok 5 (74, 2, 116) := ⟨List.mem_of_getElem? (i := 29) rfl, rfl⟩
set_option maxRecDepth 100000 in
theorem gCok_5_62 : gCok 5 (62, 0, 47) := ⟨gTB_in (i := 819) (by decide +kernel) (by decide +kernel), rfl, by decide +kernel⟩
set_option maxRecDepth 100000 in
theorem gCok_5_81 : gCok 5 (81, 9, 0) := gTB_in (i := 831) (by decide +kernel) (by decide +kernel)
set_option maxRecDepth 100000 in
theorem gCok_5_87 : gCok 5 (87, 0, 49) := ⟨gTB_in (i := 832) (by decide +kernel) (by decide +kernel), rfl, by decide +kernel⟩
set_option maxRecDepth 100000 in
theorem gCokS5_b0 : ∀ q ∈ ([(3, 6, 0), (40, 2, 118), (44, 0, 45), (52, 0, 7), (58, 0, 46), (66, 2, 117), (70, 0, 9), (74, 2, 116), (62, 0, 47), (81, 9, 0), (87, 0, 49)] : List (Nat × Nat × Nat)), gCok 5 q := List.forall_mem_cons.mpr ⟨gCok_5_3, List.forall_mem_cons.mpr ⟨gCok_5_40, List.forall_mem_cons.mpr ⟨gCok_5_44, List.forall_mem_cons.mpr ⟨gCok_5_52, List.forall_mem_cons.mpr ⟨gCok_5_58, List.forall_mem_cons.mpr ⟨gCok_5_66, List.forall_mem_cons.mpr ⟨gCok_5_70, List.forall_mem_cons.mpr ⟨gCok_5_74, List.forall_mem_cons.mpr ⟨gCok_5_62, List.forall_mem_cons.mpr ⟨gCok_5_81, List.forall_mem_cons.mpr ⟨gCok_5_87, fun _ h => absurd h List.not_mem_nil⟩⟩⟩⟩⟩⟩⟩⟩⟩⟩⟩
set_option maxRecDepth 100000 in
theorem gCokA5 : ∀ q ∈ gCS 5, gCok 5 q := by
  show ∀ q ∈ ([(3, 6, 0), (40, 2, 118), (44, 0, 45), (52, 0, 7), (58, 0, 46), (66, 2, 117), (70, 0, 9), (74, 2, 116), (62, 0, 47), (81, 9, 0), (87, 0, 49)] : List (Nat × Nat × Nat)), gCok 5 q
  exact gCokS5_b0
set_option maxRecDepth 100000 in
theorem gCok_6_1 : gCok 6 (1, 6, 0) := gTB_in (i := 186) (by decide +kernel) (by decide +kernel)
set_option maxRecDepth 100000 in
theorem gCok_6_16 : gCok 6 (16, 9, 0) := gTB_in (i := 187) (by decide +kernel) (by decide +kernel)
set_option maxRecDepth 100000 in
theorem gCok_6_28 : gCok 6 (28, 4, 56) := ⟨List.mem_of_getElem? (i := 3) rfl, rfl, rfl, rfl⟩
set_option maxRecDepth 100000 in
theorem gCok_6_29 : gCok 6 (29, 0, 55) := ⟨gTB_in (i := 601) (by decide +kernel) (by decide +kernel), rfl, by decide +kernel⟩
set_option maxRecDepth 100000 in
theorem gCok_6_33 : gCok 6 (33, 0, 54) := ⟨gTB_in (i := 605) (by decide +kernel) (by decide +kernel), rfl, by decide +kernel⟩
set_option maxRecDepth 100000 in
theorem gCok_6_37 : gCok 6 (37, 0, 58) := ⟨gTB_in (i := 609) (by decide +kernel) (by decide +kernel), rfl, by decide +kernel⟩
set_option maxRecDepth 100000 in
theorem gCokS6_b0 : ∀ q ∈ ([(1, 6, 0), (16, 9, 0), (28, 4, 56), (29, 0, 55), (33, 0, 54), (37, 0, 58)] : List (Nat × Nat × Nat)), gCok 6 q := List.forall_mem_cons.mpr ⟨gCok_6_1, List.forall_mem_cons.mpr ⟨gCok_6_16, List.forall_mem_cons.mpr ⟨gCok_6_28, List.forall_mem_cons.mpr ⟨gCok_6_29, List.forall_mem_cons.mpr ⟨gCok_6_33, List.forall_mem_cons.mpr ⟨gCok_6_37, fun _ h => absurd h List.not_mem_nil⟩⟩⟩⟩⟩⟩
set_option maxRecDepth 100000 in
theorem gCokA6 : ∀ q ∈ gCS 6, gCok 6 q := by
  show ∀ q ∈ ([(1, 6, 0), (16, 9, 0), (28, 4, 56), (29, 0, 55), (33, 0, 54), (37, 0, 58)] : List (Nat × Nat × Nat)), gCok 6 q
  exact gCokS6_b0
set_option maxRecDepth 100000 in
theorem gCok_7_3 : gCok 7 (3, 6, 0) := gTB_in (i := 166) (by decide +kernel) (by decide +kernel)
set_option maxRecDepth 100000 in
theorem gCok_7_25 : gCok 7 (25, 2, 118) := ⟨List.mem_of_getElem? (i := 13) rfl, rfl⟩
set_option maxRecDepth 100000 in
theorem gCok_7_29 : gCok 7 (29, 0, 19) := ⟨gTB_in (i := 435) (by decide +kernel) (by decide +kernel), rfl, by decide +kernel⟩
set_option maxRecDepth 100000 in
theorem gCok_7_35 : gCok 7 (35, 2, 117) := ⟨List.mem_of_getElem? (i := 14) rfl, rfl⟩
set_option maxRecDepth 100000 in
theorem gCok_7_39 : gCok 7 (39, 0, 18) := ⟨gTB_in (i := 526) (by decide +kernel) (by decide +kernel), rfl, by decide +kernel⟩
set_option maxRecDepth 100000 in
theorem gCok_7_45 : gCok 7 (45, 0, 62) := ⟨gTB_in (i := 571) (by decide +kernel) (by decide +kernel), rfl, by decide +kernel⟩
set_option maxRecDepth 100000 in
theorem gCok_7_56 : gCok 7 (56, 0, 22) := ⟨gTB_in (i := 625) (by decide +kernel) (by decide +kernel), rfl, by decide +kernel⟩
set_option maxRecDepth 100000 in
theorem gCok_7_60 : gCok 7 (60, 0, 71) := ⟨gTB_in (i := 626) (by decide +kernel) (by decide +kernel), rfl, by decide +kernel⟩
set_option maxRecDepth 100000 in
theorem gCok_7_64 : gCok 7 (64, 0, 20) := ⟨gTB_in (i := 630) (by decide +kernel) (by decide +kernel), rfl, by decide +kernel⟩
set_option maxRecDepth 100000 in
theorem gCok_7_67 : gCok 7 (67, 0, 72) := ⟨gTB_in (i := 631) (by decide +kernel) (by decide +kernel), rfl, by decide +kernel⟩
set_option maxRecDepth 100000 in
theorem gCok_7_75 : gCok 7 (75, 8, 0) := gTB_in (i := 635) (by decide +kernel) (by decide +kernel)
set_option maxRecDepth 100000 in
theorem gCok_7_80 : gCok 7 (80, 9, 0) := gTB_in (i := 636) (by decide +kernel) (by decide +kernel)
set_option maxRecDepth 100000 in
theorem gCok_7_83 : gCok 7 (83, 0, 23) := ⟨gTB_in (i := 637) (by decide +kernel) (by decide +kernel), rfl, by decide +kernel⟩
set_option maxRecDepth 100000 in
theorem gCok_7_86 : gCok 7 (86, 0, 73) := ⟨gTB_in (i := 643) (by decide +kernel) (by decide +kernel), rfl, by decide +kernel⟩
set_option maxRecDepth 100000 in
theorem gCok_7_71 : gCok 7 (71, 0, 74) := ⟨gTB_in (i := 647) (by decide +kernel) (by decide +kernel), rfl, by decide +kernel⟩
set_option maxRecDepth 100000 in
theorem gCok_7_52 : gCok 7 (52, 2, 116) := ⟨List.mem_of_getElem? (i := 30) rfl, rfl⟩
set_option maxRecDepth 100000 in
theorem gCokS7_b0 : ∀ q ∈ ([(3, 6, 0), (25, 2, 118), (29, 0, 19), (35, 2, 117), (39, 0, 18), (45, 0, 62), (56, 0, 22), (60, 0, 71), (64, 0, 20), (67, 0, 72), (75, 8, 0), (80, 9, 0), (83, 0, 23), (86, 0, 73), (71, 0, 74), (52, 2, 116)] : List (Nat × Nat × Nat)), gCok 7 q := List.forall_mem_cons.mpr ⟨gCok_7_3, List.forall_mem_cons.mpr ⟨gCok_7_25, List.forall_mem_cons.mpr ⟨gCok_7_29, List.forall_mem_cons.mpr ⟨gCok_7_35, List.forall_mem_cons.mpr ⟨gCok_7_39, List.forall_mem_cons.mpr ⟨gCok_7_45, List.forall_mem_cons.mpr ⟨gCok_7_56, List.forall_mem_cons.mpr ⟨gCok_7_60, List.forall_mem_cons.mpr ⟨gCok_7_64, List.forall_mem_cons.mpr ⟨gCok_7_67, List.forall_mem_cons.mpr ⟨gCok_7_75, List.forall_mem_cons.mpr ⟨gCok_7_80, List.forall_mem_cons.mpr ⟨gCok_7_83, List.forall_mem_cons.mpr ⟨gCok_7_86, List.forall_mem_cons.mpr ⟨gCok_7_71, List.forall_mem_cons.mpr ⟨gCok_7_52, fun _ h => absurd h List.not_mem_nil⟩⟩⟩⟩⟩⟩⟩⟩⟩⟩⟩⟩⟩⟩⟩⟩
set_option maxRecDepth 100000 in
theorem gCokA7 : ∀ q ∈ gCS 7, gCok 7 q := by
  show ∀ q ∈ ([(3, 6, 0), (25, 2, 118), (29, 0, 19), (35, 2, 117), (39, 0, 18), (45, 0, 62), (56, 0, 22), (60, 0, 71), (64, 0, 20), (67, 0, 72), (75, 8, 0), (80, 9, 0), (83, 0, 23), (86, 0, 73), (71, 0, 74), (52, 2, 116)] : List (Nat × Nat × Nat)), gCok 7 q
  exact gCokS7_b0
set_option maxRecDepth 100000 in
theorem gCok_8_1 : gCok 8 (1, 6, 0) := gTB_in (i := 93) (by decide +kernel) (by decide +kernel)
set_option maxRecDepth 100000 in
theorem gCok_8_19 : gCok 8 (19, 4, 25) := ⟨List.mem_of_getElem? (i := 0) rfl, rfl, rfl, rfl⟩
set_option maxRecDepth 100000 in
theorem gCok_8_26 : gCok 8 (26, 4, 13) := ⟨List.mem_of_getElem? (i := 1) rfl, rfl, rfl, rfl⟩
set_option maxRecDepth 100000 in
theorem gCok_8_36 : gCok 8 (36, 4, 56) := ⟨List.mem_of_getElem? (i := 2) rfl, rfl, rfl, rfl⟩
set_option maxRecDepth 100000 in
theorem gCok_8_46 : gCok 8 (46, 3, 50) := ⟨gTB_in (i := 183) (by decide +kernel) (by decide +kernel), rfl, rfl, rfl⟩
set_option maxRecDepth 100000 in
theorem gCok_8_58 : gCok 8 (58, 4, 41) := ⟨List.mem_of_getElem? (i := 4) rfl, rfl, rfl, rfl⟩
set_option maxRecDepth 100000 in
theorem gCok_8_65 : gCok 8 (65, 4, 6) := ⟨List.mem_of_getElem? (i := 5) rfl, rfl, rfl, rfl⟩
set_option maxRecDepth 100000 in
theorem gCok_8_72 : gCok 8 (72, 3, 35) := ⟨gTB_in (i := 255) (by decide +kernel) (by decide +kernel), rfl, rfl, rfl⟩
set_option maxRecDepth 100000 in
theorem gCok_8_79 : gCok 8 (79, 4, 0) := ⟨List.mem_of_getElem? (i := 7) rfl, rfl, rfl, rfl⟩
set_option maxRecDepth 100000 in
theorem gCok_8_86 : gCok 8 (86, 10, 0) := trivial
set_option maxRecDepth 100000 in
theorem gCok_8_92 : gCok 8 (92, 8, 0) := gTB_in (i := 321) (by decide +kernel) (by decide +kernel)
set_option maxRecDepth 100000 in
theorem gCok_8_98 : gCok 8 (98, 11, 0) := trivial
set_option maxRecDepth 100000 in
theorem gCok_8_102 : gCok 8 (102, 1, 118) := ⟨gTB_in (i := 362) (by decide +kernel) (by decide +kernel), rfl⟩
set_option maxRecDepth 100000 in
theorem gCok_8_106 : gCok 8 (106, 0, 26) := ⟨gTB_in (i := 365) (by decide +kernel) (by decide +kernel), rfl, by decide +kernel⟩
set_option maxRecDepth 100000 in
theorem gCok_8_110 : gCok 8 (110, 0, 104) := ⟨gTB_in (i := 426) (by decide +kernel) (by decide +kernel), rfl, by decide +kernel⟩
set_option maxRecDepth 100000 in
theorem gCok_8_302 : gCok 8 (302, 0, 57) := ⟨gTB_in (i := 430) (by decide +kernel) (by decide +kernel), rfl, by decide +kernel⟩
set_option maxRecDepth 100000 in
theorem gCok_8_292 : gCok 8 (292, 0, 51) := ⟨gTB_in (i := 439) (by decide +kernel) (by decide +kernel), rfl, by decide +kernel⟩
set_option maxRecDepth 100000 in
theorem gCok_8_250 : gCok 8 (250, 0, 42) := ⟨gTB_in (i := 443) (by decide +kernel) (by decide +kernel), rfl, by decide +kernel⟩
set_option maxRecDepth 100000 in
theorem gCok_8_119 : gCok 8 (119, 0, 105) := ⟨gTB_in (i := 508) (by decide +kernel) (by decide +kernel), rfl, by decide +kernel⟩
set_option maxRecDepth 100000 in
theorem gCok_8_123 : gCok 8 (123, 1, 113) := ⟨gTB_in (i := 512) (by decide +kernel) (by decide +kernel), rfl⟩
set_option maxRecDepth 100000 in
theorem gCok_8_127 : gCok 8 (127, 0, 18) := ⟨gTB_in (i := 513) (by decide +kernel) (by decide +kernel), rfl, by decide +kernel⟩
set_option maxRecDepth 100000 in
theorem gCok_8_130 : gCok 8 (130, 0, 59) := ⟨gTB_in (i := 517) (by decide +kernel) (by decide +kernel), rfl, by decide +kernel⟩
set_option maxRecDepth 100000 in
theorem gCok_8_134 : gCok 8 (134, 0, 62) := ⟨gTB_in (i := 522) (by decide +kernel) (by decide +kernel), rfl, by decide +kernel⟩
set_option maxRecDepth 100000 in
theorem gCok_8_138 : gCok 8 (138, 1, 116) := ⟨gTB_in (i := 527) (by decide +kernel) (by decide +kernel), rfl⟩
set_option maxRecDepth 100000 in
theorem gCok_8_142 : gCok 8 (142, 0, 106) := ⟨gTB_in (i := 534) (by decide +kernel) (by decide +kernel), rfl, by decide +kernel⟩
set_option maxRecDepth 100000 in
theorem gCok_8_145 : gCok 8 (145, 0, 60) := ⟨gTB_in (i := 538) (by decide +kernel) (by decide +kernel), rfl, by decide +kernel⟩
set_option maxRecDepth 100000 in
theorem gCok_8_148 : gCok 8 (148, 0, 61) := ⟨gTB_in (i := 542) (by decide +kernel) (by decide +kernel), rfl, by decide +kernel⟩
set_option maxRecDepth 100000 in
theorem gCok_8_151 : gCok 8 (151, 0, 19) := ⟨gTB_in (i := 546) (by decide +kernel) (by decide +kernel), rfl, by decide +kernel⟩
set_option maxRecDepth 100000 in
theorem gCok_8_157 : gCok 8 (157, 0, 20) := ⟨gTB_in (i := 551) (by decide +kernel) (by decide +kernel), rfl, by decide +kernel⟩
set_option maxRecDepth 100000 in
theorem gCok_8_160 : gCok 8 (160, 0, 22) := ⟨gTB_in (i := 555) (by decide +kernel) (by decide +kernel), rfl, by decide +kernel⟩
set_option maxRecDepth 100000 in
theorem gCok_8_163 : gCok 8 (163, 0, 107) := ⟨gTB_in (i := 563) (by decide +kernel) (by decide +kernel), rfl, by decide +kernel⟩
set_option maxRecDepth 100000 in
theorem gCok_8_166 : gCok 8 (166, 0, 63) := ⟨gTB_in (i := 567) (by decide +kernel) (by decide +kernel), rfl, by decide +kernel⟩
set_option maxRecDepth 100000 in
theorem gCok_8_170 : gCok 8 (170, 0, 7) := ⟨gTB_in (i := 572) (by decide +kernel) (by decide +kernel), rfl, by decide +kernel⟩
set_option maxRecDepth 100000 in
theorem gCok_8_318 : gCok 8 (318, 1, 115) := ⟨gTB_in (i := 580) (by decide +kernel) (by decide +kernel), rfl⟩
set_option maxRecDepth 100000 in
theorem gCok_8_174 : gCok 8 (174, 0, 9) := ⟨gTB_in (i := 589) (by decide +kernel) (by decide +kernel), rfl, by decide +kernel⟩
set_option maxRecDepth 100000 in
theorem gCok_8_178 : gCok 8 (178, 0, 52) := ⟨gTB_in (i := 597) (by decide +kernel) (by decide +kernel), rfl, by decide +kernel⟩
set_option maxRecDepth 100000 in
theorem gCok_8_182 : gCok 8 (182, 0, 66) := ⟨gTB_in (i := 613) (by decide +kernel) (by decide +kernel), rfl, by decide +kernel⟩
set_option maxRecDepth 100000 in
theorem gCok_8_186 : gCok 8 (186, 0, 69) := ⟨gTB_in (i := 621) (by decide +kernel) (by decide +kernel), rfl, by decide +kernel⟩
set_option maxRecDepth 100000 in
theorem gCok_8_189 : gCok 8 (189, 0, 68) := ⟨gTB_in (i := 655) (by decide +kernel) (by decide +kernel), rfl, by decide +kernel⟩
set_option maxRecDepth 100000 in
theorem gCok_8_192 : gCok 8 (192, 1, 192) := ⟨gTB_in (i := 659) (by decide +kernel) (by decide +kernel), rfl⟩
set_option maxRecDepth 100000 in
theorem gCok_8_200 : gCok 8 (200, 0, 53) := ⟨gTB_in (i := 669) (by decide +kernel) (by decide +kernel), rfl, by decide +kernel⟩
set_option maxRecDepth 100000 in
theorem gCok_8_203 : gCok 8 (203, 0, 58) := ⟨gTB_in (i := 677) (by decide +kernel) (by decide +kernel), rfl, by decide +kernel⟩
set_option maxRecDepth 100000 in
theorem gCok_8_206 : gCok 8 (206, 0, 70) := ⟨gTB_in (i := 678) (by decide +kernel) (by decide +kernel), rfl, by decide +kernel⟩
set_option maxRecDepth 100000 in
theorem gCok_8_210 : gCok 8 (210, 0, 21) := ⟨gTB_in (i := 686) (by decide +kernel) (by decide +kernel), rfl, by decide +kernel⟩
set_option maxRecDepth 100000 in
theorem gCok_8_213 : gCok 8 (213, 0, 36) := ⟨gTB_in (i := 695) (by decide +kernel) (by decide +kernel), rfl, by decide +kernel⟩
set_option maxRecDepth 100000 in
theorem gCok_8_217 : gCok 8 (217, 7, 37) := ⟨List.mem_of_getElem? (i := 18) rfl, rfl, by decide +kernel⟩
set_option maxRecDepth 100000 in
theorem gCok_8_230 : gCok 8 (230, 1, 117) := ⟨gTB_in (i := 726) (by decide +kernel) (by decide +kernel), rfl⟩
set_option maxRecDepth 100000 in
theorem gCok_8_234 : gCok 8 (234, 0, 1) := ⟨gTB_in (i := 731) (by decide +kernel) (by decide +kernel), rfl, by decide +kernel⟩
set_option maxRecDepth 100000 in
theorem gCok_8_240 : gCok 8 (240, 0, 24) := ⟨gTB_in (i := 767) (by decide +kernel) (by decide +kernel), rfl, by decide +kernel⟩
set_option maxRecDepth 100000 in
theorem gCok_8_243 : gCok 8 (243, 0, 10) := ⟨gTB_in (i := 776) (by decide +kernel) (by decide +kernel), rfl, by decide +kernel⟩
set_option maxRecDepth 100000 in
theorem gCok_8_247 : gCok 8 (247, 0, 43) := ⟨gTB_in (i := 790) (by decide +kernel) (by decide +kernel), rfl, by decide +kernel⟩
set_option maxRecDepth 100000 in
theorem gCok_8_253 : gCok 8 (253, 0, 44) := ⟨gTB_in (i := 803) (by decide +kernel) (by decide +kernel), rfl, by decide +kernel⟩
set_option maxRecDepth 100000 in
theorem gCok_8_263 : gCok 8 (263, 0, 48) := ⟨gTB_in (i := 827) (by decide +kernel) (by decide +kernel), rfl, by decide +kernel⟩
set_option maxRecDepth 100000 in
theorem gCok_8_273 : gCok 8 (273, 1, 108) := ⟨gTB_in (i := 840) (by decide +kernel) (by decide +kernel), rfl⟩
set_option maxRecDepth 100000 in
theorem gCok_8_305 : gCok 8 (305, 1, 114) := ⟨gTB_in (i := 843) (by decide +kernel) (by decide +kernel), rfl⟩
set_option maxRecDepth 100000 in
theorem gCok_8_277 : gCok 8 (277, 0, 109) := ⟨gTB_in (i := 844) (by decide +kernel) (by decide +kernel), rfl, by decide +kernel⟩
set_option maxRecDepth 100000 in
theorem gCok_8_308 : gCok 8 (308, 0, 71) := ⟨gTB_in (i := 848) (by decide +kernel) (by decide +kernel), rfl, by decide +kernel⟩
set_option maxRecDepth 100000 in
theorem gCok_8_280 : gCok 8 (280, 1, 112) := ⟨gTB_in (i := 849) (by decide +kernel) (by decide +kernel), rfl⟩
set_option maxRecDepth 100000 in
theorem gCok_8_283 : gCok 8 (283, 1, 110) := ⟨gTB_in (i := 856) (by decide +kernel) (by decide +kernel), rfl⟩
set_option maxRecDepth 100000 in
theorem gCok_8_286 : gCok 8 (286, 0, 111) := ⟨gTB_in (i := 862) (by decide +kernel) (by decide +kernel), rfl, by decide +kernel⟩
set_option maxRecDepth 100000 in
theorem gCok_8_289 : gCok 8 (289, 0, 64) := ⟨gTB_in (i := 866) (by decide +kernel) (by decide +kernel), rfl, by decide +kernel⟩
set_option maxRecDepth 100000 in
theorem gCok_8_296 : gCok 8 (296, 0, 65) := ⟨gTB_in (i := 882) (by decide +kernel) (by decide +kernel), rfl, by decide +kernel⟩
set_option maxRecDepth 100000 in
theorem gCok_8_299 : gCok 8 (299, 0, 12) := ⟨gTB_in (i := 887) (by decide +kernel) (by decide +kernel), rfl, by decide +kernel⟩
set_option maxRecDepth 100000 in
theorem gCokS8_b0 : ∀ q ∈ ([(1, 6, 0), (19, 4, 25), (26, 4, 13), (36, 4, 56), (46, 3, 50), (58, 4, 41), (65, 4, 6), (72, 3, 35), (79, 4, 0), (86, 10, 0), (92, 8, 0), (98, 11, 0), (102, 1, 118), (106, 0, 26), (110, 0, 104), (302, 0, 57)] : List (Nat × Nat × Nat)), gCok 8 q := List.forall_mem_cons.mpr ⟨gCok_8_1, List.forall_mem_cons.mpr ⟨gCok_8_19, List.forall_mem_cons.mpr ⟨gCok_8_26, List.forall_mem_cons.mpr ⟨gCok_8_36, List.forall_mem_cons.mpr ⟨gCok_8_46, List.forall_mem_cons.mpr ⟨gCok_8_58, List.forall_mem_cons.mpr ⟨gCok_8_65, List.forall_mem_cons.mpr ⟨gCok_8_72, List.forall_mem_cons.mpr ⟨gCok_8_79, List.forall_mem_cons.mpr ⟨gCok_8_86, List.forall_mem_cons.mpr ⟨gCok_8_92, List.forall_mem_cons.mpr ⟨gCok_8_98, List.forall_mem_cons.mpr ⟨gCok_8_102, List.forall_mem_cons.mpr ⟨gCok_8_106, List.forall_mem_cons.mpr ⟨gCok_8_110, List.forall_mem_cons.mpr ⟨gCok_8_302, fun _ h => absurd h List.not_mem_nil⟩⟩⟩⟩⟩⟩⟩⟩⟩⟩⟩⟩⟩⟩⟩⟩
set_option maxRecDepth 100000 in
theorem gCokS8_b1 : ∀ q ∈ ([(292, 0, 51), (250, 0, 42), (119, 0, 105), (123, 1, 113), (127, 0, 18), (130, 0, 59), (134, 0, 62), (138, 1, 116), (142, 0, 106), (145, 0, 60), (148, 0, 61), (151, 0, 19), (157, 0, 20), (160, 0, 22), (163, 0, 107), (166, 0, 63)] : List (Nat × Nat × Nat)), gCok 8 q := List.forall_mem_cons.mpr ⟨gCok_8_292, List.forall_mem_cons.mpr ⟨gCok_8_250, List.forall_mem_cons.mpr ⟨gCok_8_119, List.forall_mem_cons.mpr ⟨gCok_8_123, List.forall_mem_cons.mpr ⟨gCok_8_127, List.forall_mem_cons.mpr ⟨gCok_8_130, List.forall_mem_cons.mpr ⟨gCok_8_134, List.forall_mem_cons.mpr ⟨gCok_8_138, List.forall_mem_cons.mpr ⟨gCok_8_142, List.forall_mem_cons.mpr ⟨gCok_8_145, List.forall_mem_cons.mpr ⟨gCok_8_148, List.forall_mem_cons.mpr ⟨gCok_8_151, List.forall_mem_cons.mpr ⟨gCok_8_157, List.forall_mem_cons.mpr ⟨gCok_8_160, List.forall_mem_cons.mpr ⟨gCok_8_163, List.forall_mem_cons.mpr ⟨gCok_8_166, fun _ h => absurd h List.not_mem_nil⟩⟩⟩⟩⟩⟩⟩⟩⟩⟩⟩⟩⟩⟩⟩⟩
set_option maxRecDepth 100000 in
theorem gCokS8_b2 : ∀ q ∈ ([(170, 0, 7), (318, 1, 115), (174, 0, 9), (178, 0, 52), (182, 0, 66), (186, 0, 69), (189, 0, 68), (192, 1, 192), (200, 0, 53), (203, 0, 58), (206, 0, 70), (210, 0, 21), (213, 0, 36), (217, 7, 37), (230, 1, 117), (234, 0, 1)] : List (Nat × Nat × Nat)), gCok 8 q := List.forall_mem_cons.mpr ⟨gCok_8_170, List.forall_mem_cons.mpr ⟨gCok_8_318, List.forall_mem_cons.mpr ⟨gCok_8_174, List.forall_mem_cons.mpr ⟨gCok_8_178, List.forall_mem_cons.mpr ⟨gCok_8_182, List.forall_mem_cons.mpr ⟨gCok_8_186, List.forall_mem_cons.mpr ⟨gCok_8_189, List.forall_mem_cons.mpr ⟨gCok_8_192, List.forall_mem_cons.mpr ⟨gCok_8_200, List.forall_mem_cons.mpr ⟨gCok_8_203, List.forall_mem_cons.mpr ⟨gCok_8_206, List.forall_mem_cons.mpr ⟨gCok_8_210, List.forall_mem_cons.mpr ⟨gCok_8_213, List.forall_mem_cons.mpr ⟨gCok_8_217, List.forall_mem_cons.mpr ⟨gCok_8_230, List.forall_mem_cons.mpr ⟨gCok_8_234, fun _ h => absurd h List.not_mem_nil⟩⟩⟩⟩⟩⟩⟩⟩⟩⟩⟩⟩⟩⟩⟩⟩
set_option maxRecDepth 100000 in
theorem gCokS8_b3 : ∀ q ∈ ([(240, 0, 24), (243, 0, 10), (247, 0, 43), (253, 0, 44), (263, 0, 48), (273, 1, 108), (305, 1, 114), (277, 0, 109), (308, 0, 71), (280, 1, 112), (283, 1, 110), (286, 0, 111), (289, 0, 64), (296, 0, 65), (299, 0, 12)] : List (Nat × Nat × Nat)), gCok 8 q := List.forall_mem_cons.mpr ⟨gCok_8_240, List.forall_mem_cons.mpr ⟨gCok_8_243, List.forall_mem_cons.mpr ⟨gCok_8_247, List.forall_mem_cons.mpr ⟨gCok_8_253, List.forall_mem_cons.mpr ⟨gCok_8_263, List.forall_mem_cons.mpr ⟨gCok_8_273, List.forall_mem_cons.mpr ⟨gCok_8_305, List.forall_mem_cons.mpr ⟨gCok_8_277, List.forall_mem_cons.mpr ⟨gCok_8_308, List.forall_mem_cons.mpr ⟨gCok_8_280, List.forall_mem_cons.mpr ⟨gCok_8_283, List.forall_mem_cons.mpr ⟨gCok_8_286, List.forall_mem_cons.mpr ⟨gCok_8_289, List.forall_mem_cons.mpr ⟨gCok_8_296, List.forall_mem_cons.mpr ⟨gCok_8_299, fun _ h => absurd h List.not_mem_nil⟩⟩⟩⟩⟩⟩⟩⟩⟩⟩⟩⟩⟩⟩⟩
set_option maxRecDepth 100000 in
theorem gCokA8 : ∀ q ∈ gCS 8, gCok 8 q := by
  show ∀ q ∈ ([(1, 6, 0), (19, 4, 25), (26, 4, 13), (36, 4, 56), (46, 3, 50), (58, 4, 41), (65, 4, 6), (72, 3, 35), (79, 4, 0), (86, 10, 0), (92, 8, 0), (98, 11, 0), (102, 1, 118), (106, 0, 26), (110, 0, 104), (302, 0, 57)] ++ ([(292, 0, 51), (250, 0, 42), (119, 0, 105), (123, 1, 113), (127, 0, 18), (130, 0, 59), (134, 0, 62), (138, 1, 116), (142, 0, 106), (145, 0, 60), (148, 0, 61), (151, 0, 19), (157, 0, 20), (160, 0, 22), (163, 0, 107), (166, 0, 63)] ++ ([(170, 0, 7), (318, 1, 115), (174, 0, 9), (178, 0, 52), (182, 0, 66), (186, 0, 69), (189, 0, 68), (192, 1, 192), (200, 0, 53), (203, 0, 58), (206, 0, 70), (210, 0, 21), (213, 0, 36), (217, 7, 37), (230, 1, 117), (234, 0, 1)] ++ ([(240, 0, 24), (243, 0, 10), (247, 0, 43), (253, 0, 44), (263, 0, 48), (273, 1, 108), (305, 1, 114), (277, 0, 109), (308, 0, 71), (280, 1, 112), (283, 1, 110), (286, 0, 111), (289, 0, 64), (296, 0, 65), (299, 0, 12)]))) : List (Nat × Nat × Nat)), gCok 8 q
  exact List.forall_mem_append.mpr ⟨gCokS8_b0, List.forall_mem_append.mpr ⟨gCokS8_b1, List.forall_mem_append.mpr ⟨gCokS8_b2, gCokS8_b3⟩⟩⟩
set_option maxRecDepth 100000 in
theorem gCok_9_1 : gCok 9 (1, 6, 0) := gTB_in (i := 896) (by decide +kernel) (by decide +kernel)
set_option maxRecDepth 100000 in
theorem gCok_9_46 : gCok 9 (46, 0, 120) := ⟨gTB_in (i := 897) (by decide +kernel) (by decide +kernel), rfl, by decide +kernel⟩
set_option maxRecDepth 100000 in
theorem gCok_9_50 : gCok 9 (50, 0, 121) := ⟨gTB_in (i := 901) (by decide +kernel) (by decide +kernel), rfl, by decide +kernel⟩
set_option maxRecDepth 100000 in
theorem gCok_9_54 : gCok 9 (54, 1, 122) := ⟨gTB_in (i := 967) (by decide +kernel) (by decide +kernel), rfl⟩
set_option maxRecDepth 100000 in
theorem gCok_9_96 : gCok 9 (96, 0, 135) := ⟨gTB_in (i := 978) (by decide +kernel) (by decide +kernel), rfl, by decide +kernel⟩
set_option maxRecDepth 100000 in
theorem gCok_9_65 : gCok 9 (65, 0, 127) := ⟨gTB_in (i := 982) (by decide +kernel) (by decide +kernel), rfl, by decide +kernel⟩
set_option maxRecDepth 100000 in
theorem gCok_9_80 : gCok 9 (80, 0, 130) := ⟨gTB_in (i := 986) (by decide +kernel) (by decide +kernel), rfl, by decide +kernel⟩
set_option maxRecDepth 100000 in
theorem gCok_9_73 : gCok 9 (73, 0, 129) := ⟨gTB_in (i := 990) (by decide +kernel) (by decide +kernel), rfl, by decide +kernel⟩
set_option maxRecDepth 100000 in
theorem gCok_9_69 : gCok 9 (69, 1, 128) := ⟨gTB_in (i := 994) (by decide +kernel) (by decide +kernel), rfl⟩
set_option maxRecDepth 100000 in
theorem gCok_9_84 : gCok 9 (84, 0, 131) := ⟨gTB_in (i := 997) (by decide +kernel) (by decide +kernel), rfl, by decide +kernel⟩
set_option maxRecDepth 100000 in
theorem gCok_9_87 : gCok 9 (87, 0, 132) := ⟨gTB_in (i := 1001) (by decide +kernel) (by decide +kernel), rfl, by decide +kernel⟩
set_option maxRecDepth 100000 in
theorem gCok_9_90 : gCok 9 (90, 0, 133) := ⟨gTB_in (i := 1005) (by decide +kernel) (by decide +kernel), rfl, by decide +kernel⟩
set_option maxRecDepth 100000 in
theorem gCok_9_93 : gCok 9 (93, 0, 134) := ⟨gTB_in (i := 1009) (by decide +kernel) (by decide +kernel), rfl, by decide +kernel⟩
set_option maxRecDepth 100000 in
theorem gCok_9_99 : gCok 9 (99, 0, 136) := ⟨gTB_in (i := 1017) (by decide +kernel) (by decide +kernel), rfl, by decide +kernel⟩
set_option maxRecDepth 100000 in
theorem gCok_9_137 : gCok 9 (137, 0, 138) := ⟨gTB_in (i := 1022) (by decide +kernel) (by decide +kernel), rfl, by decide +kernel⟩
set_option maxRecDepth 100000 in
theorem gCok_9_112 : gCok 9 (112, 0, 141) := ⟨gTB_in (i := 1026) (by decide +kernel) (by decide +kernel), rfl, by decide +kernel⟩
set_option maxRecDepth 100000 in
theorem gCok_9_116 : gCok 9 (116, 0, 142) := ⟨gTB_in (i := 1030) (by decide +kernel) (by decide +kernel), rfl, by decide +kernel⟩
set_option maxRecDepth 100000 in
theorem gCok_9_140 : gCok 9 (140, 0, 139) := ⟨gTB_in (i := 1038) (by decide +kernel) (by decide +kernel), rfl, by decide +kernel⟩
set_option maxRecDepth 100000 in
theorem gCok_9_123 : gCok 9 (123, 0, 144) := ⟨gTB_in (i := 1046) (by decide +kernel) (by decide +kernel), rfl, by decide +kernel⟩
set_option maxRecDepth 100000 in
theorem gCok_9_130 : gCok 9 (130, 0, 145) := ⟨gTB_in (i := 1050) (by decide +kernel) (by decide +kernel), rfl, by decide +kernel⟩
set_option maxRecDepth 100000 in
theorem gCok_9_156 : gCok 9 (156, 0, 140) := ⟨gTB_in (i := 1058) (by decide +kernel) (by decide +kernel), rfl, by decide +kernel⟩
set_option maxRecDepth 100000 in
theorem gCok_9_159 : gCok 9 (159, 0, 143) := ⟨gTB_in (i := 1062) (by decide +kernel) (by decide +kernel), rfl, by decide +kernel⟩
set_option maxRecDepth 100000 in
theorem gCok_9_150 : gCok 9 (150, 0, 154) := ⟨gTB_in (i := 1066) (by decide +kernel) (by decide +kernel), rfl, by decide +kernel⟩
set_option maxRecDepth 100000 in
theorem gCok_9_147 : gCok 9 (147, 0, 153) := ⟨gTB_in (i := 1070) (by decide +kernel) (by decide +kernel), rfl, by decide +kernel⟩
set_option maxRecDepth 100000 in
theorem gCok_9_143 : gCok 9 (143, 1, 123) := ⟨gTB_in (i := 1074) (by decide +kernel) (by decide +kernel), rfl⟩
set_option maxRecDepth 100000 in
theorem gCok_9_166 : gCok 9 (166, 0, 159) := ⟨gTB_in (i := 1081) (by decide +kernel) (by decide +kernel), rfl, by decide +kernel⟩
set_option maxRecDepth 100000 in
theorem gCok_9_170 : gCok 9 (170, 0, 158) := ⟨gTB_in (i := 1085) (by decide +kernel) (by decide +kernel), rfl, by decide +kernel⟩
set_option maxRecDepth 100000 in
theorem gCok_9_173 : gCok 9 (173, 0, 149) := ⟨gTB_in (i := 1093) (by decide +kernel) (by decide +kernel), rfl, by decide +kernel⟩
set_option maxRecDepth 100000 in
theorem gCok_9_133 : gCok 9 (133, 0, 148) := ⟨gTB_in (i := 1097) (by decide +kernel) (by decide +kernel), rfl, by decide +kernel⟩
set_option maxRecDepth 100000 in
theorem gCok_9_126 : gCok 9 (126, 0, 147) := ⟨gTB_in (i := 1101) (by decide +kernel) (by decide +kernel), rfl, by decide +kernel⟩
set_option maxRecDepth 100000 in
theorem gCok_9_120 : gCok 9 (120, 0, 146) := ⟨gTB_in (i := 1105) (by decide +kernel) (by decide +kernel), rfl, by decide +kernel⟩
set_option maxRecDepth 100000 in
theorem gCok_9_153 : gCok 9 (153, 1, 124) := ⟨gTB_in (i := 1113) (by decide +kernel) (by decide +kernel), rfl⟩
set_option maxRecDepth 100000 in
theorem gCok_9_177 : gCok 9 (177, 0, 164) := ⟨gTB_in (i := 1124) (by decide +kernel) (by decide +kernel), rfl, by decide +kernel⟩
set_option maxRecDepth 100000 in
theorem gCok_9_184 : gCok 9 (184, 0, 169) := ⟨gTB_in (i := 1136) (by decide +kernel) (by decide +kernel), rfl, by decide +kernel⟩
set_option maxRecDepth 100000 in
theorem gCok_9_180 : gCok 9 (180, 0, 167) := ⟨gTB_in (i := 1140) (by decide +kernel) (by decide +kernel), rfl, by decide +kernel⟩
set_option maxRecDepth 100000 in
theorem gCok_9_187 : gCok 9 (187, 0, 168) := ⟨gTB_in (i := 1145) (by decide +kernel) (by decide +kernel), rfl, by decide +kernel⟩
set_option maxRecDepth 100000 in
theorem gCok_9_194 : gCok 9 (194, 0, 172) := ⟨gTB_in (i := 1153) (by decide +kernel) (by decide +kernel), rfl, by decide +kernel⟩
set_option maxRecDepth 100000 in
theorem gCok_9_191 : gCok 9 (191, 0, 171) := ⟨gTB_in (i := 1157) (by decide +kernel) (by decide +kernel), rfl, by decide +kernel⟩
set_option maxRecDepth 100000 in
theorem gCok_9_197 : gCok 9 (197, 0, 155) := ⟨gTB_in (i := 1173) (by decide +kernel) (by decide +kernel), rfl, by decide +kernel⟩
set_option maxRecDepth 100000 in
theorem gCok_9_200 : gCok 9 (200, 0, 179) := ⟨gTB_in (i := 1189) (by decide +kernel) (by decide +kernel), rfl, by decide +kernel⟩
set_option maxRecDepth 100000 in
theorem gCok_9_203 : gCok 9 (203, 0, 180) := ⟨gTB_in (i := 1197) (by decide +kernel) (by decide +kernel), rfl, by decide +kernel⟩
set_option maxRecDepth 100000 in
theorem gCok_9_206 : gCok 9 (206, 0, 181) := ⟨gTB_in (i := 1198) (by decide +kernel) (by decide +kernel), rfl, by decide +kernel⟩
set_option maxRecDepth 100000 in
theorem gCok_9_209 : gCok 9 (209, 1, 183) := ⟨gTB_in (i := 1206) (by decide +kernel) (by decide +kernel), rfl⟩
set_option maxRecDepth 100000 in
theorem gCok_9_218 : gCok 9 (218, 0, 186) := ⟨gTB_in (i := 1216) (by decide +kernel) (by decide +kernel), rfl, by decide +kernel⟩
set_option maxRecDepth 100000 in
theorem gCok_9_221 : gCok 9 (221, 0, 185) := ⟨gTB_in (i := 1220) (by decide +kernel) (by decide +kernel), rfl, by decide +kernel⟩
set_option maxRecDepth 100000 in
theorem gCok_9_224 : gCok 9 (224, 0, 190) := ⟨gTB_in (i := 1236) (by decide +kernel) (by decide +kernel), rfl, by decide +kernel⟩
set_option maxRecDepth 100000 in
theorem gCok_9_227 : gCok 9 (227, 0, 156) := ⟨gTB_in (i := 1240) (by decide +kernel) (by decide +kernel), rfl, by decide +kernel⟩
set_option maxRecDepth 100000 in
theorem gCokS9_b0 : ∀ q ∈ ([(1, 6, 0), (46, 0, 120), (50, 0, 121), (54, 1, 122), (96, 0, 135), (65, 0, 127), (80, 0, 130), (73, 0, 129), (69, 1, 128), (84, 0, 131), (87, 0, 132), (90, 0, 133), (93, 0, 134), (99, 0, 136), (137, 0, 138), (112, 0, 141)] : List (Nat × Nat × Nat)), gCok 9 q := List.forall_mem_cons.mpr ⟨gCok_9_1, List.forall_mem_cons.mpr ⟨gCok_9_46, List.forall_mem_cons.mpr ⟨gCok_9_50, List.forall_mem_cons.mpr ⟨gCok_9_54, List.forall_mem_cons.mpr ⟨gCok_9_96, List.forall_mem_cons.mpr ⟨gCok_9_65, List.forall_mem_cons.mpr ⟨gCok_9_80, List.forall_mem_cons.mpr ⟨gCok_9_73, List.forall_mem_cons.mpr ⟨gCok_9_69, List.forall_mem_cons.mpr ⟨gCok_9_84, List.forall_mem_cons.mpr ⟨gCok_9_87, List.forall_mem_cons.mpr ⟨gCok_9_90, List.forall_mem_cons.mpr ⟨gCok_9_93, List.forall_mem_cons.mpr ⟨gCok_9_99, List.forall_mem_cons.mpr ⟨gCok_9_137, List.forall_mem_cons.mpr ⟨gCok_9_112, fun _ h => absurd h List.not_mem_nil⟩⟩⟩⟩⟩⟩⟩⟩⟩⟩⟩⟩⟩⟩⟩⟩
set_option maxRecDepth 100000 in
theorem gCokS9_b1 : ∀ q ∈ ([(116, 0, 142), (140, 0, 139), (123, 0, 144), (130, 0, 145), (156, 0, 140), (159, 0, 143), (150, 0, 154), (147, 0, 153), (143, 1, 123), (166, 0, 159), (170, 0, 158), (173, 0, 149), (133, 0, 148), (126, 0, 147), (120, 0, 146), (153, 1, 124)] : List (Nat × Nat × Nat)), gCok 9 q := List.forall_mem_cons.mpr ⟨gCok_9_116, List.forall_mem_cons.mpr ⟨gCok_9_140, List.forall_mem_cons.mpr ⟨gCok_9_123, List.forall_mem_cons.mpr ⟨gCok_9_130, List.forall_mem_cons.mpr ⟨gCok_9_156, List.forall_mem_cons.mpr ⟨gCok_9_159, List.forall_mem_cons.mpr ⟨gCok_9_150, List.forall_mem_cons.mpr ⟨gCok_9_147, List.forall_mem_cons.mpr ⟨gCok_9_143, List.forall_mem_cons.mpr ⟨gCok_9_166, List.forall_mem_cons.mpr ⟨gCok_9_170, List.forall_mem_cons.mpr ⟨gCok_9_173, List.forall_mem_cons.mpr ⟨gCok_9_133, List.forall_mem_cons.mpr ⟨gCok_9_126, List.forall_mem_cons.mpr ⟨gCok_9_120, List.forall_mem_cons.mpr ⟨gCok_9_153, fun _ h => absurd h List.not_mem_nil⟩⟩⟩⟩⟩⟩⟩⟩⟩⟩⟩⟩⟩⟩⟩⟩
set_option maxRecDepth 100000 in
theorem gCokS9_b2 : ∀ q ∈ ([(177, 0, 164), (184, 0, 169), (180, 0, 167), (187, 0, 168), (194, 0, 172), (191, 0, 171), (197, 0, 155), (200, 0, 179), (203, 0, 180), (206, 0, 181), (209, 1, 183), (218, 0, 186), (221, 0, 185), (224, 0, 190), (227, 0, 156)] : List (Nat × Nat × Nat)), gCok 9 q := List.forall_mem_cons.mpr ⟨gCok_9_177, List.forall_mem_cons.mpr ⟨gCok_9_184, List.forall_mem_cons.mpr ⟨gCok_9_180, List.forall_mem_cons.mpr ⟨gCok_9_187, List.forall_mem_cons.mpr ⟨gCok_9_194, List.forall_mem_cons.mpr ⟨gCok_9_191, List.forall_mem_cons.mpr ⟨gCok_9_197, List.forall_mem_cons.mpr ⟨gCok_9_200, List.forall_mem_cons.mpr ⟨gCok_9_203, List.forall_mem_cons.mpr ⟨gCok_9_206, List.forall_mem_cons.mpr ⟨gCok_9_209, List.forall_mem_cons.mpr ⟨gCok_9_218, List.forall_mem_cons.mpr ⟨gCok_9_221, List.forall_mem_cons.mpr ⟨gCok_9_224, List.forall_mem_cons.mpr ⟨gCok_9_227, fun _ h => absurd h List.not_mem_nil⟩⟩⟩⟩⟩⟩⟩⟩⟩⟩⟩⟩⟩⟩⟩
set_option maxRecDepth 100000 in
theorem gCokA9 : ∀ q ∈ gCS 9, gCok 9 q := by
  show ∀ q ∈ ([(1, 6, 0), (46, 0, 120), (50, 0, 121), (54, 1, 122), (96, 0, 135), (65, 0, 127), (80, 0, 130), (73, 0, 129), (69, 1, 128), (84, 0, 131), (87, 0, 132), (90, 0, 133), (93, 0, 134), (99, 0, 136), (137, 0, 138), (112, 0, 141)] ++ ([(116, 0, 142), (140, 0, 139), (123, 0, 144), (130, 0, 145), (156, 0, 140), (159, 0, 143), (150, 0, 154), (147, 0, 153), (143, 1, 123), (166, 0, 159), (170, 0, 158), (173, 0, 149), (133, 0, 148), (126, 0, 147), (120, 0, 146), (153, 1, 124)] ++ ([(177, 0, 164), (184, 0, 169), (180, 0, 167), (187, 0, 168), (194, 0, 172), (191, 0, 171), (197, 0, 155), (200, 0, 179), (203, 0, 180), (206, 0, 181), (209, 1, 183), (218, 0, 186), (221, 0, 185), (224, 0, 190), (227, 0, 156)])) : List (Nat × Nat × Nat)), gCok 9 q
  exact List.forall_mem_append.mpr ⟨gCokS9_b0, List.forall_mem_append.mpr ⟨gCokS9_b1, gCokS9_b2⟩⟩
set_option maxRecDepth 100000 in
theorem gCok_11_9 : gCok 11 (9, 5, 75) := trivial
set_option maxRecDepth 100000 in
theorem gCok_11_13 : gCok 11 (13, 0, 76) := ⟨gTB_in (i := 488) (by decide +kernel) (by decide +kernel), rfl, by decide +kernel⟩
set_option maxRecDepth 100000 in
theorem gCok_11_18 : gCok 11 (18, 0, 77) := ⟨gTB_in (i := 492) (by decide +kernel) (by decide +kernel), rfl, by decide +kernel⟩
set_option maxRecDepth 100000 in
theorem gCok_11_23 : gCok 11 (23, 0, 78) := ⟨gTB_in (i := 496) (by decide +kernel) (by decide +kernel), rfl, by decide +kernel⟩
set_option maxRecDepth 100000 in
theorem gCok_11_27 : gCok 11 (27, 0, 79) := ⟨gTB_in (i := 500) (by decide +kernel) (by decide +kernel), rfl, by decide +kernel⟩
set_option maxRecDepth 100000 in
theorem gCok_11_31 : gCok 11 (31, 0, 80) := ⟨gTB_in (i := 504) (by decide +kernel) (by decide +kernel), rfl, by decide +kernel⟩
set_option maxRecDepth 100000 in
theorem gCok_11_36 : gCok 11 (36, 0, 81) := ⟨gTB_in (i := 530) (by decide +kernel) (by decide +kernel), rfl, by decide +kernel⟩
set_option maxRecDepth 100000 in
theorem gCok_11_40 : gCok 11 (40, 0, 82) := ⟨gTB_in (i := 547) (by decide +kernel) (by decide +kernel), rfl, by decide +kernel⟩
set_option maxRecDepth 100000 in
theorem gCok_11_44 : gCok 11 (44, 0, 83) := ⟨gTB_in (i := 559) (by decide +kernel) (by decide +kernel), rfl, by decide +kernel⟩
set_option maxRecDepth 100000 in
theorem gCok_11_48 : gCok 11 (48, 0, 84) := ⟨gTB_in (i := 593) (by decide +kernel) (by decide +kernel), rfl, by decide +kernel⟩
set_option maxRecDepth 100000 in
theorem gCok_11_52 : gCok 11 (52, 0, 85) := ⟨gTB_in (i := 617) (by decide +kernel) (by decide +kernel), rfl, by decide +kernel⟩
set_option maxRecDepth 100000 in
theorem gCok_11_56 : gCok 11 (56, 0, 86) := ⟨gTB_in (i := 651) (by decide +kernel) (by decide +kernel), rfl, by decide +kernel⟩
set_option maxRecDepth 100000 in
theorem gCok_11_60 : gCok 11 (60, 0, 87) := ⟨gTB_in (i := 665) (by decide +kernel) (by decide +kernel), rfl, by decide +kernel⟩
set_option maxRecDepth 100000 in
theorem gCok_11_64 : gCok 11 (64, 0, 88) := ⟨gTB_in (i := 673) (by decide +kernel) (by decide +kernel), rfl, by decide +kernel⟩
set_option maxRecDepth 100000 in
theorem gCok_11_68 : gCok 11 (68, 0, 89) := ⟨gTB_in (i := 682) (by decide +kernel) (by decide +kernel), rfl, by decide +kernel⟩
set_option maxRecDepth 100000 in
theorem gCok_11_72 : gCok 11 (72, 0, 90) := ⟨gTB_in (i := 691) (by decide +kernel) (by decide +kernel), rfl, by decide +kernel⟩
set_option maxRecDepth 100000 in
theorem gCok_11_77 : gCok 11 (77, 0, 91) := ⟨gTB_in (i := 727) (by decide +kernel) (by decide +kernel), rfl, by decide +kernel⟩
set_option maxRecDepth 100000 in
theorem gCok_11_81 : gCok 11 (81, 0, 92) := ⟨gTB_in (i := 759) (by decide +kernel) (by decide +kernel), rfl, by decide +kernel⟩
set_option maxRecDepth 100000 in
theorem gCok_11_85 : gCok 11 (85, 0, 93) := ⟨gTB_in (i := 763) (by decide +kernel) (by decide +kernel), rfl, by decide +kernel⟩
set_option maxRecDepth 100000 in
theorem gCok_11_89 : gCok 11 (89, 0, 94) := ⟨gTB_in (i := 772) (by decide +kernel) (by decide +kernel), rfl, by decide +kernel⟩
set_option maxRecDepth 100000 in
theorem gCok_11_93 : gCok 11 (93, 0, 95) := ⟨gTB_in (i := 786) (by decide +kernel) (by decide +kernel), rfl, by decide +kernel⟩
set_option maxRecDepth 100000 in
theorem gCok_11_97 : gCok 11 (97, 0, 96) := ⟨gTB_in (i := 795) (by decide +kernel) (by decide +kernel), rfl, by decide +kernel⟩
set_option maxRecDepth 100000 in
theorem gCok_11_101 : gCok 11 (101, 0, 97) := ⟨gTB_in (i := 799) (by decide +kernel) (by decide +kernel), rfl, by decide +kernel⟩
set_option maxRecDepth 100000 in
theorem gCok_11_105 : gCok 11 (105, 0, 98) := ⟨gTB_in (i := 823) (by decide +kernel) (by decide +kernel), rfl, by decide +kernel⟩
set_option maxRecDepth 100000 in
theorem gCok_11_109 : gCok 11 (109, 0, 99) := ⟨gTB_in (i := 836) (by decide +kernel) (by decide +kernel), rfl, by decide +kernel⟩
set_option maxRecDepth 100000 in
theorem gCok_11_114 : gCok 11 (114, 0, 100) := ⟨gTB_in (i := 852) (by decide +kernel) (by decide +kernel), rfl, by decide +kernel⟩
set_option maxRecDepth 100000 in
theorem gCok_11_118 : gCok 11 (118, 0, 101) := ⟨gTB_in (i := 870) (by decide +kernel) (by decide +kernel), rfl, by decide +kernel⟩
set_option maxRecDepth 100000 in
theorem gCok_11_122 : gCok 11 (122, 0, 102) := ⟨gTB_in (i := 874) (by decide +kernel) (by decide +kernel), rfl, by decide +kernel⟩
set_option maxRecDepth 100000 in
theorem gCok_11_126 : gCok 11 (126, 0, 103) := ⟨gTB_in (i := 878) (by decide +kernel) (by decide +kernel), rfl, by decide +kernel⟩
set_option maxRecDepth 100000 in
theorem gCok_11_12 : gCok 11 (12, 3, 119) := ⟨gTB_in (i := 893) (by decide +kernel) (by decide +kernel), rfl, rfl, rfl⟩
set_option maxRecDepth 100000 in
theorem gCok_11_17 : gCok 11 (17, 0, 125) := ⟨gTB_in (i := 963) (by decide +kernel) (by decide +kernel), rfl, by decide +kernel⟩
set_option maxRecDepth 100000 in
theorem gCok_11_22 : gCok 11 (22, 0, 126) := ⟨gTB_in (i := 970) (by decide +kernel) (by decide +kernel), rfl, by decide +kernel⟩
set_option maxRecDepth 100000 in
theorem gCok_11_26 : gCok 11 (26, 0, 136) := ⟨gTB_in (i := 974) (by decide +kernel) (by decide +kernel), rfl, by decide +kernel⟩
set_option maxRecDepth 100000 in
theorem gCok_11_30 : gCok 11 (30, 0, 137) := ⟨gTB_in (i := 1013) (by decide +kernel) (by decide +kernel), rfl, by decide +kernel⟩
set_option maxRecDepth 100000 in
theorem gCok_11_35 : gCok 11 (35, 0, 150) := ⟨gTB_in (i := 1018) (by decide +kernel) (by decide +kernel), rfl, by decide +kernel⟩
set_option maxRecDepth 100000 in
theorem gCok_11_39 : gCok 11 (39, 0, 151) := ⟨gTB_in (i := 1034) (by decide +kernel) (by decide +kernel), rfl, by decide +kernel⟩
set_option maxRecDepth 100000 in
theorem gCok_11_43 : gCok 11 (43, 0, 152) := ⟨gTB_in (i := 1042) (by decide +kernel) (by decide +kernel), rfl, by decide +kernel⟩
set_option maxRecDepth 100000 in
theorem gCok_11_47 : gCok 11 (47, 0, 157) := ⟨gTB_in (i := 1054) (by decide +kernel) (by decide +kernel), rfl, by decide +kernel⟩
set_option maxRecDepth 100000 in
theorem gCok_11_51 : gCok 11 (51, 0, 160) := ⟨gTB_in (i := 1077) (by decide +kernel) (by decide +kernel), rfl, by decide +kernel⟩
set_option maxRecDepth 100000 in
theorem gCok_11_55 : gCok 11 (55, 0, 161) := ⟨gTB_in (i := 1089) (by decide +kernel) (by decide +kernel), rfl, by decide +kernel⟩
set_option maxRecDepth 100000 in
theorem gCok_11_59 : gCok 11 (59, 0, 162) := ⟨gTB_in (i := 1109) (by decide +kernel) (by decide +kernel), rfl, by decide +kernel⟩
set_option maxRecDepth 100000 in
theorem gCok_11_63 : gCok 11 (63, 0, 163) := ⟨gTB_in (i := 1116) (by decide +kernel) (by decide +kernel), rfl, by decide +kernel⟩
set_option maxRecDepth 100000 in
theorem gCok_11_67 : gCok 11 (67, 0, 165) := ⟨gTB_in (i := 1120) (by decide +kernel) (by decide +kernel), rfl, by decide +kernel⟩
set_option maxRecDepth 100000 in
theorem gCok_11_71 : gCok 11 (71, 0, 166) := ⟨gTB_in (i := 1128) (by decide +kernel) (by decide +kernel), rfl, by decide +kernel⟩
set_option maxRecDepth 100000 in
theorem gCok_11_76 : gCok 11 (76, 0, 170) := ⟨gTB_in (i := 1132) (by decide +kernel) (by decide +kernel), rfl, by decide +kernel⟩
set_option maxRecDepth 100000 in
theorem gCok_11_80 : gCok 11 (80, 0, 173) := ⟨gTB_in (i := 1149) (by decide +kernel) (by decide +kernel), rfl, by decide +kernel⟩
set_option maxRecDepth 100000 in
theorem gCok_11_84 : gCok 11 (84, 0, 174) := ⟨gTB_in (i := 1161) (by decide +kernel) (by decide +kernel), rfl, by decide +kernel⟩
set_option maxRecDepth 100000 in
theorem gCok_11_88 : gCok 11 (88, 0, 175) := ⟨gTB_in (i := 1165) (by decide +kernel) (by decide +kernel), rfl, by decide +kernel⟩
set_option maxRecDepth 100000 in
theorem gCok_11_92 : gCok 11 (92, 0, 176) := ⟨gTB_in (i := 1169) (by decide +kernel) (by decide +kernel), rfl, by decide +kernel⟩
set_option maxRecDepth 100000 in
theorem gCok_11_96 : gCok 11 (96, 0, 177) := ⟨gTB_in (i := 1177) (by decide +kernel) (by decide +kernel), rfl, by decide +kernel⟩
set_option maxRecDepth 100000 in
theorem gCok_11_100 : gCok 11 (100, 0, 178) := ⟨gTB_in (i := 1181) (by decide +kernel) (by decide +kernel), rfl, by decide +kernel⟩
set_option maxRecDepth 100000 in
theorem gCok_11_104 : gCok 11 (104, 0, 180) := ⟨gTB_in (i := 1185) (by decide +kernel) (by decide +kernel), rfl, by decide +kernel⟩
set_option maxRecDepth 100000 in
theorem gCok_11_108 : gCok 11 (108, 0, 182) := ⟨gTB_in (i := 1193) (by decide +kernel) (by decide +kernel), rfl, by decide +kernel⟩
set_option maxRecDepth 100000 in
theorem gCok_11_113 : gCok 11 (113, 0, 184) := ⟨gTB_in (i := 1202) (by decide +kernel) (by decide +kernel), rfl, by decide +kernel⟩
set_option maxRecDepth 100000 in
theorem gCok_11_117 : gCok 11 (117, 0, 187) := ⟨gTB_in (i := 1209) (by decide +kernel) (by decide +kernel), rfl, by decide +kernel⟩
set_option maxRecDepth 100000 in
theorem gCok_11_121 : gCok 11 (121, 0, 188) := ⟨gTB_in (i := 1224) (by decide +kernel) (by decide +kernel), rfl, by decide +kernel⟩
set_option maxRecDepth 100000 in
theorem gCok_11_125 : gCok 11 (125, 0, 189) := ⟨gTB_in (i := 1228) (by decide +kernel) (by decide +kernel), rfl, by decide +kernel⟩
set_option maxRecDepth 100000 in
theorem gCok_11_129 : gCok 11 (129, 0, 191) := ⟨gTB_in (i := 1232) (by decide +kernel) (by decide +kernel), rfl, by decide +kernel⟩
set_option maxRecDepth 100000 in
theorem gCokS11_b0 : ∀ q ∈ ([(9, 5, 75), (13, 0, 76), (18, 0, 77), (23, 0, 78), (27, 0, 79), (31, 0, 80), (36, 0, 81), (40, 0, 82), (44, 0, 83), (48, 0, 84), (52, 0, 85), (56, 0, 86), (60, 0, 87), (64, 0, 88), (68, 0, 89), (72, 0, 90)] : List (Nat × Nat × Nat)), gCok 11 q := List.forall_mem_cons.mpr ⟨gCok_11_9, List.forall_mem_cons.mpr ⟨gCok_11_13, List.forall_mem_cons.mpr ⟨gCok_11_18, List.forall_mem_cons.mpr ⟨gCok_11_23, List.forall_mem_cons.mpr ⟨gCok_11_27, List.forall_mem_cons.mpr ⟨gCok_11_31, List.forall_mem_cons.mpr ⟨gCok_11_36, List.forall_mem_cons.mpr ⟨gCok_11_40, List.forall_mem_cons.mpr ⟨gCok_11_44, List.forall_mem_cons.mpr ⟨gCok_11_48, List.forall_mem_cons.mpr ⟨gCok_11_52, List.forall_mem_cons.mpr ⟨gCok_11_56, List.forall_mem_cons.mpr ⟨gCok_11_60, List.forall_mem_cons.mpr ⟨gCok_11_64, List.forall_mem_cons.mpr ⟨gCok_11_68, List.forall_mem_cons.mpr ⟨gCok_11_72, fun _ h => absurd h List.not_mem_nil⟩⟩⟩⟩⟩⟩⟩⟩⟩⟩⟩⟩⟩⟩⟩⟩
set_option maxRecDepth 100000 in
theorem gCokS11_b1 : ∀ q ∈ ([(77, 0, 91), (81, 0, 92), (85, 0, 93), (89, 0, 94), (93, 0, 95), (97, 0, 96), (101, 0, 97), (105, 0, 98), (109, 0, 99), (114, 0, 100), (118, 0, 101), (122, 0, 102), (126, 0, 103), (12, 3, 119), (17, 0, 125), (22, 0, 126)] : List (Nat × Nat × Nat)), gCok 11 q := List.forall_mem_cons.mpr ⟨gCok_11_77, List.forall_mem_cons.mpr ⟨gCok_11_81, List.forall_mem_cons.mpr ⟨gCok_11_85, List.forall_mem_cons.mpr ⟨gCok_11_89, List.forall_mem_cons.mpr ⟨gCok_11_93, List.forall_mem_cons.mpr ⟨gCok_11_97, List.forall_mem_cons.mpr ⟨gCok_11_101, List.forall_mem_cons.mpr ⟨gCok_11_105, List.forall_mem_cons.mpr ⟨gCok_11_109, List.forall_mem_cons.mpr ⟨gCok_11_114, List.forall_mem_cons.mpr ⟨gCok_11_118, List.forall_mem_cons.mpr ⟨gCok_11_122, List.forall_mem_cons.mpr ⟨gCok_11_126, List.forall_mem_cons.mpr ⟨gCok_11_12, List.forall_mem_cons.mpr ⟨gCok_11_17, List.forall_mem_cons.mpr ⟨gCok_11_22, fun _ h => absurd h List.not_mem_nil⟩⟩⟩⟩⟩⟩⟩⟩⟩⟩⟩⟩⟩⟩⟩⟩
set_option maxRecDepth 100000 in
theorem gCokS11_b2 : ∀ q ∈ ([(26, 0, 136), (30, 0, 137), (35, 0, 150), (39, 0, 151), (43, 0, 152), (47, 0, 157), (51, 0, 160), (55, 0, 161), (59, 0, 162), (63, 0, 163), (67, 0, 165), (71, 0, 166), (76, 0, 170), (80, 0, 173), (84, 0, 174), (88, 0, 175)] : List (Nat × Nat × Nat)), gCok 11 q := List.forall_mem_cons.mpr ⟨gCok_11_26, List.forall_mem_cons.mpr ⟨gCok_11_30, List.forall_mem_cons.mpr ⟨gCok_11_35, List.forall_mem_cons.mpr ⟨gCok_11_39, List.forall_mem_cons.mpr ⟨gCok_11_43, List.forall_mem_cons.mpr ⟨gCok_11_47, List.forall_mem_cons.mpr ⟨gCok_11_51, List.forall_mem_cons.mpr ⟨gCok_11_55, List.forall_mem_cons.mpr ⟨gCok_11_59, List.forall_mem_cons.mpr ⟨gCok_11_63, List.forall_mem_cons.mpr ⟨gCok_11_67, List.forall_mem_cons.mpr ⟨gCok_11_71, List.forall_mem_cons.mpr ⟨gCok_11_76, List.forall_mem_cons.mpr ⟨gCok_11_80, List.forall_mem_cons.mpr ⟨gCok_11_84, List.forall_mem_cons.mpr ⟨gCok_11_88, fun _ h => absurd h List.not_mem_nil⟩⟩⟩⟩⟩⟩⟩⟩⟩⟩⟩⟩⟩⟩⟩⟩
set_option maxRecDepth 100000 in
theorem gCokS11_b3 : ∀ q ∈ ([(92, 0, 176), (96, 0, 177), (100, 0, 178), (104, 0, 180), (108, 0, 182), (113, 0, 184), (117, 0, 187), (121, 0, 188), (125, 0, 189), (129, 0, 191)] : List (Nat × Nat × Nat)), gCok 11 q := List.forall_mem_cons.mpr ⟨gCok_11_92, List.forall_mem_cons.mpr ⟨gCok_11_96, List.forall_mem_cons.mpr ⟨gCok_11_100, List.forall_mem_cons.mpr ⟨gCok_11_104, List.forall_mem_cons.mpr ⟨gCok_11_108, List.forall_mem_cons.mpr ⟨gCok_11_113, List.forall_mem_cons.mpr ⟨gCok_11_117, List.forall_mem_cons.mpr ⟨gCok_11_121, List.forall_mem_cons.mpr ⟨gCok_11_125, List.forall_mem_cons.mpr ⟨gCok_11_129, fun _ h => absurd h List.not_mem_nil⟩⟩⟩⟩⟩⟩⟩⟩⟩⟩
set_option maxRecDepth 100000 in
theorem gCokA11 : ∀ q ∈ gCS 11, gCok 11 q := by
  show ∀ q ∈ ([(9, 5, 75), (13, 0, 76), (18, 0, 77), (23, 0, 78), (27, 0, 79), (31, 0, 80), (36, 0, 81), (40, 0, 82), (44, 0, 83), (48, 0, 84), (52, 0, 85), (56, 0, 86), (60, 0, 87), (64, 0, 88), (68, 0, 89), (72, 0, 90)] ++ ([(77, 0, 91), (81, 0, 92), (85, 0, 93), (89, 0, 94), (93, 0, 95), (97, 0, 96), (101, 0, 97), (105, 0, 98), (109, 0, 99), (114, 0, 100), (118, 0, 101), (122, 0, 102), (126, 0, 103), (12, 3, 119), (17, 0, 125), (22, 0, 126)] ++ ([(26, 0, 136), (30, 0, 137), (35, 0, 150), (39, 0, 151), (43, 0, 152), (47, 0, 157), (51, 0, 160), (55, 0, 161), (59, 0, 162), (63, 0, 163), (67, 0, 165), (71, 0, 166), (76, 0, 170), (80, 0, 173), (84, 0, 174), (88, 0, 175)] ++ ([(92, 0, 176), (96, 0, 177), (100, 0, 178), (104, 0, 180), (108, 0, 182), (113, 0, 184), (117, 0, 187), (121, 0, 188), (125, 0, 189), (129, 0, 191)]))) : List (Nat × Nat × Nat)), gCok 11 q
  exact List.forall_mem_append.mpr ⟨gCokS11_b0, List.forall_mem_append.mpr ⟨gCokS11_b1, List.forall_mem_append.mpr ⟨gCokS11_b2, gCokS11_b3⟩⟩⟩
set_option maxRecDepth 100000 in
theorem gCok_all : ∀ (o : Nat) (q : Nat × Nat × Nat), q ∈ gCS o → gCok o q := fun o q h => match o, h with
  | 0, h => gCokA0 q h
  | 1, h => gCokA1 q h
  | 2, h => gCokA2 q h
  | 3, h => gCokA3 q h
  | 4, h => gCokA4 q h
  | 5, h => gCokA5 q h
  | 6, h => gCokA6 q h
  | 7, h => gCokA7 q h
  | 8, h => gCokA8 q h
  | 9, h => gCokA9 q h
  | 10, h => (by cases h)
  | 11, h => gCokA11 q h
  | (n + 12), h => by cases h
/-- .. of a field's link: class, place -/
def gFok (o : Nat) (q : Nat × Nat × Nat) : Prop := Cond.fieldLink (gR o) q.1 (gR q.2.1) (gT q.2.1 q.2.2).2.1 (gT q.2.1 q.2.2).2.2.1 ∈ gTB ∧ q.2.2 < gN q.2.1 ∧ q.2.1 < 10
set_option maxRecDepth 100000 in
theorem gFok_0_28 : gFok 0 (28, 2, 1) := ⟨gTB_in (i := 125) (by decide +kernel) (by decide +kernel), by decide, by decide⟩
set_option maxRecDepth 100000 in
theorem gFok_0_33 : gFok 0 (33, 2, 2) := ⟨gTB_in (i := 133) (by decide +kernel) (by decide +kernel), by decide, by decide⟩
set_option maxRecDepth 100000 in
theorem gFok_0_9 : gFok 0 (9, 0, 0) := ⟨gTB_in (i := 292) (by decide +kernel) (by decide +kernel), by decide, by decide⟩
set_option maxRecDepth 100000 in
theorem gFok_0_15 : gFok 0 (15, 0, 1) := ⟨gTB_in (i := 294) (by decide +kernel) (by decide +kernel), by decide, by decide⟩
set_option maxRecDepth 100000 in
theorem gFok_0_19 : gFok 0 (19, 0, 2) := ⟨gTB_in (i := 296) (by decide +kernel) (by decide +kernel), by decide, by decide⟩
set_option maxRecDepth 100000 in
theorem gFok_0_22 : gFok 0 (22, 0, 3) := ⟨gTB_in (i := 297) (by decide +kernel) (by decide +kernel), by decide, by decide⟩
set_option maxRecDepth 100000 in
theorem gFok_0_25 : gFok 0 (25, 0, 4) := ⟨gTB_in (i := 298) (by decide +kernel) (by decide +kernel), by decide, by decide⟩
set_option maxRecDepth 100000 in
theorem gFokS0_b0 : ∀ q ∈ ([(28, 2, 1), (33, 2, 2), (9, 0, 0), (15, 0, 1), (19, 0, 2), (22, 0, 3), (25, 0, 4)] : List (Nat × Nat × Nat)), gFok 0 q := List.forall_mem_cons.mpr ⟨gFok_0_28, List.forall_mem_cons.mpr ⟨gFok_0_33, List.forall_mem_cons.mpr ⟨gFok_0_9, List.forall_mem_cons.mpr ⟨gFok_0_15, List.forall_mem_cons.mpr ⟨gFok_0_19, List.forall_mem_cons.mpr ⟨gFok_0_22, List.forall_mem_cons.mpr ⟨gFok_0_25, fun _ h => absurd h List.not_mem_nil⟩⟩⟩⟩⟩⟩⟩
set_option maxRecDepth 100000 in
theorem gFokA0 : ∀ q ∈ gFS 0, gFok 0 q := by
  show ∀ q ∈ ([(28, 2, 1), (33, 2, 2), (9, 0, 0), (15, 0, 1), (19, 0, 2), (22, 0, 3), (25, 0, 4)] : List (Nat × Nat × Nat)), gFok 0 q
  exact gFokS0_b0
set_option maxRecDepth 100000 in
theorem gFok_1_52 : gFok 1 (52, 2, 0) := ⟨gTB_in (i := 122) (by decide +kernel) (by decide +kernel), by decide, by decide⟩
set_option maxRecDepth 100000 in
theorem gFok_1_19 : gFok 1 (19, 2, 1) := ⟨gTB_in (i := 126) (by decide +kernel) (by decide +kernel), by decide, by decide⟩
set_option maxRecDepth 100000 in
theorem gFok_1_9 : gFok 1 (9, 1, 0) := ⟨gTB_in (i := 249) (by decide +kernel) (by decide +kernel), by decide, by decide⟩
set_option maxRecDepth 100000 in
theorem gFokS1_b0 : ∀ q ∈ ([(52, 2, 0), (19, 2, 1), (9, 1, 0)] : List (Nat × Nat × Nat)), gFok 1 q := List.forall_mem_cons.mpr ⟨gFok_1_52, List.forall_mem_cons.mpr ⟨gFok_1_19, List.forall_mem_cons.mpr ⟨gFok_1_9, fun _ h => absurd h List.not_mem_nil⟩⟩⟩
set_option maxRecDepth 100000 in
theorem gFokA1 : ∀ q ∈ gFS 1, gFok 1 q := by
  show ∀ q ∈ ([(52, 2, 0), (19, 2, 1), (9, 1, 0)] : List (Nat × Nat × Nat)), gFok 1 q
  exact gFokS1_b0
set_option maxRecDepth 100000 in
theorem gFok_2_21 : gFok 2 (21, 2, 0) := ⟨gTB_in (i := 119) (by decide +kernel) (by decide +kernel), by decide, by decide⟩
set_option maxRecDepth 100000 in
theorem gFok_2_25 : gFok 2 (25, 2, 1) := ⟨gTB_in (i := 124) (by decide +kernel) (by decide +kernel), by decide, by decide⟩
set_option maxRecDepth 100000 in
theorem gFok_2_28 : gFok 2 (28, 2, 2) := ⟨gTB_in (i := 132) (by decide +kernel) (by decide +kernel), by decide, by decide⟩
set_option maxRecDepth 100000 in
theorem gFok_2_31 : gFok 2 (31, 2, 3) := ⟨gTB_in (i := 137) (by decide +kernel) (by decide +kernel), by decide, by decide⟩
set_option maxRecDepth 100000 in
theorem gFok_2_34 : gFok 2 (34, 2, 4) := ⟨gTB_in (i := 139) (by decide +kernel) (by decide +kernel), by decide, by decide⟩
set_option maxRecDepth 100000 in
theorem gFok_2_9 : gFok 2 (9, 2, 5) := ⟨gTB_in (i := 141) (by decide +kernel) (by decide +kernel), by decide, by decide⟩
set_option maxRecDepth 100000 in
theorem gFok_2_15 : gFok 2 (15, 2, 6) := ⟨gTB_in (i := 142) (by decide +kernel) (by decide +kernel), by decide, by decide⟩
set_option maxRecDepth 100000 in
theorem gFok_2_18 : gFok 2 (18, 2, 7) := ⟨gTB_in (i := 143) (by decide +kernel) (by decide +kernel), by decide, by decide⟩
set_option maxRecDepth 100000 in
theorem gFokS2_b0 : ∀ q ∈ ([(21, 2, 0), (25, 2, 1), (28, 2, 2), (31, 2, 3), (34, 2, 4), (9, 2, 5), (15, 2, 6), (18, 2, 7)] : List (Nat × Nat × Nat)), gFok 2 q := List.forall_mem_cons.mpr ⟨gFok_2_21, List.forall_mem_cons.mpr ⟨gFok_2_25, List.forall_mem_cons.mpr ⟨gFok_2_28, List.forall_mem_cons.mpr ⟨gFok_2_31, List.forall_mem_cons.mpr ⟨gFok_2_34, List.forall_mem_cons.mpr ⟨gFok_2_9, List.forall_mem_cons.mpr ⟨gFok_2_15, List.forall_mem_cons.mpr ⟨gFok_2_18, fun _ h => absurd h List.not_mem_nil⟩⟩⟩⟩⟩⟩⟩⟩
set_option maxRecDepth 100000 in
theorem gFokA2 : ∀ q ∈ gFS 2, gFok 2 q := by
  show ∀ q ∈ ([(21, 2, 0), (25, 2, 1), (28, 2, 2), (31, 2, 3), (34, 2, 4), (9, 2, 5), (15, 2, 6), (18, 2, 7)] : List (Nat × Nat × Nat)), gFok 2 q
  exact gFokS2_b0
set_option maxRecDepth 100000 in
theorem gFok_3_9 : gFok 3 (9, 3, 0) := ⟨gTB_in (i := 102) (by decide +kernel) (by decide +kernel), by decide, by decide⟩
set_option maxRecDepth 100000 in
theorem gFok_3_15 : gFok 3 (15, 3, 1) := ⟨gTB_in (i := 103) (by decide +kernel) (by decide +kernel), by decide, by decide⟩
set_option maxRecDepth 100000 in
theorem gFok_3_19 : gFok 3 (19, 3, 2) := ⟨gTB_in (i := 104) (by decide +kernel) (by decide +kernel), by decide, by decide⟩
set_option maxRecDepth 100000 in
theorem gFok_3_67 : gFok 3 (67, 2, 0) := ⟨gTB_in (i := 120) (by decide +kernel) (by decide +kernel), by decide, by decide⟩
set_option maxRecDepth 100000 in
theorem gFok_3_70 : gFok 3 (70, 2, 1) := ⟨gTB_in (i := 130) (by decide +kernel) (by decide +kernel), by decide, by decide⟩
set_option maxRecDepth 100000 in
theorem gFok_3_77 : gFok 3 (77, 2, 2) := ⟨gTB_in (i := 135) (by decide +kernel) (by decide +kernel), by decide, by decide⟩
set_option maxRecDepth 100000 in
theorem gFok_3_83 : gFok 3 (83, 2, 3) := ⟨gTB_in (i := 138) (by decide +kernel) (by decide +kernel), by decide, by decide⟩
set_option maxRecDepth 100000 in
theorem gFok_3_86 : gFok 3 (86, 2, 4) := ⟨gTB_in (i := 140) (by decide +kernel) (by decide +kernel), by decide, by decide⟩
set_option maxRecDepth 100000 in
theorem gFokS3_b0 : ∀ q ∈ ([(9, 3, 0), (15, 3, 1), (19, 3, 2), (67, 2, 0), (70, 2, 1), (77, 2, 2), (83, 2, 3), (86, 2, 4)] : List (Nat × Nat × Nat)), gFok 3 q := List.forall_mem_cons.mpr ⟨gFok_3_9, List.forall_mem_cons.mpr ⟨gFok_3_15, List.forall_mem_cons.mpr ⟨gFok_3_19, List.forall_mem_cons.mpr ⟨gFok_3_67, List.forall_mem_cons.mpr ⟨gFok_3_70, List.forall_mem_cons.mpr ⟨gFok_3_77, List.forall_mem_cons.mpr ⟨gFok_3_83, List.forall_mem_cons.mpr ⟨gFok_3_86, fun _ h => absurd h List.not_mem_nil⟩⟩⟩⟩⟩⟩⟩⟩
set_option maxRecDepth 100000 in
theorem gFokA3 : ∀ q ∈ gFS 3, gFok 3 q := by
  show ∀ q ∈ ([(9, 3, 0), (15, 3, 1), (19, 3, 2), (67, 2, 0), (70, 2, 1), (77, 2, 2), (83, 2, 3), (86, 2, 4)] : List (Nat × Nat × Nat)), gFok 3 q
  exact gFokS3_b0
set_option maxRecDepth 100000 in
theorem gFok_4_49 : gFok 4 (49, 2, 1) := ⟨gTB_in (i := 127) (by decide +kernel) (by decide +kernel), by decide, by decide⟩
set_option maxRecDepth 100000 in
theorem gFok_4_9 : gFok 4 (9, 4, 0) := ⟨gTB_in (i := 261) (by decide +kernel) (by decide +kernel), by decide, by decide⟩
set_option maxRecDepth 100000 in
theorem gFok_4_15 : gFok 4 (15, 4, 1) := ⟨gTB_in (i := 263) (by decide +kernel) (by decide +kernel), by decide, by decide⟩
set_option maxRecDepth 100000 in
theorem gFok_4_18 : gFok 4 (18, 4, 2) := ⟨gTB_in (i := 265) (by decide +kernel) (by decide +kernel), by decide, by decide⟩
set_option maxRecDepth 100000 in
theorem gFok_4_22 : gFok 4 (22, 4, 3) := ⟨gTB_in (i := 267) (by decide +kernel) (by decide +kernel), by decide, by decide⟩
set_option maxRecDepth 100000 in
theorem gFok_4_27 : gFok 4 (27, 4, 4) := ⟨gTB_in (i := 268) (by decide +kernel) (by decide +kernel), by decide, by decide⟩
set_option maxRecDepth 100000 in
theorem gFok_4_31 : gFok 4 (31, 4, 5) := ⟨gTB_in (i := 269) (by decide +kernel) (by decide +kernel), by decide, by decide⟩
set_option maxRecDepth 100000 in
theorem gFok_4_34 : gFok 4 (34, 4, 6) := ⟨gTB_in (i := 270) (by decide +kernel) (by decide +kernel), by decide, by decide⟩
set_option maxRecDepth 100000 in
theorem gFokS4_b0 : ∀ q ∈ ([(49, 2, 1), (9, 4, 0), (15, 4, 1), (18, 4, 2), (22, 4, 3), (27, 4, 4), (31, 4, 5), (34, 4, 6)] : List (Nat × Nat × Nat)), gFok 4 q := List.forall_mem_cons.mpr ⟨gFok_4_49, List.forall_mem_cons.mpr ⟨gFok_4_9, List.forall_mem_cons.mpr ⟨gFok_4_15, List.forall_mem_cons.mpr ⟨gFok_4_18, List.forall_mem_cons.mpr ⟨gFok_4_22, List.forall_mem_cons.mpr ⟨gFok_4_27, List.forall_mem_cons.mpr ⟨gFok_4_31, List.forall_mem_cons.mpr ⟨gFok_4_34, fun _ h => absurd h List.not_mem_nil⟩⟩⟩⟩⟩⟩⟩⟩
set_option maxRecDepth 100000 in
theorem gFokA4 : ∀ q ∈ gFS 4, gFok 4 q := by
  show ∀ q ∈ ([(49, 2, 1), (9, 4, 0), (15, 4, 1), (18, 4, 2), (22, 4, 3), (27, 4, 4), (31, 4, 5), (34, 4, 6)] : List (Nat × Nat × Nat)), gFok 4 q
  exact gFokS4_b0
set_option maxRecDepth 100000 in
theorem gFok_5_78 : gFok 5 (78, 2, 0) := ⟨gTB_in (i := 121) (by decide +kernel) (by decide +kernel), by decide, by decide⟩
set_option maxRecDepth 100000 in
theorem gFok_5_47 : gFok 5 (47, 2, 1) := ⟨gTB_in (i := 128) (by decide +kernel) (by decide +kernel), by decide, by decide⟩
set_option maxRecDepth 100000 in
theorem gFok_5_9 : gFok 5 (9, 5, 0) := ⟨gTB_in (i := 210) (by decide +kernel) (by decide +kernel), by decide, by decide⟩
set_option maxRecDepth 100000 in
theorem gFok_5_15 : gFok 5 (15, 5, 1) := ⟨gTB_in (i := 212) (by decide +kernel) (by decide +kernel), by decide, by decide⟩
set_option maxRecDepth 100000 in
theorem gFok_5_18 : gFok 5 (18, 5, 2) := ⟨gTB_in (i := 214) (by decide +kernel) (by decide +kernel), by decide, by decide⟩
set_option maxRecDepth 100000 in
theorem gFok_5_21 : gFok 5 (21, 5, 3) := ⟨gTB_in (i := 216) (by decide +kernel) (by decide +kernel), by decide, by decide⟩
set_option maxRecDepth 100000 in
theorem gFok_5_24 : gFok 5 (24, 5, 4) := ⟨gTB_in (i := 218) (by decide +kernel) (by decide +kernel), by decide, by decide⟩
set_option maxRecDepth 100000 in
theorem gFok_5_27 : gFok 5 (27, 5, 5) := ⟨gTB_in (i := 220) (by decide +kernel) (by decide +kernel), by decide, by decide⟩
set_option maxRecDepth 100000 in
theorem gFok_5_31 : gFok 5 (31, 5, 6) := ⟨gTB_in (i := 221) (by decide +kernel) (by decide +kernel), by decide, by decide⟩
set_option maxRecDepth 100000 in
theorem gFok_5_34 : gFok 5 (34, 5, 7) := ⟨gTB_in (i := 222) (by decide +kernel) (by decide +kernel), by decide, by decide⟩
set_option maxRecDepth 100000 in
theorem gFok_5_37 : gFok 5 (37, 5, 8) := ⟨gTB_in (i := 223) (by decide +kernel) (by decide +kernel), by decide, by decide⟩
set_option maxRecDepth 100000 in
theorem gFokS5_b0 : ∀ q ∈ ([(78, 2, 0), (47, 2, 1), (9, 5, 0), (15, 5, 1), (18, 5, 2), (21, 5, 3), (24, 5, 4), (27, 5, 5), (31, 5, 6), (34, 5, 7), (37, 5, 8)] : List (Nat × Nat × Nat)), gFok 5 q := List.forall_mem_cons.mpr ⟨gFok_5_78, List.forall_mem_cons.mpr ⟨gFok_5_47, List.forall_mem_cons.mpr ⟨gFok_5_9, List.forall_mem_cons.mpr ⟨gFok_5_15, List.forall_mem_cons.mpr ⟨gFok_5_18, List.forall_mem_cons.mpr ⟨gFok_5_21, List.forall_mem_cons.mpr ⟨gFok_5_24, List.forall_mem_cons.mpr ⟨gFok_5_27, List.forall_mem_cons.mpr ⟨gFok_5_31, List.forall_mem_cons.mpr ⟨gFok_5_34, List.forall_mem_cons.mpr ⟨gFok_5_37, fun _ h => absurd h List.not_mem_nil⟩⟩⟩⟩⟩⟩⟩⟩⟩⟩⟩
set_option maxRecDepth 100000 in
theorem gFokA5 : ∀ q ∈ gFS 5, gFok 5 q := by
  show ∀ q ∈ ([(78, 2, 0), (47, 2, 1), (9, 5, 0), (15, 5, 1), (18, 5, 2), (21, 5, 3), (24, 5, 4), (27, 5, 5), (31, 5, 6), (34, 5, 7), (37, 5, 8)] : List (Nat × Nat × Nat)), gFok 5 q
  exact gFokS5_b0
set_option maxRecDepth 100000 in
theorem gFok_6_7 : gFok 6 (7, 6, 0) := ⟨gTB_in (i := 193) (by decide +kernel) (by decide +kernel), by decide, by decide⟩
set_option maxRecDepth 100000 in
theorem gFok_6_13 : gFok 6 (13, 6, 1) := ⟨gTB_in (i := 195) (by decide +kernel) (by decide +kernel), by decide, by decide⟩
set_option maxRecDepth 100000 in
theorem gFok_6_24 : gFok 6 (24, 6, 2) := ⟨gTB_in (i := 196) (by decide +kernel) (by decide +kernel), by decide, by decide⟩
set_option maxRecDepth 100000 in
theorem gFokS6_b0 : ∀ q ∈ ([(7, 6, 0), (13, 6, 1), (24, 6, 2)] : List (Nat × Nat × Nat)), gFok 6 q := List.forall_mem_cons.mpr ⟨gFok_6_7, List.forall_mem_cons.mpr ⟨gFok_6_13, List.forall_mem_cons.mpr ⟨gFok_6_24, fun _ h => absurd h List.not_mem_nil⟩⟩⟩
set_option maxRecDepth 100000 in
theorem gFokA6 : ∀ q ∈ gFS 6, gFok 6 q := by
  show ∀ q ∈ ([(7, 6, 0), (13, 6, 1), (24, 6, 2)] : List (Nat × Nat × Nat)), gFok 6 q
  exact gFokS6_b0
set_option maxRecDepth 100000 in
theorem gFok_7_42 : gFok 7 (42, 2, 1) := ⟨gTB_in (i := 131) (by decide +kernel) (by decide +kernel), by decide, by decide⟩
set_option maxRecDepth 100000 in
theorem gFok_7_49 : gFok 7 (49, 2, 2) := ⟨gTB_in (i := 136) (by decide +kernel) (by decide +kernel), by decide, by decide⟩
set_option maxRecDepth 100000 in
theorem gFok_7_9 : gFok 7 (9, 7, 0) := ⟨gTB_in (i := 167) (by decide +kernel) (by decide +kernel), by decide, by decide⟩
set_option maxRecDepth 100000 in
theorem gFok_7_15 : gFok 7 (15, 7, 1) := ⟨gTB_in (i := 169) (by decide +kernel) (by decide +kernel), by decide, by decide⟩
set_option maxRecDepth 100000 in
theorem gFok_7_19 : gFok 7 (19, 7, 2) := ⟨gTB_in (i := 170) (by decide +kernel) (by decide +kernel), by decide, by decide⟩
set_option maxRecDepth 100000 in
theorem gFok_7_22 : gFok 7 (22, 7, 3) := ⟨gTB_in (i := 171) (by decide +kernel) (by decide +kernel), by decide, by decide⟩
set_option maxRecDepth 100000 in
theorem gFokS7_b0 : ∀ q ∈ ([(42, 2, 1), (49, 2, 2), (9, 7, 0), (15, 7, 1), (19, 7, 2), (22, 7, 3)] : List (Nat × Nat × Nat)), gFok 7 q := List.forall_mem_cons.mpr ⟨gFok_7_42, List.forall_mem_cons.mpr ⟨gFok_7_49, List.forall_mem_cons.mpr ⟨gFok_7_9, List.forall_mem_cons.mpr ⟨gFok_7_15, List.forall_mem_cons.mpr ⟨gFok_7_19, List.forall_mem_cons.mpr ⟨gFok_7_22, fun _ h => absurd h List.not_mem_nil⟩⟩⟩⟩⟩⟩
set_option maxRecDepth 100000 in
theorem gFokA7 : ∀ q ∈ gFS 7, gFok 7 q := by
  show ∀ q ∈ ([(42, 2, 1), (49, 2, 2), (9, 7, 0), (15, 7, 1), (19, 7, 2), (22, 7, 3)] : List (Nat × Nat × Nat)), gFok 7 q
  exact gFokS7_b0
set_option maxRecDepth 100000 in
theorem gFok_8_293 : gFok 8 (293, 2, 0) := ⟨gTB_in (i := 123) (by decide +kernel) (by decide +kernel), by decide, by decide⟩
set_option maxRecDepth 100000 in
theorem gFok_8_113 : gFok 8 (113, 2, 1) := ⟨gTB_in (i := 129) (by decide +kernel) (by decide +kernel), by decide, by decide⟩
set_option maxRecDepth 100000 in
theorem gFok_8_116 : gFok 8 (116, 2, 2) := ⟨gTB_in (i := 134) (by decide +kernel) (by decide +kernel), by decide, by decide⟩
set_option maxRecDepth 100000 in
theorem gFok_8_154 : gFok 8 (154, 7, 0) := ⟨gTB_in (i := 168) (by decide +kernel) (by decide +kernel), by decide, by decide⟩
set_option maxRecDepth 100000 in
theorem gFok_8_197 : gFok 8 (197, 6, 0) := ⟨gTB_in (i := 194) (by decide +kernel) (by decide +kernel), by decide, by decide⟩
set_option maxRecDepth 100000 in
theorem gFok_8_246 : gFok 8 (246, 5, 0) := ⟨gTB_in (i := 211) (by decide +kernel) (by decide +kernel), by decide, by decide⟩
set_option maxRecDepth 100000 in
theorem gFok_8_257 : gFok 8 (257, 5, 1) := ⟨gTB_in (i := 213) (by decide +kernel) (by decide +kernel), by decide, by decide⟩
set_option maxRecDepth 100000 in
theorem gFok_8_260 : gFok 8 (260, 5, 2) := ⟨gTB_in (i := 215) (by decide +kernel) (by decide +kernel), by decide, by decide⟩
set_option maxRecDepth 100000 in
theorem gFok_8_267 : gFok 8 (267, 5, 3) := ⟨gTB_in (i := 217) (by decide +kernel) (by decide +kernel), by decide, by decide⟩
set_option maxRecDepth 100000 in
theorem gFok_8_270 : gFok 8 (270, 5, 4) := ⟨gTB_in (i := 219) (by decide +kernel) (by decide +kernel), by decide, by decide⟩
set_option maxRecDepth 100000 in
theorem gFok_8_221 : gFok 8 (221, 4, 0) := ⟨gTB_in (i := 262) (by decide +kernel) (by decide +kernel), by decide, by decide⟩
set_option maxRecDepth 100000 in
theorem gFok_8_224 : gFok 8 (224, 4, 1) := ⟨gTB_in (i := 264) (by decide +kernel) (by decide +kernel), by decide, by decide⟩
set_option maxRecDepth 100000 in
theorem gFok_8_227 : gFok 8 (227, 4, 2) := ⟨gTB_in (i := 266) (by decide +kernel) (by decide +kernel), by decide, by decide⟩
set_option maxRecDepth 100000 in
theorem gFok_8_238 : gFok 8 (238, 0, 0) := ⟨gTB_in (i := 293) (by decide +kernel) (by decide +kernel), by decide, by decide⟩
set_option maxRecDepth 100000 in
theorem gFok_8_239 : gFok 8 (239, 0, 1) := ⟨gTB_in (i := 295) (by decide +kernel) (by decide +kernel), by decide, by decide⟩
set_option maxRecDepth 100000 in
theorem gFok_8_9 : gFok 8 (9, 8, 0) := ⟨gTB_in (i := 447) (by decide +kernel) (by decide +kernel), by decide, by decide⟩
set_option maxRecDepth 100000 in
theorem gFok_8_13 : gFok 8 (13, 8, 1) := ⟨gTB_in (i := 448) (by decide +kernel) (by decide +kernel), by decide, by decide⟩
set_option maxRecDepth 100000 in
theorem gFok_8_20 : gFok 8 (20, 8, 2) := ⟨gTB_in (i := 449) (by decide +kernel) (by decide +kernel), by decide, by decide⟩
set_option maxRecDepth 100000 in
theorem gFok_8_27 : gFok 8 (27, 8, 3) := ⟨gTB_in (i := 450) (by decide +kernel) (by decide +kernel), by decide, by decide⟩
set_option maxRecDepth 100000 in
theorem gFok_8_31 : gFok 8 (31, 8, 4) := ⟨gTB_in (i := 451) (by decide +kernel) (by decide +kernel), by decide, by decide⟩
set_option maxRecDepth 100000 in
theorem gFok_8_37 : gFok 8 (37, 8, 5) := ⟨gTB_in (i := 452) (by decide +kernel) (by decide +kernel), by decide, by decide⟩
set_option maxRecDepth 100000 in
theorem gFok_8_41 : gFok 8 (41, 8, 6) := ⟨gTB_in (i := 453) (by decide +kernel) (by decide +kernel), by decide, by decide⟩
set_option maxRecDepth 100000 in
theorem gFok_8_49 : gFok 8 (49, 8, 7) := ⟨gTB_in (i := 454) (by decide +kernel) (by decide +kernel), by decide, by decide⟩
set_option maxRecDepth 100000 in
theorem gFok_8_53 : gFok 8 (53, 8, 8) := ⟨gTB_in (i := 455) (by decide +kernel) (by decide +kernel), by decide, by decide⟩
set_option maxRecDepth 100000 in
theorem gFok_8_59 : gFok 8 (59, 8, 9) := ⟨gTB_in (i := 456) (by decide +kernel) (by decide +kernel), by decide, by decide⟩
set_option maxRecDepth 100000 in
theorem gFok_8_66 : gFok 8 (66, 8, 10) := ⟨gTB_in (i := 457) (by decide +kernel) (by decide +kernel), by decide, by decide⟩
set_option maxRecDepth 100000 in
theorem gFok_8_73 : gFok 8 (73, 8, 11) := ⟨gTB_in (i := 458) (by decide +kernel) (by decide +kernel), by decide, by decide⟩
set_option maxRecDepth 100000 in
theorem gFok_8_80 : gFok 8 (80, 8, 12) := ⟨gTB_in (i := 459) (by decide +kernel) (by decide +kernel), by decide, by decide⟩
set_option maxRecDepth 100000 in
theorem gFokS8_b0 : ∀ q ∈ ([(293, 2, 0), (113, 2, 1), (116, 2, 2), (154, 7, 0), (197, 6, 0), (246, 5, 0), (257, 5, 1), (260, 5, 2), (267, 5, 3), (270, 5, 4), (221, 4, 0), (224, 4, 1), (227, 4, 2), (238, 0, 0), (239, 0, 1), (9, 8, 0)] : List (Nat × Nat × Nat)), gFok 8 q := List.forall_mem_cons.mpr ⟨gFok_8_293, List.forall_mem_cons.mpr ⟨gFok_8_113, List.forall_mem_cons.mpr ⟨gFok_8_116, List.forall_mem_cons.mpr ⟨gFok_8_154, List.forall_mem_cons.mpr ⟨gFok_8_197, List.forall_mem_cons.mpr ⟨gFok_8_246, List.forall_mem_cons.mpr ⟨gFok_8_257, List.forall_mem_cons.mpr ⟨gFok_8_260, List.forall_mem_cons.mpr ⟨gFok_8_267, List.forall_mem_cons.mpr ⟨gFok_8_270, List.forall_mem_cons.mpr ⟨gFok_8_221, List.forall_mem_cons.mpr ⟨gFok_8_224, List.forall_mem_cons.mpr ⟨gFok_8_227, List.forall_mem_cons.mpr ⟨gFok_8_238, List.forall_mem_cons.mpr ⟨gFok_8_239, List.forall_mem_cons.mpr ⟨gFok_8_9, fun _ h => absurd h List.not_mem_nil⟩⟩⟩⟩⟩⟩⟩⟩⟩⟩⟩⟩⟩⟩⟩⟩
set_option maxRecDepth 100000 in
theorem gFokS8_b1 : ∀ q ∈ ([(13, 8, 1), (20, 8, 2), (27, 8, 3), (31, 8, 4), (37, 8, 5), (41, 8, 6), (49, 8, 7), (53, 8, 8), (59, 8, 9), (66, 8, 10), (73, 8, 11), (80, 8, 12)] : List (Nat × Nat × Nat)), gFok 8 q := List.forall_mem_cons.mpr ⟨gFok_8_13, List.forall_mem_cons.mpr ⟨gFok_8_20, List.forall_mem_cons.mpr ⟨gFok_8_27, List.forall_mem_cons.mpr ⟨gFok_8_31, List.forall_mem_cons.mpr ⟨gFok_8_37, List.forall_mem_cons.mpr ⟨gFok_8_41, List.forall_mem_cons.mpr ⟨gFok_8_49, List.forall_mem_cons.mpr ⟨gFok_8_53, List.forall_mem_cons.mpr ⟨gFok_8_59, List.forall_mem_cons.mpr ⟨gFok_8_66, List.forall_mem_cons.mpr ⟨gFok_8_73, List.forall_mem_cons.mpr ⟨gFok_8_80, fun _ h => absurd h List.not_mem_nil⟩⟩⟩⟩⟩⟩⟩⟩⟩⟩⟩⟩
set_option maxRecDepth 100000 in
theorem gFokA8 : ∀ q ∈ gFS 8, gFok 8 q := by
  show ∀ q ∈ ([(293, 2, 0), (113, 2, 1), (116, 2, 2), (154, 7, 0), (197, 6, 0), (246, 5, 0), (257, 5, 1), (260, 5, 2), (267, 5, 3), (270, 5, 4), (221, 4, 0), (224, 4, 1), (227, 4, 2), (238, 0, 0), (239, 0, 1), (9, 8, 0)] ++ ([(13, 8, 1), (20, 8, 2), (27, 8, 3), (31, 8, 4), (37, 8, 5), (41, 8, 6), (49, 8, 7), (53, 8, 8), (59, 8, 9), (66, 8, 10), (73, 8, 11), (80, 8, 12)]) : List (Nat × Nat × Nat)), gFok 8 q
  exact List.forall_mem_append.mpr ⟨gFokS8_b0, gFokS8_b1⟩
set_option maxRecDepth 100000 in
theorem gFok_9_58 : gFok 9 (58, 9, 0) := ⟨gTB_in (i := 905) (by decide +kernel) (by decide +kernel), by decide, by decide⟩
set_option maxRecDepth 100000 in
theorem gFok_9_7 : gFok 9 (7, 9, 1) := ⟨gTB_in (i := 906) (by decide +kernel) (by decide +kernel), by decide, by decide⟩
set_option maxRecDepth 100000 in
theorem gFok_9_62 : gFok 9 (62, 9, 2) := ⟨gTB_in (i := 907) (by decide +kernel) (by decide +kernel), by decide, by decide⟩
set_option maxRecDepth 100000 in
theorem gFok_9_13 : gFok 9 (13, 9, 3) := ⟨gTB_in (i := 908) (by decide +kernel) (by decide +kernel), by decide, by decide⟩
set_option maxRecDepth 100000 in
theorem gFok_9_16 : gFok 9 (16, 9, 4) := ⟨gTB_in (i := 909) (by decide +kernel) (by decide +kernel), by decide, by decide⟩
set_option maxRecDepth 100000 in
theorem gFok_9_19 : gFok 9 (19, 9, 5) := ⟨gTB_in (i := 910) (by decide +kernel) (by decide +kernel), by decide, by decide⟩
set_option maxRecDepth 100000 in
theorem gFok_9_76 : gFok 9 (76, 9, 6) := ⟨gTB_in (i := 911) (by decide +kernel) (by decide +kernel), by decide, by decide⟩
set_option maxRecDepth 100000 in
theorem gFok_9_22 : gFok 9 (22, 9, 7) := ⟨gTB_in (i := 912) (by decide +kernel) (by decide +kernel), by decide, by decide⟩
set_option maxRecDepth 100000 in
theorem gFok_9_25 : gFok 9 (25, 9, 8) := ⟨gTB_in (i := 913) (by decide +kernel) (by decide +kernel), by decide, by decide⟩
set_option maxRecDepth 100000 in
theorem gFok_9_28 : gFok 9 (28, 9, 9) := ⟨gTB_in (i := 914) (by decide +kernel) (by decide +kernel), by decide, by decide⟩
set_option maxRecDepth 100000 in
theorem gFok_9_103 : gFok 9 (103, 9, 10) := ⟨gTB_in (i := 915) (by decide +kernel) (by decide +kernel), by decide, by decide⟩
set_option maxRecDepth 100000 in
theorem gFok_9_163 : gFok 9 (163, 9, 11) := ⟨gTB_in (i := 916) (by decide +kernel) (by decide +kernel), by decide, by decide⟩
set_option maxRecDepth 100000 in
theorem gFok_9_31 : gFok 9 (31, 9, 12) := ⟨gTB_in (i := 917) (by decide +kernel) (by decide +kernel), by decide, by decide⟩
set_option maxRecDepth 100000 in
theorem gFok_9_109 : gFok 9 (109, 9, 13) := ⟨gTB_in (i := 918) (by decide +kernel) (by decide +kernel), by decide, by decide⟩
set_option maxRecDepth 100000 in
theorem gFok_9_34 : gFok 9 (34, 9, 14) := ⟨gTB_in (i := 919) (by decide +kernel) (by decide +kernel), by decide, by decide⟩
set_option maxRecDepth 100000 in
theorem gFok_9_37 : gFok 9 (37, 9, 15) := ⟨gTB_in (i := 920) (by decide +kernel) (by decide +kernel), by decide, by decide⟩
set_option maxRecDepth 100000 in
theorem gFok_9_40 : gFok 9 (40, 9, 16) := ⟨gTB_in (i := 921) (by decide +kernel) (by decide +kernel), by decide, by decide⟩
set_option maxRecDepth 100000 in
theorem gFok_9_106 : gFok 9 (106, 9, 17) := ⟨gTB_in (i := 922) (by decide +kernel) (by decide +kernel), by decide, by decide⟩
set_option maxRecDepth 100000 in
theorem gFok_9_43 : gFok 9 (43, 9, 18) := ⟨gTB_in (i := 923) (by decide +kernel) (by decide +kernel), by decide, by decide⟩
set_option maxRecDepth 100000 in
theorem gFokS9_b0 : ∀ q ∈ ([(58, 9, 0), (7, 9, 1), (62, 9, 2), (13, 9, 3), (16, 9, 4), (19, 9, 5), (76, 9, 6), (22, 9, 7), (25, 9, 8), (28, 9, 9), (103, 9, 10), (163, 9, 11), (31, 9, 12), (109, 9, 13), (34, 9, 14), (37, 9, 15)] : List (Nat × Nat × Nat)), gFok 9 q := List.forall_mem_cons.mpr ⟨gFok_9_58, List.forall_mem_cons.mpr ⟨gFok_9_7, List.forall_mem_cons.mpr ⟨gFok_9_62, List.forall_mem_cons.mpr ⟨gFok_9_13, List.forall_mem_cons.mpr ⟨gFok_9_16, List.forall_mem_cons.mpr ⟨gFok_9_19, List.forall_mem_cons.mpr ⟨gFok_9_76, List.forall_mem_cons.mpr ⟨gFok_9_22, List.forall_mem_cons.mpr ⟨gFok_9_25, List.forall_mem_cons.mpr ⟨gFok_9_28, List.forall_mem_cons.mpr ⟨gFok_9_103, List.forall_mem_cons.mpr ⟨gFok_9_163, List.forall_mem_cons.mpr ⟨gFok_9_31, List.forall_mem_cons.mpr ⟨gFok_9_109, List.forall_mem_cons.mpr ⟨gFok_9_34, List.forall_mem_cons.mpr ⟨gFok_9_37, fun _ h => absurd h List.not_mem_nil⟩⟩⟩⟩⟩⟩⟩⟩⟩⟩⟩⟩⟩⟩⟩⟩
set_option maxRecDepth 100000 in
theorem gFokS9_b1 : ∀ q ∈ ([(40, 9, 16), (106, 9, 17), (43, 9, 18)] : List (Nat × Nat × Nat)), gFok 9 q := List.forall_mem_cons.mpr ⟨gFok_9_40, List.forall_mem_cons.mpr ⟨gFok_9_106, List.forall_mem_cons.mpr ⟨gFok_9_43, fun _ h => absurd h List.not_mem_nil⟩⟩⟩
set_option maxRecDepth 100000 in
theorem gFokA9 : ∀ q ∈ gFS 9, gFok 9 q := by
  show ∀ q ∈ ([(58, 9, 0), (7, 9, 1), (62, 9, 2), (13, 9, 3), (16, 9, 4), (19, 9, 5), (76, 9, 6), (22, 9, 7), (25, 9, 8), (28, 9, 9), (103, 9, 10), (163, 9, 11), (31, 9, 12), (109, 9, 13), (34, 9, 14), (37, 9, 15)] ++ ([(40, 9, 16), (106, 9, 17), (43, 9, 18)]) : List (Nat × Nat × Nat)), gFok 9 q
  exact List.forall_mem_append.mpr ⟨gFokS9_b0, gFokS9_b1⟩
set_option maxRecDepth 100000 in
theorem gFok_all : ∀ (o : Nat) (q : Nat × Nat × Nat), q ∈ gFS o → gFok o q := fun o q h => match o, h with
  | 0, h => gFokA0 q h
  | 1, h => gFokA1 q h
  | 2, h => gFokA2 q h
  | 3, h => gFokA3 q h
  | 4, h => gFokA4 q h
  | 5, h => gFokA5 q h
  | 6, h => gFokA6 q h
  | 7, h => gFokA7 q h
  | 8, h => gFokA8 q h
  | 9, h => gFokA9 q h
  | (n + 10), h => by cases h
def gNok (o : Nat) (q : Nat × Nat) : Prop := Cond.classLink (gR o) q.1 (gR q.2) ∈ gTB ∧ Cond.instantiable (gR q.2) (gN q.2) ∈ gTB ∧ Cond.initialized (gR q.2) ∈ gTB ∧ q.2 < 10
set_option maxRecDepth 100000 in
theorem gNokA0 : ∀ q ∈ gNS 0, gNok 0 q := by
  show ∀ q ∈ ([] : List (Nat × Nat)), gNok 0 q
  exact fun _ h => absurd h List.not_mem_nil
set_option maxRecDepth 100000 in
theorem gNokA1 : ∀ q ∈ gNS 1, gNok 1 q := by
  show ∀ q ∈ ([] : List (Nat × Nat)), gNok 1 q
  exact fun _ h => absurd h List.not_mem_nil
set_option maxRecDepth 100000 in
theorem gNokA2 : ∀ q ∈ gNS 2, gNok 2 q := by
  show ∀ q ∈ ([] : List (Nat × Nat)), gNok 2 q
  exact fun _ h => absurd h List.not_mem_nil
set_option maxRecDepth 100000 in
theorem gNokA3 : ∀ q ∈ gNS 3, gNok 3 q := by
  show ∀ q ∈ ([] : List (Nat × Nat)), gNok 3 q
  exact fun _ h => absurd h List.not_mem_nil
set_option maxRecDepth 100000 in
theorem gNokA4 : ∀ q ∈ gNS 4, gNok 4 q := by
  show ∀ q ∈ ([(25, 7)] : List (Nat × Nat)), gNok 4 q
  exact List.forall_mem_cons.mpr ⟨⟨gTB_in (i := 259) (by decide +kernel) (by decide +kernel), gTB_in (i := 162) (by decide +kernel) (by decide +kernel), gTB_in (i := 75) (by decide +kernel) (by decide +kernel), by decide⟩, fun _ h => absurd h List.not_mem_nil⟩
set_option maxRecDepth 100000 in
theorem gNokA5 : ∀ q ∈ gNS 5, gNok 5 q := by
  show ∀ q ∈ ([] : List (Nat × Nat)), gNok 5 q
  exact fun _ h => absurd h List.not_mem_nil
set_option maxRecDepth 100000 in
theorem gNokA6 : ∀ q ∈ gNS 6, gNok 6 q := by
  show ∀ q ∈ ([(22, 7)] : List (Nat × Nat)), gNok 6 q
  exact List.forall_mem_cons.mpr ⟨⟨gTB_in (i := 190) (by decide +kernel) (by decide +kernel), gTB_in (i := 162) (by decide +kernel) (by decide +kernel), gTB_in (i := 75) (by decide +kernel) (by decide +kernel), by decide⟩, fun _ h => absurd h List.not_mem_nil⟩
set_option maxRecDepth 100000 in
theorem gNokA7 : ∀ q ∈ gNS 7, gNok 7 q := by
  show ∀ q ∈ ([] : List (Nat × Nat)), gNok 7 q
  exact fun _ h => absurd h List.not_mem_nil
set_option maxRecDepth 100000 in
theorem gNokA8 : ∀ q ∈ gNS 8, gNok 8 q := by
  show ∀ q ∈ ([(17, 3), (24, 2), (34, 7), (44, 6), (56, 5), (63, 1), (70, 4), (77, 0)] : List (Nat × Nat)), gNok 8 q
  exact List.forall_mem_cons.mpr ⟨⟨gTB_in (i := 96) (by decide +kernel) (by decide +kernel), gTB_in (i := 97) (by decide +kernel) (by decide +kernel), gTB_in (i := 73) (by decide +kernel) (by decide +kernel), by decide⟩, List.forall_mem_cons.mpr ⟨⟨gTB_in (i := 113) (by decide +kernel) (by decide +kernel), gTB_in (i := 114) (by decide +kernel) (by decide +kernel), gTB_in (i := 74) (by decide +kernel) (by decide +kernel), by decide⟩, List.forall_mem_cons.mpr ⟨⟨gTB_in (i := 161) (by decide +kernel) (by decide +kernel), gTB_in (i := 162) (by decide +kernel) (by decide +kernel), gTB_in (i := 75) (by decide +kernel) (by decide +kernel), by decide⟩, List.forall_mem_cons.mpr ⟨⟨gTB_in (i := 181) (by decide +kernel) (by decide +kernel), gTB_in (i := 182) (by decide +kernel) (by decide +kernel), gTB_in (i := 76) (by decide +kernel) (by decide +kernel), by decide⟩, List.forall_mem_cons.mpr ⟨⟨gTB_in (i := 204) (by decide +kernel) (by decide +kernel), gTB_in (i := 205) (by decide +kernel) (by decide +kernel), gTB_in (i := 78) (by decide +kernel) (by decide +kernel), by decide⟩, List.forall_mem_cons.mpr ⟨⟨gTB_in (i := 243) (by decide +kernel) (by decide +kernel), gTB_in (i := 244) (by decide +kernel) (by decide +kernel), gTB_in (i := 79) (by decide +kernel) (by decide +kernel), by decide⟩, List.forall_mem_cons.mpr ⟨⟨gTB_in (i := 253) (by decide +kernel) (by decide +kernel), gTB_in (i := 254) (by decide +kernel) (by decide +kernel), gTB_in (i := 80) (by decide +kernel) (by decide +kernel), by decide⟩, List.forall_mem_cons.mpr ⟨⟨gTB_in (i := 286) (by decide +kernel) (by decide +kernel), gTB_in (i := 287) (by decide +kernel) (by decide +kernel), gTB_in (i := 81) (by decide +kernel) (by decide +kernel), by decide⟩, fun _ h => absurd h List.not_mem_nil⟩⟩⟩⟩⟩⟩⟩⟩
set_option maxRecDepth 100000 in
theorem gNokA9 : ∀ q ∈ gNS 9, gNok 9 q := by
  show ∀ q ∈ ([] : List (Nat × Nat)), gNok 9 q
  exact fun _ h => absurd h List.not_mem_nil
set_option maxRecDepth 100000 in
theorem gNokA11 : ∀ q ∈ gNS 11, gNok 11 q := by
  show ∀ q ∈ ([(7, 8), (10, 9)] : List (Nat × Nat)), gNok 11 q
  exact List.forall_mem_cons.mpr ⟨⟨gTB_in (i := 88) (by decide +kernel) (by decide +kernel), gTB_in (i := 89) (by decide +kernel) (by decide +kernel), gTB_in (i := 72) (by decide +kernel) (by decide +kernel), by decide⟩, List.forall_mem_cons.mpr ⟨⟨gTB_in (i := 891) (by decide +kernel) (by decide +kernel), gTB_in (i := 892) (by decide +kernel) (by decide +kernel), gTB_in (i := 86) (by decide +kernel) (by decide +kernel), by decide⟩, fun _ h => absurd h List.not_mem_nil⟩⟩
set_option maxRecDepth 100000 in
theorem gNok_all : ∀ (o : Nat) (q : Nat × Nat), q ∈ gNS o → gNok o q := fun o q h => match o, h with
  | 0, h => gNokA0 q h
  | 1, h => gNokA1 q h
  | 2, h => gNokA2 q h
  | 3, h => gNokA3 q h
  | 4, h => gNokA4 q h
  | 5, h => gNokA5 q h
  | 6, h => gNokA6 q h
  | 7, h => gNokA7 q h
  | 8, h => gNokA8 q h
  | 9, h => gNokA9 q h
  | 10, h => (by cases h)
  | 11, h => gNokA11 q h
  | (n + 12), h => by cases h
def gKok (c : Nat) : Prop := (∀ w ∈ u_ws (gR c) (gT c) (gN c), w ∈ gTB) ∧ (∀ k, k < gN c → parseFieldDescriptor (gT c k).2.2.1 = some (gTy c k)) ∧ (∀ a, a < gN c → ∀ b, b < gN c → a ≠ b → (gT c a).2.1 ≠ (gT c b).2.1) ∧ (∀ k, k < gN c → (gT c k).1 = gR c) ∧ gCl[c]? = some (gR c, gT c, gN c) ∧ Cond.instantiable (gR c) (gN c) ∈ gTB
set_option maxRecDepth 100000 in
theorem gLay0 : ∀ w ∈ ([.lays "SeamMere$DealSearch" "SeamMere$DealSearch" "most" "I", .laysFinal "SeamMere$DealSearch" "SeamMere$DealSearch" "best" "[I", .laysFinal "SeamMere$DealSearch" "SeamMere$DealSearch" "goals" "[I", .laysFinal "SeamMere$DealSearch" "SeamMere$DealSearch" "crews" "[I", .laysFinal "SeamMere$DealSearch" "SeamMere$DealSearch" "closers" "[I"] : List Cond), w ∈ gTB := List.forall_mem_cons.mpr ⟨gTB_in (i := 299) (by decide +kernel) (by decide +kernel), List.forall_mem_cons.mpr ⟨gTB_in (i := 301) (by decide +kernel) (by decide +kernel), List.forall_mem_cons.mpr ⟨gTB_in (i := 303) (by decide +kernel) (by decide +kernel), List.forall_mem_cons.mpr ⟨gTB_in (i := 305) (by decide +kernel) (by decide +kernel), List.forall_mem_cons.mpr ⟨gTB_in (i := 307) (by decide +kernel) (by decide +kernel), fun _ h => absurd h List.not_mem_nil⟩⟩⟩⟩⟩
set_option maxRecDepth 100000 in
theorem gKok_0 : gKok 0 := ⟨fun w h => gLay0 w h, tyX0_ok, nmX0, by decide +kernel, rfl, gTB_in (i := 287) (by decide +kernel) (by decide +kernel)⟩
set_option maxRecDepth 100000 in
theorem gLay1 : ∀ w ∈ ([.laysFinal "SeamMere$Heaps" "SeamMere$Heaps" "heapOf" "[I"] : List Cond), w ∈ gTB := List.forall_mem_cons.mpr ⟨gTB_in (i := 250) (by decide +kernel) (by decide +kernel), fun _ h => absurd h List.not_mem_nil⟩
set_option maxRecDepth 100000 in
theorem gKok_1 : gKok 1 := ⟨fun w h => gLay1 w h, tyX1_ok, nmX1, by decide +kernel, rfl, gTB_in (i := 244) (by decide +kernel) (by decide +kernel)⟩
set_option maxRecDepth 100000 in
theorem gLay2 : ∀ w ∈ ([.lays "SeamMere$Mere" "SeamMere$Mere" "pieces" "I", .lays "SeamMere$Mere" "SeamMere$Mere" "gaps" "I", .lays "SeamMere$Mere" "SeamMere$Mere" "stitchers" "I", .lays "SeamMere$Mere" "SeamMere$Mere" "light" "I", .lays "SeamMere$Mere" "SeamMere$Mere" "rains" "I", .laysFinal "SeamMere$Mere" "SeamMere$Mere" "gapRow" "[I", .laysFinal "SeamMere$Mere" "SeamMere$Mere" "stitcherRow" "[I", .laysFinal "SeamMere$Mere" "SeamMere$Mere" "rainRow" "[I"] : List Cond), w ∈ gTB := List.forall_mem_cons.mpr ⟨gTB_in (i := 144) (by decide +kernel) (by decide +kernel), List.forall_mem_cons.mpr ⟨gTB_in (i := 146) (by decide +kernel) (by decide +kernel), List.forall_mem_cons.mpr ⟨gTB_in (i := 148) (by decide +kernel) (by decide +kernel), List.forall_mem_cons.mpr ⟨gTB_in (i := 150) (by decide +kernel) (by decide +kernel), List.forall_mem_cons.mpr ⟨gTB_in (i := 152) (by decide +kernel) (by decide +kernel), List.forall_mem_cons.mpr ⟨gTB_in (i := 154) (by decide +kernel) (by decide +kernel), List.forall_mem_cons.mpr ⟨gTB_in (i := 156) (by decide +kernel) (by decide +kernel), List.forall_mem_cons.mpr ⟨gTB_in (i := 158) (by decide +kernel) (by decide +kernel), fun _ h => absurd h List.not_mem_nil⟩⟩⟩⟩⟩⟩⟩⟩
set_option maxRecDepth 100000 in
theorem gKok_2 : gKok 2 := ⟨fun w h => gLay2 w h, tyX2_ok, nmX2, by decide +kernel, rfl, gTB_in (i := 114) (by decide +kernel) (by decide +kernel)⟩
set_option maxRecDepth 100000 in
theorem gLay3 : ∀ w ∈ ([.laysFinal "SeamMere$Reader" "SeamMere$Reader" "numbers" "[I", .lays "SeamMere$Reader" "SeamMere$Reader" "amount" "I", .lays "SeamMere$Reader" "SeamMere$Reader" "onlyPieces" "Z"] : List Cond), w ∈ gTB := List.forall_mem_cons.mpr ⟨gTB_in (i := 105) (by decide +kernel) (by decide +kernel), List.forall_mem_cons.mpr ⟨gTB_in (i := 107) (by decide +kernel) (by decide +kernel), List.forall_mem_cons.mpr ⟨gTB_in (i := 109) (by decide +kernel) (by decide +kernel), fun _ h => absurd h List.not_mem_nil⟩⟩⟩
set_option maxRecDepth 100000 in
theorem gKok_3 : gKok 3 := ⟨fun w h => gLay3 w h, tyX3_ok, nmX3, by decide +kernel, rfl, gTB_in (i := 97) (by decide +kernel) (by decide +kernel)⟩
set_option maxRecDepth 100000 in
theorem gLay4 : ∀ w ∈ ([.lays "SeamMere$RowSearch" "SeamMere$RowSearch" "most" "I", .lays "SeamMere$RowSearch" "SeamMere$RowSearch" "fewestHours" "I", .laysFinal "SeamMere$RowSearch" "SeamMere$RowSearch" "best" "[I", .laysFinal "SeamMere$RowSearch" "SeamMere$RowSearch" "row" "[I", .laysFinal "SeamMere$RowSearch" "SeamMere$RowSearch" "behind" "[LSeamMere$Standing;", .lays "SeamMere$RowSearch" "SeamMere$RowSearch" "sewer" "I", .lays "SeamMere$RowSearch" "SeamMere$RowSearch" "limit" "I"] : List Cond), w ∈ gTB := List.forall_mem_cons.mpr ⟨gTB_in (i := 271) (by decide +kernel) (by decide +kernel), List.forall_mem_cons.mpr ⟨gTB_in (i := 273) (by decide +kernel) (by decide +kernel), List.forall_mem_cons.mpr ⟨gTB_in (i := 275) (by decide +kernel) (by decide +kernel), List.forall_mem_cons.mpr ⟨gTB_in (i := 277) (by decide +kernel) (by decide +kernel), List.forall_mem_cons.mpr ⟨gTB_in (i := 279) (by decide +kernel) (by decide +kernel), List.forall_mem_cons.mpr ⟨gTB_in (i := 281) (by decide +kernel) (by decide +kernel), List.forall_mem_cons.mpr ⟨gTB_in (i := 283) (by decide +kernel) (by decide +kernel), fun _ h => absurd h List.not_mem_nil⟩⟩⟩⟩⟩⟩⟩
set_option maxRecDepth 100000 in
theorem gKok_4 : gKok 4 := ⟨fun w h => gLay4 w h, tyX4_ok, nmX4, by decide +kernel, rfl, gTB_in (i := 254) (by decide +kernel) (by decide +kernel)⟩
set_option maxRecDepth 100000 in
theorem gLay5 : ∀ w ∈ ([.lays "SeamMere$Seen" "SeamMere$Seen" "held" "I", .lays "SeamMere$Seen" "SeamMere$Seen" "sets" "I", .lays "SeamMere$Seen" "SeamMere$Seen" "lowestSet" "I", .lays "SeamMere$Seen" "SeamMere$Seen" "bestPair" "I", .lays "SeamMere$Seen" "SeamMere$Seen" "bestPart" "I", .laysFinal "SeamMere$Seen" "SeamMere$Seen" "ones" "[I", .laysFinal "SeamMere$Seen" "SeamMere$Seen" "others" "[I", .laysFinal "SeamMere$Seen" "SeamMere$Seen" "hung" "[I", .laysFinal "SeamMere$Seen" "SeamMere$Seen" "setsByPair" "[I"] : List Cond), w ∈ gTB := List.forall_mem_cons.mpr ⟨gTB_in (i := 224) (by decide +kernel) (by decide +kernel), List.forall_mem_cons.mpr ⟨gTB_in (i := 226) (by decide +kernel) (by decide +kernel), List.forall_mem_cons.mpr ⟨gTB_in (i := 228) (by decide +kernel) (by decide +kernel), List.forall_mem_cons.mpr ⟨gTB_in (i := 230) (by decide +kernel) (by decide +kernel), List.forall_mem_cons.mpr ⟨gTB_in (i := 232) (by decide +kernel) (by decide +kernel), List.forall_mem_cons.mpr ⟨gTB_in (i := 234) (by decide +kernel) (by decide +kernel), List.forall_mem_cons.mpr ⟨gTB_in (i := 236) (by decide +kernel) (by decide +kernel), List.forall_mem_cons.mpr ⟨gTB_in (i := 238) (by decide +kernel) (by decide +kernel), List.forall_mem_cons.mpr ⟨gTB_in (i := 240) (by decide +kernel) (by decide +kernel), fun _ h => absurd h List.not_mem_nil⟩⟩⟩⟩⟩⟩⟩⟩⟩
set_option maxRecDepth 100000 in
theorem gKok_5 : gKok 5 := ⟨fun w h => gLay5 w h, tyX5_ok, nmX5, by decide +kernel, rfl, gTB_in (i := 205) (by decide +kernel) (by decide +kernel)⟩
set_option maxRecDepth 100000 in
theorem gLay6 : ∀ w ∈ ([.lays "SeamMere$Shelf" "SeamMere$Shelf" "held" "I", .lays "SeamMere$Shelf" "SeamMere$Shelf" "oldest" "I", .laysFinal "SeamMere$Shelf" "SeamMere$Shelf" "standings" "[LSeamMere$Standing;"] : List Cond), w ∈ gTB := List.forall_mem_cons.mpr ⟨gTB_in (i := 197) (by decide +kernel) (by decide +kernel), List.forall_mem_cons.mpr ⟨gTB_in (i := 199) (by decide +kernel) (by decide +kernel), List.forall_mem_cons.mpr ⟨gTB_in (i := 201) (by decide +kernel) (by decide +kernel), fun _ h => absurd h List.not_mem_nil⟩⟩⟩
set_option maxRecDepth 100000 in
theorem gKok_6 : gKok 6 := ⟨fun w h => gLay6 w h, tyX6_ok, nmX6, by decide +kernel, rfl, gTB_in (i := 182) (by decide +kernel) (by decide +kernel)⟩
set_option maxRecDepth 100000 in
theorem gLay7 : ∀ w ∈ ([.lays "SeamMere$Standing" "SeamMere$Standing" "hour" "I", .laysFinal "SeamMere$Standing" "SeamMere$Standing" "stitches" "[I", .laysFinal "SeamMere$Standing" "SeamMere$Standing" "goals" "[I", .laysFinal "SeamMere$Standing" "SeamMere$Standing" "places" "[I"] : List Cond), w ∈ gTB := List.forall_mem_cons.mpr ⟨gTB_in (i := 172) (by decide +kernel) (by decide +kernel), List.forall_mem_cons.mpr ⟨gTB_in (i := 174) (by decide +kernel) (by decide +kernel), List.forall_mem_cons.mpr ⟨gTB_in (i := 176) (by decide +kernel) (by decide +kernel), List.forall_mem_cons.mpr ⟨gTB_in (i := 178) (by decide +kernel) (by decide +kernel), fun _ h => absurd h List.not_mem_nil⟩⟩⟩⟩
set_option maxRecDepth 100000 in
theorem gKok_7 : gKok 7 := ⟨fun w h => gLay7 w h, tyX7_ok, nmX7, by decide +kernel, rfl, gTB_in (i := 162) (by decide +kernel) (by decide +kernel)⟩
set_option maxRecDepth 100000 in
theorem gLay8 : ∀ w ∈ ([.laysFinal "SeamMere" "SeamMere" "text" "[I", .lays "SeamMere" "SeamMere" "letters" "I", .laysFinal "SeamMere" "SeamMere" "reader" "LSeamMere$Reader;", .lays "SeamMere" "SeamMere" "laid" "LSeamMere$Mere;", .lays "SeamMere" "SeamMere" "spare" "LSeamMere$Mere;", .laysFinal "SeamMere" "SeamMere" "now" "LSeamMere$Standing;", .laysFinal "SeamMere" "SeamMere" "trial" "LSeamMere$Standing;", .laysFinal "SeamMere" "SeamMere" "past" "LSeamMere$Shelf;", .laysFinal "SeamMere" "SeamMere" "kept" "LSeamMere$Shelf;", .laysFinal "SeamMere" "SeamMere" "seen" "LSeamMere$Seen;", .laysFinal "SeamMere" "SeamMere" "heaps" "LSeamMere$Heaps;", .laysFinal "SeamMere" "SeamMere" "rowSearch" "LSeamMere$RowSearch;", .laysFinal "SeamMere" "SeamMere" "dealSearch" "LSeamMere$DealSearch;"] : List Cond), w ∈ gTB := List.forall_mem_cons.mpr ⟨gTB_in (i := 460) (by decide +kernel) (by decide +kernel), List.forall_mem_cons.mpr ⟨gTB_in (i := 462) (by decide +kernel) (by decide +kernel), List.forall_mem_cons.mpr ⟨gTB_in (i := 464) (by decide +kernel) (by decide +kernel), List.forall_mem_cons.mpr ⟨gTB_in (i := 466) (by decide +kernel) (by decide +kernel), List.forall_mem_cons.mpr ⟨gTB_in (i := 468) (by decide +kernel) (by decide +kernel), List.forall_mem_cons.mpr ⟨gTB_in (i := 470) (by decide +kernel) (by decide +kernel), List.forall_mem_cons.mpr ⟨gTB_in (i := 472) (by decide +kernel) (by decide +kernel), List.forall_mem_cons.mpr ⟨gTB_in (i := 474) (by decide +kernel) (by decide +kernel), List.forall_mem_cons.mpr ⟨gTB_in (i := 476) (by decide +kernel) (by decide +kernel), List.forall_mem_cons.mpr ⟨gTB_in (i := 478) (by decide +kernel) (by decide +kernel), List.forall_mem_cons.mpr ⟨gTB_in (i := 480) (by decide +kernel) (by decide +kernel), List.forall_mem_cons.mpr ⟨gTB_in (i := 482) (by decide +kernel) (by decide +kernel), List.forall_mem_cons.mpr ⟨gTB_in (i := 484) (by decide +kernel) (by decide +kernel), fun _ h => absurd h List.not_mem_nil⟩⟩⟩⟩⟩⟩⟩⟩⟩⟩⟩⟩⟩
set_option maxRecDepth 100000 in
theorem gKok_8 : gKok 8 := ⟨fun w h => gLay8 w h, tyX8_ok, nmX8, by decide +kernel, rfl, gTB_in (i := 89) (by decide +kernel) (by decide +kernel)⟩
set_option maxRecDepth 100000 in
theorem gLay9 : ∀ w ∈ ([.lays "SeamMereModel" "SeamMereModel" "letterMany" "I", .laysFinal "SeamMereModel" "SeamMereModel" "text" "[I", .lays "SeamMereModel" "SeamMereModel" "readAt" "I", .laysFinal "SeamMereModel" "SeamMereModel" "told" "[I", .laysFinal "SeamMereModel" "SeamMereModel" "readLaw" "[I", .laysFinal "SeamMereModel" "SeamMereModel" "readNow" "[I", .lays "SeamMereModel" "SeamMereModel" "isBegun" "Z", .laysFinal "SeamMereModel" "SeamMereModel" "law" "[I", .laysFinal "SeamMereModel" "SeamMereModel" "now" "[I", .laysFinal "SeamMereModel" "SeamMereModel" "tried" "[I", .lays "SeamMereModel" "SeamMereModel" "undoMany" "I", .lays "SeamMereModel" "SeamMereModel" "undoAt" "I", .laysFinal "SeamMereModel" "SeamMereModel" "undos" "[I", .lays "SeamMereModel" "SeamMereModel" "seenMany" "I", .laysFinal "SeamMereModel" "SeamMereModel" "seenA" "[I", .laysFinal "SeamMereModel" "SeamMereModel" "seenB" "[I", .laysFinal "SeamMereModel" "SeamMereModel" "seenIs" "[I", .lays "SeamMereModel" "SeamMereModel" "keptMany" "I", .laysFinal "SeamMereModel" "SeamMereModel" "kept" "[I"] : List Cond), w ∈ gTB := List.forall_mem_cons.mpr ⟨gTB_in (i := 924) (by decide +kernel) (by decide +kernel), List.forall_mem_cons.mpr ⟨gTB_in (i := 926) (by decide +kernel) (by decide +kernel), List.forall_mem_cons.mpr ⟨gTB_in (i := 928) (by decide +kernel) (by decide +kernel), List.forall_mem_cons.mpr ⟨gTB_in (i := 930) (by decide +kernel) (by decide +kernel), List.forall_mem_cons.mpr ⟨gTB_in (i := 932) (by decide +kernel) (by decide +kernel), List.forall_mem_cons.mpr ⟨gTB_in (i := 934) (by decide +kernel) (by decide +kernel), List.forall_mem_cons.mpr ⟨gTB_in (i := 936) (by decide +kernel) (by decide +kernel), List.forall_mem_cons.mpr ⟨gTB_in (i := 938) (by decide +kernel) (by decide +kernel), List.forall_mem_cons.mpr ⟨gTB_in (i := 940) (by decide +kernel) (by decide +kernel), List.forall_mem_cons.mpr ⟨gTB_in (i := 942) (by decide +kernel) (by decide +kernel), List.forall_mem_cons.mpr ⟨gTB_in (i := 944) (by decide +kernel) (by decide +kernel), List.forall_mem_cons.mpr ⟨gTB_in (i := 946) (by decide +kernel) (by decide +kernel), List.forall_mem_cons.mpr ⟨gTB_in (i := 948) (by decide +kernel) (by decide +kernel), List.forall_mem_cons.mpr ⟨gTB_in (i := 950) (by decide +kernel) (by decide +kernel), List.forall_mem_cons.mpr ⟨gTB_in (i := 952) (by decide +kernel) (by decide +kernel), List.forall_mem_cons.mpr ⟨gTB_in (i := 954) (by decide +kernel) (by decide +kernel), List.forall_mem_cons.mpr ⟨gTB_in (i := 956) (by decide +kernel) (by decide +kernel), List.forall_mem_cons.mpr ⟨gTB_in (i := 958) (by decide +kernel) (by decide +kernel), List.forall_mem_cons.mpr ⟨gTB_in (i := 960) (by decide +kernel) (by decide +kernel), fun _ h => absurd h List.not_mem_nil⟩⟩⟩⟩⟩⟩⟩⟩⟩⟩⟩⟩⟩⟩⟩⟩⟩⟩⟩
set_option maxRecDepth 100000 in
theorem gKok_9 : gKok 9 := ⟨fun w h => gLay9 w h, tyX9_ok, nmX9, by decide +kernel, rfl, gTB_in (i := 892) (by decide +kernel) (by decide +kernel)⟩
set_option maxRecDepth 100000 in
theorem gKok_all : ∀ c : Nat, c < 10 → gKok c := fun c h => match c, h with
  | 0, _ => gKok_0
  | 1, _ => gKok_1
  | 2, _ => gKok_2
  | 3, _ => gKok_3
  | 4, _ => gKok_4
  | 5, _ => gKok_5
  | 6, _ => gKok_6
  | 7, _ => gKok_7
  | 8, _ => gKok_8
  | 9, _ => gKok_9
  | (n + 10), h => absurd h (by omega)
def gKSok (q : (Nat × Nat) × Int32) : Prop := Cond.constant (gR q.1.1) q.1.2 q.2 ∈ gTB
set_option maxRecDepth 100000 in
theorem gKS_all : ∀ q ∈ gKS, gKSok q := List.forall_mem_cons.mpr ⟨gTB_in (i := 662) (by decide +kernel) (by decide +kernel), List.forall_mem_cons.mpr ⟨gTB_in (i := 663) (by decide +kernel) (by decide +kernel), List.forall_mem_cons.mpr ⟨gTB_in (i := 664) (by decide +kernel) (by decide +kernel), List.forall_mem_cons.mpr ⟨gTB_in (i := 1144) (by decide +kernel) (by decide +kernel), fun _ h => absurd h List.not_mem_nil⟩⟩⟩⟩
def gKLok (q : (Nat × Nat) × Int64) : Prop := Cond.constantLong (gR q.1.1) q.1.2 q.2 ∈ gTB
set_option maxRecDepth 100000 in
theorem gKL_all : ∀ q ∈ gKL, gKLok q := List.forall_mem_cons.mpr ⟨gTB_in (i := 859) (by decide +kernel) (by decide +kernel), List.forall_mem_cons.mpr ⟨gTB_in (i := 860) (by decide +kernel) (by decide +kernel), List.forall_mem_cons.mpr ⟨gTB_in (i := 861) (by decide +kernel) (by decide +kernel), List.forall_mem_cons.mpr ⟨gTB_in (i := 1213) (by decide +kernel) (by decide +kernel), List.forall_mem_cons.mpr ⟨gTB_in (i := 1214) (by decide +kernel) (by decide +kernel), List.forall_mem_cons.mpr ⟨gTB_in (i := 1215) (by decide +kernel) (by decide +kernel), fun _ h => absurd h List.not_mem_nil⟩⟩⟩⟩⟩⟩
set_option maxRecDepth 100000 in
theorem gW_arrI : Cond.arrayClass .int ∈ gTB := gTB_in (i := 112) (by decide +kernel) (by decide +kernel)
set_option maxRecDepth 100000 in
theorem gW_over : Cond.arrayOver (.object RX7) ∈ lw_tbl := List.mem_of_getElem? (i := 191) (by decide +kernel)
set_option maxRecDepth 100000 in
theorem gW_objI : Cond.instanceMethod Lib.objectInit ∈ gTB := gTB_in (i := 94) (by decide +kernel) (by decide +kernel)
set_option maxRecDepth 100000 in
theorem gW_objC : Cond.code Lib.objectInit ⟨#[0xb1]⟩ 1 none ∈ gTB := gTB_in (i := 95) (by decide +kernel) (by decide +kernel)
set_option maxRecDepth 100000 in
theorem gW_minS : Cond.static Lib.Math.min.name ∈ gTB := gTB_in (i := 322) (by decide +kernel) (by decide +kernel)
set_option maxRecDepth 100000 in
theorem gW_minC : Cond.code Lib.Math.min.name Lib.Math.min.code 2 (some .int) ∈ gTB := gTB_in (i := 323) (by decide +kernel) (by decide +kernel)
set_option maxRecDepth 100000 in
theorem gW_maxS : Cond.static Lib.Math.max.name ∈ gTB := gTB_in (i := 188) (by decide +kernel) (by decide +kernel)
set_option maxRecDepth 100000 in
theorem gW_maxC : Cond.code Lib.Math.max.name Lib.Math.max.code 2 (some .int) ∈ gTB := gTB_in (i := 189) (by decide +kernel) (by decide +kernel)
set_option maxRecDepth 100000 in
theorem gW_MathI : Cond.initialized "java/lang/Math" ∈ gTB := gTB_in (i := 77) (by decide +kernel) (by decide +kernel)
