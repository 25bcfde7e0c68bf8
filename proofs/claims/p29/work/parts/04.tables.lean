noncomputable section
def t_X0_init : List ri_row := [(0, 0, 0, 0, [], 0, .aload_n 0, 1, 0),
  (59, 0, 1, 0, [], 1, .invokespecial 3, 3, 174),
  (0, 0, 0, 0, [], 4, .aload_n 0, 1, 0),
  (2, 0, 0, 6, [], 5, .bipush 6, 2, 0),
  (52, 2, 0, 0, [], 7, .anewarray 9, 3, 175),
  (14, 0, 0, 2, [], 10, .putfield 11, 3, 178),
  (0, 0, 0, 0, [], 13, .aload_n 0, 1, 0),
  (2, 0, 0, 36, [], 14, .bipush 36, 2, 0),
  (50, 0, 0, 0, [], 16, .newarray .int, 2, 0),
  (14, 0, 2, 2, [], 18, .putfield 17, 3, 183),
  (0, 0, 0, 0, [], 21, .aload_n 0, 1, 0),
  (0, 1, 0, 0, [], 22, .aload_n 1, 1, 0),
  (14, 0, 3, 2, [], 23, .putfield 21, 3, 184),
  (2, 0, 0, 0, [], 26, .iconst 0, 1, 0),
  (9, 2, 0, 0, [], 27, .istore_n 2, 1, 0),
  (1, 2, 0, 0, [], 28, .iload_n 2, 1, 0),
  (2, 0, 0, 6, [], 29, .bipush 6, 2, 0),
  (13, 28, 0, 0, [], 31, .if_icmp .ge 25, 3, 0),
  (0, 0, 0, 0, [], 34, .aload_n 0, 1, 0),
  (3, 0, 0, 0, [], 35, .getfield 11, 3, 178),
  (1, 2, 0, 0, [], 38, .iload_n 2, 1, 0),
  (49, 4, 0, 0, [], 39, .new 9, 3, 175),
  (23, 0, 0, 0, [], 42, .dup, 1, 0),
  (2, 0, 0, 400, [], 43, .sipush 400, 3, 0),
  (59, 26, 0, 1, [], 46, .invokespecial 25, 3, 177),
  (53, 0, 0, 0, [], 49, .aastore, 1, 0),
  (16, 2, 0, 1, [], 50, .iinc 2 1, 3, 0),
  (6, 15, 0, 0, [], 53, .goto (-25), 3, 0),
  (21, 0, 0, 0, [], 56, .return_, 1, 0)]
def m_X0_init : am_M := (yX0_init, cX0_init, 3, none)
def m_X0_begin : am_M := (yX0_begin, cX0_begin, 3, none)
def m_X0_doPlan : am_M := (yX0_doPlan, cX0_doPlan, 3, some .boolean)
def m_X0_lettersTogether : am_M := (yX0_lettersTogether, cX0_lettersTogether, 3, some .int)
def m_X0_fullTurns : am_M := (yX0_fullTurns, cX0_fullTurns, 3, some .int)
def m_X0_areTurns : am_M := (yX0_areTurns, cX0_areTurns, 4, some .boolean)
def m_X0_pushRim : am_M := (yX0_pushRim, cX0_pushRim, 5, none)
def m_X0_rimLetter : am_M := (yX0_rimLetter, cX0_rimLetter, 2, some .int)
def m_X0_cornerSum : am_M := (yX0_cornerSum, cX0_cornerSum, 5, some .long)
def m_X0_corner : am_M := (yX0_corner, cX0_corner, 9, some .long)
def t_X1_init : List ri_row := [(0, 0, 0, 0, [], 0, .aload_n 0, 1, 0),
  (59, 0, 1, 0, [], 1, .invokespecial 3, 3, 162),
  (0, 0, 0, 0, [], 4, .aload_n 0, 1, 0),
  (49, 4, 0, 0, [], 5, .new 9, 3, 163),
  (23, 0, 0, 0, [], 8, .dup, 1, 0),
  (2, 0, 0, 60, [], 9, .bipush 60, 2, 0),
  (59, 26, 0, 1, [], 11, .invokespecial 11, 3, 164),
  (14, 1, 0, 2, [], 14, .putfield 14, 3, 165),
  (21, 0, 0, 0, [], 17, .return_, 1, 0)]
def m_X1_init : am_M := (yX1_init, cX1_init, 1, none)
def m_X1_between : am_M := (yX1_between, cX1_between, 3, some .int)
def m_X1_crossings : am_M := (yX1_crossings, cX1_crossings, 10, some .int)
def m_X1_cross : am_M := (yX1_cross, cX1_cross, 4, some .boolean)
def m_X1_changeSides : am_M := (yX1_changeSides, cX1_changeSides, 13, some .boolean)
def m_X1_goRound : am_M := (yX1_goRound, cX1_goRound, 3, some .boolean)
def m_X1_stepsRound : am_M := (yX1_stepsRound, cX1_stepsRound, 5, some .int)
def t_X2_init : List ri_row := [(0, 0, 0, 0, [], 0, .aload_n 0, 1, 0),
  (59, 0, 1, 0, [], 1, .invokespecial 3, 3, 232),
  (0, 0, 0, 0, [], 4, .aload_n 0, 1, 0),
  (2, 0, 0, 60, [], 5, .bipush 60, 2, 0),
  (50, 0, 0, 0, [], 7, .newarray .int, 2, 0),
  (14, 2, 0, 2, [], 9, .putfield 9, 3, 233),
  (21, 0, 0, 0, [], 12, .return_, 1, 0)]
def m_X2_init : am_M := (yX2_init, cX2_init, 1, none)
def m_X2_add : am_M := (yX2_add, cX2_add, 2, none)
def m_X2_addAll : am_M := (yX2_addAll, cX2_addAll, 3, none)
def m_X2_copy : am_M := (yX2_copy, cX2_copy, 2, none)
def m_X2_becomeReversed : am_M := (yX2_becomeReversed, cX2_becomeReversed, 3, none)
def m_X2_codeOrSize : am_M := (yX2_codeOrSize, cX2_codeOrSize, 2, some .int)
def t_X3_init : List ri_row := [(0, 0, 0, 0, [], 0, .aload_n 0, 1, 0),
  (59, 0, 1, 0, [], 1, .invokespecial 3, 3, 286),
  (0, 0, 0, 0, [], 4, .aload_n 0, 1, 0),
  (49, 4, 0, 0, [], 5, .new 9, 3, 287),
  (23, 0, 0, 0, [], 8, .dup, 1, 0),
  (2, 0, 0, 60, [], 9, .bipush 60, 2, 0),
  (59, 26, 0, 1, [], 11, .invokespecial 11, 3, 288),
  (14, 3, 0, 2, [], 14, .putfield 14, 3, 289),
  (21, 0, 0, 0, [], 17, .return_, 1, 0)]
def m_X3_init : am_M := (yX3_init, cX3_init, 1, none)
def m_X3_become : am_M := (yX3_become, cX3_become, 3, none)
def m_X3_isSimple : am_M := (yX3_isSimple, cX3_isSimple, 1, some .boolean)
def t_X4_init : List ri_row := [(0, 0, 0, 0, [], 0, .aload_n 0, 1, 0),
  (59, 0, 1, 0, [], 1, .invokespecial 1, 3, 112),
  (0, 0, 0, 0, [], 4, .aload_n 0, 1, 0),
  (2, 0, 0, 1, [], 5, .iconst 1, 1, 0),
  (1, 1, 0, 0, [], 6, .iload_n 1, 1, 0),
  (17, 0, 3, 0, [], 7, .invokestatic 7, 3, 113),
  (50, 0, 0, 0, [], 10, .newarray .int, 2, 0),
  (14, 4, 0, 2, [], 12, .putfield 13, 3, 116),
  (21, 0, 0, 0, [], 15, .return_, 1, 0)]
def m_X4_init : am_M := (yX4_init, cX4_init, 2, none)
def t_X4_push : List ri_row := [(0, 0, 0, 0, [], 0, .aload_n 0, 1, 0),
  (3, 4, 1, 0, [], 1, .getfield 19, 3, 120),
  (29, 20, 0, 0, [], 4, .ifCond .le 32, 3, 0),
  (0, 0, 0, 0, [], 7, .aload_n 0, 1, 0),
  (3, 4, 0, 0, [], 8, .getfield 13, 3, 116),
  (0, 0, 0, 0, [], 11, .aload_n 0, 1, 0),
  (3, 4, 1, 0, [], 12, .getfield 19, 3, 120),
  (2, 0, 0, 1, [], 15, .iconst 1, 1, 0),
  (10, 0, 0, 0, [], 16, .isub, 1, 0),
  (8, 0, 0, 0, [], 17, .iaload, 1, 0),
  (1, 1, 0, 0, [], 18, .iload_n 1, 1, 0),
  (32, 0, 0, 0, [], 19, .ineg, 1, 0),
  (18, 20, 0, 0, [], 20, .if_icmp .ne 16, 3, 0),
  (0, 0, 0, 0, [], 23, .aload_n 0, 1, 0),
  (23, 0, 0, 0, [], 24, .dup, 1, 0),
  (3, 4, 1, 0, [], 25, .getfield 19, 3, 120),
  (2, 0, 0, 1, [], 28, .iconst 1, 1, 0),
  (10, 0, 0, 0, [], 29, .isub, 1, 0),
  (14, 4, 1, 0, [], 30, .putfield 19, 3, 120),
  (6, 38, 0, 0, [], 33, .goto 35, 3, 0),
  (0, 0, 0, 0, [], 36, .aload_n 0, 1, 0),
  (3, 4, 1, 0, [], 37, .getfield 19, 3, 120),
  (0, 0, 0, 0, [], 40, .aload_n 0, 1, 0),
  (3, 4, 0, 0, [], 41, .getfield 13, 3, 116),
  (37, 0, 0, 0, [], 44, .arraylength, 1, 0),
  (13, 38, 0, 0, [], 45, .if_icmp .ge 23, 3, 0),
  (0, 0, 0, 0, [], 48, .aload_n 0, 1, 0),
  (3, 4, 0, 0, [], 49, .getfield 13, 3, 116),
  (0, 0, 0, 0, [], 52, .aload_n 0, 1, 0),
  (3, 4, 1, 0, [], 53, .getfield 19, 3, 120),
  (1, 1, 0, 0, [], 56, .iload_n 1, 1, 0),
  (22, 0, 0, 0, [], 57, .iastore, 1, 0),
  (0, 0, 0, 0, [], 58, .aload_n 0, 1, 0),
  (23, 0, 0, 0, [], 59, .dup, 1, 0),
  (3, 4, 1, 0, [], 60, .getfield 19, 3, 120),
  (2, 0, 0, 1, [], 63, .iconst 1, 1, 0),
  (7, 0, 0, 0, [], 64, .iadd, 1, 0),
  (14, 4, 1, 0, [], 65, .putfield 19, 3, 120),
  (21, 0, 0, 0, [], 68, .return_, 1, 0)]
def m_X4_push : am_M := (yX4_push, cX4_push, 2, none)
def m_X4_becomeLetter : am_M := (yX4_becomeLetter, cX4_becomeLetter, 2, none)
def m_X4_copy : am_M := (yX4_copy, cX4_copy, 2, none)
def t_X4_becomeBack : List ri_row := [(0, 0, 0, 0, [], 0, .aload_n 0, 1, 0),
  (0, 1, 0, 0, [], 1, .aload_n 1, 1, 0),
  (3, 4, 1, 0, [], 2, .getfield 19, 3, 120),
  (0, 0, 0, 0, [], 5, .aload_n 0, 1, 0),
  (3, 4, 0, 0, [], 6, .getfield 13, 3, 116),
  (37, 0, 0, 0, [], 9, .arraylength, 1, 0),
  (17, 0, 4, 0, [], 10, .invokestatic 23, 3, 338),
  (14, 4, 1, 0, [], 13, .putfield 19, 3, 120),
  (2, 0, 0, 0, [], 16, .iconst 0, 1, 0),
  (9, 2, 0, 0, [], 17, .istore_n 2, 1, 0),
  (1, 2, 0, 0, [], 18, .iload_n 2, 1, 0),
  (0, 0, 0, 0, [], 19, .aload_n 0, 1, 0),
  (3, 4, 1, 0, [], 20, .getfield 19, 3, 120),
  (13, 30, 0, 0, [], 23, .if_icmp .ge 29, 3, 0),
  (0, 0, 0, 0, [], 26, .aload_n 0, 1, 0),
  (3, 4, 0, 0, [], 27, .getfield 13, 3, 116),
  (1, 2, 0, 0, [], 30, .iload_n 2, 1, 0),
  (0, 1, 0, 0, [], 31, .aload_n 1, 1, 0),
  (3, 4, 0, 0, [], 32, .getfield 13, 3, 116),
  (0, 0, 0, 0, [], 35, .aload_n 0, 1, 0),
  (3, 4, 1, 0, [], 36, .getfield 19, 3, 120),
  (2, 0, 0, 1, [], 39, .iconst 1, 1, 0),
  (10, 0, 0, 0, [], 40, .isub, 1, 0),
  (1, 2, 0, 0, [], 41, .iload_n 2, 1, 0),
  (10, 0, 0, 0, [], 42, .isub, 1, 0),
  (8, 0, 0, 0, [], 43, .iaload, 1, 0),
  (32, 0, 0, 0, [], 44, .ineg, 1, 0),
  (22, 0, 0, 0, [], 45, .iastore, 1, 0),
  (16, 2, 0, 1, [], 46, .iinc 2 1, 3, 0),
  (6, 10, 0, 0, [], 49, .goto (-31), 3, 0),
  (21, 0, 0, 0, [], 52, .return_, 1, 0)]
def m_X4_becomeBack : am_M := (yX4_becomeBack, cX4_becomeBack, 3, none)
def m_X4_looseEnds : am_M := (yX4_looseEnds, cX4_looseEnds, 2, some .int)
def m_X4_closedSize : am_M := (yX4_closedSize, cX4_closedSize, 1, some .int)
def m_X4_close : am_M := (yX4_close, cX4_close, 2, none)
def m_X4_isLike : am_M := (yX4_isLike, cX4_isLike, 3, some .boolean)
def m_X4_isOneWith : am_M := (yX4_isOneWith, cX4_isOneWith, 4, some .boolean)
def m_X4_runsAlong : am_M := (yX4_runsAlong, cX4_runsAlong, 6, some .boolean)
def m_X4_runsAgainst : am_M := (yX4_runsAgainst, cX4_runsAgainst, 6, some .boolean)
def m_X4_isPower : am_M := (yX4_isPower, cX4_isPower, 2, some .boolean)
def m_X4_repeats : am_M := (yX4_repeats, cX4_repeats, 3, some .boolean)
def m_X4_balanceOf : am_M := (yX4_balanceOf, cX4_balanceOf, 4, some .int)
def t_X5_init : List ri_row := [(0, 0, 0, 0, [], 0, .aload_n 0, 1, 0),
  (59, 0, 1, 0, [], 1, .invokespecial 3, 3, 199),
  (0, 0, 0, 0, [], 4, .aload_n 0, 1, 0),
  (2, 0, 0, 4, [], 5, .iconst 4, 1, 0),
  (52, 2, 0, 0, [], 6, .anewarray 9, 3, 200),
  (14, 5, 2, 2, [], 9, .putfield 11, 3, 204),
  (0, 0, 0, 0, [], 12, .aload_n 0, 1, 0),
  (2, 0, 0, 16, [], 13, .bipush 16, 2, 0),
  (50, 0, 0, 0, [], 15, .newarray .int, 2, 0),
  (14, 5, 3, 2, [], 17, .putfield 17, 3, 205),
  (0, 0, 0, 0, [], 20, .aload_n 0, 1, 0),
  (49, 4, 0, 0, [], 21, .new 9, 3, 200),
  (23, 0, 0, 0, [], 24, .dup, 1, 0),
  (2, 0, 0, 60, [], 25, .bipush 60, 2, 0),
  (59, 26, 0, 1, [], 27, .invokespecial 21, 3, 201),
  (14, 5, 4, 2, [], 30, .putfield 24, 3, 206),
  (0, 0, 0, 0, [], 33, .aload_n 0, 1, 0),
  (0, 1, 0, 0, [], 34, .aload_n 1, 1, 0),
  (14, 5, 0, 2, [], 35, .putfield 28, 3, 202),
  (0, 0, 0, 0, [], 38, .aload_n 0, 1, 0),
  (0, 2, 0, 0, [], 39, .aload_n 2, 1, 0),
  (14, 5, 1, 2, [], 40, .putfield 32, 3, 203),
  (2, 0, 0, 0, [], 43, .iconst 0, 1, 0),
  (9, 3, 0, 0, [], 44, .istore_n 3, 1, 0),
  (1, 3, 0, 0, [], 45, .iload_n 3, 1, 0),
  (2, 0, 0, 3, [], 46, .iconst 3, 1, 0),
  (25, 37, 0, 0, [], 47, .if_icmp .gt 25, 3, 0),
  (0, 0, 0, 0, [], 50, .aload_n 0, 1, 0),
  (3, 5, 2, 0, [], 51, .getfield 11, 3, 204),
  (1, 3, 0, 0, [], 54, .iload_n 3, 1, 0),
  (49, 4, 0, 0, [], 55, .new 9, 3, 200),
  (23, 0, 0, 0, [], 58, .dup, 1, 0),
  (2, 0, 0, 400, [], 59, .sipush 400, 3, 0),
  (59, 26, 0, 1, [], 62, .invokespecial 21, 3, 201),
  (53, 0, 0, 0, [], 65, .aastore, 1, 0),
  (16, 3, 0, 1, [], 66, .iinc 3 1, 3, 0),
  (6, 24, 0, 0, [], 69, .goto (-24), 3, 0),
  (21, 0, 0, 0, [], 72, .return_, 1, 0)]
def m_X5_init : am_M := (yX5_init, cX5_init, 4, none)
def m_X5_forCarrying : am_M := (yX5_forCarrying, cX5_forCarrying, 6, some .boolean)
def m_X5_measureAhead : am_M := (yX5_measureAhead, cX5_measureAhead, 2, none)
def m_X5_tryTwists : am_M := (yX5_tryTwists, cX5_tryTwists, 10, none)
def m_X5_spell : am_M := (yX5_spell, cX5_spell, 7, none)
def m_X5_forImages : am_M := (yX5_forImages, cX5_forImages, 6, some .boolean)
def m_X5_doesAsImages : am_M := (yX5_doesAsImages, cX5_doesAsImages, 4, some .boolean)
def t_X6_init : List ri_row := [(0, 0, 0, 0, [], 0, .aload_n 0, 1, 0),
  (59, 0, 1, 0, [], 1, .invokespecial 3, 3, 226),
  (0, 0, 0, 0, [], 4, .aload_n 0, 1, 0),
  (2, 0, 0, 4294967295, [], 5, .iconst (-1), 1, 0),
  (14, 6, 1, 0, [], 6, .putfield 9, 3, 249),
  (0, 0, 0, 0, [], 9, .aload_n 0, 1, 0),
  (49, 2, 0, 0, [], 10, .new 15, 3, 227),
  (23, 0, 0, 0, [], 13, .dup, 1, 0),
  (59, 17, 0, 0, [], 14, .invokespecial 17, 3, 229),
  (14, 6, 2, 2, [], 17, .putfield 18, 3, 251),
  (0, 0, 0, 0, [], 20, .aload_n 0, 1, 0),
  (2, 0, 0, 120, [], 21, .bipush 120, 2, 0),
  (50, 0, 0, 0, [], 23, .newarray .int, 2, 0),
  (14, 6, 3, 2, [], 25, .putfield 22, 3, 253),
  (0, 0, 0, 0, [], 28, .aload_n 0, 1, 0),
  (2, 0, 0, 4, [], 29, .iconst 4, 1, 0),
  (50, 0, 0, 0, [], 30, .newarray .int, 2, 0),
  (14, 6, 4, 2, [], 32, .putfield 26, 3, 254),
  (21, 0, 0, 0, [], 35, .return_, 1, 0)]
def m_X6_init : am_M := (yX6_init, cX6_init, 1, none)
def m_X6_add : am_M := (yX6_add, cX6_add, 2, none)
def m_X6_understand : am_M := (yX6_understand, cX6_understand, 4, some .int)
def m_X6_take : am_M := (yX6_take, cX6_take, 3, some .int)
def m_X6_isFigure : am_M := (yX6_isFigure, cX6_isFigure, 1, some .boolean)
def m_X6_takeHandle : am_M := (yX6_takeHandle, cX6_takeHandle, 3, some .int)
def m_X6_takeTimes : am_M := (yX6_takeTimes, cX6_takeTimes, 6, some .int)
def m_X6_takeItem : am_M := (yX6_takeItem, cX6_takeItem, 4, some .int)
def t_X7_init : List ri_row := [(0, 0, 0, 0, [], 0, .aload_n 0, 1, 0),
  (59, 0, 1, 0, [], 1, .invokespecial 5, 3, 136),
  (0, 0, 0, 0, [], 4, .aload_n 0, 1, 0),
  (2, 0, 0, 2080, [], 5, .sipush 2080, 3, 0),
  (50, 0, 0, 0, [], 8, .newarray .int, 2, 0),
  (14, 7, 1, 2, [], 10, .putfield 11, 3, 142),
  (0, 0, 0, 0, [], 13, .aload_n 0, 1, 0),
  (2, 0, 0, 3600, [], 14, .sipush 3600, 3, 0),
  (50, 0, 0, 0, [], 17, .newarray .int, 2, 0),
  (14, 7, 2, 2, [], 19, .putfield 15, 3, 143),
  (0, 0, 0, 0, [], 22, .aload_n 0, 1, 0),
  (49, 4, 0, 0, [], 23, .new 18, 3, 137),
  (23, 0, 0, 0, [], 26, .dup, 1, 0),
  (2, 0, 0, 9, [], 27, .bipush 9, 2, 0),
  (59, 26, 0, 1, [], 29, .invokespecial 20, 3, 138),
  (14, 7, 3, 2, [], 32, .putfield 23, 3, 144),
  (0, 0, 0, 0, [], 35, .aload_n 0, 1, 0),
  (49, 4, 0, 0, [], 36, .new 18, 3, 137),
  (23, 0, 0, 0, [], 39, .dup, 1, 0),
  (2, 0, 0, 9, [], 40, .bipush 9, 2, 0),
  (59, 26, 0, 1, [], 42, .invokespecial 20, 3, 138),
  (14, 7, 4, 2, [], 45, .putfield 27, 3, 145),
  (21, 0, 0, 0, [], 48, .return_, 1, 0)]
def m_X7_init : am_M := (yX7_init, cX7_init, 1, none)
def t_X7_layOut : List ri_row := [(0, 0, 0, 0, [], 0, .aload_n 0, 1, 0),
  (2, 0, 0, 3, [], 1, .iconst 3, 1, 0),
  (1, 1, 0, 0, [], 2, .iload_n 1, 1, 0),
  (15, 0, 0, 0, [], 3, .imul, 1, 0),
  (2, 0, 0, 1, [], 4, .iconst 1, 1, 0),
  (10, 0, 0, 0, [], 5, .isub, 1, 0),
  (14, 7, 0, 0, [], 6, .putfield 30, 3, 139),
  (2, 0, 0, 0, [], 9, .iconst 0, 1, 0),
  (9, 2, 0, 0, [], 10, .istore_n 2, 1, 0),
  (1, 2, 0, 0, [], 11, .iload_n 2, 1, 0),
  (0, 0, 0, 0, [], 12, .aload_n 0, 1, 0),
  (3, 7, 0, 0, [], 13, .getfield 30, 3, 139),
  (13, 40, 0, 0, [], 16, .if_icmp .ge 44, 3, 0),
  (2, 0, 0, 1, [], 19, .iconst 1, 1, 0),
  (9, 3, 0, 0, [], 20, .istore_n 3, 1, 0),
  (1, 3, 0, 0, [], 21, .iload_n 3, 1, 0),
  (2, 0, 0, 2, [], 22, .iconst 2, 1, 0),
  (1, 1, 0, 0, [], 23, .iload_n 1, 1, 0),
  (15, 0, 0, 0, [], 24, .imul, 1, 0),
  (25, 38, 0, 0, [], 25, .if_icmp .gt 29, 3, 0),
  (0, 0, 0, 0, [], 28, .aload_n 0, 1, 0),
  (2, 0, 0, 2, [], 29, .iconst 2, 1, 0),
  (1, 2, 0, 0, [], 30, .iload_n 2, 1, 0),
  (15, 0, 0, 0, [], 31, .imul, 1, 0),
  (1, 3, 0, 0, [], 32, .iload_n 3, 1, 0),
  (1, 1, 0, 0, [], 33, .iload_n 1, 1, 0),
  (4, 58, 7, 3, [], 34, .invokevirtual 34, 3, 310),
  (0, 0, 0, 0, [], 37, .aload_n 0, 1, 0),
  (2, 0, 0, 2, [], 38, .iconst 2, 1, 0),
  (1, 2, 0, 0, [], 39, .iload_n 2, 1, 0),
  (15, 0, 0, 0, [], 40, .imul, 1, 0),
  (2, 0, 0, 1, [], 41, .iconst 1, 1, 0),
  (7, 0, 0, 0, [], 42, .iadd, 1, 0),
  (1, 3, 0, 0, [], 43, .iload_n 3, 1, 0),
  (1, 1, 0, 0, [], 44, .iload_n 1, 1, 0),
  (4, 58, 7, 3, [], 45, .invokevirtual 34, 3, 310),
  (16, 3, 0, 1, [], 48, .iinc 3 1, 3, 0),
  (6, 15, 0, 0, [], 51, .goto (-30), 3, 0),
  (16, 2, 0, 1, [], 54, .iinc 2 1, 3, 0),
  (6, 9, 0, 0, [], 57, .goto (-46), 3, 0),
  (21, 0, 0, 0, [], 60, .return_, 1, 0)]
def m_X7_layOut : am_M := (yX7_layOut, cX7_layOut, 4, none)
def t_X7_layWord : List ri_row := [(1, 1, 0, 0, [], 0, .iload_n 1, 1, 0),
  (2, 0, 0, 2, [], 1, .iconst 2, 1, 0),
  (36, 0, 0, 0, [], 2, .idiv, 1, 0),
  (9, 4, 0, 0, [], 3, .istore 4, 2, 0),
  (1, 1, 0, 0, [], 5, .iload_n 1, 1, 0),
  (2, 0, 0, 2, [], 6, .iconst 2, 1, 0),
  (34, 0, 0, 0, [], 7, .irem, 1, 0),
  (12, 10, 0, 0, [], 8, .ifCond .ne 7, 3, 0),
  (2, 0, 0, 1, [], 11, .iconst 1, 1, 0),
  (6, 11, 0, 0, [], 12, .goto 4, 3, 0),
  (2, 0, 0, 4294967295, [], 15, .iconst (-1), 1, 0),
  (9, 5, 0, 0, [], 16, .istore 5, 2, 0),
  (0, 0, 0, 0, [], 18, .aload_n 0, 1, 0),
  (3, 7, 3, 0, [], 19, .getfield 23, 3, 144),
  (2, 0, 0, 0, [], 22, .iconst 0, 1, 0),
  (14, 4, 1, 0, [], 23, .putfield 38, 3, 122),
  (1, 4, 0, 0, [], 26, .iload 4, 2, 0),
  (1, 3, 0, 0, [], 28, .iload_n 3, 1, 0),
  (13, 25, 0, 0, [], 29, .if_icmp .ge 15, 3, 0),
  (0, 0, 0, 0, [], 32, .aload_n 0, 1, 0),
  (1, 4, 0, 0, [], 33, .iload 4, 2, 0),
  (1, 5, 0, 0, [], 35, .iload 5, 2, 0),
  (1, 2, 0, 0, [], 37, .iload_n 2, 1, 0),
  (4, 59, 7, 3, [], 38, .invokevirtual 41, 3, 314),
  (6, 47, 0, 0, [], 41, .goto 38, 3, 0),
  (1, 4, 0, 0, [], 44, .iload 4, 2, 0),
  (2, 0, 0, 2, [], 46, .iconst 2, 1, 0),
  (1, 3, 0, 0, [], 47, .iload_n 3, 1, 0),
  (15, 0, 0, 0, [], 48, .imul, 1, 0),
  (13, 38, 0, 0, [], 49, .if_icmp .ge 17, 3, 0),
  (0, 0, 0, 0, [], 52, .aload_n 0, 1, 0),
  (1, 4, 0, 0, [], 53, .iload 4, 2, 0),
  (1, 3, 0, 0, [], 55, .iload_n 3, 1, 0),
  (10, 0, 0, 0, [], 56, .isub, 1, 0),
  (1, 5, 0, 0, [], 57, .iload 5, 2, 0),
  (1, 2, 0, 0, [], 59, .iload_n 2, 1, 0),
  (4, 60, 7, 3, [], 60, .invokevirtual 44, 3, 322),
  (6, 47, 0, 0, [], 63, .goto 16, 3, 0),
  (0, 0, 0, 0, [], 66, .aload_n 0, 1, 0),
  (1, 4, 0, 0, [], 67, .iload 4, 2, 0),
  (2, 0, 0, 2, [], 69, .iconst 2, 1, 0),
  (1, 3, 0, 0, [], 70, .iload_n 3, 1, 0),
  (15, 0, 0, 0, [], 71, .imul, 1, 0),
  (10, 0, 0, 0, [], 72, .isub, 1, 0),
  (1, 5, 0, 0, [], 73, .iload 5, 2, 0),
  (1, 2, 0, 0, [], 75, .iload_n 2, 1, 0),
  (4, 61, 7, 3, [], 76, .invokevirtual 47, 3, 326),
  (0, 0, 0, 0, [], 79, .aload_n 0, 1, 0),
  (3, 7, 4, 0, [], 80, .getfield 27, 3, 145),
  (0, 0, 0, 0, [], 83, .aload_n 0, 1, 0),
  (3, 7, 3, 0, [], 84, .getfield 23, 3, 144),
  (4, 30, 4, 1, [], 87, .invokevirtual 50, 3, 334),
  (0, 0, 0, 0, [], 90, .aload_n 0, 1, 0),
  (1, 1, 0, 0, [], 91, .iload_n 1, 1, 0),
  (1, 2, 0, 0, [], 92, .iload_n 2, 1, 0),
  (0, 0, 0, 0, [], 93, .aload_n 0, 1, 0),
  (3, 7, 3, 0, [], 94, .getfield 23, 3, 144),
  (4, 64, 7, 3, [], 97, .invokevirtual 54, 3, 341),
  (0, 0, 0, 0, [], 100, .aload_n 0, 1, 0),
  (1, 1, 0, 0, [], 101, .iload_n 1, 1, 0),
  (1, 2, 0, 0, [], 102, .iload_n 2, 1, 0),
  (32, 0, 0, 0, [], 103, .ineg, 1, 0),
  (0, 0, 0, 0, [], 104, .aload_n 0, 1, 0),
  (3, 7, 4, 0, [], 105, .getfield 27, 3, 145),
  (4, 64, 7, 3, [], 108, .invokevirtual 54, 3, 341),
  (21, 0, 0, 0, [], 111, .return_, 1, 0)]
def m_X7_layWord : am_M := (yX7_layWord, cX7_layWord, 6, none)
def t_X7_spellFirst : List ri_row := [(0, 0, 0, 0, [], 0, .aload_n 0, 1, 0),
  (3, 7, 3, 0, [], 1, .getfield 23, 3, 144),
  (1, 3, 0, 0, [], 4, .iload_n 3, 1, 0),
  (4, 27, 4, 1, [], 5, .invokevirtual 58, 3, 318),
  (1, 3, 0, 0, [], 8, .iload_n 3, 1, 0),
  (2, 0, 0, 2, [], 9, .iconst 2, 1, 0),
  (1, 1, 0, 0, [], 10, .iload_n 1, 1, 0),
  (15, 0, 0, 0, [], 11, .imul, 1, 0),
  (2, 0, 0, 2, [], 12, .iconst 2, 1, 0),
  (7, 0, 0, 0, [], 13, .iadd, 1, 0),
  (18, 21, 0, 0, [], 14, .if_icmp .ne 17, 3, 0),
  (0, 0, 0, 0, [], 17, .aload_n 0, 1, 0),
  (3, 7, 3, 0, [], 18, .getfield 23, 3, 144),
  (1, 2, 0, 0, [], 21, .iload_n 2, 1, 0),
  (2, 0, 0, 2, [], 22, .iconst 2, 1, 0),
  (1, 1, 0, 0, [], 23, .iload_n 1, 1, 0),
  (15, 0, 0, 0, [], 24, .imul, 1, 0),
  (2, 0, 0, 1, [], 25, .iconst 1, 1, 0),
  (7, 0, 0, 0, [], 26, .iadd, 1, 0),
  (15, 0, 0, 0, [], 27, .imul, 1, 0),
  (4, 27, 4, 1, [], 28, .invokevirtual 58, 3, 318),
  (21, 0, 0, 0, [], 31, .return_, 1, 0)]
def m_X7_spellFirst : am_M := (yX7_spellFirst, cX7_spellFirst, 4, none)
def t_X7_spellSecond : List ri_row := [(0, 0, 0, 0, [], 0, .aload_n 0, 1, 0),
  (3, 7, 3, 0, [], 1, .getfield 23, 3, 144),
  (1, 3, 0, 0, [], 4, .iload_n 3, 1, 0),
  (4, 27, 4, 1, [], 5, .invokevirtual 58, 3, 318),
  (1, 3, 0, 0, [], 8, .iload_n 3, 1, 0),
  (2, 0, 0, 2, [], 9, .iconst 2, 1, 0),
  (1, 1, 0, 0, [], 10, .iload_n 1, 1, 0),
  (15, 0, 0, 0, [], 11, .imul, 1, 0),
  (2, 0, 0, 1, [], 12, .iconst 1, 1, 0),
  (7, 0, 0, 0, [], 13, .iadd, 1, 0),
  (18, 22, 0, 0, [], 14, .if_icmp .ne 18, 3, 0),
  (0, 0, 0, 0, [], 17, .aload_n 0, 1, 0),
  (3, 7, 3, 0, [], 18, .getfield 23, 3, 144),
  (1, 2, 0, 0, [], 21, .iload_n 2, 1, 0),
  (32, 0, 0, 0, [], 22, .ineg, 1, 0),
  (2, 0, 0, 2, [], 23, .iconst 2, 1, 0),
  (1, 1, 0, 0, [], 24, .iload_n 1, 1, 0),
  (15, 0, 0, 0, [], 25, .imul, 1, 0),
  (2, 0, 0, 2, [], 26, .iconst 2, 1, 0),
  (7, 0, 0, 0, [], 27, .iadd, 1, 0),
  (15, 0, 0, 0, [], 28, .imul, 1, 0),
  (4, 27, 4, 1, [], 29, .invokevirtual 58, 3, 318),
  (21, 0, 0, 0, [], 32, .return_, 1, 0)]
def m_X7_spellSecond : am_M := (yX7_spellSecond, cX7_spellSecond, 4, none)
def t_X7_spellThird : List ri_row := [(1, 3, 0, 0, [], 0, .iload_n 3, 1, 0),
  (2, 0, 0, 2, [], 1, .iconst 2, 1, 0),
  (1, 1, 0, 0, [], 2, .iload_n 1, 1, 0),
  (15, 0, 0, 0, [], 3, .imul, 1, 0),
  (2, 0, 0, 2, [], 4, .iconst 2, 1, 0),
  (7, 0, 0, 0, [], 5, .iadd, 1, 0),
  (19, 14, 0, 0, [], 6, .if_icmp .eq 12, 3, 0),
  (1, 3, 0, 0, [], 9, .iload_n 3, 1, 0),
  (2, 0, 0, 2, [], 10, .iconst 2, 1, 0),
  (1, 1, 0, 0, [], 11, .iload_n 1, 1, 0),
  (15, 0, 0, 0, [], 12, .imul, 1, 0),
  (2, 0, 0, 3, [], 13, .iconst 3, 1, 0),
  (7, 0, 0, 0, [], 14, .iadd, 1, 0),
  (18, 19, 0, 0, [], 15, .if_icmp .ne 10, 3, 0),
  (0, 0, 0, 0, [], 18, .aload_n 0, 1, 0),
  (1, 1, 0, 0, [], 19, .iload_n 1, 1, 0),
  (1, 2, 0, 0, [], 20, .iload_n 2, 1, 0),
  (32, 0, 0, 0, [], 21, .ineg, 1, 0),
  (4, 62, 7, 2, [], 22, .invokevirtual 61, 3, 330),
  (0, 0, 0, 0, [], 25, .aload_n 0, 1, 0),
  (3, 7, 3, 0, [], 26, .getfield 23, 3, 144),
  (1, 3, 0, 0, [], 29, .iload_n 3, 1, 0),
  (4, 27, 4, 1, [], 30, .invokevirtual 58, 3, 318),
  (1, 3, 0, 0, [], 33, .iload_n 3, 1, 0),
  (2, 0, 0, 2, [], 34, .iconst 2, 1, 0),
  (1, 1, 0, 0, [], 35, .iload_n 1, 1, 0),
  (15, 0, 0, 0, [], 36, .imul, 1, 0),
  (2, 0, 0, 3, [], 37, .iconst 3, 1, 0),
  (7, 0, 0, 0, [], 38, .iadd, 1, 0),
  (19, 37, 0, 0, [], 39, .if_icmp .eq 12, 3, 0),
  (1, 3, 0, 0, [], 42, .iload_n 3, 1, 0),
  (2, 0, 0, 2, [], 43, .iconst 2, 1, 0),
  (1, 1, 0, 0, [], 44, .iload_n 1, 1, 0),
  (15, 0, 0, 0, [], 45, .imul, 1, 0),
  (2, 0, 0, 4, [], 46, .iconst 4, 1, 0),
  (7, 0, 0, 0, [], 47, .iadd, 1, 0),
  (18, 41, 0, 0, [], 48, .if_icmp .ne 9, 3, 0),
  (0, 0, 0, 0, [], 51, .aload_n 0, 1, 0),
  (1, 1, 0, 0, [], 52, .iload_n 1, 1, 0),
  (1, 2, 0, 0, [], 53, .iload_n 2, 1, 0),
  (4, 62, 7, 2, [], 54, .invokevirtual 61, 3, 330),
  (21, 0, 0, 0, [], 57, .return_, 1, 0)]
def m_X7_spellThird : am_M := (yX7_spellThird, cX7_spellThird, 4, none)
def t_X7_spellBetween : List ri_row := [(2, 0, 0, 2, [], 0, .iconst 2, 1, 0),
  (1, 1, 0, 0, [], 1, .iload_n 1, 1, 0),
  (15, 0, 0, 0, [], 2, .imul, 1, 0),
  (2, 0, 0, 1, [], 3, .iconst 1, 1, 0),
  (7, 0, 0, 0, [], 4, .iadd, 1, 0),
  (9, 3, 0, 0, [], 5, .istore_n 3, 1, 0),
  (2, 0, 0, 2, [], 6, .iconst 2, 1, 0),
  (1, 1, 0, 0, [], 7, .iload_n 1, 1, 0),
  (15, 0, 0, 0, [], 8, .imul, 1, 0),
  (2, 0, 0, 2, [], 9, .iconst 2, 1, 0),
  (7, 0, 0, 0, [], 10, .iadd, 1, 0),
  (9, 4, 0, 0, [], 11, .istore 4, 2, 0),
  (2, 0, 0, 2, [], 13, .iconst 2, 1, 0),
  (1, 1, 0, 0, [], 14, .iload_n 1, 1, 0),
  (15, 0, 0, 0, [], 15, .imul, 1, 0),
  (2, 0, 0, 3, [], 16, .iconst 3, 1, 0),
  (7, 0, 0, 0, [], 17, .iadd, 1, 0),
  (9, 5, 0, 0, [], 18, .istore 5, 2, 0),
  (0, 0, 0, 0, [], 20, .aload_n 0, 1, 0),
  (3, 7, 3, 0, [], 21, .getfield 23, 3, 144),
  (1, 2, 0, 0, [], 24, .iload_n 2, 1, 0),
  (29, 24, 0, 0, [], 25, .ifCond .le 8, 3, 0),
  (1, 4, 0, 0, [], 28, .iload 4, 2, 0),
  (6, 26, 0, 0, [], 30, .goto 6, 3, 0),
  (1, 5, 0, 0, [], 33, .iload 5, 2, 0),
  (32, 0, 0, 0, [], 35, .ineg, 1, 0),
  (4, 27, 4, 1, [], 36, .invokevirtual 58, 3, 318),
  (0, 0, 0, 0, [], 39, .aload_n 0, 1, 0),
  (3, 7, 3, 0, [], 40, .getfield 23, 3, 144),
  (1, 2, 0, 0, [], 43, .iload_n 2, 1, 0),
  (29, 34, 0, 0, [], 44, .ifCond .le 8, 3, 0),
  (1, 3, 0, 0, [], 47, .iload_n 3, 1, 0),
  (32, 0, 0, 0, [], 48, .ineg, 1, 0),
  (6, 35, 0, 0, [], 49, .goto 5, 3, 0),
  (1, 4, 0, 0, [], 52, .iload 4, 2, 0),
  (4, 27, 4, 1, [], 54, .invokevirtual 58, 3, 318),
  (0, 0, 0, 0, [], 57, .aload_n 0, 1, 0),
  (3, 7, 3, 0, [], 58, .getfield 23, 3, 144),
  (1, 2, 0, 0, [], 61, .iload_n 2, 1, 0),
  (29, 43, 0, 0, [], 62, .ifCond .le 9, 3, 0),
  (1, 4, 0, 0, [], 65, .iload 4, 2, 0),
  (32, 0, 0, 0, [], 67, .ineg, 1, 0),
  (6, 44, 0, 0, [], 68, .goto 4, 3, 0),
  (1, 3, 0, 0, [], 71, .iload_n 3, 1, 0),
  (4, 27, 4, 1, [], 72, .invokevirtual 58, 3, 318),
  (0, 0, 0, 0, [], 75, .aload_n 0, 1, 0),
  (3, 7, 3, 0, [], 76, .getfield 23, 3, 144),
  (1, 2, 0, 0, [], 79, .iload_n 2, 1, 0),
  (29, 51, 0, 0, [], 80, .ifCond .le 8, 3, 0),
  (1, 5, 0, 0, [], 83, .iload 5, 2, 0),
  (6, 53, 0, 0, [], 85, .goto 6, 3, 0),
  (1, 4, 0, 0, [], 88, .iload 4, 2, 0),
  (32, 0, 0, 0, [], 90, .ineg, 1, 0),
  (4, 27, 4, 1, [], 91, .invokevirtual 58, 3, 318),
  (21, 0, 0, 0, [], 94, .return_, 1, 0)]
def m_X7_spellBetween : am_M := (yX7_spellBetween, cX7_spellBetween, 6, none)
def t_X7_slotOf : List ri_row := [(1, 0, 0, 0, [], 0, .iload_n 0, 1, 0),
  (2, 0, 0, 13, [], 1, .bipush 13, 2, 0),
  (15, 0, 0, 0, [], 3, .imul, 1, 0),
  (1, 1, 0, 0, [], 4, .iload_n 1, 1, 0),
  (7, 0, 0, 0, [], 5, .iadd, 1, 0),
  (2, 0, 0, 6, [], 6, .bipush 6, 2, 0),
  (7, 0, 0, 0, [], 8, .iadd, 1, 0),
  (2, 0, 0, 10, [], 9, .bipush 10, 2, 0),
  (15, 0, 0, 0, [], 11, .imul, 1, 0),
  (5, 0, 0, 0, [], 12, .ireturn, 1, 0)]
def m_X7_slotOf : am_M := (yX7_slotOf, cX7_slotOf, 2, some .int)
def t_X7_keepWord : List ri_row := [(1, 1, 0, 0, [], 0, .iload_n 1, 1, 0),
  (1, 2, 0, 0, [], 1, .iload_n 2, 1, 0),
  (17, 63, 0, 2, [], 2, .invokestatic 65, 3, 345),
  (9, 4, 0, 0, [], 5, .istore 4, 2, 0),
  (0, 0, 0, 0, [], 7, .aload_n 0, 1, 0),
  (3, 7, 1, 0, [], 8, .getfield 11, 3, 142),
  (1, 4, 0, 0, [], 11, .iload 4, 2, 0),
  (0, 3, 0, 0, [], 13, .aload_n 3, 1, 0),
  (3, 4, 1, 0, [], 14, .getfield 38, 3, 122),
  (22, 0, 0, 0, [], 17, .iastore, 1, 0),
  (0, 3, 0, 0, [], 18, .aload_n 3, 1, 0),
  (3, 4, 0, 0, [], 19, .getfield 69, 3, 119),
  (2, 0, 0, 0, [], 22, .iconst 0, 1, 0),
  (0, 0, 0, 0, [], 23, .aload_n 0, 1, 0),
  (3, 7, 1, 0, [], 24, .getfield 11, 3, 142),
  (1, 4, 0, 0, [], 27, .iload 4, 2, 0),
  (2, 0, 0, 1, [], 29, .iconst 1, 1, 0),
  (7, 0, 0, 0, [], 30, .iadd, 1, 0),
  (0, 3, 0, 0, [], 31, .aload_n 3, 1, 0),
  (3, 4, 1, 0, [], 32, .getfield 38, 3, 122),
  (17, 0, 2, 0, [], 35, .invokestatic 72, 3, 348),
  (21, 0, 0, 0, [], 38, .return_, 1, 0)]
def m_X7_keepWord : am_M := (yX7_keepWord, cX7_keepWord, 5, none)
def m_X7_doTwist : am_M := (yX7_doTwist, cX7_doTwist, 10, some .boolean)
def m_X7_doPlan : am_M := (yX7_doPlan, cX7_doPlan, 4, some .boolean)
def t_X8_init : List ri_row := [(0, 0, 0, 0, [], 0, .aload_n 0, 1, 0),
  (59, 0, 1, 0, [], 1, .invokespecial 3, 3, 100),
  (0, 0, 0, 0, [], 4, .aload_n 0, 1, 0),
  (2, 0, 0, 12, [], 5, .bipush 12, 2, 0),
  (52, 3, 0, 0, [], 7, .anewarray 9, 3, 103),
  (14, 8, 0, 2, [], 10, .putfield 11, 3, 351),
  (0, 0, 0, 0, [], 13, .aload_n 0, 1, 0),
  (2, 0, 0, 8, [], 14, .bipush 8, 2, 0),
  (52, 4, 0, 0, [], 16, .anewarray 15, 3, 105),
  (14, 8, 1, 2, [], 19, .putfield 17, 3, 352),
  (0, 0, 0, 0, [], 22, .aload_n 0, 1, 0),
  (49, 4, 0, 0, [], 23, .new 21, 3, 107),
  (23, 0, 0, 0, [], 26, .dup, 1, 0),
  (2, 0, 0, 60, [], 27, .bipush 60, 2, 0),
  (59, 26, 0, 1, [], 29, .invokespecial 23, 3, 109),
  (14, 8, 2, 2, [], 32, .putfield 26, 3, 353),
  (0, 0, 0, 0, [], 35, .aload_n 0, 1, 0),
  (49, 7, 0, 0, [], 36, .new 30, 3, 131),
  (23, 0, 0, 0, [], 39, .dup, 1, 0),
  (59, 56, 0, 0, [], 40, .invokespecial 32, 3, 133),
  (14, 8, 3, 2, [], 43, .putfield 33, 3, 354),
  (0, 0, 0, 0, [], 46, .aload_n 0, 1, 0),
  (49, 1, 0, 0, [], 47, .new 37, 3, 157),
  (23, 0, 0, 0, [], 50, .dup, 1, 0),
  (59, 10, 0, 0, [], 51, .invokespecial 39, 3, 159),
  (14, 8, 4, 2, [], 54, .putfield 40, 3, 355),
  (0, 0, 0, 0, [], 57, .aload_n 0, 1, 0),
  (49, 0, 0, 0, [], 58, .new 44, 3, 169),
  (23, 0, 0, 0, [], 61, .dup, 1, 0),
  (0, 0, 0, 0, [], 62, .aload_n 0, 1, 0),
  (3, 8, 3, 0, [], 63, .getfield 33, 3, 354),
  (59, 0, 0, 1, [], 66, .invokespecial 46, 3, 171),
  (14, 8, 5, 2, [], 69, .putfield 49, 3, 356),
  (0, 0, 0, 0, [], 72, .aload_n 0, 1, 0),
  (49, 5, 0, 0, [], 73, .new 53, 3, 194),
  (23, 0, 0, 0, [], 76, .dup, 1, 0),
  (0, 0, 0, 0, [], 77, .aload_n 0, 1, 0),
  (3, 8, 3, 0, [], 78, .getfield 33, 3, 354),
  (0, 0, 0, 0, [], 81, .aload_n 0, 1, 0),
  (3, 8, 5, 0, [], 82, .getfield 49, 3, 356),
  (59, 41, 0, 2, [], 85, .invokespecial 55, 3, 196),
  (14, 8, 6, 2, [], 88, .putfield 58, 3, 357),
  (0, 0, 0, 0, [], 91, .aload_n 0, 1, 0),
  (49, 6, 0, 0, [], 92, .new 62, 3, 221),
  (23, 0, 0, 0, [], 95, .dup, 1, 0),
  (59, 48, 0, 0, [], 96, .invokespecial 64, 3, 223),
  (14, 8, 7, 2, [], 99, .putfield 65, 3, 358),
  (0, 0, 0, 0, [], 102, .aload_n 0, 1, 0),
  (49, 4, 0, 0, [], 103, .new 21, 3, 107),
  (23, 0, 0, 0, [], 106, .dup, 1, 0),
  (2, 0, 0, 400, [], 107, .sipush 400, 3, 0),
  (59, 26, 0, 1, [], 110, .invokespecial 23, 3, 109),
  (14, 8, 8, 2, [], 113, .putfield 69, 3, 359),
  (0, 0, 0, 0, [], 116, .aload_n 0, 1, 0),
  (49, 2, 0, 0, [], 117, .new 15, 3, 105),
  (23, 0, 0, 0, [], 120, .dup, 1, 0),
  (59, 17, 0, 0, [], 121, .invokespecial 72, 3, 281),
  (14, 8, 9, 2, [], 124, .putfield 73, 3, 360),
  (0, 0, 0, 0, [], 127, .aload_n 0, 1, 0),
  (49, 2, 0, 0, [], 128, .new 15, 3, 105),
  (23, 0, 0, 0, [], 131, .dup, 1, 0),
  (59, 17, 0, 0, [], 132, .invokespecial 72, 3, 281),
  (14, 8, 10, 2, [], 135, .putfield 77, 3, 361),
  (2, 0, 0, 0, [], 138, .iconst 0, 1, 0),
  (9, 1, 0, 0, [], 139, .istore_n 1, 1, 0),
  (1, 1, 0, 0, [], 140, .iload_n 1, 1, 0),
  (2, 0, 0, 12, [], 141, .bipush 12, 2, 0),
  (13, 77, 0, 0, [], 143, .if_icmp .ge 22, 3, 0),
  (0, 0, 0, 0, [], 146, .aload_n 0, 1, 0),
  (3, 8, 0, 0, [], 147, .getfield 11, 3, 351),
  (1, 1, 0, 0, [], 150, .iload_n 1, 1, 0),
  (49, 3, 0, 0, [], 151, .new 9, 3, 103),
  (23, 0, 0, 0, [], 154, .dup, 1, 0),
  (59, 23, 0, 0, [], 155, .invokespecial 80, 3, 283),
  (53, 0, 0, 0, [], 158, .aastore, 1, 0),
  (16, 1, 0, 1, [], 159, .iinc 1 1, 3, 0),
  (6, 65, 0, 0, [], 162, .goto (-22), 3, 0),
  (2, 0, 0, 0, [], 165, .iconst 0, 1, 0),
  (9, 1, 0, 0, [], 166, .istore_n 1, 1, 0),
  (1, 1, 0, 0, [], 167, .iload_n 1, 1, 0),
  (2, 0, 0, 8, [], 168, .bipush 8, 2, 0),
  (13, 91, 0, 0, [], 170, .if_icmp .ge 22, 3, 0),
  (0, 0, 0, 0, [], 173, .aload_n 0, 1, 0),
  (3, 8, 1, 0, [], 174, .getfield 17, 3, 352),
  (1, 1, 0, 0, [], 177, .iload_n 1, 1, 0),
  (49, 2, 0, 0, [], 178, .new 15, 3, 105),
  (23, 0, 0, 0, [], 181, .dup, 1, 0),
  (59, 17, 0, 0, [], 182, .invokespecial 72, 3, 281),
  (53, 0, 0, 0, [], 185, .aastore, 1, 0),
  (16, 1, 0, 1, [], 186, .iinc 1 1, 3, 0),
  (6, 79, 0, 0, [], 189, .goto (-22), 3, 0),
  (0, 0, 0, 0, [], 192, .aload_n 0, 1, 0),
  (2, 0, 0, 2, [], 193, .iconst 2, 1, 0),
  (4, 97, 8, 1, [], 194, .invokevirtual 81, 3, 302),
  (21, 0, 0, 0, [], 197, .return_, 1, 0)]
def m_X8_init : am_M := (yX8_init, cX8_init, 2, none)
def m_X8_skin : am_M := (yX8_skin, cX8_skin, 2, some .int)
def m_X8_letter : am_M := (yX8_letter, cX8_letter, 2, some .int)
def m_X8_ring : am_M := (yX8_ring, cX8_ring, 1, some .int)
def m_X8_told : am_M := (yX8_told, cX8_told, 3, some .int)
def m_X8_at : am_M := (yX8_at, cX8_at, 4, some .int)
def m_X8_meets : am_M := (yX8_meets, cX8_meets, 3, some .int)
def m_X8_one : am_M := (yX8_one, cX8_one, 3, some .int)
def m_X8_heap : am_M := (yX8_heap, cX8_heap, 4, some .int)
def m_X8_drop : am_M := (yX8_drop, cX8_drop, 1, some .int)
def m_X8_count : am_M := (yX8_count, cX8_count, 2, some .int)
def m_X8_feed : am_M := (yX8_feed, cX8_feed, 5, some .int)
def m_X8_read : am_M := (yX8_read, cX8_read, 3, some .int)
def m_X8_fault : am_M := (yX8_fault, cX8_fault, 1, some .int)
def m_X8_twist : am_M := (yX8_twist, cX8_twist, 3, some .int)
def m_X8_chain : am_M := (yX8_chain, cX8_chain, 4, some .int)
def m_X8_turn : am_M := (yX8_turn, cX8_turn, 3, some .int)
def m_X8_image : am_M := (yX8_image, cX8_image, 4, some .int)
def m_X8_carried : am_M := (yX8_carried, cX8_carried, 4, some .int)
def m_X8_meetsThen : am_M := (yX8_meetsThen, cX8_meetsThen, 4, some .int)
def m_X8_same : am_M := (yX8_same, cX8_same, 3, some .int)
def m_X8_turns : am_M := (yX8_turns, cX8_turns, 2, some .int)
def m_X8_order : am_M := (yX8_order, cX8_order, 4, some .int)
def m_X8_table : am_M := (yX8_table, cX8_table, 4, some .int)
def m_X8_character : am_M := (yX8_character, cX8_character, 3, some .long)
def m_X8_length : am_M := (yX8_length, cX8_length, 4, some .int)
def m_X8_sort : am_M := (yX8_sort, cX8_sort, 7, some .int)
def m_X8_law : am_M := (yX8_law, cX8_law, 3, some .int)
def m_X8_carry : am_M := (yX8_carry, cX8_carry, 5, some .int)
def m_X8_fewest : am_M := (yX8_fewest, cX8_fewest, 4, some .int)
def t_X8_layOut : List ri_row := [(0, 0, 0, 0, [], 0, .aload_n 0, 1, 0),
  (1, 1, 0, 0, [], 1, .iload_n 1, 1, 0),
  (14, 8, 11, 0, [], 2, .putfield 84, 3, 362),
  (0, 0, 0, 0, [], 5, .aload_n 0, 1, 0),
  (2, 0, 0, 0, [], 6, .iconst 0, 1, 0),
  (14, 8, 12, 0, [], 7, .putfield 94, 3, 363),
  (0, 0, 0, 0, [], 10, .aload_n 0, 1, 0),
  (3, 8, 2, 0, [], 11, .getfield 26, 3, 353),
  (2, 0, 0, 0, [], 14, .iconst 0, 1, 0),
  (14, 4, 1, 0, [], 15, .putfield 88, 3, 123),
  (2, 0, 0, 0, [], 18, .iconst 0, 1, 0),
  (9, 2, 0, 0, [], 19, .istore_n 2, 1, 0),
  (1, 2, 0, 0, [], 20, .iload_n 2, 1, 0),
  (2, 0, 0, 8, [], 21, .bipush 8, 2, 0),
  (13, 23, 0, 0, [], 23, .if_icmp .ge 19, 3, 0),
  (0, 0, 0, 0, [], 26, .aload_n 0, 1, 0),
  (3, 8, 1, 0, [], 27, .getfield 17, 3, 352),
  (1, 2, 0, 0, [], 30, .iload_n 2, 1, 0),
  (20, 0, 0, 0, [], 31, .aaload, 1, 0),
  (2, 0, 0, 0, [], 32, .iconst 0, 1, 0),
  (14, 2, 1, 0, [], 33, .putfield 162, 3, 241),
  (16, 2, 0, 1, [], 36, .iinc 2 1, 3, 0),
  (6, 12, 0, 0, [], 39, .goto (-19), 3, 0),
  (0, 0, 0, 0, [], 42, .aload_n 0, 1, 0),
  (3, 8, 3, 0, [], 43, .getfield 33, 3, 354),
  (1, 1, 0, 0, [], 46, .iload_n 1, 1, 0),
  (4, 57, 7, 1, [], 47, .invokevirtual 239, 3, 306),
  (21, 0, 0, 0, [], 50, .return_, 1, 0)]
def m_X8_layOut : am_M := (yX8_layOut, cX8_layOut, 3, none)
def m_X8_isRing : am_M := (yX8_isRing, cX8_isRing, 2, some .boolean)
def m_X8_isPlan : am_M := (yX8_isPlan, cX8_isPlan, 1, some .boolean)
def m_X8_isTwist : am_M := (yX8_isTwist, cX8_isTwist, 2, some .boolean)
def m_X8_isLetter : am_M := (yX8_isLetter, cX8_isLetter, 2, some .boolean)
def m_X8_isSearch : am_M := (yX8_isSearch, cX8_isSearch, 2, some .boolean)
def m_X8_oneIf : am_M := (yX8_oneIf, cX8_oneIf, 1, some .int)
def m_X8_firstBarring : am_M := (yX8_firstBarring, cX8_firstBarring, 5, some .int)
def m_X8_carryToWork : am_M := (yX8_carryToWork, cX8_carryToWork, 3, some .boolean)
def m_X8_firstUnlike : am_M := (yX8_firstUnlike, cX8_firstUnlike, 5, some .int)
def m_X8_keepsSomeRing : am_M := (yX8_keepsSomeRing, cX8_keepsSomeRing, 4, some .boolean)
def m_X8_keepsRing : am_M := (yX8_keepsRing, cX8_keepsRing, 5, some .boolean)
def t_X9_init : List ri_row := [(0, 0, 0, 0, [], 0, .aload_n 0, 1, 0),
  (59, 0, 1, 0, [], 1, .invokespecial 1, 3, 777),
  (0, 0, 0, 0, [], 4, .aload_n 0, 1, 0),
  (2, 0, 0, 60, [], 5, .bipush 60, 2, 0),
  (50, 0, 0, 0, [], 7, .newarray .int, 2, 0),
  (14, 9, 2, 2, [], 9, .putfield 7, 3, 784),
  (0, 0, 0, 0, [], 12, .aload_n 0, 1, 0),
  (2, 0, 0, 12, [], 13, .bipush 12, 2, 0),
  (50, 0, 0, 0, [], 15, .newarray .int, 2, 0),
  (14, 9, 4, 2, [], 17, .putfield 13, 3, 786),
  (0, 0, 0, 0, [], 20, .aload_n 0, 1, 0),
  (2, 0, 0, 720, [], 21, .sipush 720, 3, 0),
  (50, 0, 0, 0, [], 24, .newarray .int, 2, 0),
  (14, 9, 5, 2, [], 26, .putfield 16, 3, 787),
  (0, 0, 0, 0, [], 29, .aload_n 0, 1, 0),
  (2, 0, 0, 9, [], 30, .bipush 9, 2, 0),
  (50, 0, 0, 0, [], 32, .newarray .int, 2, 0),
  (14, 9, 6, 2, [], 34, .putfield 19, 3, 788),
  (0, 0, 0, 0, [], 37, .aload_n 0, 1, 0),
  (2, 0, 0, 540, [], 38, .sipush 540, 3, 0),
  (50, 0, 0, 0, [], 41, .newarray .int, 2, 0),
  (14, 9, 7, 2, [], 43, .putfield 22, 3, 789),
  (0, 0, 0, 0, [], 46, .aload_n 0, 1, 0),
  (2, 0, 0, 400, [], 47, .sipush 400, 3, 0),
  (50, 0, 0, 0, [], 50, .newarray .int, 2, 0),
  (14, 9, 8, 2, [], 52, .putfield 25, 3, 790),
  (0, 0, 0, 0, [], 55, .aload_n 0, 1, 0),
  (2, 0, 0, 400, [], 56, .sipush 400, 3, 0),
  (50, 0, 0, 0, [], 59, .newarray .int, 2, 0),
  (14, 9, 10, 2, [], 61, .putfield 28, 3, 792),
  (0, 0, 0, 0, [], 64, .aload_n 0, 1, 0),
  (2, 0, 0, 401, [], 65, .sipush 401, 3, 0),
  (50, 0, 0, 0, [], 68, .newarray .int, 2, 0),
  (14, 9, 12, 2, [], 70, .putfield 31, 3, 794),
  (0, 0, 0, 0, [], 73, .aload_n 0, 1, 0),
  (2, 0, 0, 3700, [], 74, .sipush 3700, 3, 0),
  (50, 0, 0, 0, [], 77, .newarray .int, 2, 0),
  (14, 9, 14, 2, [], 79, .putfield 34, 3, 796),
  (0, 0, 0, 0, [], 82, .aload_n 0, 1, 0),
  (2, 0, 0, 120, [], 83, .bipush 120, 2, 0),
  (50, 0, 0, 0, [], 85, .newarray .int, 2, 0),
  (14, 9, 16, 2, [], 87, .putfield 37, 3, 798),
  (0, 0, 0, 0, [], 90, .aload_n 0, 1, 0),
  (2, 0, 0, 4294967295, [], 91, .iconst (-1), 1, 0),
  (14, 9, 20, 0, [], 92, .putfield 40, 3, 802),
  (0, 0, 0, 0, [], 95, .aload_n 0, 1, 0),
  (2, 0, 0, 4, [], 96, .iconst 4, 1, 0),
  (50, 0, 0, 0, [], 97, .newarray .int, 2, 0),
  (14, 9, 21, 2, [], 99, .putfield 44, 3, 803),
  (0, 0, 0, 0, [], 102, .aload_n 0, 1, 0),
  (2, 0, 0, 600, [], 103, .sipush 600, 3, 0),
  (50, 0, 0, 0, [], 106, .newarray .int, 2, 0),
  (14, 9, 23, 2, [], 108, .putfield 47, 3, 805),
  (0, 0, 0, 0, [], 111, .aload_n 0, 1, 0),
  (2, 0, 0, 2400, [], 112, .sipush 2400, 3, 0),
  (50, 0, 0, 0, [], 115, .newarray .int, 2, 0),
  (14, 9, 25, 2, [], 117, .putfield 50, 3, 807),
  (0, 0, 0, 0, [], 120, .aload_n 0, 1, 0),
  (2, 0, 0, 6, [], 121, .bipush 6, 2, 0),
  (50, 0, 0, 0, [], 123, .newarray .int, 2, 0),
  (14, 9, 26, 2, [], 125, .putfield 53, 3, 808),
  (0, 0, 0, 0, [], 128, .aload_n 0, 1, 0),
  (2, 0, 0, 64, [], 129, .bipush 64, 2, 0),
  (51, 0, 0, 0, [], 131, .newarray .long, 2, 0),
  (14, 9, 27, 2, [], 133, .putfield 56, 3, 809),
  (0, 0, 0, 0, [], 136, .aload_n 0, 1, 0),
  (2, 0, 0, 2, [], 137, .iconst 2, 1, 0),
  (4, 112, 9, 1, [], 138, .invokevirtual 60, 3, 778),
  (21, 0, 0, 0, [], 141, .return_, 1, 0)]
def m_X9_init : am_M := (yX9_init, cX9_init, 1, none)
def m_X9_in : am_M := (yX9_in, cX9_in, 6, some .boolean)
def m_X9_bit : am_M := (yX9_bit, cX9_bit, 1, some .int)
def t_X9_lay : List ri_row := [(0, 0, 0, 0, [], 0, .aload_n 0, 1, 0),
  (1, 1, 0, 0, [], 1, .iload_n 1, 1, 0),
  (14, 9, 0, 0, [], 2, .putfield 64, 3, 782),
  (0, 0, 0, 0, [], 5, .aload_n 0, 1, 0),
  (2, 0, 0, 0, [], 6, .iconst 0, 1, 0),
  (14, 9, 1, 0, [], 7, .putfield 67, 3, 783),
  (0, 0, 0, 0, [], 10, .aload_n 0, 1, 0),
  (2, 0, 0, 0, [], 11, .iconst 0, 1, 0),
  (14, 9, 3, 0, [], 12, .putfield 70, 3, 785),
  (2, 0, 0, 0, [], 15, .iconst 0, 1, 0),
  (9, 2, 0, 0, [], 16, .istore_n 2, 1, 0),
  (1, 2, 0, 0, [], 17, .iload_n 2, 1, 0),
  (2, 0, 0, 9, [], 18, .bipush 9, 2, 0),
  (13, 21, 0, 0, [], 20, .if_icmp .ge 16, 3, 0),
  (0, 0, 0, 0, [], 23, .aload_n 0, 1, 0),
  (3, 9, 6, 0, [], 24, .getfield 19, 3, 788),
  (1, 2, 0, 0, [], 27, .iload_n 2, 1, 0),
  (2, 0, 0, 0, [], 28, .iconst 0, 1, 0),
  (22, 0, 0, 0, [], 29, .iastore, 1, 0),
  (16, 2, 0, 1, [], 30, .iinc 2 1, 3, 0),
  (6, 11, 0, 0, [], 33, .goto (-16), 3, 0),
  (21, 0, 0, 0, [], 36, .return_, 1, 0)]
def m_X9_lay : am_M := (yX9_lay, cX9_lay, 3, none)
def m_X9_skin : am_M := (yX9_skin, cX9_skin, 2, some .int)
def m_X9_twists : am_M := (yX9_twists, cX9_twists, 1, some .int)
def m_X9_isLetter : am_M := (yX9_isLetter, cX9_isLetter, 2, some .boolean)
def m_X9_letter : am_M := (yX9_letter, cX9_letter, 2, some .int)
def m_X9_ring : am_M := (yX9_ring, cX9_ring, 4, some .int)
def m_X9_noRing : am_M := (yX9_noRing, cX9_noRing, 2, some .boolean)
def m_X9_drop : am_M := (yX9_drop, cX9_drop, 1, some .int)
def m_X9_takeU : am_M := (yX9_takeU, cX9_takeU, 3, none)
def m_X9_takeV : am_M := (yX9_takeV, cX9_takeV, 3, none)
def m_X9_turnV : am_M := (yX9_turnV, cX9_turnV, 4, none)
def m_X9_ofU : am_M := (yX9_ofU, cX9_ofU, 2, some .int)
def m_X9_ofV : am_M := (yX9_ofV, cX9_ofV, 2, some .int)
def m_X9_isTurned : am_M := (yX9_isTurned, cX9_isTurned, 4, some .boolean)
def m_X9_areOne : am_M := (yX9_areOne, cX9_areOne, 1, some .boolean)
def m_X9_one : am_M := (yX9_one, cX9_one, 3, some .int)
def m_X9_isPower : am_M := (yX9_isPower, cX9_isPower, 6, some .boolean)
def m_X9_placeOf : am_M := (yX9_placeOf, cX9_placeOf, 4, some .int)
def m_X9_farFrom : am_M := (yX9_farFrom, cX9_farFrom, 4, some .int)
def m_X9_goRound : am_M := (yX9_goRound, cX9_goRound, 4, some .boolean)
def m_X9_meetAtOnce : am_M := (yX9_meetAtOnce, cX9_meetAtOnce, 6, some .boolean)
def m_X9_meetAlong : am_M := (yX9_meetAlong, cX9_meetAlong, 9, some .boolean)
def m_X9_countMeetings : am_M := (yX9_countMeetings, cX9_countMeetings, 9, some .int)
def m_X9_meetings : am_M := (yX9_meetings, cX9_meetings, 2, some .int)
def m_X9_meetingsOf : am_M := (yX9_meetingsOf, cX9_meetingsOf, 3, some .int)
def m_X9_isSimple : am_M := (yX9_isSimple, cX9_isSimple, 2, some .boolean)
def m_X9_meets : am_M := (yX9_meets, cX9_meets, 3, some .int)
def m_X9_told : am_M := (yX9_told, cX9_told, 3, some .int)
def m_X9_at : am_M := (yX9_at, cX9_at, 3, some .int)
def m_X9_heap : am_M := (yX9_heap, cX9_heap, 4, some .int)
def m_X9_put : am_M := (yX9_put, cX9_put, 2, none)
def m_X9_putC : am_M := (yX9_putC, cX9_putC, 6, none)
def m_X9_putImage : am_M := (yX9_putImage, cX9_putImage, 10, none)
def m_X9_twistRow : am_M := (yX9_twistRow, cX9_twistRow, 4, some .boolean)
def m_X9_imageRow : am_M := (yX9_imageRow, cX9_imageRow, 3, some .boolean)
def m_X9_takeLetter : am_M := (yX9_takeLetter, cX9_takeLetter, 2, none)
def m_X9_takeRing : am_M := (yX9_takeRing, cX9_takeRing, 3, none)
def m_X9_closeToU : am_M := (yX9_closeToU, cX9_closeToU, 4, none)
def m_X9_noPlan : am_M := (yX9_noPlan, cX9_noPlan, 2, some .boolean)
def m_X9_feed : am_M := (yX9_feed, cX9_feed, 5, some .int)
def m_X9_look : am_M := (yX9_look, cX9_look, 1, some .int)
def m_X9_want : am_M := (yX9_want, cX9_want, 4, some .boolean)
def m_X9_takeFigure : am_M := (yX9_takeFigure, cX9_takeFigure, 4, some .int)
def m_X9_readTwist : am_M := (yX9_readTwist, cX9_readTwist, 5, none)
def m_X9_closeBracket : am_M := (yX9_closeBracket, cX9_closeBracket, 7, none)
def m_X9_readItem : am_M := (yX9_readItem, cX9_readItem, 2, none)
def m_X9_read : am_M := (yX9_read, cX9_read, 5, some .int)
def m_X9_fault : am_M := (yX9_fault, cX9_fault, 1, some .int)
def m_X9_twist : am_M := (yX9_twist, cX9_twist, 3, some .int)
def m_X9_chain : am_M := (yX9_chain, cX9_chain, 6, some .int)
def m_X9_turn : am_M := (yX9_turn, cX9_turn, 5, some .int)
def m_X9_image : am_M := (yX9_image, cX9_image, 4, some .int)
def m_X9_carried : am_M := (yX9_carried, cX9_carried, 4, some .int)
def m_X9_meetsThen : am_M := (yX9_meetsThen, cX9_meetsThen, 4, some .int)
def m_X9_startImages : am_M := (yX9_startImages, cX9_startImages, 2, none)
def m_X9_goOn : am_M := (yX9_goOn, cX9_goOn, 4, some .boolean)
def m_X9_findImages : am_M := (yX9_findImages, cX9_findImages, 2, some .boolean)
def m_X9_isImage : am_M := (yX9_isImage, cX9_isImage, 4, some .boolean)
def m_X9_same : am_M := (yX9_same, cX9_same, 5, some .int)
def m_X9_putRim : am_M := (yX9_putRim, cX9_putRim, 4, none)
def m_X9_isTurns : am_M := (yX9_isTurns, cX9_isTurns, 6, some .boolean)
def m_X9_findTurns : am_M := (yX9_findTurns, cX9_findTurns, 2, some .int)
def m_X9_turns : am_M := (yX9_turns, cX9_turns, 2, some .int)
def m_X9_findOrder : am_M := (yX9_findOrder, cX9_findOrder, 4, some .int)
def m_X9_order : am_M := (yX9_order, cX9_order, 3, some .int)
def m_X9_tableOf : am_M := (yX9_tableOf, cX9_tableOf, 6, some .int)
def m_X9_table : am_M := (yX9_table, cX9_table, 4, some .int)
def m_X9_determinant : am_M := (yX9_determinant, cX9_determinant, 9, some .long)
def m_X9_onesOf : am_M := (yX9_onesOf, cX9_onesOf, 3, some .int)
def m_X9_character : am_M := (yX9_character, cX9_character, 6, some .long)
def m_X9_lengthNow : am_M := (yX9_lengthNow, cX9_lengthNow, 3, some .int)
def m_X9_length : am_M := (yX9_length, cX9_length, 4, some .int)
def m_X9_comesBack : am_M := (yX9_comesBack, cX9_comesBack, 5, some .boolean)
def m_X9_sort : am_M := (yX9_sort, cX9_sort, 8, some .int)
def m_X9_draftPlan : am_M := (yX9_draftPlan, cX9_draftPlan, 4, none)
def m_X9_isDraftLike : am_M := (yX9_isDraftLike, cX9_isDraftLike, 3, some .boolean)
def m_X9_law : am_M := (yX9_law, cX9_law, 6, some .int)
def m_X9_power : am_M := (yX9_power, cX9_power, 4, some .int)
def m_X9_numberPlan : am_M := (yX9_numberPlan, cX9_numberPlan, 5, none)
def m_X9_carries : am_M := (yX9_carries, cX9_carries, 3, some .boolean)
def m_X9_carry : am_M := (yX9_carry, cX9_carry, 8, some .int)
def m_X9_fewest : am_M := (yX9_fewest, cX9_fewest, 7, some .int)
def m_X9_count : am_M := (yX9_count, cX9_count, 2, some .int)
def m_J6_bitCount_0f7a4 : am_M := (yJ6_bitCount_0f7a4, cJ6_bitCount_0f7a4, 1, some .int)
def ri_m0d : ri_mi := (m_X0_init, 1, 2, t_X0_init)
def ri_m0 : List ri_mi := [(m_X0_init, 1, 2, t_X0_init), ri_m0d, ri_m0d, ri_m0d, ri_m0d, ri_m0d, ri_m0d, ri_m0d, ri_m0d, ri_m0d, (m_X1_init, 0, 2, t_X1_init), ri_m0d, ri_m0d, ri_m0d]
def ri_m1 : List ri_mi := [ri_m0d, ri_m0d, ri_m0d, (m_X2_init, 0, 2, t_X2_init), ri_m0d, ri_m0d, ri_m0d, ri_m0d, ri_m0d, (m_X3_init, 0, 2, t_X3_init), ri_m0d, ri_m0d, (m_X4_init, 1, 2, t_X4_init), (m_X4_push, 1, 1, t_X4_push)]
def ri_m2 : List ri_mi := [ri_m0d, ri_m0d, (m_X4_becomeBack, 1, 1, t_X4_becomeBack), ri_m0d, ri_m0d, ri_m0d, ri_m0d, ri_m0d, ri_m0d, ri_m0d, ri_m0d, ri_m0d, ri_m0d, (m_X5_init, 2, 2, t_X5_init)]
def ri_m3 : List ri_mi := [ri_m0d, ri_m0d, ri_m0d, ri_m0d, ri_m0d, ri_m0d, (m_X6_init, 0, 2, t_X6_init), ri_m0d, ri_m0d, ri_m0d, ri_m0d, ri_m0d, ri_m0d, ri_m0d]
def ri_m4 : List ri_mi := [(m_X7_init, 0, 2, t_X7_init), (m_X7_layOut, 1, 1, t_X7_layOut), (m_X7_layWord, 3, 1, t_X7_layWord), (m_X7_spellFirst, 3, 1, t_X7_spellFirst), (m_X7_spellSecond, 3, 1, t_X7_spellSecond), (m_X7_spellThird, 3, 1, t_X7_spellThird), (m_X7_spellBetween, 2, 1, t_X7_spellBetween), (m_X7_slotOf, 2, 0, t_X7_slotOf), (m_X7_keepWord, 3, 1, t_X7_keepWord), ri_m0d, ri_m0d, (m_X8_init, 0, 2, t_X8_init), ri_m0d, ri_m0d]
def ri_m5 : List ri_mi := [ri_m0d, ri_m0d, ri_m0d, ri_m0d, ri_m0d, ri_m0d, ri_m0d, ri_m0d, ri_m0d, ri_m0d, ri_m0d, ri_m0d, ri_m0d, ri_m0d]
def ri_m6 : List ri_mi := [ri_m0d, ri_m0d, ri_m0d, ri_m0d, ri_m0d, ri_m0d, ri_m0d, ri_m0d, ri_m0d, ri_m0d, ri_m0d, ri_m0d, ri_m0d, (m_X8_layOut, 1, 1, t_X8_layOut)]
def ri_m7 : List ri_mi := [ri_m0d, ri_m0d, ri_m0d, ri_m0d, ri_m0d, ri_m0d, ri_m0d, ri_m0d, ri_m0d, ri_m0d, ri_m0d, (m_X9_init, 0, 2, t_X9_init), ri_m0d, ri_m0d]
def ri_m8 : List ri_mi := [(m_X9_lay, 1, 1, t_X9_lay), ri_m0d, ri_m0d, ri_m0d, ri_m0d, ri_m0d, ri_m0d, ri_m0d, ri_m0d, ri_m0d, ri_m0d, ri_m0d, ri_m0d, ri_m0d]
def ri_m9 : List ri_mi := [ri_m0d, ri_m0d, ri_m0d, ri_m0d, ri_m0d, ri_m0d, ri_m0d, ri_m0d, ri_m0d, ri_m0d, ri_m0d, ri_m0d, ri_m0d, ri_m0d]
def ri_m10 : List ri_mi := [ri_m0d, ri_m0d, ri_m0d, ri_m0d, ri_m0d, ri_m0d, ri_m0d, ri_m0d, ri_m0d, ri_m0d, ri_m0d, ri_m0d, ri_m0d, ri_m0d]
def ri_m11 : List ri_mi := [ri_m0d, ri_m0d, ri_m0d, ri_m0d, ri_m0d, ri_m0d, ri_m0d, ri_m0d, ri_m0d, ri_m0d, ri_m0d, ri_m0d, ri_m0d, ri_m0d]
def ri_m12 : List ri_mi := [ri_m0d, ri_m0d, ri_m0d, ri_m0d, ri_m0d, ri_m0d, ri_m0d, ri_m0d, ri_m0d, ri_m0d, ri_m0d, ri_m0d, ri_m0d, ri_m0d]
def ri_m13 : List ri_mi := [ri_m0d, ri_m0d, ri_m0d, ri_m0d, ri_m0d, ri_m0d, ri_m0d, ri_m0d, ri_m0d, ri_m0d, ri_m0d, ri_m0d, ri_m0d, ri_m0d]
def ri_ms : List (List ri_mi) := [ri_m0, ri_m1, ri_m2, ri_m3, ri_m4, ri_m5, ri_m6, ri_m7, ri_m8, ri_m9, ri_m10, ri_m11, ri_m12, ri_m13]
def ri_M (j : Nat) : ri_mi := ri_nthD ri_m0d (ri_nthD [] ri_ms (j / 14)) (j % 14)
end
