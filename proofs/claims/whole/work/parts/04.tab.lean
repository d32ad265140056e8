/-! the tables of the abstract machine: classes, methods, links, constants; each with its place among the words lw_tbl (by program) -/
def am_cn (c : Nat) : String := ([RX0, RX1, RX2, RX3, RX4, RX5, RX6, RX7, RX8, RX9, RX10, RX11, RJ9, RL] : List String).getD c ""
abbrev zX0_arrange : Nat := 0
abbrev zX0_chooseNext : Nat := 1
abbrev zX0_rankOf : Nat := 2
abbrev zX0_renumberIndices : Nat := 3
abbrev zX0_moveColors : Nat := 4
abbrev zX1_collect : Nat := 5
abbrev zX1_rank : Nat := 6
abbrev zX1_rankedColor : Nat := 7
abbrev zX1_rankedNumber : Nat := 8
abbrev zX2_record : Nat := 9
abbrev zX2_restore : Nat := 10
abbrev zX3_assign : Nat := 11
abbrev zX3_shifted : Nat := 12
abbrev zX3_diffuse : Nat := 13
abbrev zX3_visit : Nat := 14
abbrev zX3_wantedValue : Nat := 15
abbrev zX3_spreadInFour : Nat := 16
abbrev zX3_spreadInSix : Nat := 17
abbrev zX3_give : Nat := 18
abbrev zX4_fill : Nat := 19
abbrev zX4_makeFirstBox : Nat := 20
abbrev zX4_cellColor : Nat := 21
abbrev zX4_cellNumber : Nat := 22
abbrev zX4_chooseBox : Nat := 23
abbrev zX4_measure : Nat := 24
abbrev zX4_pixelsIn : Nat := 25
abbrev zX4_range : Nat := 26
abbrev zX4_widestChannel : Nat := 27
abbrev zX4_sum : Nat := 28
abbrev zX4_spread : Nat := 29
abbrev zX4_meanColor : Nat := 30
abbrev zX4_split : Nat := 31
abbrev zX4_order : Nat := 32
abbrev zX4_middleOf : Nat := 33
abbrev zX5_moveToMeans : Nat := 34
abbrev zX5_sumChannels : Nat := 35
abbrev zX5_mergeDownTo : Nat := 36
abbrev zX5_findCheapestPair : Nat := 37
abbrev zX5_cost : Nat := 38
abbrev zX5_joinPair : Nat := 39
abbrev zX5_mixedColor : Nat := 40
abbrev zX6_totalError : Nat := 41
abbrev zX6_worstPixel : Nat := 42
abbrev zX6_meanErrorBits : Nat := 43
abbrev zX6_bitsOf : Nat := 44
abbrev zX6_indexRuns : Nat := 45
abbrev zX6_bitsPerIndex : Nat := 46
abbrev zX6_bytesPerRow : Nat := 47
abbrev zX6_packedBytes : Nat := 48
abbrev zX6_packedByte : Nat := 49
abbrev zX7_copyFrom : Nat := 50
abbrev zX7_area : Nat := 51
abbrev zX7_contains : Nat := 52
abbrev zX7_place : Nat := 53
abbrev zX7_isOpaque : Nat := 54
abbrev zX7_opaquePixels : Nat := 55
abbrev zX7_fillArea : Nat := 56
abbrev zX7_addNoise : Nat := 57
abbrev zX7_hasEntry : Nat := 58
abbrev zX7_lockedEntries : Nat := 59
abbrev zX7_append : Nat := 60
abbrev zX7_dropEntry : Nat := 61
abbrev zX7_keepLocked : Nat := 62
abbrev zX7_isLockedColor : Nat := 63
abbrev zX7_exchange : Nat := 64
abbrev zX7_distance : Nat := 65
abbrev zX7_closestEntry : Nat := 66
abbrev zX7_timesIndexed : Nat := 67
abbrev zX7_usedEntries : Nat := 68
abbrev zX7_errorAt : Nat := 69
abbrev zX8_takeStock : Nat := 70
abbrev zX8_look : Nat := 71
abbrev zX8_cheapestEntry : Nat := 72
abbrev zX8_gainOf : Nat := 73
abbrev zX9_append : Nat := 74
abbrev zX9_parse : Nat := 75
abbrev zX9_digitsFrom : Nat := 76
abbrev zX9_shortColor : Nat := 77
abbrev zX9_longColor : Nat := 78
abbrev zX9_digitAt : Nat := 79
abbrev zX10_image : Nat := 80
abbrev zX10_paint : Nat := 81
abbrev zX10_gradient : Nat := 82
abbrev zX10_noise : Nat := 83
abbrev zX10_pixel : Nat := 84
abbrev zX10_colors : Nat := 85
abbrev zX10_color : Nat := 86
abbrev zX10_add : Nat := 87
abbrev zX10_remove : Nat := 88
abbrev zX10_lock : Nat := 89
abbrev zX10_swap : Nat := 90
abbrev zX10_setMetric : Nat := 91
abbrev zX10_entry : Nat := 92
abbrev zX10_nearest : Nat := 93
abbrev zX10_type : Nat := 94
abbrev zX10_clearText : Nat := 95
abbrev zX10_fault : Nat := 96
abbrev zX10_load : Nat := 97
abbrev zX10_build : Nat := 98
abbrev zX10_refine : Nat := 99
abbrev zX10_merge : Nat := 100
abbrev zX10_sort : Nat := 101
abbrev zX10_map : Nat := 102
abbrev zX10_index : Nat := 103
abbrev zX10_error : Nat := 104
abbrev zX10_worst : Nat := 105
abbrev zX10_meanError : Nat := 106
abbrev zX10_runs : Nat := 107
abbrev zX10_packed : Nat := 108
abbrev zX10_bestError : Nat := 109
abbrev zX10_loss : Nat := 110
abbrev zX10_cheapest : Nat := 111
abbrev zX10_gain : Nat := 112
abbrev zX10_bestAddition : Nat := 113
abbrev zX10_undo : Nat := 114
abbrev zX10_count : Nat := 115
abbrev zX10_digest : Nat := 116
abbrev zX10_mixEntries : Nat := 117
abbrev zX10_mixAll : Nat := 118
abbrev zX10_mix : Nat := 119
abbrev zX10_beginRemake : Nat := 120
abbrev zX10_isWithin : Nat := 121
abbrev zX10_isColor : Nat := 122
abbrev zX10_channelOf : Nat := 123
abbrev zX10_colorOf : Nat := 124
abbrev zX10_limited : Nat := 125
abbrev zX10_blend : Nat := 126
abbrev zX10_mean : Nat := 127
abbrev zX10_sortKeys : Nat := 128
abbrev zX11_in : Nat := 129
abbrev zX11_isColor : Nat := 130
abbrev zX11_channel : Nat := 131
abbrev zX11_limited : Nat := 132
abbrev zX11_pixels : Nat := 133
abbrev zX11_isOpaque : Nat := 134
abbrev zX11_opaque : Nat := 135
abbrev zX11_isPixel : Nat := 136
abbrev zX11_isEntry : Nat := 137
abbrev zX11_isLocked : Nat := 138
abbrev zX11_distance : Nat := 139
abbrev zX11_nearestBut : Nat := 140
abbrev zX11_near : Nat := 141
abbrev zX11_keeps : Nat := 142
abbrev zX11_undo : Nat := 143
abbrev zX11_image : Nat := 144
abbrev zX11_paint : Nat := 145
abbrev zX11_step : Nat := 146
abbrev zX11_gradient : Nat := 147
abbrev zX11_noise : Nat := 148
abbrev zX11_pixel : Nat := 149
abbrev zX11_placeOf : Nat := 150
abbrev zX11_gathers : Nat := 151
abbrev zX11_isLockedColor : Nat := 152
abbrev zX11_colors : Nat := 153
abbrev zX11_rank : Nat := 154
abbrev zX11_color : Nat := 155
abbrev zX11_adds : Nat := 156
abbrev zX11_removes : Nat := 157
abbrev zX11_add : Nat := 158
abbrev zX11_remove : Nat := 159
abbrev zX11_lock : Nat := 160
abbrev zX11_rearranges : Nat := 161
abbrev zX11_swap : Nat := 162
abbrev zX11_setMetric : Nat := 163
abbrev zX11_counts : Nat := 164
abbrev zX11_indexed : Nat := 165
abbrev zX11_entry : Nat := 166
abbrev zX11_nearest : Nat := 167
abbrev zX11_type : Nat := 168
abbrev zX11_clearText : Nat := 169
abbrev zX11_digitAt : Nat := 170
abbrev zX11_readsDigits : Nat := 171
abbrev zX11_fault : Nat := 172
abbrev zX11_load : Nat := 173
abbrev zX11_colorsIn : Nat := 174
abbrev zX11_pixelsIn : Nat := 175
abbrev zX11_rangeOf : Nat := 176
abbrev zX11_widest : Nat := 177
abbrev zX11_spread : Nat := 178
abbrev zX11_measure : Nat := 179
abbrev zX11_greatest : Nat := 180
abbrev zX11_before : Nat := 181
abbrev zX11_colorOfRank : Nat := 182
abbrev zX11_splits : Nat := 183
abbrev zX11_meanOf : Nat := 184
abbrev zX11_locked : Nat := 185
abbrev zX11_build : Nat := 186
abbrev zX11_rounds : Nat := 187
abbrev zX11_refine : Nat := 188
abbrev zX11_costOf : Nat := 189
abbrev zX11_mergedColor : Nat := 190
abbrev zX11_mergesTwo : Nat := 191
abbrev zX11_merge : Nat := 192
abbrev zX11_keyOf : Nat := 193
abbrev zX11_nextEntry : Nat := 194
abbrev zX11_sort : Nat := 195
abbrev zX11_element : Nat := 196
abbrev zX11_dithered : Nat := 197
abbrev zX11_down : Nat := 198
abbrev zX11_gives : Nat := 199
abbrev zX11_spreads : Nat := 200
abbrev zX11_visits : Nat := 201
abbrev zX11_diffuses : Nat := 202
abbrev zX11_map : Nat := 203
abbrev zX11_index : Nat := 204
abbrev zX11_errorOf : Nat := 205
abbrev zX11_error : Nat := 206
abbrev zX11_worst : Nat := 207
abbrev zX11_bitsOf : Nat := 208
abbrev zX11_meanError : Nat := 209
abbrev zX11_runs : Nat := 210
abbrev zX11_packed : Nat := 211
abbrev zX11_bestBut : Nat := 212
abbrev zX11_bestError : Nat := 213
abbrev zX11_loss : Nat := 214
abbrev zX11_cheapest : Nat := 215
abbrev zX11_gainOf : Nat := 216
abbrev zX11_gain : Nat := 217
abbrev zX11_bestAddition : Nat := 218
abbrev zX11_count : Nat := 219
abbrev zX11_mixes : Nat := 220
abbrev zX11_digest : Nat := 221
abbrev zJ9_floorDiv_7cf53 : Nat := 222
abbrev zJ9_max_7cf53 : Nat := 223
abbrev zJ9_min_7cf53 : Nat := 224
abbrev am_mI : Type := MethodName × ByteArray × Nat × Option FieldType × Nat × Bool × Nat × Nat × Nat × Nat × Nat
/-- what the tables' words say of a method of the list -/
def am_mokB (q : am_mI) : Bool := match q with
  | (y, cc, maxL, ret, ci, st, np, p0, p1, p2, p3) => decide (lw_tbl[p0]? = some (Cond.code y cc maxL ret)) && decide (lw_tbl[p1]? = some (Cond.initialized y.cls)) && (if st = true then decide (lw_tbl[p2]? = some (Cond.static y)) else decide (lw_tbl[p2]? = some (Cond.instanceMethod y)) && decide (lw_tbl[p3]? = some (Cond.selects y.cls y y))) && decide (maxL ≤ 19) && plainFor y && decide (y.cls = am_cn ci) && decide (y.cls ≠ "java/lang/invoke/MethodHandle" ∧ y.cls ≠ "java/lang/invoke/VarHandle") && decide ((parseMethodDescriptor y.desc).map (fun d => d.parameters.length) = some np)
def am_ms0 : List am_mI := [(yX0_arrange, cX0_arrange, 4, (some .int), 0, false, 1, 775, 92, 773, 774),
  (yX0_chooseNext, cX0_chooseNext, 7, (some .int), 0, false, 2, 780, 92, 779, 23),
  (yX0_rankOf, cX0_rankOf, 5, (some .int), 0, false, 3, 784, 92, 783, 24),
  (yX0_renumberIndices, cX0_renumberIndices, 3, none, 0, false, 0, 791, 92, 790, 25),
  (yX0_moveColors, cX0_moveColors, 4, (some .int), 0, false, 0, 796, 92, 795, 26),
  (yX1_collect, cX1_collect, 4, none, 1, false, 0, 500, 88, 498, 499),
  (yX1_rank, cX1_rank, 2, none, 1, false, 0, 513, 88, 511, 512),
  (yX1_rankedColor, cX1_rankedColor, 2, (some .int), 1, false, 1, 518, 88, 516, 517),
  (yX1_rankedNumber, cX1_rankedNumber, 2, (some .int), 1, false, 1, 522, 88, 520, 521),
  (yX2_record, cX2_record, 2, none, 2, false, 1, 414, 86, 412, 413),
  (yX2_restore, cX2_restore, 2, (some .boolean), 2, false, 1, 960, 86, 958, 959),
  (yX3_assign, cX3_assign, 6, none, 3, false, 1, 805, 93, 803, 804),
  (yX3_shifted, cX3_shifted, 2, (some .int), 3, true, 2, 812, 93, 811, 0),
  (yX3_diffuse, cX3_diffuse, 5, none, 3, false, 1, 820, 93, 818, 819),
  (yX3_visit, cX3_visit, 10, none, 3, false, 4, 825, 93, 824, 27),
  (yX3_wantedValue, cX3_wantedValue, 3, (some .int), 3, false, 2, 829, 93, 828, 28),
  (yX3_spreadInFour, cX3_spreadInFour, 9, none, 3, false, 5, 837, 93, 836, 29),
  (yX3_spreadInSix, cX3_spreadInSix, 7, none, 3, false, 5, 846, 93, 845, 31),
  (yX3_give, cX3_give, 5, none, 3, false, 4, 841, 93, 840, 30),
  (yX4_fill, cX4_fill, 6, none, 4, false, 2, 653, 90, 651, 652)]
set_option maxRecDepth 100000 in
theorem am_ms0_ok : am_ms0.all am_mokB = true := by decide +kernel
def am_ms1 : List am_mI := [(yX4_makeFirstBox, cX4_makeFirstBox, 4, none, 4, false, 1, 658, 90, 657, 6),
  (yX4_cellColor, cX4_cellColor, 2, (some .int), 4, true, 1, 690, 90, 689, 0),
  (yX4_cellNumber, cX4_cellNumber, 2, (some .int), 4, true, 1, 679, 90, 678, 0),
  (yX4_chooseBox, cX4_chooseBox, 8, (some .int), 4, false, 1, 668, 90, 667, 7),
  (yX4_measure, cX4_measure, 3, (some .long), 4, false, 2, 672, 90, 671, 8),
  (yX4_pixelsIn, cX4_pixelsIn, 4, (some .int), 4, false, 1, 676, 90, 675, 9),
  (yX4_range, cX4_range, 7, (some .int), 4, false, 2, 687, 90, 686, 11),
  (yX4_widestChannel, cX4_widestChannel, 4, (some .int), 4, false, 1, 683, 90, 682, 10),
  (yX4_sum, cX4_sum, 5, (some .int), 4, false, 2, 700, 90, 699, 13),
  (yX4_spread, cX4_spread, 8, (some .long), 4, false, 2, 696, 90, 695, 12),
  (yX4_meanColor, cX4_meanColor, 3, (some .int), 4, false, 1, 718, 90, 717, 17),
  (yX4_split, cX4_split, 3, none, 4, false, 1, 704, 90, 703, 14),
  (yX4_order, cX4_order, 4, none, 4, false, 2, 708, 90, 707, 15),
  (yX4_middleOf, cX4_middleOf, 5, (some .int), 4, false, 1, 714, 90, 713, 16),
  (yX5_moveToMeans, cX5_moveToMeans, 6, (some .boolean), 5, false, 0, 731, 91, 729, 730),
  (yX5_sumChannels, cX5_sumChannels, 4, none, 5, false, 0, 736, 91, 735, 18),
  (yX5_mergeDownTo, cX5_mergeDownTo, 3, none, 5, false, 1, 749, 91, 747, 748),
  (yX5_findCheapestPair, cX5_findCheapestPair, 8, (some .boolean), 5, false, 0, 753, 91, 752, 19),
  (yX5_cost, cX5_cost, 7, (some .long), 5, false, 2, 757, 91, 756, 20),
  (yX5_joinPair, cX5_joinPair, 1, none, 5, false, 0, 762, 91, 761, 21)]
set_option maxRecDepth 100000 in
theorem am_ms1_ok : am_ms1.all am_mokB = true := by decide +kernel
def am_ms2 : List am_mI := [(yX5_mixedColor, cX5_mixedColor, 7, (some .int), 5, false, 0, 766, 91, 765, 22),
  (yX6_totalError, cX6_totalError, 3, (some .int), 6, false, 0, 863, 94, 861, 862),
  (yX6_worstPixel, cX6_worstPixel, 6, (some .int), 6, false, 0, 877, 94, 875, 876),
  (yX6_meanErrorBits, cX6_meanErrorBits, 2, (some .int), 6, false, 0, 886, 94, 884, 885),
  (yX6_bitsOf, cX6_bitsOf, 3, (some .int), 6, true, 1, 891, 94, 890, 0),
  (yX6_indexRuns, cX6_indexRuns, 3, (some .int), 6, false, 0, 901, 94, 899, 900),
  (yX6_bitsPerIndex, cX6_bitsPerIndex, 3, (some .int), 6, false, 0, 913, 94, 912, 32),
  (yX6_bytesPerRow, cX6_bytesPerRow, 2, (some .int), 6, false, 1, 918, 94, 917, 33),
  (yX6_packedBytes, cX6_packedBytes, 1, (some .int), 6, false, 0, 909, 94, 907, 908),
  (yX6_packedByte, cX6_packedByte, 10, (some .int), 6, false, 1, 922, 94, 920, 921),
  (yX7_copyFrom, cX7_copyFrom, 3, none, 7, false, 1, 418, 85, 416, 417),
  (yX7_area, cX7_area, 1, (some .int), 7, false, 0, 437, 85, 435, 436),
  (yX7_contains, cX7_contains, 3, (some .boolean), 7, false, 2, 429, 85, 427, 428),
  (yX7_place, cX7_place, 3, (some .int), 7, false, 2, 433, 85, 431, 432),
  (yX7_isOpaque, cX7_isOpaque, 2, (some .boolean), 7, false, 1, 469, 85, 467, 468),
  (yX7_opaquePixels, cX7_opaquePixels, 3, (some .int), 7, false, 0, 487, 85, 485, 486),
  (yX7_fillArea, cX7_fillArea, 8, none, 7, false, 5, 425, 85, 423, 424),
  (yX7_addNoise, cX7_addNoise, 10, none, 7, false, 2, 464, 85, 462, 463),
  (yX7_hasEntry, cX7_hasEntry, 2, (some .boolean), 7, false, 1, 538, 85, 536, 537),
  (yX7_lockedEntries, cX7_lockedEntries, 3, (some .int), 7, false, 0, 644, 85, 642, 643)]
set_option maxRecDepth 100000 in
theorem am_ms2_ok : am_ms2.all am_mokB = true := by decide +kernel
def am_ms3 : List am_mI := [(yX7_append, cX7_append, 3, none, 7, false, 2, 530, 85, 528, 529),
  (yX7_dropEntry, cX7_dropEntry, 3, none, 7, false, 1, 542, 85, 540, 541),
  (yX7_keepLocked, cX7_keepLocked, 3, none, 7, false, 0, 648, 85, 646, 647),
  (yX7_isLockedColor, cX7_isLockedColor, 3, (some .boolean), 7, false, 1, 663, 85, 661, 662),
  (yX7_exchange, cX7_exchange, 6, none, 7, false, 2, 555, 85, 553, 554),
  (yX7_distance, cX7_distance, 6, (some .int), 7, false, 2, 581, 85, 579, 580),
  (yX7_closestEntry, cX7_closestEntry, 6, (some .int), 7, false, 1, 590, 85, 588, 589),
  (yX7_timesIndexed, cX7_timesIndexed, 4, (some .int), 7, false, 1, 567, 85, 565, 566),
  (yX7_usedEntries, cX7_usedEntries, 3, (some .int), 7, false, 0, 850, 85, 848, 849),
  (yX7_errorAt, cX7_errorAt, 2, (some .int), 7, false, 1, 869, 85, 867, 868),
  (yX8_takeStock, cX8_takeStock, 2, none, 8, false, 0, 571, 89, 569, 570),
  (yX8_look, cX8_look, 8, none, 8, false, 1, 577, 89, 576, 1),
  (yX8_cheapestEntry, cX8_cheapestEntry, 3, (some .int), 8, false, 0, 939, 89, 937, 938),
  (yX8_gainOf, cX8_gainOf, 4, (some .int), 8, false, 1, 947, 89, 945, 946),
  (yX9_append, cX9_append, 2, (some .boolean), 9, false, 1, 600, 87, 598, 599),
  (yX9_parse, cX9_parse, 4, (some .int), 9, false, 0, 612, 87, 610, 611),
  (yX9_digitsFrom, cX9_digitsFrom, 3, (some .int), 9, false, 1, 616, 87, 615, 2),
  (yX9_shortColor, cX9_shortColor, 2, (some .int), 9, false, 1, 624, 87, 623, 4),
  (yX9_longColor, cX9_longColor, 4, (some .int), 9, false, 1, 632, 87, 631, 5),
  (yX9_digitAt, cX9_digitAt, 3, (some .int), 9, false, 1, 620, 87, 619, 3)]
set_option maxRecDepth 100000 in
theorem am_ms3_ok : am_ms3.all am_mokB = true := by decide +kernel
def am_ms4 : List am_mI := [(yX10_image, cX10_image, 3, (some .int), 10, false, 2, 403, 84, 401, 402),
  (yX10_paint, cX10_paint, 6, (some .int), 10, false, 5, 441, 84, 439, 440),
  (yX10_gradient, cX10_gradient, 7, (some .int), 10, false, 3, 447, 84, 445, 446),
  (yX10_noise, cX10_noise, 3, (some .int), 10, false, 2, 460, 84, 458, 459),
  (yX10_pixel, cX10_pixel, 3, (some .int), 10, false, 2, 491, 84, 489, 490),
  (yX10_colors, cX10_colors, 1, (some .int), 10, false, 0, 496, 84, 494, 495),
  (yX10_color, cX10_color, 3, (some .int), 10, false, 2, 509, 84, 507, 508),
  (yX10_add, cX10_add, 3, (some .int), 10, false, 2, 526, 84, 524, 525),
  (yX10_remove, cX10_remove, 3, (some .int), 10, false, 1, 534, 84, 532, 533),
  (yX10_lock, cX10_lock, 4, (some .int), 10, false, 2, 547, 84, 545, 546),
  (yX10_swap, cX10_swap, 4, (some .int), 10, false, 2, 551, 84, 549, 550),
  (yX10_setMetric, cX10_setMetric, 3, (some .int), 10, false, 1, 559, 84, 557, 558),
  (yX10_entry, cX10_entry, 3, (some .int), 10, false, 2, 563, 84, 561, 562),
  (yX10_nearest, cX10_nearest, 2, (some .int), 10, false, 1, 586, 84, 584, 585),
  (yX10_type, cX10_type, 2, (some .int), 10, false, 1, 596, 84, 594, 595),
  (yX10_clearText, cX10_clearText, 2, (some .int), 10, false, 0, 604, 84, 602, 603),
  (yX10_fault, cX10_fault, 1, (some .int), 10, false, 0, 608, 84, 606, 607),
  (yX10_load, cX10_load, 2, (some .int), 10, false, 0, 636, 84, 634, 635),
  (yX10_build, cX10_build, 3, (some .int), 10, false, 2, 640, 84, 638, 639),
  (yX10_refine, cX10_refine, 3, (some .int), 10, false, 1, 727, 84, 725, 726)]
set_option maxRecDepth 100000 in
theorem am_ms4_ok : am_ms4.all am_mokB = true := by decide +kernel
def am_ms5 : List am_mI := [(yX10_merge, cX10_merge, 2, (some .int), 10, false, 1, 745, 84, 743, 744),
  (yX10_sort, cX10_sort, 2, (some .int), 10, false, 1, 771, 84, 769, 770),
  (yX10_map, cX10_map, 3, (some .int), 10, false, 2, 801, 84, 799, 800),
  (yX10_index, cX10_index, 3, (some .int), 10, false, 2, 855, 84, 853, 854),
  (yX10_error, cX10_error, 1, (some .int), 10, false, 0, 859, 84, 857, 858),
  (yX10_worst, cX10_worst, 1, (some .int), 10, false, 0, 873, 84, 871, 872),
  (yX10_meanError, cX10_meanError, 1, (some .int), 10, false, 0, 882, 84, 880, 881),
  (yX10_runs, cX10_runs, 1, (some .int), 10, false, 0, 897, 84, 895, 896),
  (yX10_packed, cX10_packed, 2, (some .int), 10, false, 1, 905, 84, 903, 904),
  (yX10_bestError, cX10_bestError, 1, (some .int), 10, false, 0, 927, 84, 925, 926),
  (yX10_loss, cX10_loss, 2, (some .int), 10, false, 1, 931, 84, 929, 930),
  (yX10_cheapest, cX10_cheapest, 1, (some .int), 10, false, 0, 935, 84, 933, 934),
  (yX10_gain, cX10_gain, 2, (some .int), 10, false, 1, 943, 84, 941, 942),
  (yX10_bestAddition, cX10_bestAddition, 5, (some .int), 10, false, 0, 952, 84, 950, 951),
  (yX10_undo, cX10_undo, 1, (some .int), 10, false, 0, 956, 84, 954, 955),
  (yX10_count, cX10_count, 2, (some .int), 10, false, 1, 964, 84, 962, 963),
  (yX10_digest, cX10_digest, 4, (some .long), 10, false, 0, 968, 84, 966, 967),
  (yX10_mixEntries, cX10_mixEntries, 6, (some .long), 10, false, 1, 981, 84, 980, 34),
  (yX10_mixAll, cX10_mixAll, 7, (some .long), 10, true, 3, 977, 84, 976, 0),
  (yX10_mix, cX10_mix, 3, (some .long), 10, true, 2, 973, 84, 972, 0)]
set_option maxRecDepth 100000 in
theorem am_ms5_ok : am_ms5.all am_mokB = true := by decide +kernel
def am_ms6 : List am_mI := [(yX10_beginRemake, cX10_beginRemake, 1, none, 10, false, 0, 410, 84, 409, 0),
  (yX10_isWithin, cX10_isWithin, 3, (some .boolean), 10, true, 3, 406, 84, 405, 0),
  (yX10_isColor, cX10_isColor, 1, (some .boolean), 10, true, 1, 450, 84, 449, 0),
  (yX10_channelOf, cX10_channelOf, 2, (some .int), 10, true, 2, 456, 84, 455, 0),
  (yX10_colorOf, cX10_colorOf, 3, (some .int), 10, true, 3, 627, 84, 626, 0),
  (yX10_limited, cX10_limited, 1, (some .int), 10, true, 1, 477, 84, 476, 0),
  (yX10_blend, cX10_blend, 7, (some .int), 10, true, 4, 453, 84, 452, 0),
  (yX10_mean, cX10_mean, 2, (some .int), 10, true, 2, 721, 84, 720, 0),
  (yX10_sortKeys, cX10_sortKeys, 8, none, 10, true, 3, 505, 84, 504, 0),
  (yX11_in, cX11_in, 3, (some .boolean), 11, true, 3, 1062, 95, 1061, 0),
  (yX11_isColor, cX11_isColor, 1, (some .boolean), 11, true, 1, 1077, 95, 1076, 0),
  (yX11_channel, cX11_channel, 2, (some .int), 11, true, 2, 1089, 95, 1088, 0),
  (yX11_limited, cX11_limited, 1, (some .int), 11, true, 1, 1108, 95, 1107, 0),
  (yX11_pixels, cX11_pixels, 1, (some .int), 11, false, 0, 1086, 95, 1085, 37),
  (yX11_isOpaque, cX11_isOpaque, 2, (some .boolean), 11, false, 1, 1100, 95, 1099, 38),
  (yX11_opaque, cX11_opaque, 3, (some .int), 11, false, 0, 1112, 95, 1111, 39),
  (yX11_isPixel, cX11_isPixel, 3, (some .boolean), 11, false, 2, 1074, 95, 1073, 36),
  (yX11_isEntry, cX11_isEntry, 2, (some .boolean), 11, false, 1, 1160, 95, 1159, 46),
  (yX11_isLocked, cX11_isLocked, 2, (some .boolean), 11, false, 1, 1132, 95, 1131, 42),
  (yX11_distance, cX11_distance, 6, (some .int), 11, false, 2, 1200, 95, 1199, 52)]
set_option maxRecDepth 100000 in
theorem am_ms6_ok : am_ms6.all am_mokB = true := by decide +kernel
def am_ms7 : List am_mI := [(yX11_nearestBut, cX11_nearestBut, 6, (some .int), 11, false, 2, 1196, 95, 1195, 51),
  (yX11_near, cX11_near, 2, (some .int), 11, false, 1, 1192, 95, 1191, 50),
  (yX11_keeps, cX11_keeps, 3, none, 11, false, 1, 1066, 95, 1065, 35),
  (yX11_undo, cX11_undo, 2, (some .int), 11, false, 0, 1055, 95, 1053, 1054),
  (yX11_image, cX11_image, 4, (some .int), 11, false, 2, 1059, 95, 1057, 1058),
  (yX11_paint, cX11_paint, 9, (some .int), 11, false, 5, 1070, 95, 1068, 1069),
  (yX11_step, cX11_step, 4, (some .int), 11, true, 4, 1092, 95, 1091, 0),
  (yX11_gradient, cX11_gradient, 9, (some .int), 11, false, 3, 1082, 95, 1080, 1081),
  (yX11_noise, cX11_noise, 9, (some .int), 11, false, 2, 1096, 95, 1094, 1095),
  (yX11_pixel, cX11_pixel, 3, (some .int), 11, false, 2, 1116, 95, 1114, 1115),
  (yX11_placeOf, cX11_placeOf, 4, (some .int), 11, false, 1, 1136, 95, 1135, 43),
  (yX11_gathers, cX11_gathers, 5, none, 11, false, 1, 1124, 95, 1123, 40),
  (yX11_isLockedColor, cX11_isLockedColor, 4, (some .boolean), 11, false, 1, 1128, 95, 1127, 41),
  (yX11_colors, cX11_colors, 1, (some .int), 11, false, 0, 1120, 95, 1118, 1119),
  (yX11_rank, cX11_rank, 4, (some .int), 11, false, 1, 1144, 95, 1143, 44),
  (yX11_color, cX11_color, 4, (some .int), 11, false, 2, 1140, 95, 1138, 1139),
  (yX11_adds, cX11_adds, 4, (some .int), 11, false, 2, 1152, 95, 1151, 45),
  (yX11_removes, cX11_removes, 3, none, 11, false, 1, 1164, 95, 1163, 47),
  (yX11_add, cX11_add, 3, (some .int), 11, false, 2, 1148, 95, 1146, 1147),
  (yX11_remove, cX11_remove, 3, (some .int), 11, false, 1, 1156, 95, 1154, 1155)]
set_option maxRecDepth 100000 in
theorem am_ms7_ok : am_ms7.all am_mokB = true := by decide +kernel
def am_ms8 : List am_mI := [(yX11_lock, cX11_lock, 4, (some .int), 11, false, 2, 1168, 95, 1166, 1167),
  (yX11_rearranges, cX11_rearranges, 5, (some .int), 11, false, 0, 1176, 95, 1175, 48),
  (yX11_swap, cX11_swap, 5, (some .int), 11, false, 2, 1172, 95, 1170, 1171),
  (yX11_setMetric, cX11_setMetric, 3, (some .int), 11, false, 1, 1180, 95, 1178, 1179),
  (yX11_counts, cX11_counts, 2, none, 11, false, 0, 1188, 95, 1187, 49),
  (yX11_indexed, cX11_indexed, 4, (some .int), 11, false, 1, 1204, 95, 1203, 53),
  (yX11_entry, cX11_entry, 3, (some .int), 11, false, 2, 1184, 95, 1182, 1183),
  (yX11_nearest, cX11_nearest, 2, (some .int), 11, false, 1, 1208, 95, 1206, 1207),
  (yX11_type, cX11_type, 2, (some .int), 11, false, 1, 1212, 95, 1210, 1211),
  (yX11_clearText, cX11_clearText, 2, (some .int), 11, false, 0, 1216, 95, 1214, 1215),
  (yX11_digitAt, cX11_digitAt, 3, (some .int), 11, false, 1, 1228, 95, 1227, 55),
  (yX11_readsDigits, cX11_readsDigits, 7, (some .int), 11, false, 1, 1224, 95, 1223, 54),
  (yX11_fault, cX11_fault, 3, (some .int), 11, false, 0, 1220, 95, 1218, 1219),
  (yX11_load, cX11_load, 2, (some .int), 11, false, 0, 1233, 95, 1231, 1232),
  (yX11_colorsIn, cX11_colorsIn, 4, (some .int), 11, false, 1, 1250, 95, 1249, 58),
  (yX11_pixelsIn, cX11_pixelsIn, 4, (some .int), 11, false, 1, 1258, 95, 1257, 60),
  (yX11_rangeOf, cX11_rangeOf, 7, (some .int), 11, false, 2, 1266, 95, 1265, 62),
  (yX11_widest, cX11_widest, 4, (some .int), 11, false, 1, 1262, 95, 1261, 61),
  (yX11_spread, cX11_spread, 14, (some .long), 11, false, 1, 1270, 95, 1269, 63),
  (yX11_measure, cX11_measure, 3, (some .long), 11, false, 2, 1254, 95, 1253, 59)]
set_option maxRecDepth 100000 in
theorem am_ms8_ok : am_ms8.all am_mokB = true := by decide +kernel
def am_ms9 : List am_mI := [(yX11_greatest, cX11_greatest, 5, (some .int), 11, false, 1, 1246, 95, 1245, 57),
  (yX11_before, cX11_before, 7, (some .int), 11, false, 3, 1282, 95, 1281, 66),
  (yX11_colorOfRank, cX11_colorOfRank, 6, (some .int), 11, false, 3, 1278, 95, 1277, 65),
  (yX11_splits, cX11_splits, 8, none, 11, false, 1, 1274, 95, 1273, 64),
  (yX11_meanOf, cX11_meanOf, 7, (some .int), 11, false, 1, 1286, 95, 1285, 67),
  (yX11_locked, cX11_locked, 3, (some .int), 11, false, 0, 1242, 95, 1241, 56),
  (yX11_build, cX11_build, 6, (some .int), 11, false, 2, 1238, 95, 1236, 1237),
  (yX11_rounds, cX11_rounds, 5, (some .boolean), 11, false, 0, 1294, 95, 1293, 68),
  (yX11_refine, cX11_refine, 5, (some .int), 11, false, 1, 1290, 95, 1288, 1289),
  (yX11_costOf, cX11_costOf, 7, (some .long), 11, false, 2, 1306, 95, 1305, 70),
  (yX11_mergedColor, cX11_mergedColor, 9, (some .int), 11, false, 2, 1310, 95, 1309, 71),
  (yX11_mergesTwo, cX11_mergesTwo, 6, (some .boolean), 11, false, 0, 1302, 95, 1301, 69),
  (yX11_merge, cX11_merge, 3, (some .int), 11, false, 1, 1298, 95, 1296, 1297),
  (yX11_keyOf, cX11_keyOf, 5, (some .int), 11, false, 3, 1322, 95, 1321, 73),
  (yX11_nextEntry, cX11_nextEntry, 6, (some .int), 11, false, 2, 1318, 95, 1317, 72),
  (yX11_sort, cX11_sort, 4, (some .int), 11, false, 1, 1314, 95, 1312, 1313),
  (yX11_element, cX11_element, 5, (some .int), 11, true, 2, 1333, 95, 1332, 0),
  (yX11_dithered, cX11_dithered, 6, (some .int), 11, false, 2, 1330, 95, 1329, 74),
  (yX11_down, cX11_down, 3, (some .int), 11, true, 2, 1348, 95, 1347, 0),
  (yX11_gives, cX11_gives, 5, none, 11, false, 4, 1356, 95, 1355, 78)]
set_option maxRecDepth 100000 in
theorem am_ms9_ok : am_ms9.all am_mokB = true := by decide +kernel
def am_ms10 : List am_mI := [(yX11_spreads, cX11_spreads, 10, none, 11, false, 5, 1352, 95, 1351, 77),
  (yX11_visits, cX11_visits, 8, none, 11, false, 3, 1345, 95, 1344, 76),
  (yX11_diffuses, cX11_diffuses, 5, none, 11, false, 1, 1341, 95, 1340, 75),
  (yX11_map, cX11_map, 5, (some .int), 11, false, 2, 1326, 95, 1324, 1325),
  (yX11_index, cX11_index, 3, (some .int), 11, false, 2, 1360, 95, 1358, 1359),
  (yX11_errorOf, cX11_errorOf, 2, (some .int), 11, false, 1, 1368, 95, 1367, 79),
  (yX11_error, cX11_error, 3, (some .int), 11, false, 0, 1364, 95, 1362, 1363),
  (yX11_worst, cX11_worst, 3, (some .int), 11, false, 0, 1372, 95, 1370, 1371),
  (yX11_bitsOf, cX11_bitsOf, 3, (some .int), 11, true, 1, 1380, 95, 1379, 0),
  (yX11_meanError, cX11_meanError, 2, (some .int), 11, false, 0, 1376, 95, 1374, 1375),
  (yX11_runs, cX11_runs, 3, (some .int), 11, false, 0, 1385, 95, 1383, 1384),
  (yX11_packed, cX11_packed, 10, (some .int), 11, false, 1, 1389, 95, 1387, 1388),
  (yX11_bestBut, cX11_bestBut, 5, (some .int), 11, false, 1, 1397, 95, 1396, 80),
  (yX11_bestError, cX11_bestError, 1, (some .int), 11, false, 0, 1393, 95, 1391, 1392),
  (yX11_loss, cX11_loss, 2, (some .int), 11, false, 1, 1401, 95, 1399, 1400),
  (yX11_cheapest, cX11_cheapest, 3, (some .int), 11, false, 0, 1405, 95, 1403, 1404),
  (yX11_gainOf, cX11_gainOf, 6, (some .int), 11, false, 1, 1413, 95, 1412, 81),
  (yX11_gain, cX11_gain, 2, (some .int), 11, false, 1, 1409, 95, 1407, 1408),
  (yX11_bestAddition, cX11_bestAddition, 6, (some .int), 11, false, 0, 1417, 95, 1415, 1416),
  (yX11_count, cX11_count, 2, (some .int), 11, false, 1, 1421, 95, 1419, 1420)]
set_option maxRecDepth 100000 in
theorem am_ms10_ok : am_ms10.all am_mokB = true := by decide +kernel
def am_ms11 : List am_mI := [(yX11_mixes, cX11_mixes, 2, none, 11, false, 1, 1431, 95, 1430, 82),
  (yX11_digest, cX11_digest, 2, (some .long), 11, false, 0, 1425, 95, 1423, 1424),
  (yJ9_floorDiv_7cf53, cJ9_floorDiv_7cf53, 3, (some .int), 12, true, 2, 832, 97, 831, 0),
  (yJ9_max_7cf53, cJ9_max_7cf53, 2, (some .int), 12, true, 2, 483, 97, 482, 0),
  (yJ9_min_7cf53, cJ9_min_7cf53, 2, (some .int), 12, true, 2, 480, 97, 479, 0)]
set_option maxRecDepth 100000 in
theorem am_ms11_ok : am_ms11.all am_mokB = true := by decide +kernel
def am_ms : List am_mI := am_ms0 ++ (am_ms1 ++ (am_ms2 ++ (am_ms3 ++ (am_ms4 ++ (am_ms5 ++ (am_ms6 ++ (am_ms7 ++ (am_ms8 ++ (am_ms9 ++ (am_ms10 ++ (am_ms11)))))))))))
theorem am_ms_ok : am_ms.all am_mokB = true := by simp [am_ms, List.all_append, am_ms0_ok, am_ms1_ok, am_ms2_ok, am_ms3_ok, am_ms4_ok, am_ms5_ok, am_ms6_ok, am_ms7_ok, am_ms8_ok, am_ms9_ok, am_ms10_ok, am_ms11_ok]
def am_host : String := "PaletteBuilder"
def am_y (z : Nat) : MethodName := match am_ms[z]? with
  | some q => q.1
  | none => ⟨"", "", ""⟩
/-- a link of a class: index, method, whether by nest, place -/
def am_mlok (ci : Nat) (q : Nat × Nat × Bool × Nat) : Bool := match q with
  | (idx, z, nest, p) => decide (lw_tbl[p]? = some (if nest = true then Cond.methodLinkNest (am_cn ci) idx (am_y z) am_host else Cond.methodLink (am_cn ci) idx (am_y z)))
def am_ml0 : List (Nat × Nat × Bool × Nat) := [(26, 70, false, 776), (41, 1, false, 777), (45, 3, false, 788), (48, 4, false, 793), (52, 2, false, 781), (59, 123, true, 785), (65, 58, false, 786), (69, 65, false, 787), (72, 51, false, 792)]
set_option maxRecDepth 100000 in
theorem am_ml0_ok : am_ml0.all (am_mlok 0) = true := by decide +kernel
def am_ml1 : List (Nat × Nat × Bool × Nat) := [(30, 51, false, 501), (36, 54, false, 502), (43, 128, true, 503)]
set_option maxRecDepth 100000 in
theorem am_ml1_ok : am_ml1.all (am_mlok 1) = true := by decide +kernel
def am_ml2 : List (Nat × Nat × Bool × Nat) := [(23, 50, false, 415)]
set_option maxRecDepth 100000 in
theorem am_ml2_ok : am_ml2.all (am_mlok 2) = true := by decide +kernel
def am_ml3 : List (Nat × Nat × Bool × Nat) := [(28, 53, false, 806), (38, 54, false, 809), (45, 12, false, 810), (48, 66, false, 816), (55, 123, true, 813), (58, 125, true, 814), (61, 124, true, 815), (65, 51, false, 821), (69, 14, false, 822), (73, 15, false, 826), (76, 58, false, 833), (82, 16, false, 834), (86, 17, false, 843), (89, 222, false, 830), (94, 18, false, 838), (97, 52, false, 842)]
set_option maxRecDepth 100000 in
theorem am_ml3_ok : am_ml3.all (am_mlok 3) = true := by decide +kernel
def am_ml4 : List (Nat × Nat × Bool × Nat) := [(39, 224, false, 654), (45, 20, false, 655), (49, 23, false, 665), (53, 31, false, 701), (56, 30, false, 715), (59, 60, false, 723), (63, 5, false, 659), (72, 63, false, 660), (81, 24, false, 669), (85, 25, false, 673), (88, 27, false, 680), (91, 26, false, 684), (94, 29, false, 693), (97, 22, false, 677), (101, 21, false, 688), (104, 123, true, 691), (107, 223, false, 692), (110, 28, false, 697), (113, 127, true, 719), (116, 124, true, 722), (120, 32, false, 705), (124, 33, false, 711), (129, 128, true, 710)]
set_option maxRecDepth 100000 in
theorem am_ml4_ok : am_ml4.all (am_mlok 4) = true := by decide +kernel
def am_ml5 : List (Nat × Nat × Bool × Nat) := [(30, 70, false, 732), (35, 35, false, 733), (50, 127, true, 740), (54, 124, true, 741), (61, 51, false, 737), (68, 58, false, 738), (75, 123, true, 739), (78, 37, false, 750), (82, 39, false, 759), (85, 38, false, 754), (89, 65, false, 758), (92, 40, false, 763), (95, 61, false, 767)]
set_option maxRecDepth 100000 in
theorem am_ml5_ok : am_ml5.all (am_mlok 5) = true := by decide +kernel
def am_ml6 : List (Nat × Nat × Bool × Nat) := [(15, 51, false, 864), (21, 54, false, 865), (25, 69, false, 866), (36, 53, false, 878), (40, 55, false, 887), (43, 41, false, 888), (46, 44, false, 889), (56, 223, false, 914), (61, 46, false, 910), (64, 47, false, 915), (67, 52, false, 923)]
set_option maxRecDepth 100000 in
theorem am_ml6_ok : am_ml6.all (am_mlok 6) = true := by decide +kernel
def am_ml7 : List (Nat × Nat × Bool × Nat) := [(48, 51, false, 465), (52, 54, false, 466), (56, 52, false, 426), (60, 53, false, 430), (72, 123, true, 474), (75, 125, true, 475), (79, 58, false, 543), (82, 60, false, 649), (87, 65, false, 592), (90, 67, false, 851)]
set_option maxRecDepth 100000 in
theorem am_ml7_ok : am_ml7.all (am_mlok 7) = true := by decide +kernel
def am_ml8 : List (Nat × Nat × Bool × Nat) := [(32, 51, false, 572), (38, 54, false, 573), (45, 71, false, 574), (55, 65, false, 578), (64, 223, false, 948)]
set_option maxRecDepth 100000 in
theorem am_ml8_ok : am_ml8.all (am_mlok 8) = true := by decide +kernel
def am_ml9 : List (Nat × Nat × Bool × Nat) := [(29, 76, false, 613), (33, 77, false, 621), (36, 78, false, 629), (39, 79, false, 617), (42, 124, true, 625)]
set_option maxRecDepth 100000 in
theorem am_ml9_ok : am_ml9.all (am_mlok 9) = true := by decide +kernel
def am_ml10 : List (Nat × Nat × Bool × Nat) := [(85, 121, false, 404), (89, 120, false, 407), (99, 56, false, 422), (103, 51, false, 434), (107, 52, false, 442), (112, 122, false, 448), (116, 126, false, 451), (120, 57, false, 461), (124, 55, false, 484), (131, 53, false, 492), (135, 5, false, 497), (141, 6, false, 510), (144, 7, false, 515), (148, 8, false, 519), (152, 60, false, 527), (156, 58, false, 535), (166, 61, false, 539), (170, 9, false, 411), (173, 64, false, 552), (179, 67, false, 564), (182, 70, false, 568), (188, 66, false, 587), (191, 74, false, 597), (196, 75, false, 609), (206, 59, false, 641), (209, 62, false, 645), (212, 19, false, 650), (215, 34, false, 728), (219, 36, false, 746), (222, 0, false, 772), (225, 11, false, 802), (228, 13, false, 817), (235, 68, false, 847), (241, 41, false, 860), (244, 42, false, 874), (247, 43, false, 883), (250, 45, false, 898), (253, 48, false, 906), (256, 49, false, 919), (265, 72, false, 936), (268, 73, false, 944), (272, 10, false, 957), (279, 115, false, 970), (282, 119, false, 971), (286, 118, false, 975), (290, 117, false, 978), (300, 224, false, 478), (305, 223, false, 481), (308, 123, false, 454)]
set_option maxRecDepth 100000 in
theorem am_ml10_ok : am_ml10.all (am_mlok 10) = true := by decide +kernel
def am_ml11 : List (Nat × Nat × Bool × Nat) := [(57, 129, false, 1060), (61, 133, false, 1083), (65, 134, false, 1097), (69, 131, false, 1087), (73, 139, false, 1197), (76, 140, false, 1193), (83, 142, false, 1063), (87, 136, false, 1071), (91, 130, false, 1075), (94, 146, false, 1090), (108, 132, false, 1106), (112, 135, false, 1109), (118, 152, false, 1125), (121, 150, false, 1133), (124, 138, false, 1129), (127, 151, false, 1121), (130, 154, false, 1141), (133, 156, false, 1149), (136, 137, false, 1157), (139, 157, false, 1161), (143, 161, false, 1173), (146, 141, false, 1189), (149, 164, false, 1185), (152, 165, false, 1201), (158, 170, false, 1225), (165, 171, false, 1221), (168, 172, false, 1234), (171, 176, false, 1263), (174, 175, false, 1255), (177, 177, false, 1259), (180, 178, false, 1267), (187, 174, false, 1247), (190, 179, false, 1251), (194, 181, false, 1279), (198, 182, false, 1275), (201, 185, false, 1239), (204, 180, false, 1243), (207, 183, false, 1271), (210, 184, false, 1283), (213, 187, false, 1291), (217, 189, false, 1303), (220, 190, false, 1307), (223, 191, false, 1299), (226, 193, false, 1319), (229, 194, false, 1315), (240, 196, false, 1331), (243, 198, false, 1346), (246, 199, false, 1353), (250, 200, false, 1349), (254, 201, false, 1342), (258, 197, false, 1327), (261, 202, false, 1338), (264, 205, false, 1365), (268, 206, false, 1377), (271, 208, false, 1378), (275, 212, false, 1394), (278, 216, false, 1410), (289, 219, false, 1427), (292, 220, false, 1428), (295, 166, false, 1433), (298, 207, false, 1434), (301, 209, false, 1435), (304, 210, false, 1436)]
set_option maxRecDepth 100000 in
theorem am_ml11_ok : am_ml11.all (am_mlok 11) = true := by decide +kernel
def am_ml12 : List (Nat × Nat × Bool × Nat) := []
set_option maxRecDepth 100000 in
theorem am_ml12_ok : am_ml12.all (am_mlok 12) = true := by decide +kernel
def am_ml13 : List (Nat × Nat × Bool × Nat) := [(13, 80, false, 400), (17, 144, false, 1056), (18, 81, false, 438), (22, 145, false, 1067), (23, 82, false, 444), (27, 147, false, 1079), (28, 83, false, 457), (31, 148, false, 1093), (32, 84, false, 488), (35, 149, false, 1113), (36, 85, false, 493), (40, 153, false, 1117), (41, 86, false, 506), (44, 155, false, 1137), (45, 87, false, 523), (49, 158, false, 1145), (50, 88, false, 531), (54, 159, false, 1153), (55, 89, false, 544), (58, 160, false, 1165), (59, 90, false, 548), (62, 162, false, 1169), (63, 91, false, 556), (66, 163, false, 1177), (67, 92, false, 560), (70, 166, false, 1181), (71, 93, false, 583), (74, 167, false, 1205), (75, 94, false, 593), (78, 168, false, 1209), (79, 95, false, 601), (82, 169, false, 1213), (83, 96, false, 605), (86, 172, false, 1217), (87, 97, false, 633), (90, 173, false, 1230), (91, 98, false, 637), (94, 186, false, 1235), (95, 99, false, 724), (98, 188, false, 1287), (99, 100, false, 742), (102, 192, false, 1295), (103, 101, false, 768), (106, 195, false, 1311), (107, 102, false, 798), (110, 203, false, 1323), (111, 103, false, 852), (114, 204, false, 1357), (115, 104, false, 856), (118, 206, false, 1361), (119, 105, false, 870), (122, 207, false, 1369), (123, 106, false, 879), (126, 209, false, 1373), (127, 107, false, 894), (130, 210, false, 1382), (131, 108, false, 902), (134, 211, false, 1386), (135, 109, false, 924), (138, 213, false, 1390), (139, 110, false, 928), (142, 214, false, 1398), (143, 111, false, 932), (146, 215, false, 1402), (147, 112, false, 940), (150, 217, false, 1406), (151, 113, false, 949), (154, 218, false, 1414), (155, 114, false, 953), (158, 143, false, 1052), (159, 115, false, 961), (162, 219, false, 1418), (163, 116, false, 965), (167, 221, false, 1422)]
set_option maxRecDepth 100000 in
theorem am_ml13_ok : am_ml13.all (am_mlok 13) = true := by decide +kernel
/-- a field's link: index, class, field, place -/
def am_T (c : Nat) : u_T := ([TX0, TX1, TX2, TX3, TX4, TX5, TX6, TX7, TX8, TX9, TX10, TX11] : List u_T).getD c TX0
def am_flok (ci : Nat) (q : Nat × Nat × Nat × Nat) : Bool := match q with
  | (idx, c, j, p) => decide (lw_tbl[p]? = some (Cond.fieldLink (am_cn ci) idx (am_cn c) (am_T c j).2.1 (am_T c j).2.2.1))
def am_fl0 : List (Nat × Nat × Nat × Nat) := [(9, 0, 2, 335), (15, 0, 3, 336), (18, 0, 0, 333), (22, 0, 1, 334), (31, 7, 3, 128), (37, 7, 5, 140), (56, 7, 4, 136), (62, 8, 3, 261), (75, 7, 8, 150)]
set_option maxRecDepth 100000 in
theorem am_fl0_ok : am_fl0.all (am_flok 0) = true := by decide +kernel
def am_fl1 : List (Nat × Nat × Nat × Nat) := [(9, 1, 1, 228), (15, 1, 2, 229), (19, 1, 3, 232), (22, 1, 4, 234), (26, 1, 0, 227), (40, 7, 2, 121)]
set_option maxRecDepth 100000 in
theorem am_fl1_ok : am_fl1.all (am_flok 1) = true := by decide +kernel
def am_fl2 : List (Nat × Nat × Nat × Nat) := [(11, 2, 0, 183), (15, 2, 1, 184), (19, 2, 2, 185)]
set_option maxRecDepth 100000 in
theorem am_fl2_ok : am_fl2.all (am_flok 2) = true := by decide +kernel
def am_fl3 : List (Nat × Nat × Nat × Nat) := [(9, 3, 1, 353), (15, 3, 0, 352), (19, 7, 1, 117), (25, 7, 0, 113), (35, 7, 8, 149), (42, 7, 2, 122), (52, 7, 3, 131), (79, 7, 4, 137)]
set_option maxRecDepth 100000 in
theorem am_fl3_ok : am_fl3.all (am_flok 3) = true := by decide +kernel
def am_fl4 : List (Nat × Nat × Nat × Nat) := [(9, 4, 2, 288), (15, 4, 3, 289), (19, 4, 4, 290), (22, 4, 5, 291), (26, 4, 0, 286), (30, 4, 1, 287), (34, 7, 3, 127), (68, 1, 4, 235), (69, 1, 2, 230), (78, 1, 3, 233)]
set_option maxRecDepth 100000 in
theorem am_fl4_ok : am_fl4.all (am_flok 4) = true := by decide +kernel
def am_fl5 : List (Nat × Nat × Nat × Nat) := [(9, 5, 2, 313), (15, 5, 3, 314), (19, 5, 4, 315), (22, 5, 0, 311), (26, 5, 1, 312), (38, 7, 3, 129), (43, 8, 3, 260), (46, 7, 5, 141), (58, 7, 4, 134), (65, 8, 1, 257), (72, 7, 2, 124)]
set_option maxRecDepth 100000 in
theorem am_fl5_ok : am_fl5.all (am_flok 5) = true := by decide +kernel
def am_fl6 : List (Nat × Nat × Nat × Nat) := [(9, 6, 0, 365), (29, 7, 1, 119), (33, 7, 0, 115), (52, 7, 8, 151)]
set_option maxRecDepth 100000 in
theorem am_fl6_ok : am_fl6.all (am_flok 6) = true := by decide +kernel
def am_fl7 : List (Nat × Nat × Nat × Nat) := [(9, 7, 0, 112), (15, 7, 1, 116), (18, 7, 2, 120), (22, 7, 3, 126), (25, 7, 4, 133), (28, 7, 5, 139), (32, 7, 6, 144), (35, 7, 7, 146), (39, 7, 8, 148)]
set_option maxRecDepth 100000 in
theorem am_fl7_ok : am_fl7.all (am_flok 7) = true := by decide +kernel
def am_fl8 : List (Nat × Nat × Nat × Nat) := [(9, 8, 1, 256), (15, 8, 2, 258), (18, 8, 3, 259), (21, 8, 4, 263), (24, 8, 5, 265), (28, 8, 0, 255), (42, 7, 3, 130), (49, 7, 2, 123), (52, 7, 4, 135), (60, 7, 5, 142)]
set_option maxRecDepth 100000 in
theorem am_fl8_ok : am_fl8.all (am_flok 8) = true := by decide +kernel
def am_fl9 : List (Nat × Nat × Nat × Nat) := [(11, 9, 0, 200), (15, 9, 1, 202), (19, 9, 2, 204), (22, 9, 3, 206), (26, 9, 4, 208)]
set_option maxRecDepth 100000 in
theorem am_fl9_ok : am_fl9.all (am_flok 9) = true := by decide +kernel
def am_fl10 : List (Nat × Nat × Nat × Nat) := [(10, 10, 0, 369), (19, 10, 1, 370), (26, 10, 2, 371), (35, 10, 3, 372), (42, 10, 4, 373), (51, 10, 5, 374), (60, 10, 6, 375), (67, 10, 7, 376), (74, 10, 8, 377), (81, 10, 9, 378), (92, 7, 0, 114), (96, 7, 1, 118), (127, 7, 2, 125), (138, 1, 4, 236), (151, 7, 3, 132), (159, 7, 5, 143), (163, 7, 4, 138), (176, 7, 6, 145), (185, 8, 3, 262), (193, 9, 1, 203), (199, 9, 4, 209), (202, 9, 2, 205), (205, 9, 3, 207), (231, 7, 7, 147), (238, 7, 8, 152), (259, 8, 5, 266), (262, 8, 4, 264), (271, 1, 2, 231), (276, 2, 2, 186), (294, 9, 0, 201)]
set_option maxRecDepth 100000 in
theorem am_fl10_ok : am_fl10.all (am_flok 10) = true := by decide +kernel
def am_fl11 : List (Nat × Nat × Nat × Nat) := [(7, 11, 0, 988), (13, 11, 1, 989), (16, 11, 3, 991), (19, 11, 5, 993), (22, 11, 6, 994), (25, 11, 8, 996), (28, 11, 9, 997), (31, 11, 10, 998), (34, 11, 11, 999), (37, 11, 12, 1000), (40, 11, 13, 1001), (43, 11, 15, 1003), (46, 11, 17, 1005), (49, 11, 18, 1006), (53, 11, 19, 1007), (79, 11, 2, 990), (115, 11, 7, 995), (155, 11, 4, 992), (162, 11, 14, 1002), (184, 11, 16, 1004), (283, 11, 20, 1008)]
set_option maxRecDepth 100000 in
theorem am_fl11_ok : am_fl11.all (am_flok 11) = true := by decide +kernel
def am_fl12 : List (Nat × Nat × Nat × Nat) := []
set_option maxRecDepth 100000 in
theorem am_fl12_ok : am_fl12.all (am_flok 12) = true := by decide +kernel
def am_fl13 : List (Nat × Nat × Nat × Nat) := []
set_option maxRecDepth 100000 in
theorem am_fl13_ok : am_fl13.all (am_flok 13) = true := by decide +kernel
def am_kw (ci idx : Nat) (v : Value) : Option Cond := match v with
  | .int x => some (Cond.constant (am_cn ci) idx x)
  | .long x => some (Cond.constantLong (am_cn ci) idx x)
  | .float x => some (Cond.constantFloat (am_cn ci) idx x)
  | _ => none
def am_ktok (ci : Nat) (q : Nat × Value × Nat) : Bool := decide (am_kw ci q.1 q.2.1 = lw_tbl[q.2.2]?) && decide (q.2.2 < 3000 ∧ am_kw ci q.1 q.2.1 ≠ none)
def am_kt0 : List (Nat × Value × Nat) := []
set_option maxRecDepth 100000 in
theorem am_kt0_ok : am_kt0.all (am_ktok 0) = true := by decide +kernel
def am_kt1 : List (Nat × Value × Nat) := [(47, .long (16777216), 514)]
set_option maxRecDepth 100000 in
theorem am_kt1_ok : am_kt1.all (am_ktok 1) = true := by decide +kernel
def am_kt2 : List (Nat × Value × Nat) := []
set_option maxRecDepth 100000 in
theorem am_kt2_ok : am_kt2.all (am_ktok 2) = true := by decide +kernel
def am_kt3 : List (Nat × Value × Nat) := []
set_option maxRecDepth 100000 in
theorem am_kt3_ok : am_kt3.all (am_ktok 3) = true := by decide +kernel
def am_kt4 : List (Nat × Value × Nat) := [(76, .long (512), 664), (127, .long (8589934592), 709)]
set_option maxRecDepth 100000 in
theorem am_kt4_ok : am_kt4.all (am_ktok 4) = true := by decide +kernel
def am_kt5 : List (Nat × Value × Nat) := []
set_option maxRecDepth 100000 in
theorem am_kt5_ok : am_kt5.all (am_ktok 5) = true := by decide +kernel
def am_kt6 : List (Nat × Value × Nat) := [(50, .float (1258291200), 892), (51, .int (8388608), 893)]
set_option maxRecDepth 100000 in
theorem am_kt6_ok : am_kt6.all (am_ktok 6) = true := by decide +kernel
def am_kt7 : List (Nat × Value × Nat) := [(64, .long (1103515245), 470), (66, .long (12345), 471), (68, .long (2147483647), 472), (70, .long (65536), 473), (86, .int (1000000), 591)]
set_option maxRecDepth 100000 in
theorem am_kt7_ok : am_kt7.all (am_ktok 7) = true := by decide +kernel
def am_kt8 : List (Nat × Value × Nat) := [(59, .int (1000000), 582)]
set_option maxRecDepth 100000 in
theorem am_kt8_ok : am_kt8.all (am_ktok 8) = true := by decide +kernel
def am_kt9 : List (Nat × Value × Nat) := []
set_option maxRecDepth 100000 in
theorem am_kt9_ok : am_kt9.all (am_ktok 9) = true := by decide +kernel
def am_kt10 : List (Nat × Value × Nat) := [(111, .int (16777215), 443), (277, .long (77), 969), (297, .long (31), 974), (299, .int (65536), 628)]
set_option maxRecDepth 100000 in
theorem am_kt10_ok : am_kt10.all (am_ktok 10) = true := by decide +kernel
def am_kt11 : List (Nat × Value × Nat) := [(56, .int (16777215), 1078), (98, .long (1103515245), 1101), (100, .long (12345), 1102), (102, .long (2147483648), 1103), (104, .long (65536), 1104), (106, .long (2), 1105), (161, .int (65536), 1229), (232, .long (2090), 1334), (234, .long (50406), 1335), (236, .long (15129), 1336), (238, .long (63445), 1337), (267, .float (1258291200), 1381), (281, .long (31), 1432), (287, .long (77), 1426)]
set_option maxRecDepth 100000 in
theorem am_kt11_ok : am_kt11.all (am_ktok 11) = true := by decide +kernel
def am_kt12 : List (Nat × Value × Nat) := []
set_option maxRecDepth 100000 in
theorem am_kt12_ok : am_kt12.all (am_ktok 12) = true := by decide +kernel
def am_kt13 : List (Nat × Value × Nat) := []
set_option maxRecDepth 100000 in
theorem am_kt13_ok : am_kt13.all (am_ktok 13) = true := by decide +kernel
def am_mlT (c : Nat) : List (Nat × Nat × Bool × Nat) := match c with
  | 0 => am_ml0
  | 1 => am_ml1
  | 2 => am_ml2
  | 3 => am_ml3
  | 4 => am_ml4
  | 5 => am_ml5
  | 6 => am_ml6
  | 7 => am_ml7
  | 8 => am_ml8
  | 9 => am_ml9
  | 10 => am_ml10
  | 11 => am_ml11
  | 12 => am_ml12
  | 13 => am_ml13
  | _ => []
theorem am_mlT_ok (c : Nat) : (am_mlT c).all (am_mlok c) = true := match c with
  | 0 => am_ml0_ok
  | 1 => am_ml1_ok
  | 2 => am_ml2_ok
  | 3 => am_ml3_ok
  | 4 => am_ml4_ok
  | 5 => am_ml5_ok
  | 6 => am_ml6_ok
  | 7 => am_ml7_ok
  | 8 => am_ml8_ok
  | 9 => am_ml9_ok
  | 10 => am_ml10_ok
  | 11 => am_ml11_ok
  | 12 => am_ml12_ok
  | 13 => am_ml13_ok
  | _ + 14 => rfl
def am_flT (c : Nat) : List (Nat × Nat × Nat × Nat) := match c with
  | 0 => am_fl0
  | 1 => am_fl1
  | 2 => am_fl2
  | 3 => am_fl3
  | 4 => am_fl4
  | 5 => am_fl5
  | 6 => am_fl6
  | 7 => am_fl7
  | 8 => am_fl8
  | 9 => am_fl9
  | 10 => am_fl10
  | 11 => am_fl11
  | 12 => am_fl12
  | 13 => am_fl13
  | _ => []
theorem am_flT_ok (c : Nat) : (am_flT c).all (am_flok c) = true := match c with
  | 0 => am_fl0_ok
  | 1 => am_fl1_ok
  | 2 => am_fl2_ok
  | 3 => am_fl3_ok
  | 4 => am_fl4_ok
  | 5 => am_fl5_ok
  | 6 => am_fl6_ok
  | 7 => am_fl7_ok
  | 8 => am_fl8_ok
  | 9 => am_fl9_ok
  | 10 => am_fl10_ok
  | 11 => am_fl11_ok
  | 12 => am_fl12_ok
  | 13 => am_fl13_ok
  | _ + 14 => rfl
def am_ktT (c : Nat) : List (Nat × Value × Nat) := match c with
  | 0 => am_kt0
  | 1 => am_kt1
  | 2 => am_kt2
  | 3 => am_kt3
  | 4 => am_kt4
  | 5 => am_kt5
  | 6 => am_kt6
  | 7 => am_kt7
  | 8 => am_kt8
  | 9 => am_kt9
  | 10 => am_kt10
  | 11 => am_kt11
  | 12 => am_kt12
  | 13 => am_kt13
  | _ => []
theorem am_ktT_ok (c : Nat) : (am_ktT c).all (am_ktok c) = true := match c with
  | 0 => am_kt0_ok
  | 1 => am_kt1_ok
  | 2 => am_kt2_ok
  | 3 => am_kt3_ok
  | 4 => am_kt4_ok
  | 5 => am_kt5_ok
  | 6 => am_kt6_ok
  | 7 => am_kt7_ok
  | 8 => am_kt8_ok
  | 9 => am_kt9_ok
  | 10 => am_kt10_ok
  | 11 => am_kt11_ok
  | 12 => am_kt12_ok
  | 13 => am_kt13_ok
  | _ + 14 => rfl
set_option maxRecDepth 100000 in
theorem am_ac7 : lw_tbl[419]? = some (Cond.methodLink RX7 42 arraycopyName) := by decide +kernel
set_option maxRecDepth 100000 in
theorem am_ac0 : lw_tbl[797]? = some (Cond.methodLink RX0 78 arraycopyName) := by decide +kernel
set_option maxRecDepth 100000 in
theorem am_acN : lw_tbl[421]? = some (Cond.native arraycopyName) := by decide +kernel
set_option maxRecDepth 100000 in
theorem am_acS : lw_tbl[420]? = some (Cond.static arraycopyName) := by decide +kernel
set_option maxRecDepth 100000 in
theorem am_acI : lw_tbl[96]? = some (Cond.initialized "java/lang/System") := by decide +kernel
set_option maxRecDepth 100000 in
theorem am_matL : lw_tbl[807]? = some (Cond.fieldLink RX3 32 "PaletteBuilder$Mapper" "MATRIX" "[I") := by decide +kernel
set_option maxRecDepth 100000 in
theorem am_matI : lw_tbl[93]? = some (Cond.initialized RX3) := by decide +kernel
