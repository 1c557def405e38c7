/-! ===== generated: methods, links ===== -/
abbrev m_Ar_copyOf : gMd := (⟨"java/util/Arrays", "copyOf", "([II)[I"⟩, prog_14_method_123_code, 3, (some (.array .int)), 1, 26)
abbrev m_Ha_copyFrom : gMd := (⟨"YearTags$Handles", "copyFrom", "(LYearTags$Handles;)V"⟩, prog_2_method_16_code, 2, none, 3, 70)
abbrev m_Ha_endOf : gMd := (⟨"YearTags$Handles", "endOf", "(I)I"⟩, prog_2_method_7_code, 2, (some .int), 1, 21)
abbrev m_Ha_find : gMd := (⟨"YearTags$Handles", "find", "(I)I"⟩, prog_2_method_3_code, 3, (some .int), 0, 0)
abbrev m_Ha_finish : gMd := (⟨"YearTags$Handles", "finish", "(II)V"⟩, prog_2_method_14_code, 3, none, 1, 21)
abbrev m_Ha_follow : gMd := (⟨"YearTags$Handles", "follow", "(II)V"⟩, prog_2_method_13_code, 3, none, 1, 21)
abbrev m_Ha_followerOf : gMd := (⟨"YearTags$Handles", "followerOf", "(I)I"⟩, prog_2_method_5_code, 2, (some .int), 1, 21)
abbrev m_Ha_give : gMd := (⟨"YearTags$Handles", "give", "(II)I"⟩, prog_2_method_12_code, 4, (some .int), 3, 70)
abbrev m_Ha_greatestWay : gMd := (⟨"YearTags$Handles", "greatestWay", "()I"⟩, prog_2_method_10_code, 4, (some .int), 1, 21)
abbrev m_Ha_handleOf : gMd := (⟨"YearTags$Handles", "handleOf", "(I)I"⟩, prog_2_method_4_code, 2, (some .int), 1, 21)
abbrev m_Ha_init : gMd := (⟨"YearTags$Handles", "<init>", "()V"⟩, prog_2_method_1_code, 1, none, 1, 20)
abbrev m_Ha_isEntry : gMd := (⟨"YearTags$Handles", "isEntry", "(I)Z"⟩, prog_2_method_2_code, 2, (some .boolean), 0, 0)
abbrev m_Ha_lastFrom : gMd := (⟨"YearTags$Handles", "lastFrom", "(I)I"⟩, prog_2_method_8_code, 4, (some .int), 2, 42)
abbrev m_Ha_makeRoom : gMd := (⟨"YearTags$Handles", "makeRoom", "(I)V"⟩, prog_2_method_15_code, 3, none, 2, 48)
abbrev m_Ha_ownerOf : gMd := (⟨"YearTags$Handles", "ownerOf", "(I)I"⟩, prog_2_method_6_code, 2, (some .int), 1, 21)
abbrev m_Ha_shortenWays : gMd := (⟨"YearTags$Handles", "shortenWays", "()I"⟩, prog_2_method_11_code, 4, (some .int), 2, 42)
abbrev m_Ha_wayFrom : gMd := (⟨"YearTags$Handles", "wayFrom", "(I)I"⟩, prog_2_method_9_code, 4, (some .int), 2, 42)
abbrev m_Hi_init : gMd := (⟨"YearTags$History", "<init>", "()V"⟩, prog_3_method_1_code, 2, none, 4, 84)
abbrev m_Hi_record : gMd := (⟨"YearTags$History", "record", "(LYearTags$State;)V"⟩, prog_3_method_2_code, 2, none, 5, 113)
abbrev m_Hi_takeBack : gMd := (⟨"YearTags$History", "takeBack", "(LYearTags$State;)Z"⟩, prog_3_method_3_code, 2, (some .boolean), 5, 113)
abbrev m_Ho_canHold : gMd := (⟨"YearTags$Hook", "canHold", "()Z"⟩, prog_4_method_3_code, 1, (some .boolean), 0, 0)
abbrev m_Ho_copyFrom : gMd := (⟨"YearTags$Hook", "copyFrom", "(LYearTags$Hook;)V"⟩, prog_4_method_8_code, 2, none, 0, 0)
abbrev m_Ho_handle : gMd := (⟨"YearTags$Hook", "handle", "()I"⟩, prog_4_method_5_code, 1, (some .int), 0, 0)
abbrev m_Ho_hang : gMd := (⟨"YearTags$Hook", "hang", "(III)V"⟩, prog_4_method_6_code, 4, none, 0, 0)
abbrev m_Ho_holdsCoat : gMd := (⟨"YearTags$Hook", "holdsCoat", "()Z"⟩, prog_4_method_2_code, 1, (some .boolean), 0, 0)
abbrev m_Ho_init : gMd := (⟨"YearTags$Hook", "<init>", "(I)V"⟩, prog_4_method_1_code, 2, none, 1, 20)
abbrev m_Ho_release : gMd := (⟨"YearTags$Hook", "release", "(I)V"⟩, prog_4_method_7_code, 2, none, 0, 0)
abbrev m_Ho_tell : gMd := (⟨"YearTags$Hook", "tell", "(I)I"⟩, prog_4_method_4_code, 2, (some .int), 1, 20)
abbrev m_Lg_add : gMd := (⟨"YearTags$Log", "add", "(III)V"⟩, prog_5_method_2_code, 5, none, 1, 22)
abbrev m_Lg_copyFrom : gMd := (⟨"YearTags$Log", "copyFrom", "(LYearTags$Log;)V"⟩, prog_5_method_5_code, 2, none, 1, 26)
abbrev m_Lg_init : gMd := (⟨"YearTags$Log", "<init>", "()V"⟩, prog_5_method_1_code, 1, none, 1, 20)
abbrev m_Lg_look : gMd := (⟨"YearTags$Log", "look", "(II)I"⟩, prog_5_method_4_code, 4, (some .int), 1, 22)
abbrev m_Lg_timesOf : gMd := (⟨"YearTags$Log", "timesOf", "(I)I"⟩, prog_5_method_3_code, 2, (some .int), 0, 0)
abbrev m_Lw_acts : gMd := (⟨"YearTagsLaw", "acts", "(LYearTags;I)I"⟩, method_7_code, 6, (some .int), 7, 166)
abbrev m_Lw_all : gMd := (⟨"YearTagsLaw", "all", "(LYearTags;)J"⟩, method_4_code, 5, (some .long), 5, 111)
abbrev m_Lw_cell : gMd := (⟨"YearTagsLaw", "cell", "([II)I"⟩, method_2_code, 2, (some .int), 0, 0)
abbrev m_Lw_isSound : gMd := (⟨"YearTagsLaw", "isSound", "(LYearTags;)Z"⟩, method_5_code, 10, (some .boolean), 5, 111)
abbrev m_Lw_isTagged : gMd := (⟨"YearTagsLaw", "isTagged", "(LYearTags;I)Z"⟩, method_6_code, 11, (some .boolean), 7, 157)
abbrev m_Lw_law : gMd := (⟨"YearTagsLaw", "law", "([I)Z"⟩, code, 8, (some .boolean), 8, 191)
abbrev m_Lw_low : gMd := (⟨"YearTagsLaw", "low", "(II)I"⟩, method_3_code, 2, (some .int), 0, 0)
abbrev m_Ma_floorMod : gMd := (⟨"java/lang/Math", "floorMod", "(II)I"⟩, prog_12_method_50_code, 3, (some .int), 0, 0)
abbrev m_Ma_max : gMd := (⟨"java/lang/Math", "max", "(II)I"⟩, prog_12_method_65_code, 2, (some .int), 0, 0)
abbrev m_Ma_min : gMd := (⟨"java/lang/Math", "min", "(II)I"⟩, prog_12_method_69_code, 2, (some .int), 0, 0)
abbrev m_Rk_admits : gMd := (⟨"YearTags$Rack", "admits", "(I)Z"⟩, prog_6_method_3_code, 2, (some .boolean), 0, 0)
abbrev m_Rk_copyFrom : gMd := (⟨"YearTags$Rack", "copyFrom", "(LYearTags$Rack;)V"⟩, prog_6_method_7_code, 3, none, 1, 21)
abbrev m_Rk_hasRoomForAllOf : gMd := (⟨"YearTags$Rack", "hasRoomForAllOf", "(LYearTags$Rack;)Z"⟩, prog_6_method_5_code, 4, (some .boolean), 3, 65)
abbrev m_Rk_hookAt : gMd := (⟨"YearTags$Rack", "hookAt", "(I)LYearTags$Hook;"⟩, prog_6_method_2_code, 2, (some (.object "YearTags$Hook")), 0, 0)
abbrev m_Rk_init : gMd := (⟨"YearTags$Rack", "<init>", "(I)V"⟩, prog_6_method_1_code, 3, none, 2, 41)
abbrev m_Rk_lowestHookThatCanHold : gMd := (⟨"YearTags$Rack", "lowestHookThatCanHold", "()LYearTags$Hook;"⟩, prog_6_method_6_code, 3, (some (.object "YearTags$Hook")), 1, 21)
abbrev m_Rk_total : gMd := (⟨"YearTags$Rack", "total", "(I)I"⟩, prog_6_method_4_code, 5, (some .int), 2, 41)
abbrev m_St_carry : gMd := (⟨"YearTags$State", "carry", "(LYearTags$Hook;LYearTags$Hook;)I"⟩, prog_7_method_11_code, 4, (some .int), 4, 93)
abbrev m_St_carryAll : gMd := (⟨"YearTags$State", "carryAll", "(LYearTags$Rack;LYearTags$Rack;)I"⟩, prog_7_method_12_code, 7, (some .int), 5, 116)
abbrev m_St_coatAt : gMd := (⟨"YearTags$State", "coatAt", "(I)LYearTags$Hook;"⟩, prog_7_method_4_code, 3, (some (.object "YearTags$Hook")), 2, 43)
abbrev m_St_coatsOfGuest : gMd := (⟨"YearTags$State", "coatsOfGuest", "(I)I"⟩, prog_7_method_18_code, 4, (some .int), 3, 65)
abbrev m_St_copyFrom : gMd := (⟨"YearTags$State", "copyFrom", "(LYearTags$State;)V"⟩, prog_7_method_22_code, 3, none, 4, 91)
abbrev m_St_dueFor : gMd := (⟨"YearTags$State", "dueFor", "(LYearTags$Hook;)I"⟩, prog_7_method_15_code, 3, (some .int), 1, 21)
abbrev m_St_dueForGuest : gMd := (⟨"YearTags$State", "dueForGuest", "(I)I"⟩, prog_7_method_19_code, 5, (some .int), 3, 65)
abbrev m_St_goesAhead : gMd := (⟨"YearTags$State", "goesAhead", "(LYearTags$Hook;LYearTags$Hook;)Z"⟩, prog_7_method_8_code, 3, (some .boolean), 0, 0)
abbrev m_St_handOver : gMd := (⟨"YearTags$State", "handOver", "(LYearTags$Hook;II)I"⟩, prog_7_method_13_code, 4, (some .int), 2, 46)
abbrev m_St_hookAt : gMd := (⟨"YearTags$State", "hookAt", "(I)LYearTags$Hook;"⟩, prog_7_method_3_code, 3, (some (.object "YearTags$Hook")), 1, 21)
abbrev m_St_hookByRule : gMd := (⟨"YearTags$State", "hookByRule", "(I)LYearTags$Hook;"⟩, prog_7_method_7_code, 5, (some (.object "YearTags$Hook")), 2, 44)
abbrev m_St_hookOfGuest : gMd := (⟨"YearTags$State", "hookOfGuest", "(II)LYearTags$Hook;"⟩, prog_7_method_17_code, 6, (some (.object "YearTags$Hook")), 3, 65)
abbrev m_St_hooksInAll : gMd := (⟨"YearTags$State", "hooksInAll", "()I"⟩, prog_7_method_20_code, 4, (some .int), 1, 21)
abbrev m_St_init : gMd := (⟨"YearTags$State", "<init>", "()V"⟩, prog_7_method_1_code, 2, none, 3, 63)
abbrev m_St_isCoatOf : gMd := (⟨"YearTags$State", "isCoatOf", "(ILYearTags$Hook;)Z"⟩, prog_7_method_16_code, 3, (some .boolean), 2, 42)
abbrev m_St_isFree : gMd := (⟨"YearTags$State", "isFree", "(LYearTags$Hook;I)Z"⟩, prog_7_method_6_code, 4, (some .boolean), 1, 21)
abbrev m_St_passOneDay : gMd := (⟨"YearTags$State", "passOneDay", "()I"⟩, prog_7_method_14_code, 4, (some .int), 3, 69)
abbrev m_St_placeOf : gMd := (⟨"YearTags$State", "placeOf", "(I)I"⟩, prog_7_method_9_code, 4, (some .int), 3, 65)
abbrev m_St_rackAt : gMd := (⟨"YearTags$State", "rackAt", "(I)LYearTags$Rack;"⟩, prog_7_method_2_code, 2, (some (.object "YearTags$Rack")), 0, 0)
abbrev m_St_setUpRack : gMd := (⟨"YearTags$State", "setUpRack", "(II)I"⟩, prog_7_method_5_code, 5, (some .int), 1, 21)
abbrev m_St_takeIn : gMd := (⟨"YearTags$State", "takeIn", "(IILYearTags$Hook;)I"⟩, prog_7_method_10_code, 4, (some .int), 4, 93)
abbrev m_St_total : gMd := (⟨"YearTags$State", "total", "(I)I"⟩, prog_7_method_21_code, 5, (some .int), 3, 65)
abbrev m_Tx_init : gMd := (⟨"YearTags$TagText", "<init>", "()V"⟩, prog_8_method_1_code, 1, none, 1, 20)
abbrev m_Yt_addRack : gMd := (⟨"YearTags", "addRack", "(II)I"⟩, prog_1_method_2_code, 3, (some .int), 6, 134)
abbrev m_Yt_age : gMd := (⟨"YearTags", "age", "(II)I"⟩, prog_1_method_4_code, 5, (some .int), 6, 134)
abbrev m_Yt_claim : gMd := (⟨"YearTags", "claim", "(I)I"⟩, prog_1_method_7_code, 4, (some .int), 6, 134)
abbrev m_Yt_count : gMd := (⟨"YearTags", "count", "(I)I"⟩, prog_1_method_27_code, 2, (some .int), 4, 89)
abbrev m_Yt_due : gMd := (⟨"YearTags", "due", "(I)I"⟩, prog_1_method_25_code, 4, (some .int), 4, 88)
abbrev m_Yt_event : gMd := (⟨"YearTags", "event", "(II)I"⟩, prog_1_method_26_code, 3, (some .int), 2, 45)
abbrev m_Yt_giveOut : gMd := (⟨"YearTags", "giveOut", "(II)I"⟩, prog_1_method_8_code, 4, (some .int), 6, 134)
abbrev m_Yt_guest : gMd := (⟨"YearTags", "guest", "(II)I"⟩, prog_1_method_23_code, 3, (some .int), 4, 89)
abbrev m_Yt_hook : gMd := (⟨"YearTags", "hook", "(II)I"⟩, prog_1_method_20_code, 4, (some .int), 2, 43)
abbrev m_Yt_init : gMd := (⟨"YearTags", "<init>", "()V"⟩, prog_1_method_1_code, 1, none, 5, 105)
abbrev m_Yt_isGuest : gMd := (⟨"YearTags", "isGuest", "(I)Z"⟩, prog_1_method_29_code, 1, (some .boolean), 0, 0)
abbrev m_Yt_isRightTag : gMd := (⟨"YearTags", "isRightTag", "(I)Z"⟩, prog_1_method_31_code, 1, (some .boolean), 1, 24)
abbrev m_Yt_isSetting : gMd := (⟨"YearTags", "isSetting", "(II)Z"⟩, prog_1_method_30_code, 2, (some .boolean), 0, 0)
abbrev m_Yt_isSize : gMd := (⟨"YearTags", "isSize", "(I)Z"⟩, prog_1_method_28_code, 1, (some .boolean), 0, 0)
abbrev m_Yt_keep : gMd := (⟨"YearTags", "keep", "()I"⟩, prog_1_method_17_code, 1, (some .int), 5, 113)
abbrev m_Yt_move : gMd := (⟨"YearTags", "move", "(II)I"⟩, prog_1_method_9_code, 6, (some .int), 6, 134)
abbrev m_Yt_moveAll : gMd := (⟨"YearTags", "moveAll", "(II)I"⟩, prog_1_method_10_code, 5, (some .int), 6, 142)
abbrev m_Yt_next : gMd := (⟨"YearTags", "next", "(I)I"⟩, prog_1_method_24_code, 3, (some .int), 3, 68)
abbrev m_Yt_open : gMd := (⟨"YearTags", "open", "(IZ)I"⟩, prog_1_method_3_code, 4, (some .int), 6, 134)
abbrev m_Yt_pass : gMd := (⟨"YearTags", "pass", "(I)I"⟩, prog_1_method_12_code, 4, (some .int), 6, 134)
abbrev m_Yt_rack : gMd := (⟨"YearTags", "rack", "(II)I"⟩, prog_1_method_19_code, 4, (some .int), 3, 65)
abbrev m_Yt_restore : gMd := (⟨"YearTags", "restore", "()I"⟩, prog_1_method_18_code, 1, (some .int), 6, 134)
abbrev m_Yt_set : gMd := (⟨"YearTags", "set", "(II)I"⟩, prog_1_method_5_code, 4, (some .int), 6, 134)
abbrev m_Yt_shorten : gMd := (⟨"YearTags", "shorten", "()I"⟩, prog_1_method_11_code, 1, (some .int), 6, 134)
abbrev m_Yt_tag : gMd := (⟨"YearTags", "tag", "(II)I"⟩, prog_1_method_21_code, 7, (some .int), 3, 65)
abbrev m_Yt_tagOf : gMd := (⟨"YearTags", "tagOf", "(I)I"⟩, prog_1_method_22_code, 2, (some .int), 1, 24)
abbrev m_Yt_tagWithCheck : gMd := (⟨"YearTags", "tagWithCheck", "(I)I"⟩, prog_1_method_32_code, 5, (some .int), 0, 0)
abbrev m_Yt_take : gMd := (⟨"YearTags", "take", "(II)I"⟩, prog_1_method_6_code, 4, (some .int), 6, 134)
abbrev m_Yt_undo : gMd := (⟨"YearTags", "undo", "()I"⟩, prog_1_method_16_code, 1, (some .int), 6, 134)
theorem q_Ar_copyOf : gCB m_Ar_copyOf 2 := ⟨gIn 284 (by decide +kernel) rfl, gIn 11 (by decide +kernel) rfl, by decide +kernel, by decide +kernel, by decide +kernel, by decide +kernel⟩
theorem q_Ha_copyFrom : gCB m_Ha_copyFrom 1 := ⟨gIn 271 (by decide +kernel) rfl, gIn 4 (by decide +kernel) rfl, by decide +kernel, by decide +kernel, by decide +kernel, by decide +kernel⟩
theorem q_Ha_endOf : gCB m_Ha_endOf 1 := ⟨gIn 555 (by decide +kernel) rfl, gIn 4 (by decide +kernel) rfl, by decide +kernel, by decide +kernel, by decide +kernel, by decide +kernel⟩
theorem q_Ha_find : gCB m_Ha_find 1 := ⟨gIn 547 (by decide +kernel) rfl, gIn 4 (by decide +kernel) rfl, by decide +kernel, by decide +kernel, by decide +kernel, by decide +kernel⟩
theorem q_Ha_finish : gCB m_Ha_finish 2 := ⟨gIn 415 (by decide +kernel) rfl, gIn 4 (by decide +kernel) rfl, by decide +kernel, by decide +kernel, by decide +kernel, by decide +kernel⟩
theorem q_Ha_follow : gCB m_Ha_follow 2 := ⟨gIn 626 (by decide +kernel) rfl, gIn 4 (by decide +kernel) rfl, by decide +kernel, by decide +kernel, by decide +kernel, by decide +kernel⟩
theorem q_Ha_followerOf : gCB m_Ha_followerOf 1 := ⟨gIn 391 (by decide +kernel) rfl, gIn 4 (by decide +kernel) rfl, by decide +kernel, by decide +kernel, by decide +kernel, by decide +kernel⟩
theorem q_Ha_give : gCB m_Ha_give 2 := ⟨gIn 358 (by decide +kernel) rfl, gIn 4 (by decide +kernel) rfl, by decide +kernel, by decide +kernel, by decide +kernel, by decide +kernel⟩
theorem q_Ha_greatestWay : gCB m_Ha_greatestWay 0 := ⟨gIn 379 (by decide +kernel) rfl, gIn 4 (by decide +kernel) rfl, by decide +kernel, by decide +kernel, by decide +kernel, by decide +kernel⟩
theorem q_Ha_handleOf : gCB m_Ha_handleOf 1 := ⟨gIn 559 (by decide +kernel) rfl, gIn 4 (by decide +kernel) rfl, by decide +kernel, by decide +kernel, by decide +kernel, by decide +kernel⟩
theorem q_Ha_init : gCB m_Ha_init 0 := ⟨gIn 33 (by decide +kernel) rfl, gIn 4 (by decide +kernel) rfl, by decide +kernel, by decide +kernel, by decide +kernel, by decide +kernel⟩
theorem q_Ha_isEntry : gCB m_Ha_isEntry 1 := ⟨gIn 383 (by decide +kernel) rfl, gIn 4 (by decide +kernel) rfl, by decide +kernel, by decide +kernel, by decide +kernel, by decide +kernel⟩
theorem q_Ha_lastFrom : gCB m_Ha_lastFrom 1 := ⟨gIn 551 (by decide +kernel) rfl, gIn 4 (by decide +kernel) rfl, by decide +kernel, by decide +kernel, by decide +kernel, by decide +kernel⟩
theorem q_Ha_makeRoom : gCB m_Ha_makeRoom 1 := ⟨gIn 275 (by decide +kernel) rfl, gIn 4 (by decide +kernel) rfl, by decide +kernel, by decide +kernel, by decide +kernel, by decide +kernel⟩
theorem q_Ha_ownerOf : gCB m_Ha_ownerOf 1 := ⟨gIn 473 (by decide +kernel) rfl, gIn 4 (by decide +kernel) rfl, by decide +kernel, by decide +kernel, by decide +kernel, by decide +kernel⟩
theorem q_Ha_shortenWays : gCB m_Ha_shortenWays 0 := ⟨gIn 387 (by decide +kernel) rfl, gIn 4 (by decide +kernel) rfl, by decide +kernel, by decide +kernel, by decide +kernel, by decide +kernel⟩
theorem q_Ha_wayFrom : gCB m_Ha_wayFrom 1 := ⟨gIn 578 (by decide +kernel) rfl, gIn 4 (by decide +kernel) rfl, by decide +kernel, by decide +kernel, by decide +kernel, by decide +kernel⟩
theorem q_Hi_init : gCB m_Hi_init 0 := ⟨gIn 186 (by decide +kernel) rfl, gIn 8 (by decide +kernel) rfl, by decide +kernel, by decide +kernel, by decide +kernel, by decide +kernel⟩
theorem q_Hi_record : gCB m_Hi_record 1 := ⟨gIn 252 (by decide +kernel) rfl, gIn 8 (by decide +kernel) rfl, by decide +kernel, by decide +kernel, by decide +kernel, by decide +kernel⟩
theorem q_Hi_takeBack : gCB m_Hi_takeBack 1 := ⟨gIn 427 (by decide +kernel) rfl, gIn 8 (by decide +kernel) rfl, by decide +kernel, by decide +kernel, by decide +kernel, by decide +kernel⟩
theorem q_Ho_canHold : gCB m_Ho_canHold 0 := ⟨gIn 342 (by decide +kernel) rfl, gIn 7 (by decide +kernel) rfl, by decide +kernel, by decide +kernel, by decide +kernel, by decide +kernel⟩
theorem q_Ho_copyFrom : gCB m_Ho_copyFrom 1 := ⟨gIn 267 (by decide +kernel) rfl, gIn 7 (by decide +kernel) rfl, by decide +kernel, by decide +kernel, by decide +kernel, by decide +kernel⟩
theorem q_Ho_handle : gCB m_Ho_handle 0 := ⟨gIn 354 (by decide +kernel) rfl, gIn 7 (by decide +kernel) rfl, by decide +kernel, by decide +kernel, by decide +kernel, by decide +kernel⟩
theorem q_Ho_hang : gCB m_Ho_hang 3 := ⟨gIn 362 (by decide +kernel) rfl, gIn 7 (by decide +kernel) rfl, by decide +kernel, by decide +kernel, by decide +kernel, by decide +kernel⟩
theorem q_Ho_holdsCoat : gCB m_Ho_holdsCoat 0 := ⟨gIn 407 (by decide +kernel) rfl, gIn 7 (by decide +kernel) rfl, by decide +kernel, by decide +kernel, by decide +kernel, by decide +kernel⟩
theorem q_Ho_init : gCB m_Ho_init 1 := ⟨gIn 88 (by decide +kernel) rfl, gIn 7 (by decide +kernel) rfl, by decide +kernel, by decide +kernel, by decide +kernel, by decide +kernel⟩
theorem q_Ho_release : gCB m_Ho_release 1 := ⟨gIn 419 (by decide +kernel) rfl, gIn 7 (by decide +kernel) rfl, by decide +kernel, by decide +kernel, by decide +kernel, by decide +kernel⟩
theorem q_Ho_tell : gCB m_Ho_tell 1 := ⟨gIn 445 (by decide +kernel) rfl, gIn 7 (by decide +kernel) rfl, by decide +kernel, by decide +kernel, by decide +kernel, by decide +kernel⟩
theorem q_Lg_add : gCB m_Lg_add 3 := ⟨gIn 367 (by decide +kernel) rfl, gIn 5 (by decide +kernel) rfl, by decide +kernel, by decide +kernel, by decide +kernel, by decide +kernel⟩
theorem q_Lg_copyFrom : gCB m_Lg_copyFrom 1 := ⟨gIn 300 (by decide +kernel) rfl, gIn 5 (by decide +kernel) rfl, by decide +kernel, by decide +kernel, by decide +kernel, by decide +kernel⟩
theorem q_Lg_init : gCB m_Lg_init 0 := ⟨gIn 60 (by decide +kernel) rfl, gIn 5 (by decide +kernel) rfl, by decide +kernel, by decide +kernel, by decide +kernel, by decide +kernel⟩
theorem q_Lg_look : gCB m_Lg_look 2 := ⟨gIn 490 (by decide +kernel) rfl, gIn 5 (by decide +kernel) rfl, by decide +kernel, by decide +kernel, by decide +kernel, by decide +kernel⟩
theorem q_Lg_timesOf : gCB m_Lg_timesOf 1 := ⟨gIn 502 (by decide +kernel) rfl, gIn 5 (by decide +kernel) rfl, by decide +kernel, by decide +kernel, by decide +kernel, by decide +kernel⟩
theorem q_Lw_acts : gCB m_Lw_acts 2 := ⟨gIn 589 (by decide +kernel) rfl, gIn 1 (by decide +kernel) rfl, by decide +kernel, by decide +kernel, by decide +kernel, by decide +kernel⟩
theorem q_Lw_all : gCB m_Lw_all 1 := ⟨gIn 512 (by decide +kernel) rfl, gIn 1 (by decide +kernel) rfl, by decide +kernel, by decide +kernel, by decide +kernel, by decide +kernel⟩
theorem q_Lw_cell : gCB m_Lw_cell 2 := ⟨gIn 505 (by decide +kernel) rfl, gIn 1 (by decide +kernel) rfl, by decide +kernel, by decide +kernel, by decide +kernel, by decide +kernel⟩
theorem q_Lw_isSound : gCB m_Lw_isSound 1 := ⟨gIn 531 (by decide +kernel) rfl, gIn 1 (by decide +kernel) rfl, by decide +kernel, by decide +kernel, by decide +kernel, by decide +kernel⟩
theorem q_Lw_isTagged : gCB m_Lw_isTagged 2 := ⟨gIn 581 (by decide +kernel) rfl, gIn 1 (by decide +kernel) rfl, by decide +kernel, by decide +kernel, by decide +kernel, by decide +kernel⟩
theorem q_Lw_low : gCB m_Lw_low 2 := ⟨gIn 508 (by decide +kernel) rfl, gIn 1 (by decide +kernel) rfl, by decide +kernel, by decide +kernel, by decide +kernel, by decide +kernel⟩
theorem q_Ma_floorMod : gCB m_Ma_floorMod 2 := ⟨gIn 255 (by decide +kernel) rfl, gIn 10 (by decide +kernel) rfl, by decide +kernel, by decide +kernel, by decide +kernel, by decide +kernel⟩
theorem q_Ma_max : gCB m_Ma_max 2 := ⟨gIn 281 (by decide +kernel) rfl, gIn 10 (by decide +kernel) rfl, by decide +kernel, by decide +kernel, by decide +kernel, by decide +kernel⟩
theorem q_Ma_min : gCB m_Ma_min 2 := ⟨gIn 278 (by decide +kernel) rfl, gIn 10 (by decide +kernel) rfl, by decide +kernel, by decide +kernel, by decide +kernel, by decide +kernel⟩
theorem q_Rk_admits : gCB m_Rk_admits 1 := ⟨gIn 338 (by decide +kernel) rfl, gIn 6 (by decide +kernel) rfl, by decide +kernel, by decide +kernel, by decide +kernel, by decide +kernel⟩
theorem q_Rk_copyFrom : gCB m_Rk_copyFrom 1 := ⟨gIn 263 (by decide +kernel) rfl, gIn 6 (by decide +kernel) rfl, by decide +kernel, by decide +kernel, by decide +kernel, by decide +kernel⟩
theorem q_Rk_hasRoomForAllOf : gCB m_Rk_hasRoomForAllOf 1 := ⟨gIn 634 (by decide +kernel) rfl, gIn 6 (by decide +kernel) rfl, by decide +kernel, by decide +kernel, by decide +kernel, by decide +kernel⟩
theorem q_Rk_hookAt : gCB m_Rk_hookAt 1 := ⟨gIn 330 (by decide +kernel) rfl, gIn 6 (by decide +kernel) rfl, by decide +kernel, by decide +kernel, by decide +kernel, by decide +kernel⟩
theorem q_Rk_init : gCB m_Rk_init 1 := ⟨gIn 81 (by decide +kernel) rfl, gIn 6 (by decide +kernel) rfl, by decide +kernel, by decide +kernel, by decide +kernel, by decide +kernel⟩
theorem q_Rk_lowestHookThatCanHold : gCB m_Rk_lowestHookThatCanHold 0 := ⟨gIn 645 (by decide +kernel) rfl, gIn 6 (by decide +kernel) rfl, by decide +kernel, by decide +kernel, by decide +kernel, by decide +kernel⟩
theorem q_Rk_total : gCB m_Rk_total 1 := ⟨gIn 440 (by decide +kernel) rfl, gIn 6 (by decide +kernel) rfl, by decide +kernel, by decide +kernel, by decide +kernel, by decide +kernel⟩
theorem q_St_carry : gCB m_St_carry 2 := ⟨gIn 622 (by decide +kernel) rfl, gIn 3 (by decide +kernel) rfl, by decide +kernel, by decide +kernel, by decide +kernel, by decide +kernel⟩
theorem q_St_carryAll : gCB m_St_carryAll 2 := ⟨gIn 641 (by decide +kernel) rfl, gIn 3 (by decide +kernel) rfl, by decide +kernel, by decide +kernel, by decide +kernel, by decide +kernel⟩
theorem q_St_coatAt : gCB m_St_coatAt 1 := ⟨gIn 403 (by decide +kernel) rfl, gIn 3 (by decide +kernel) rfl, by decide +kernel, by decide +kernel, by decide +kernel, by decide +kernel⟩
theorem q_St_coatsOfGuest : gCB m_St_coatsOfGuest 1 := ⟨gIn 465 (by decide +kernel) rfl, gIn 3 (by decide +kernel) rfl, by decide +kernel, by decide +kernel, by decide +kernel, by decide +kernel⟩
theorem q_St_copyFrom : gCB m_St_copyFrom 1 := ⟨gIn 259 (by decide +kernel) rfl, gIn 3 (by decide +kernel) rfl, by decide +kernel, by decide +kernel, by decide +kernel, by decide +kernel⟩
theorem q_St_dueFor : gCB m_St_dueFor 1 := ⟨gIn 481 (by decide +kernel) rfl, gIn 3 (by decide +kernel) rfl, by decide +kernel, by decide +kernel, by decide +kernel, by decide +kernel⟩
theorem q_St_dueForGuest : gCB m_St_dueForGuest 1 := ⟨gIn 477 (by decide +kernel) rfl, gIn 3 (by decide +kernel) rfl, by decide +kernel, by decide +kernel, by decide +kernel, by decide +kernel⟩
theorem q_St_goesAhead : gCB m_St_goesAhead 2 := ⟨gIn 346 (by decide +kernel) rfl, gIn 3 (by decide +kernel) rfl, by decide +kernel, by decide +kernel, by decide +kernel, by decide +kernel⟩
theorem q_St_handOver : gCB m_St_handOver 3 := ⟨gIn 411 (by decide +kernel) rfl, gIn 3 (by decide +kernel) rfl, by decide +kernel, by decide +kernel, by decide +kernel, by decide +kernel⟩
theorem q_St_hookAt : gCB m_St_hookAt 1 := ⟨gIn 326 (by decide +kernel) rfl, gIn 3 (by decide +kernel) rfl, by decide +kernel, by decide +kernel, by decide +kernel, by decide +kernel⟩
theorem q_St_hookByRule : gCB m_St_hookByRule 1 := ⟨gIn 322 (by decide +kernel) rfl, gIn 3 (by decide +kernel) rfl, by decide +kernel, by decide +kernel, by decide +kernel, by decide +kernel⟩
theorem q_St_hookOfGuest : gCB m_St_hookOfGuest 2 := ⟨gIn 613 (by decide +kernel) rfl, gIn 3 (by decide +kernel) rfl, by decide +kernel, by decide +kernel, by decide +kernel, by decide +kernel⟩
theorem q_St_hooksInAll : gCB m_St_hooksInAll 0 := ⟨gIn 498 (by decide +kernel) rfl, gIn 3 (by decide +kernel) rfl, by decide +kernel, by decide +kernel, by decide +kernel, by decide +kernel⟩
theorem q_St_init : gCB m_St_init 0 := ⟨gIn 25 (by decide +kernel) rfl, gIn 3 (by decide +kernel) rfl, by decide +kernel, by decide +kernel, by decide +kernel, by decide +kernel⟩
theorem q_St_isCoatOf : gCB m_St_isCoatOf 2 := ⟨gIn 469 (by decide +kernel) rfl, gIn 3 (by decide +kernel) rfl, by decide +kernel, by decide +kernel, by decide +kernel, by decide +kernel⟩
theorem q_St_isFree : gCB m_St_isFree 2 := ⟨gIn 334 (by decide +kernel) rfl, gIn 3 (by decide +kernel) rfl, by decide +kernel, by decide +kernel, by decide +kernel, by decide +kernel⟩
theorem q_St_passOneDay : gCB m_St_passOneDay 0 := ⟨gIn 399 (by decide +kernel) rfl, gIn 3 (by decide +kernel) rfl, by decide +kernel, by decide +kernel, by decide +kernel, by decide +kernel⟩
theorem q_St_placeOf : gCB m_St_placeOf 1 := ⟨gIn 539 (by decide +kernel) rfl, gIn 3 (by decide +kernel) rfl, by decide +kernel, by decide +kernel, by decide +kernel, by decide +kernel⟩
theorem q_St_rackAt : gCB m_St_rackAt 1 := ⟨gIn 311 (by decide +kernel) rfl, gIn 3 (by decide +kernel) rfl, by decide +kernel, by decide +kernel, by decide +kernel, by decide +kernel⟩
theorem q_St_setUpRack : gCB m_St_setUpRack 2 := ⟨gIn 307 (by decide +kernel) rfl, gIn 3 (by decide +kernel) rfl, by decide +kernel, by decide +kernel, by decide +kernel, by decide +kernel⟩
theorem q_St_takeIn : gCB m_St_takeIn 3 := ⟨gIn 350 (by decide +kernel) rfl, gIn 3 (by decide +kernel) rfl, by decide +kernel, by decide +kernel, by decide +kernel, by decide +kernel⟩
theorem q_St_total : gCB m_St_total 1 := ⟨gIn 436 (by decide +kernel) rfl, gIn 3 (by decide +kernel) rfl, by decide +kernel, by decide +kernel, by decide +kernel, by decide +kernel⟩
theorem q_Tx_init : gCB m_Tx_init 0 := ⟨gIn 206 (by decide +kernel) rfl, gIn 9 (by decide +kernel) rfl, by decide +kernel, by decide +kernel, by decide +kernel, by decide +kernel⟩
theorem q_Yt_addRack : gCB m_Yt_addRack 2 := ⟨gIn 245 (by decide +kernel) rfl, gIn 2 (by decide +kernel) rfl, by decide +kernel, by decide +kernel, by decide +kernel, by decide +kernel⟩
theorem q_Yt_age : gCB m_Yt_age 2 := ⟨gIn 597 (by decide +kernel) rfl, gIn 2 (by decide +kernel) rfl, by decide +kernel, by decide +kernel, by decide +kernel, by decide +kernel⟩
theorem q_Yt_claim : gCB m_Yt_claim 1 := ⟨gIn 585 (by decide +kernel) rfl, gIn 2 (by decide +kernel) rfl, by decide +kernel, by decide +kernel, by decide +kernel, by decide +kernel⟩
theorem q_Yt_count : gCB m_Yt_count 1 := ⟨gIn 494 (by decide +kernel) rfl, gIn 2 (by decide +kernel) rfl, by decide +kernel, by decide +kernel, by decide +kernel, by decide +kernel⟩
theorem q_Yt_due : gCB m_Yt_due 1 := ⟨gIn 535 (by decide +kernel) rfl, gIn 2 (by decide +kernel) rfl, by decide +kernel, by decide +kernel, by decide +kernel, by decide +kernel⟩
theorem q_Yt_event : gCB m_Yt_event 2 := ⟨gIn 486 (by decide +kernel) rfl, gIn 2 (by decide +kernel) rfl, by decide +kernel, by decide +kernel, by decide +kernel, by decide +kernel⟩
theorem q_Yt_giveOut : gCB m_Yt_giveOut 2 := ⟨gIn 609 (by decide +kernel) rfl, gIn 2 (by decide +kernel) rfl, by decide +kernel, by decide +kernel, by decide +kernel, by decide +kernel⟩
theorem q_Yt_guest : gCB m_Yt_guest 2 := ⟨gIn 461 (by decide +kernel) rfl, gIn 2 (by decide +kernel) rfl, by decide +kernel, by decide +kernel, by decide +kernel, by decide +kernel⟩
theorem q_Yt_hook : gCB m_Yt_hook 2 := ⟨gIn 518 (by decide +kernel) rfl, gIn 2 (by decide +kernel) rfl, by decide +kernel, by decide +kernel, by decide +kernel, by decide +kernel⟩
theorem q_Yt_init : gCB m_Yt_init 0 := ⟨gIn 17 (by decide +kernel) rfl, gIn 2 (by decide +kernel) rfl, by decide +kernel, by decide +kernel, by decide +kernel, by decide +kernel⟩
theorem q_Yt_isGuest : gCB m_Yt_isGuest 1 := ⟨gIn 318 (by decide +kernel) rfl, gIn 2 (by decide +kernel) rfl, by decide +kernel, by decide +kernel, by decide +kernel, by decide +kernel⟩
theorem q_Yt_isRightTag : gCB m_Yt_isRightTag 1 := ⟨gIn 542 (by decide +kernel) rfl, gIn 2 (by decide +kernel) rfl, by decide +kernel, by decide +kernel, by decide +kernel, by decide +kernel⟩
theorem q_Yt_isSetting : gCB m_Yt_isSetting 2 := ⟨gIn 605 (by decide +kernel) rfl, gIn 2 (by decide +kernel) rfl, by decide +kernel, by decide +kernel, by decide +kernel, by decide +kernel⟩
theorem q_Yt_isSize : gCB m_Yt_isSize 1 := ⟨gIn 248 (by decide +kernel) rfl, gIn 2 (by decide +kernel) rfl, by decide +kernel, by decide +kernel, by decide +kernel, by decide +kernel⟩
theorem q_Yt_keep : gCB m_Yt_keep 0 := ⟨gIn 431 (by decide +kernel) rfl, gIn 2 (by decide +kernel) rfl, by decide +kernel, by decide +kernel, by decide +kernel, by decide +kernel⟩
theorem q_Yt_move : gCB m_Yt_move 2 := ⟨gIn 617 (by decide +kernel) rfl, gIn 2 (by decide +kernel) rfl, by decide +kernel, by decide +kernel, by decide +kernel, by decide +kernel⟩
theorem q_Yt_moveAll : gCB m_Yt_moveAll 2 := ⟨gIn 630 (by decide +kernel) rfl, gIn 2 (by decide +kernel) rfl, by decide +kernel, by decide +kernel, by decide +kernel, by decide +kernel⟩
theorem q_Yt_next : gCB m_Yt_next 1 := ⟨gIn 528 (by decide +kernel) rfl, gIn 2 (by decide +kernel) rfl, by decide +kernel, by decide +kernel, by decide +kernel, by decide +kernel⟩
theorem q_Yt_open : gCB m_Yt_open 2 := ⟨gIn 593 (by decide +kernel) rfl, gIn 2 (by decide +kernel) rfl, by decide +kernel, by decide +kernel, by decide +kernel, by decide +kernel⟩
theorem q_Yt_pass : gCB m_Yt_pass 1 := ⟨gIn 395 (by decide +kernel) rfl, gIn 2 (by decide +kernel) rfl, by decide +kernel, by decide +kernel, by decide +kernel, by decide +kernel⟩
theorem q_Yt_rack : gCB m_Yt_rack 2 := ⟨gIn 455 (by decide +kernel) rfl, gIn 2 (by decide +kernel) rfl, by decide +kernel, by decide +kernel, by decide +kernel, by decide +kernel⟩
theorem q_Yt_restore : gCB m_Yt_restore 0 := ⟨gIn 451 (by decide +kernel) rfl, gIn 2 (by decide +kernel) rfl, by decide +kernel, by decide +kernel, by decide +kernel, by decide +kernel⟩
theorem q_Yt_set : gCB m_Yt_set 2 := ⟨gIn 602 (by decide +kernel) rfl, gIn 2 (by decide +kernel) rfl, by decide +kernel, by decide +kernel, by decide +kernel, by decide +kernel⟩
theorem q_Yt_shorten : gCB m_Yt_shorten 0 := ⟨gIn 375 (by decide +kernel) rfl, gIn 2 (by decide +kernel) rfl, by decide +kernel, by decide +kernel, by decide +kernel, by decide +kernel⟩
theorem q_Yt_tag : gCB m_Yt_tag 2 := ⟨gIn 568 (by decide +kernel) rfl, gIn 2 (by decide +kernel) rfl, by decide +kernel, by decide +kernel, by decide +kernel, by decide +kernel⟩
theorem q_Yt_tagOf : gCB m_Yt_tagOf 1 := ⟨gIn 564 (by decide +kernel) rfl, gIn 2 (by decide +kernel) rfl, by decide +kernel, by decide +kernel, by decide +kernel, by decide +kernel⟩
theorem q_Yt_tagWithCheck : gCB m_Yt_tagWithCheck 1 := ⟨gIn 371 (by decide +kernel) rfl, gIn 2 (by decide +kernel) rfl, by decide +kernel, by decide +kernel, by decide +kernel, by decide +kernel⟩
theorem q_Yt_take : gCB m_Yt_take 2 := ⟨gIn 315 (by decide +kernel) rfl, gIn 2 (by decide +kernel) rfl, by decide +kernel, by decide +kernel, by decide +kernel, by decide +kernel⟩
theorem q_Yt_undo : gCB m_Yt_undo 0 := ⟨gIn 423 (by decide +kernel) rfl, gIn 2 (by decide +kernel) rfl, by decide +kernel, by decide +kernel, by decide +kernel, by decide +kernel⟩
theorem f_Yt_10 : gFd "YearTags" 10 7 0 (.object "YearTags$State") true := ⟨R_Yt, F_Yt, 6, t_Yt, rfl, i_Yt, t_Yt_ok, n_Yt, by decide, gIn 223 (by decide +kernel) rfl, rfl, rfl⟩
theorem f_Yt_16 : gFd "YearTags" 16 7 1 (.object "YearTags$State") true := ⟨R_Yt, F_Yt, 6, t_Yt, rfl, i_Yt, t_Yt_ok, n_Yt, by decide, gIn 224 (by decide +kernel) rfl, rfl, rfl⟩
theorem f_Yt_19 : gFd "YearTags" 19 7 2 (.boolean) false := ⟨R_Yt, F_Yt, 6, t_Yt, rfl, i_Yt, t_Yt_ok, n_Yt, by decide, gIn 225 (by decide +kernel) rfl, rfl, rfl⟩
theorem f_Yt_26 : gFd "YearTags" 26 7 3 (.object "YearTags$History") true := ⟨R_Yt, F_Yt, 6, t_Yt, rfl, i_Yt, t_Yt_ok, n_Yt, by decide, gIn 226 (by decide +kernel) rfl, rfl, rfl⟩
theorem f_Yt_33 : gFd "YearTags" 33 7 4 (.object "YearTags$TagText") true := ⟨R_Yt, F_Yt, 6, t_Yt, rfl, i_Yt, t_Yt_ok, n_Yt, by decide, gIn 227 (by decide +kernel) rfl, rfl, rfl⟩
theorem f_Yt_37 : gFd "YearTags" 37 7 5 (.array .int) true := ⟨R_Yt, F_Yt, 6, t_Yt, rfl, i_Yt, t_Yt_ok, n_Yt, by decide, gIn 228 (by decide +kernel) rfl, rfl, rfl⟩
theorem f_Yt_45 : gFd "YearTags" 45 5 1 (.int) false := ⟨R_St, F_St, 9, t_St, rfl, i_St, t_St_ok, n_St, by decide, gIn 149 (by decide +kernel) rfl, rfl, rfl⟩
theorem f_Yt_61 : gFd "YearTags" 61 4 3 (.boolean) false := ⟨R_Rk, F_Rk, 4, t_Rk, rfl, i_Rk, t_Rk_ok, n_Rk, by decide, gIn 136 (by decide +kernel) rfl, rfl, rfl⟩
theorem f_Yt_76 : gFd "YearTags" 76 2 1 (.int) false := ⟨R_Ho, F_Ho, 8, t_Ho, rfl, i_Ho, t_Ho_ok, n_Ho, by decide, gIn 94 (by decide +kernel) rfl, rfl, rfl⟩
theorem f_Yt_87 : gFd "YearTags" 87 5 4 (.array .int) true := ⟨R_St, F_St, 9, t_St, rfl, i_St, t_St_ok, n_St, by decide, gIn 155 (by decide +kernel) rfl, rfl, rfl⟩
theorem f_Yt_115 : gFd "YearTags" 115 2 6 (.int) false := ⟨R_Ho, F_Ho, 8, t_Ho, rfl, i_Ho, t_Ho_ok, n_Ho, by decide, gIn 106 (by decide +kernel) rfl, rfl, rfl⟩
theorem f_Yt_134 : gFd "YearTags" 134 5 2 (.object "YearTags$Handles") true := ⟨R_St, F_St, 9, t_St, rfl, i_St, t_St_ok, n_St, by decide, gIn 151 (by decide +kernel) rfl, rfl, rfl⟩
theorem f_Yt_147 : gFd "YearTags" 147 5 6 (.int) false := ⟨R_St, F_St, 9, t_St, rfl, i_St, t_St_ok, n_St, by decide, gIn 159 (by decide +kernel) rfl, rfl, rfl⟩
theorem f_Yt_157 : gFd "YearTags" 157 6 1 (.int) false := ⟨R_Tx, F_Tx, 4, t_Tx, rfl, i_Tx, t_Tx_ok, n_Tx, by decide, gIn 210 (by decide +kernel) rfl, rfl, rfl⟩
theorem f_Yt_173 : gFd "YearTags" 173 1 2 (.int) false := ⟨R_Hi, F_Hi, 3, t_Hi, rfl, i_Hi, t_Hi_ok, n_Hi, by decide, gIn 194 (by decide +kernel) rfl, rfl, rfl⟩
theorem f_Yt_180 : gFd "YearTags" 180 4 1 (.int) false := ⟨R_Rk, F_Rk, 4, t_Rk, rfl, i_Rk, t_Rk_ok, n_Rk, by decide, gIn 131 (by decide +kernel) rfl, rfl, rfl⟩
theorem f_Yt_183 : gFd "YearTags" 183 4 2 (.int) false := ⟨R_Rk, F_Rk, 4, t_Rk, rfl, i_Rk, t_Rk_ok, n_Rk, by decide, gIn 134 (by decide +kernel) rfl, rfl, rfl⟩
theorem f_Yt_190 : gFd "YearTags" 190 2 5 (.int) false := ⟨R_Ho, F_Ho, 8, t_Ho, rfl, i_Ho, t_Ho_ok, n_Ho, by decide, gIn 103 (by decide +kernel) rfl, rfl, rfl⟩
theorem f_Yt_196 : gFd "YearTags" 196 2 7 (.int) false := ⟨R_Ho, F_Ho, 8, t_Ho, rfl, i_Ho, t_Ho_ok, n_Ho, by decide, gIn 110 (by decide +kernel) rfl, rfl, rfl⟩
theorem f_Yt_205 : gFd "YearTags" 205 2 3 (.int) false := ⟨R_Ho, F_Ho, 8, t_Ho, rfl, i_Ho, t_Ho_ok, n_Ho, by decide, gIn 98 (by decide +kernel) rfl, rfl, rfl⟩
theorem f_Yt_235 : gFd "YearTags" 235 5 5 (.array .int) true := ⟨R_St, F_St, 9, t_St, rfl, i_St, t_St_ok, n_St, by decide, gIn 157 (by decide +kernel) rfl, rfl, rfl⟩
theorem f_Yt_238 : gFd "YearTags" 238 2 0 (.int) true := ⟨R_Ho, F_Ho, 8, t_Ho, rfl, i_Ho, t_Ho_ok, n_Ho, by decide, gIn 92 (by decide +kernel) rfl, rfl, rfl⟩
theorem f_Yt_241 : gFd "YearTags" 241 5 3 (.object "YearTags$Log") true := ⟨R_St, F_St, 9, t_St, rfl, i_St, t_St_ok, n_St, by decide, gIn 153 (by decide +kernel) rfl, rfl, rfl⟩
theorem f_Yt_253 : gFd "YearTags" 253 0 0 (.int) false := ⟨R_Ha, F_Ha, 6, t_Ha, rfl, i_Ha, t_Ha_ok, n_Ha, by decide, gIn 36 (by decide +kernel) rfl, rfl, rfl⟩
theorem f_Yt_259 : gFd "YearTags" 259 5 7 (.int) false := ⟨R_St, F_St, 9, t_St, rfl, i_St, t_St_ok, n_St, by decide, gIn 161 (by decide +kernel) rfl, rfl, rfl⟩
theorem f_Ha_9 : gFd "YearTags$Handles" 9 0 0 (.int) false := ⟨R_Ha, F_Ha, 6, t_Ha, rfl, i_Ha, t_Ha_ok, n_Ha, by decide, gIn 35 (by decide +kernel) rfl, rfl, rfl⟩
theorem f_Ha_15 : gFd "YearTags$Handles" 15 0 1 (.array .int) false := ⟨R_Ha, F_Ha, 6, t_Ha, rfl, i_Ha, t_Ha_ok, n_Ha, by decide, gIn 37 (by decide +kernel) rfl, rfl, rfl⟩
theorem f_Ha_19 : gFd "YearTags$Handles" 19 0 2 (.array .int) false := ⟨R_Ha, F_Ha, 6, t_Ha, rfl, i_Ha, t_Ha_ok, n_Ha, by decide, gIn 38 (by decide +kernel) rfl, rfl, rfl⟩
theorem f_Ha_22 : gFd "YearTags$Handles" 22 0 3 (.array .int) false := ⟨R_Ha, F_Ha, 6, t_Ha, rfl, i_Ha, t_Ha_ok, n_Ha, by decide, gIn 39 (by decide +kernel) rfl, rfl, rfl⟩
theorem f_Ha_25 : gFd "YearTags$Handles" 25 0 4 (.array .int) false := ⟨R_Ha, F_Ha, 6, t_Ha, rfl, i_Ha, t_Ha_ok, n_Ha, by decide, gIn 40 (by decide +kernel) rfl, rfl, rfl⟩
theorem f_Ha_28 : gFd "YearTags$Handles" 28 0 5 (.array .int) false := ⟨R_Ha, F_Ha, 6, t_Ha, rfl, i_Ha, t_Ha_ok, n_Ha, by decide, gIn 41 (by decide +kernel) rfl, rfl, rfl⟩
theorem f_Hi_11 : gFd "YearTags$History" 11 1 0 (.array (.object "YearTags$State")) true := ⟨R_Hi, F_Hi, 3, t_Hi, rfl, i_Hi, t_Hi_ok, n_Hi, by decide, gIn 191 (by decide +kernel) rfl, rfl, rfl⟩
theorem f_Hi_15 : gFd "YearTags$History" 15 1 1 (.int) false := ⟨R_Hi, F_Hi, 3, t_Hi, rfl, i_Hi, t_Hi_ok, n_Hi, by decide, gIn 192 (by decide +kernel) rfl, rfl, rfl⟩
theorem f_Hi_19 : gFd "YearTags$History" 19 1 2 (.int) false := ⟨R_Hi, F_Hi, 3, t_Hi, rfl, i_Hi, t_Hi_ok, n_Hi, by decide, gIn 193 (by decide +kernel) rfl, rfl, rfl⟩
theorem f_Ho_9 : gFd "YearTags$Hook" 9 2 1 (.int) false := ⟨R_Ho, F_Ho, 8, t_Ho, rfl, i_Ho, t_Ho_ok, n_Ho, by decide, gIn 93 (by decide +kernel) rfl, rfl, rfl⟩
theorem f_Ho_15 : gFd "YearTags$Hook" 15 2 2 (.boolean) false := ⟨R_Ho, F_Ho, 8, t_Ho, rfl, i_Ho, t_Ho_ok, n_Ho, by decide, gIn 96 (by decide +kernel) rfl, rfl, rfl⟩
theorem f_Ho_19 : gFd "YearTags$Hook" 19 2 3 (.int) false := ⟨R_Ho, F_Ho, 8, t_Ho, rfl, i_Ho, t_Ho_ok, n_Ho, by decide, gIn 97 (by decide +kernel) rfl, rfl, rfl⟩
theorem f_Ho_22 : gFd "YearTags$Hook" 22 2 4 (.int) false := ⟨R_Ho, F_Ho, 8, t_Ho, rfl, i_Ho, t_Ho_ok, n_Ho, by decide, gIn 99 (by decide +kernel) rfl, rfl, rfl⟩
theorem f_Ho_25 : gFd "YearTags$Hook" 25 2 5 (.int) false := ⟨R_Ho, F_Ho, 8, t_Ho, rfl, i_Ho, t_Ho_ok, n_Ho, by decide, gIn 101 (by decide +kernel) rfl, rfl, rfl⟩
theorem f_Ho_28 : gFd "YearTags$Hook" 28 2 6 (.int) false := ⟨R_Ho, F_Ho, 8, t_Ho, rfl, i_Ho, t_Ho_ok, n_Ho, by decide, gIn 104 (by decide +kernel) rfl, rfl, rfl⟩
theorem f_Ho_31 : gFd "YearTags$Hook" 31 2 7 (.int) false := ⟨R_Ho, F_Ho, 8, t_Ho, rfl, i_Ho, t_Ho_ok, n_Ho, by decide, gIn 108 (by decide +kernel) rfl, rfl, rfl⟩
theorem f_Ho_34 : gFd "YearTags$Hook" 34 2 0 (.int) true := ⟨R_Ho, F_Ho, 8, t_Ho, rfl, i_Ho, t_Ho_ok, n_Ho, by decide, gIn 90 (by decide +kernel) rfl, rfl, rfl⟩
theorem f_Lg_9 : gFd "YearTags$Log" 9 3 0 (.int) false := ⟨R_Lg, F_Lg, 5, t_Lg, rfl, i_Lg, t_Lg_ok, n_Lg, by decide, gIn 62 (by decide +kernel) rfl, rfl, rfl⟩
theorem f_Lg_15 : gFd "YearTags$Log" 15 3 1 (.array .int) true := ⟨R_Lg, F_Lg, 5, t_Lg, rfl, i_Lg, t_Lg_ok, n_Lg, by decide, gIn 63 (by decide +kernel) rfl, rfl, rfl⟩
theorem f_Lg_19 : gFd "YearTags$Log" 19 3 2 (.array .int) true := ⟨R_Lg, F_Lg, 5, t_Lg, rfl, i_Lg, t_Lg_ok, n_Lg, by decide, gIn 64 (by decide +kernel) rfl, rfl, rfl⟩
theorem f_Lg_22 : gFd "YearTags$Log" 22 3 3 (.array .int) true := ⟨R_Lg, F_Lg, 5, t_Lg, rfl, i_Lg, t_Lg_ok, n_Lg, by decide, gIn 65 (by decide +kernel) rfl, rfl, rfl⟩
theorem f_Lg_25 : gFd "YearTags$Log" 25 3 4 (.array .int) true := ⟨R_Lg, F_Lg, 5, t_Lg, rfl, i_Lg, t_Lg_ok, n_Lg, by decide, gIn 66 (by decide +kernel) rfl, rfl, rfl⟩
theorem f_Rk_11 : gFd "YearTags$Rack" 11 4 0 (.array (.object "YearTags$Hook")) true := ⟨R_Rk, F_Rk, 4, t_Rk, rfl, i_Rk, t_Rk_ok, n_Rk, by decide, gIn 128 (by decide +kernel) rfl, rfl, rfl⟩
theorem f_Rk_17 : gFd "YearTags$Rack" 17 4 1 (.int) false := ⟨R_Rk, F_Rk, 4, t_Rk, rfl, i_Rk, t_Rk_ok, n_Rk, by decide, gIn 129 (by decide +kernel) rfl, rfl, rfl⟩
theorem f_Rk_21 : gFd "YearTags$Rack" 21 4 2 (.int) false := ⟨R_Rk, F_Rk, 4, t_Rk, rfl, i_Rk, t_Rk_ok, n_Rk, by decide, gIn 132 (by decide +kernel) rfl, rfl, rfl⟩
theorem f_Rk_24 : gFd "YearTags$Rack" 24 4 3 (.boolean) false := ⟨R_Rk, F_Rk, 4, t_Rk, rfl, i_Rk, t_Rk_ok, n_Rk, by decide, gIn 135 (by decide +kernel) rfl, rfl, rfl⟩
theorem f_Rk_43 : gFd "YearTags$Rack" 43 2 6 (.int) false := ⟨R_Ho, F_Ho, 8, t_Ho, rfl, i_Ho, t_Ho_ok, n_Ho, by decide, gIn 105 (by decide +kernel) rfl, rfl, rfl⟩
theorem f_St_11 : gFd "YearTags$State" 11 5 0 (.array (.object "YearTags$Rack")) true := ⟨R_St, F_St, 9, t_St, rfl, i_St, t_St_ok, n_St, by decide, gIn 147 (by decide +kernel) rfl, rfl, rfl⟩
theorem f_St_17 : gFd "YearTags$State" 17 5 1 (.int) false := ⟨R_St, F_St, 9, t_St, rfl, i_St, t_St_ok, n_St, by decide, gIn 148 (by decide +kernel) rfl, rfl, rfl⟩
theorem f_St_24 : gFd "YearTags$State" 24 5 2 (.object "YearTags$Handles") true := ⟨R_St, F_St, 9, t_St, rfl, i_St, t_St_ok, n_St, by decide, gIn 150 (by decide +kernel) rfl, rfl, rfl⟩
theorem f_St_31 : gFd "YearTags$State" 31 5 3 (.object "YearTags$Log") true := ⟨R_St, F_St, 9, t_St, rfl, i_St, t_St_ok, n_St, by decide, gIn 152 (by decide +kernel) rfl, rfl, rfl⟩
theorem f_St_35 : gFd "YearTags$State" 35 5 4 (.array .int) true := ⟨R_St, F_St, 9, t_St, rfl, i_St, t_St_ok, n_St, by decide, gIn 154 (by decide +kernel) rfl, rfl, rfl⟩
theorem f_St_39 : gFd "YearTags$State" 39 5 5 (.array .int) true := ⟨R_St, F_St, 9, t_St, rfl, i_St, t_St_ok, n_St, by decide, gIn 156 (by decide +kernel) rfl, rfl, rfl⟩
theorem f_St_42 : gFd "YearTags$State" 42 5 6 (.int) false := ⟨R_St, F_St, 9, t_St, rfl, i_St, t_St_ok, n_St, by decide, gIn 158 (by decide +kernel) rfl, rfl, rfl⟩
theorem f_St_45 : gFd "YearTags$State" 45 5 7 (.int) false := ⟨R_St, F_St, 9, t_St, rfl, i_St, t_St_ok, n_St, by decide, gIn 160 (by decide +kernel) rfl, rfl, rfl⟩
theorem f_St_48 : gFd "YearTags$State" 48 5 8 (.int) false := ⟨R_St, F_St, 9, t_St, rfl, i_St, t_St_ok, n_St, by decide, gIn 162 (by decide +kernel) rfl, rfl, rfl⟩
theorem f_St_69 : gFd "YearTags$State" 69 4 1 (.int) false := ⟨R_Rk, F_Rk, 4, t_Rk, rfl, i_Rk, t_Rk_ok, n_Rk, by decide, gIn 130 (by decide +kernel) rfl, rfl, rfl⟩
theorem f_St_72 : gFd "YearTags$State" 72 4 2 (.int) false := ⟨R_Rk, F_Rk, 4, t_Rk, rfl, i_Rk, t_Rk_ok, n_Rk, by decide, gIn 133 (by decide +kernel) rfl, rfl, rfl⟩
theorem f_St_75 : gFd "YearTags$State" 75 4 3 (.boolean) false := ⟨R_Rk, F_Rk, 4, t_Rk, rfl, i_Rk, t_Rk_ok, n_Rk, by decide, gIn 137 (by decide +kernel) rfl, rfl, rfl⟩
theorem f_St_79 : gFd "YearTags$State" 79 2 0 (.int) true := ⟨R_Ho, F_Ho, 8, t_Ho, rfl, i_Ho, t_Ho_ok, n_Ho, by decide, gIn 91 (by decide +kernel) rfl, rfl, rfl⟩
theorem f_St_97 : gFd "YearTags$State" 97 2 4 (.int) false := ⟨R_Ho, F_Ho, 8, t_Ho, rfl, i_Ho, t_Ho_ok, n_Ho, by decide, gIn 100 (by decide +kernel) rfl, rfl, rfl⟩
theorem f_St_100 : gFd "YearTags$State" 100 2 1 (.int) false := ⟨R_Ho, F_Ho, 8, t_Ho, rfl, i_Ho, t_Ho_ok, n_Ho, by decide, gIn 95 (by decide +kernel) rfl, rfl, rfl⟩
theorem f_St_140 : gFd "YearTags$State" 140 2 5 (.int) false := ⟨R_Ho, F_Ho, 8, t_Ho, rfl, i_Ho, t_Ho_ok, n_Ho, by decide, gIn 102 (by decide +kernel) rfl, rfl, rfl⟩
theorem f_St_150 : gFd "YearTags$State" 150 2 6 (.int) false := ⟨R_Ho, F_Ho, 8, t_Ho, rfl, i_Ho, t_Ho_ok, n_Ho, by decide, gIn 107 (by decide +kernel) rfl, rfl, rfl⟩
theorem f_St_153 : gFd "YearTags$State" 153 2 7 (.int) false := ⟨R_Ho, F_Ho, 8, t_Ho, rfl, i_Ho, t_Ho_ok, n_Ho, by decide, gIn 109 (by decide +kernel) rfl, rfl, rfl⟩
theorem f_Tx_9 : gFd "YearTags$TagText" 9 6 0 (.array .char) true := ⟨R_Tx, F_Tx, 4, t_Tx, rfl, i_Tx, t_Tx_ok, n_Tx, by decide, gIn 208 (by decide +kernel) rfl, rfl, rfl⟩
theorem f_Tx_13 : gFd "YearTags$TagText" 13 6 1 (.int) false := ⟨R_Tx, F_Tx, 4, t_Tx, rfl, i_Tx, t_Tx_ok, n_Tx, by decide, gIn 209 (by decide +kernel) rfl, rfl, rfl⟩
theorem f_Tx_17 : gFd "YearTags$TagText" 17 6 2 (.array .int) true := ⟨R_Tx, F_Tx, 4, t_Tx, rfl, i_Tx, t_Tx_ok, n_Tx, by decide, gIn 211 (by decide +kernel) rfl, rfl, rfl⟩
theorem f_Tx_21 : gFd "YearTags$TagText" 21 6 3 (.int) false := ⟨R_Tx, F_Tx, 4, t_Tx, rfl, i_Tx, t_Tx_ok, n_Tx, by decide, gIn 212 (by decide +kernel) rfl, rfl, rfl⟩
theorem s_Yt_1 : gOi "YearTags" 1 := ⟨gIn 18 (by decide +kernel) rfl, gIn 19 (by decide +kernel) rfl, gIn 20 (by decide +kernel) rfl⟩
theorem s_Yt_9 : gSI "YearTags" 9 m_St_init := ⟨gIn 23 (by decide +kernel) rfl, gIn 24 (by decide +kernel) rfl, rfl, rfl⟩
theorem s_Yt_25 : gSI "YearTags" 25 m_Hi_init := ⟨gIn 184 (by decide +kernel) rfl, gIn 185 (by decide +kernel) rfl, rfl, rfl⟩
theorem s_Yt_32 : gSIN "YearTags" 32 m_Tx_init := ⟨"YearTags", List.mem_of_getElem? (i := 204) (by decide +kernel), gIn 205 (by decide +kernel) rfl, rfl, rfl⟩
theorem s_Yt_41 : gSS "YearTags" 41 m_Yt_isSize := ⟨gIn 246 (by decide +kernel) rfl, gIn 247 (by decide +kernel) rfl⟩
theorem s_Yt_49 : gSV "YearTags" 49 m_Hi_record := ⟨gIn 249 (by decide +kernel) rfl, gIn 250 (by decide +kernel) rfl, gIn 251 (by decide +kernel) rfl⟩
theorem s_Yt_53 : gSV "YearTags" 53 m_St_setUpRack := ⟨gIn 304 (by decide +kernel) rfl, gIn 305 (by decide +kernel) rfl, gIn 306 (by decide +kernel) rfl⟩
theorem s_Yt_57 : gSV "YearTags" 57 m_St_rackAt := ⟨gIn 456 (by decide +kernel) rfl, gIn 309 (by decide +kernel) rfl, gIn 310 (by decide +kernel) rfl⟩
theorem s_Yt_68 : gSV "YearTags" 68 m_Rk_total := ⟨gIn 457 (by decide +kernel) rfl, gIn 438 (by decide +kernel) rfl, gIn 439 (by decide +kernel) rfl⟩
theorem s_Yt_72 : gSV "YearTags" 72 m_St_hookAt := ⟨gIn 519 (by decide +kernel) rfl, gIn 324 (by decide +kernel) rfl, gIn 325 (by decide +kernel) rfl⟩
theorem s_Yt_79 : gSV "YearTags" 79 m_Ho_canHold := ⟨gIn 598 (by decide +kernel) rfl, gIn 340 (by decide +kernel) rfl, gIn 341 (by decide +kernel) rfl⟩
theorem s_Yt_83 : gSS "YearTags" 83 m_Yt_isSetting := ⟨gIn 603 (by decide +kernel) rfl, gIn 604 (by decide +kernel) rfl⟩
theorem s_Yt_90 : gSS "YearTags" 90 m_Yt_isGuest := ⟨gIn 316 (by decide +kernel) rfl, gIn 317 (by decide +kernel) rfl⟩
theorem s_Yt_93 : gSV "YearTags" 93 m_St_hookByRule := ⟨gIn 319 (by decide +kernel) rfl, gIn 320 (by decide +kernel) rfl, gIn 321 (by decide +kernel) rfl⟩
theorem s_Yt_96 : gSV "YearTags" 96 m_St_takeIn := ⟨gIn 347 (by decide +kernel) rfl, gIn 348 (by decide +kernel) rfl, gIn 349 (by decide +kernel) rfl⟩
theorem s_Yt_100 : gSV "YearTags" 100 m_St_placeOf := ⟨gIn 536 (by decide +kernel) rfl, gIn 537 (by decide +kernel) rfl, gIn 538 (by decide +kernel) rfl⟩
theorem s_Yt_103 : gSV "YearTags" 103 m_St_dueFor := ⟨gIn 560 (by decide +kernel) rfl, gIn 479 (by decide +kernel) rfl, gIn 480 (by decide +kernel) rfl⟩
theorem s_Yt_107 : gSV "YearTags" 107 m_St_handOver := ⟨gIn 586 (by decide +kernel) rfl, gIn 409 (by decide +kernel) rfl, gIn 410 (by decide +kernel) rfl⟩
theorem s_Yt_111 : gSV "YearTags" 111 m_St_hookOfGuest := ⟨gIn 610 (by decide +kernel) rfl, gIn 611 (by decide +kernel) rfl, gIn 612 (by decide +kernel) rfl⟩
theorem s_Yt_118 : gSV "YearTags" 118 m_St_isFree := ⟨gIn 618 (by decide +kernel) rfl, gIn 332 (by decide +kernel) rfl, gIn 333 (by decide +kernel) rfl⟩
theorem s_Yt_122 : gSV "YearTags" 122 m_St_carry := ⟨gIn 619 (by decide +kernel) rfl, gIn 620 (by decide +kernel) rfl, gIn 621 (by decide +kernel) rfl⟩
theorem s_Yt_126 : gSV "YearTags" 126 m_Rk_hasRoomForAllOf := ⟨gIn 631 (by decide +kernel) rfl, gIn 632 (by decide +kernel) rfl, gIn 633 (by decide +kernel) rfl⟩
theorem s_Yt_130 : gSV "YearTags" 130 m_St_carryAll := ⟨gIn 638 (by decide +kernel) rfl, gIn 639 (by decide +kernel) rfl, gIn 640 (by decide +kernel) rfl⟩
theorem s_Yt_138 : gSV "YearTags" 138 m_Ha_greatestWay := ⟨gIn 376 (by decide +kernel) rfl, gIn 377 (by decide +kernel) rfl, gIn 378 (by decide +kernel) rfl⟩
theorem s_Yt_144 : gSV "YearTags" 144 m_Ha_shortenWays := ⟨gIn 384 (by decide +kernel) rfl, gIn 385 (by decide +kernel) rfl, gIn 386 (by decide +kernel) rfl⟩
theorem s_Yt_150 : gSV "YearTags" 150 m_St_passOneDay := ⟨gIn 396 (by decide +kernel) rfl, gIn 397 (by decide +kernel) rfl, gIn 398 (by decide +kernel) rfl⟩
theorem s_Yt_169 : gSV "YearTags" 169 m_Hi_takeBack := ⟨gIn 424 (by decide +kernel) rfl, gIn 425 (by decide +kernel) rfl, gIn 426 (by decide +kernel) rfl⟩
theorem s_Yt_176 : gSV "YearTags" 176 m_St_copyFrom := ⟨gIn 432 (by decide +kernel) rfl, gIn 257 (by decide +kernel) rfl, gIn 258 (by decide +kernel) rfl⟩
theorem s_Yt_179 : gSV "YearTags" 179 m_St_total := ⟨gIn 433 (by decide +kernel) rfl, gIn 434 (by decide +kernel) rfl, gIn 435 (by decide +kernel) rfl⟩
theorem s_Yt_184 : gSV "YearTags" 184 m_Ho_tell := ⟨gIn 520 (by decide +kernel) rfl, gIn 443 (by decide +kernel) rfl, gIn 444 (by decide +kernel) rfl⟩
theorem s_Yt_187 : gSV "YearTags" 187 m_Ho_holdsCoat := ⟨gIn 521 (by decide +kernel) rfl, gIn 405 (by decide +kernel) rfl, gIn 406 (by decide +kernel) rfl⟩
theorem s_Yt_193 : gSV "YearTags" 193 m_Ha_ownerOf := ⟨gIn 522 (by decide +kernel) rfl, gIn 471 (by decide +kernel) rfl, gIn 472 (by decide +kernel) rfl⟩
theorem s_Yt_199 : gSV "YearTags" 199 m_Ho_handle := ⟨gIn 523 (by decide +kernel) rfl, gIn 352 (by decide +kernel) rfl, gIn 353 (by decide +kernel) rfl⟩
theorem s_Yt_202 : gSS "YearTags" 202 m_Yt_tagWithCheck := ⟨gIn 524 (by decide +kernel) rfl, gIn 370 (by decide +kernel) rfl⟩
theorem s_Yt_208 : gSS "YearTags" 208 m_Yt_isRightTag := ⟨gIn 569 (by decide +kernel) rfl, gIn 541 (by decide +kernel) rfl⟩
theorem s_Yt_211 : gSV "YearTags" 211 m_Ha_find := ⟨gIn 570 (by decide +kernel) rfl, gIn 545 (by decide +kernel) rfl, gIn 546 (by decide +kernel) rfl⟩
theorem s_Yt_214 : gSV "YearTags" 214 m_Ha_lastFrom := ⟨gIn 571 (by decide +kernel) rfl, gIn 549 (by decide +kernel) rfl, gIn 550 (by decide +kernel) rfl⟩
theorem s_Yt_217 : gSV "YearTags" 217 m_Ha_followerOf := ⟨gIn 572 (by decide +kernel) rfl, gIn 389 (by decide +kernel) rfl, gIn 390 (by decide +kernel) rfl⟩
theorem s_Yt_220 : gSV "YearTags" 220 m_Ha_endOf := ⟨gIn 573 (by decide +kernel) rfl, gIn 553 (by decide +kernel) rfl, gIn 554 (by decide +kernel) rfl⟩
theorem s_Yt_223 : gSV "YearTags" 223 m_Ha_handleOf := ⟨gIn 574 (by decide +kernel) rfl, gIn 557 (by decide +kernel) rfl, gIn 558 (by decide +kernel) rfl⟩
theorem s_Yt_226 : gSV "YearTags" 226 m_Ha_wayFrom := ⟨gIn 575 (by decide +kernel) rfl, gIn 576 (by decide +kernel) rfl, gIn 577 (by decide +kernel) rfl⟩
theorem s_Yt_229 : gSV "YearTags" 229 m_St_coatsOfGuest := ⟨gIn 462 (by decide +kernel) rfl, gIn 463 (by decide +kernel) rfl, gIn 464 (by decide +kernel) rfl⟩
theorem s_Yt_232 : gSV "YearTags" 232 m_St_dueForGuest := ⟨gIn 474 (by decide +kernel) rfl, gIn 475 (by decide +kernel) rfl, gIn 476 (by decide +kernel) rfl⟩
theorem s_Yt_245 : gSV "YearTags" 245 m_Lg_look := ⟨gIn 487 (by decide +kernel) rfl, gIn 488 (by decide +kernel) rfl, gIn 489 (by decide +kernel) rfl⟩
theorem s_Yt_250 : gSV "YearTags" 250 m_St_hooksInAll := ⟨gIn 495 (by decide +kernel) rfl, gIn 496 (by decide +kernel) rfl, gIn 497 (by decide +kernel) rfl⟩
theorem s_Yt_256 : gSV "YearTags" 256 m_Lg_timesOf := ⟨gIn 499 (by decide +kernel) rfl, gIn 500 (by decide +kernel) rfl, gIn 501 (by decide +kernel) rfl⟩
theorem s_Ha_3 : gOi "YearTags$Handles" 3 := ⟨gIn 34 (by decide +kernel) rfl, gIn 19 (by decide +kernel) rfl, gIn 20 (by decide +kernel) rfl⟩
theorem s_Ha_31 : gSV "YearTags$Handles" 31 m_Ha_isEntry := ⟨gIn 380 (by decide +kernel) rfl, gIn 381 (by decide +kernel) rfl, gIn 382 (by decide +kernel) rfl⟩
theorem s_Ha_35 : gSV "YearTags$Handles" 35 m_Ha_followerOf := ⟨gIn 388 (by decide +kernel) rfl, gIn 389 (by decide +kernel) rfl, gIn 390 (by decide +kernel) rfl⟩
theorem s_Ha_39 : gSS "YearTags$Handles" 39 m_Ma_max := ⟨gIn 279 (by decide +kernel) rfl, gIn 280 (by decide +kernel) rfl⟩
theorem s_Ha_45 : gSV "YearTags$Handles" 45 m_Ha_makeRoom := ⟨gIn 272 (by decide +kernel) rfl, gIn 274 (by decide +kernel) rfl, gIn 0 (by decide +kernel) rfl⟩
theorem s_Ha_49 : gSS "YearTags$Handles" 49 m_Ma_min := ⟨gIn 276 (by decide +kernel) rfl, gIn 277 (by decide +kernel) rfl⟩
theorem s_Ha_52 : gSS "YearTags$Handles" 52 m_Ar_copyOf := ⟨gIn 282 (by decide +kernel) rfl, gIn 283 (by decide +kernel) rfl⟩
theorem s_Ha_58 : gAc "YearTags$Handles" 58 := ⟨gIn 296 (by decide +kernel) rfl, gIn 295 (by decide +kernel) rfl, gIn 294 (by decide +kernel) rfl, gIn 12 (by decide +kernel) rfl⟩
theorem s_Hi_1 : gOi "YearTags$History" 1 := ⟨gIn 187 (by decide +kernel) rfl, gIn 19 (by decide +kernel) rfl, gIn 20 (by decide +kernel) rfl⟩
theorem s_Hi_22 : gSI "YearTags$History" 22 m_St_init := ⟨gIn 190 (by decide +kernel) rfl, gIn 24 (by decide +kernel) rfl, rfl, rfl⟩
theorem s_Hi_23 : gSS "YearTags$History" 23 m_Ma_floorMod := ⟨gIn 253 (by decide +kernel) rfl, gIn 254 (by decide +kernel) rfl⟩
theorem s_Hi_29 : gSV "YearTags$History" 29 m_St_copyFrom := ⟨gIn 256 (by decide +kernel) rfl, gIn 257 (by decide +kernel) rfl, gIn 258 (by decide +kernel) rfl⟩
theorem s_Hi_33 : gSS "YearTags$History" 33 m_Ma_min := ⟨gIn 303 (by decide +kernel) rfl, gIn 277 (by decide +kernel) rfl⟩
theorem s_Ho_3 : gOi "YearTags$Hook" 3 := ⟨gIn 89 (by decide +kernel) rfl, gIn 19 (by decide +kernel) rfl, gIn 20 (by decide +kernel) rfl⟩
theorem s_Ho_37 : gSV "YearTags$Hook" 37 m_Ho_holdsCoat := ⟨gIn 446 (by decide +kernel) rfl, gIn 405 (by decide +kernel) rfl, gIn 406 (by decide +kernel) rfl⟩
theorem s_Ho_41 : gSV "YearTags$Hook" 41 m_Ho_canHold := ⟨gIn 447 (by decide +kernel) rfl, gIn 340 (by decide +kernel) rfl, gIn 341 (by decide +kernel) rfl⟩
theorem s_Lg_3 : gOi "YearTags$Log" 3 := ⟨gIn 61 (by decide +kernel) rfl, gIn 19 (by decide +kernel) rfl, gIn 20 (by decide +kernel) rfl⟩
theorem s_Lg_28 : gSS "YearTags$Log" 28 m_Ma_floorMod := ⟨gIn 368 (by decide +kernel) rfl, gIn 254 (by decide +kernel) rfl⟩
theorem s_Lg_34 : gAc "YearTags$Log" 34 := ⟨gIn 301 (by decide +kernel) rfl, gIn 295 (by decide +kernel) rfl, gIn 294 (by decide +kernel) rfl, gIn 12 (by decide +kernel) rfl⟩
theorem s_Rk_3 : gOi "YearTags$Rack" 3 := ⟨gIn 82 (by decide +kernel) rfl, gIn 19 (by decide +kernel) rfl, gIn 20 (by decide +kernel) rfl⟩
theorem s_Rk_28 : gSI "YearTags$Rack" 28 m_Ho_init := ⟨gIn 86 (by decide +kernel) rfl, gIn 87 (by decide +kernel) rfl, rfl, rfl⟩
theorem s_Rk_31 : gSV "YearTags$Rack" 31 m_Rk_hookAt := ⟨gIn 441 (by decide +kernel) rfl, gIn 328 (by decide +kernel) rfl, gIn 329 (by decide +kernel) rfl⟩
theorem s_Rk_35 : gSV "YearTags$Rack" 35 m_Ho_tell := ⟨gIn 442 (by decide +kernel) rfl, gIn 443 (by decide +kernel) rfl, gIn 444 (by decide +kernel) rfl⟩
theorem s_Rk_39 : gSV "YearTags$Rack" 39 m_Ho_holdsCoat := ⟨gIn 635 (by decide +kernel) rfl, gIn 405 (by decide +kernel) rfl, gIn 406 (by decide +kernel) rfl⟩
theorem s_Rk_46 : gSV "YearTags$Rack" 46 m_Rk_admits := ⟨gIn 636 (by decide +kernel) rfl, gIn 336 (by decide +kernel) rfl, gIn 337 (by decide +kernel) rfl⟩
theorem s_Rk_50 : gSV "YearTags$Rack" 50 m_Rk_total := ⟨gIn 637 (by decide +kernel) rfl, gIn 438 (by decide +kernel) rfl, gIn 439 (by decide +kernel) rfl⟩
theorem s_Rk_53 : gSV "YearTags$Rack" 53 m_Ho_canHold := ⟨gIn 646 (by decide +kernel) rfl, gIn 340 (by decide +kernel) rfl, gIn 341 (by decide +kernel) rfl⟩
theorem s_Rk_56 : gSV "YearTags$Rack" 56 m_Ho_copyFrom := ⟨gIn 264 (by decide +kernel) rfl, gIn 265 (by decide +kernel) rfl, gIn 266 (by decide +kernel) rfl⟩
theorem s_St_3 : gOi "YearTags$State" 3 := ⟨gIn 26 (by decide +kernel) rfl, gIn 19 (by decide +kernel) rfl, gIn 20 (by decide +kernel) rfl⟩
theorem s_St_23 : gSIN "YearTags$State" 23 m_Ha_init := ⟨"YearTags", List.mem_of_getElem? (i := 31) (by decide +kernel), gIn 32 (by decide +kernel) rfl, rfl, rfl⟩
theorem s_St_30 : gSIN "YearTags$State" 30 m_Lg_init := ⟨"YearTags", List.mem_of_getElem? (i := 58) (by decide +kernel), gIn 59 (by decide +kernel) rfl, rfl, rfl⟩
theorem s_St_51 : gSI "YearTags$State" 51 m_Rk_init := ⟨gIn 79 (by decide +kernel) rfl, gIn 80 (by decide +kernel) rfl, rfl, rfl⟩
theorem s_St_54 : gSV "YearTags$State" 54 m_St_rackAt := ⟨gIn 308 (by decide +kernel) rfl, gIn 309 (by decide +kernel) rfl, gIn 310 (by decide +kernel) rfl⟩
theorem s_St_58 : gSV "YearTags$State" 58 m_Rk_hookAt := ⟨gIn 327 (by decide +kernel) rfl, gIn 328 (by decide +kernel) rfl, gIn 329 (by decide +kernel) rfl⟩
theorem s_St_62 : gSV "YearTags$State" 62 m_St_hookAt := ⟨gIn 323 (by decide +kernel) rfl, gIn 324 (by decide +kernel) rfl, gIn 325 (by decide +kernel) rfl⟩
theorem s_St_63 : gSV "YearTags$State" 63 m_Ho_holdsCoat := ⟨gIn 404 (by decide +kernel) rfl, gIn 405 (by decide +kernel) rfl, gIn 406 (by decide +kernel) rfl⟩
theorem s_St_82 : gSV "YearTags$State" 82 m_Rk_admits := ⟨gIn 335 (by decide +kernel) rfl, gIn 336 (by decide +kernel) rfl, gIn 337 (by decide +kernel) rfl⟩
theorem s_St_86 : gSV "YearTags$State" 86 m_Ho_canHold := ⟨gIn 339 (by decide +kernel) rfl, gIn 340 (by decide +kernel) rfl, gIn 341 (by decide +kernel) rfl⟩
theorem s_St_89 : gSV "YearTags$State" 89 m_St_isFree := ⟨gIn 331 (by decide +kernel) rfl, gIn 332 (by decide +kernel) rfl, gIn 333 (by decide +kernel) rfl⟩
theorem s_St_93 : gSV "YearTags$State" 93 m_St_goesAhead := ⟨gIn 343 (by decide +kernel) rfl, gIn 344 (by decide +kernel) rfl, gIn 345 (by decide +kernel) rfl⟩
theorem s_St_103 : gSSN "YearTags$State" 103 m_Yt_isRightTag := ⟨"YearTags", List.mem_of_getElem? (i := 540) (by decide +kernel), gIn 541 (by decide +kernel) rfl⟩
theorem s_St_106 : gSV "YearTags$State" 106 m_Ha_find := ⟨gIn 544 (by decide +kernel) rfl, gIn 545 (by decide +kernel) rfl, gIn 546 (by decide +kernel) rfl⟩
theorem s_St_110 : gSV "YearTags$State" 110 m_Ha_lastFrom := ⟨gIn 548 (by decide +kernel) rfl, gIn 549 (by decide +kernel) rfl, gIn 550 (by decide +kernel) rfl⟩
theorem s_St_113 : gSV "YearTags$State" 113 m_Ha_endOf := ⟨gIn 552 (by decide +kernel) rfl, gIn 553 (by decide +kernel) rfl, gIn 554 (by decide +kernel) rfl⟩
theorem s_St_116 : gSV "YearTags$State" 116 m_Ha_handleOf := ⟨gIn 556 (by decide +kernel) rfl, gIn 557 (by decide +kernel) rfl, gIn 558 (by decide +kernel) rfl⟩
theorem s_St_119 : gSV "YearTags$State" 119 m_Ho_handle := ⟨gIn 351 (by decide +kernel) rfl, gIn 352 (by decide +kernel) rfl, gIn 353 (by decide +kernel) rfl⟩
theorem s_St_123 : gSV "YearTags$State" 123 m_Ha_give := ⟨gIn 355 (by decide +kernel) rfl, gIn 356 (by decide +kernel) rfl, gIn 357 (by decide +kernel) rfl⟩
theorem s_St_127 : gSV "YearTags$State" 127 m_Ho_hang := ⟨gIn 359 (by decide +kernel) rfl, gIn 360 (by decide +kernel) rfl, gIn 361 (by decide +kernel) rfl⟩
theorem s_St_131 : gSSN "YearTags$State" 131 m_Yt_isGuest := ⟨"YearTags", List.mem_of_getElem? (i := 363) (by decide +kernel), gIn 317 (by decide +kernel) rfl⟩
theorem s_St_134 : gSV "YearTags$State" 134 m_Lg_add := ⟨gIn 364 (by decide +kernel) rfl, gIn 365 (by decide +kernel) rfl, gIn 366 (by decide +kernel) rfl⟩
theorem s_St_137 : gSSN "YearTags$State" 137 m_Yt_tagWithCheck := ⟨"YearTags", List.mem_of_getElem? (i := 369) (by decide +kernel), gIn 370 (by decide +kernel) rfl⟩
theorem s_St_143 : gSV "YearTags$State" 143 m_Ha_ownerOf := ⟨gIn 470 (by decide +kernel) rfl, gIn 471 (by decide +kernel) rfl, gIn 472 (by decide +kernel) rfl⟩
theorem s_St_146 : gSV "YearTags$State" 146 m_Ha_follow := ⟨gIn 623 (by decide +kernel) rfl, gIn 624 (by decide +kernel) rfl, gIn 625 (by decide +kernel) rfl⟩
theorem s_St_156 : gSV "YearTags$State" 156 m_Ho_release := ⟨gIn 416 (by decide +kernel) rfl, gIn 417 (by decide +kernel) rfl, gIn 418 (by decide +kernel) rfl⟩
theorem s_St_159 : gSV "YearTags$State" 159 m_Rk_lowestHookThatCanHold := ⟨gIn 642 (by decide +kernel) rfl, gIn 643 (by decide +kernel) rfl, gIn 644 (by decide +kernel) rfl⟩
theorem s_St_163 : gSV "YearTags$State" 163 m_St_carry := ⟨gIn 647 (by decide +kernel) rfl, gIn 620 (by decide +kernel) rfl, gIn 621 (by decide +kernel) rfl⟩
theorem s_St_167 : gSV "YearTags$State" 167 m_Ha_finish := ⟨gIn 412 (by decide +kernel) rfl, gIn 413 (by decide +kernel) rfl, gIn 414 (by decide +kernel) rfl⟩
theorem s_St_170 : gSV "YearTags$State" 170 m_St_coatAt := ⟨gIn 400 (by decide +kernel) rfl, gIn 401 (by decide +kernel) rfl, gIn 402 (by decide +kernel) rfl⟩
theorem s_St_173 : gSV "YearTags$State" 173 m_St_handOver := ⟨gIn 408 (by decide +kernel) rfl, gIn 409 (by decide +kernel) rfl, gIn 410 (by decide +kernel) rfl⟩
theorem s_St_177 : gSS "YearTags$State" 177 m_Ma_max := ⟨gIn 482 (by decide +kernel) rfl, gIn 280 (by decide +kernel) rfl⟩
theorem s_St_182 : gSV "YearTags$State" 182 m_St_isCoatOf := ⟨gIn 466 (by decide +kernel) rfl, gIn 467 (by decide +kernel) rfl, gIn 468 (by decide +kernel) rfl⟩
theorem s_St_186 : gSV "YearTags$State" 186 m_St_dueFor := ⟨gIn 478 (by decide +kernel) rfl, gIn 479 (by decide +kernel) rfl, gIn 480 (by decide +kernel) rfl⟩
theorem s_St_190 : gSV "YearTags$State" 190 m_Rk_total := ⟨gIn 437 (by decide +kernel) rfl, gIn 438 (by decide +kernel) rfl, gIn 439 (by decide +kernel) rfl⟩
theorem s_St_193 : gSV "YearTags$State" 193 m_Rk_copyFrom := ⟨gIn 260 (by decide +kernel) rfl, gIn 261 (by decide +kernel) rfl, gIn 262 (by decide +kernel) rfl⟩
theorem s_St_197 : gSV "YearTags$State" 197 m_Ha_copyFrom := ⟨gIn 268 (by decide +kernel) rfl, gIn 269 (by decide +kernel) rfl, gIn 270 (by decide +kernel) rfl⟩
theorem s_St_200 : gSV "YearTags$State" 200 m_Lg_copyFrom := ⟨gIn 297 (by decide +kernel) rfl, gIn 298 (by decide +kernel) rfl, gIn 299 (by decide +kernel) rfl⟩
theorem s_St_203 : gAc "YearTags$State" 203 := ⟨gIn 302 (by decide +kernel) rfl, gIn 295 (by decide +kernel) rfl, gIn 294 (by decide +kernel) rfl, gIn 12 (by decide +kernel) rfl⟩
theorem s_Tx_1 : gOi "YearTags$TagText" 1 := ⟨gIn 207 (by decide +kernel) rfl, gIn 19 (by decide +kernel) rfl, gIn 20 (by decide +kernel) rfl⟩
theorem s_Lw_12 : gSV "YearTagsLaw" 12 m_Yt_count := ⟨gIn 491 (by decide +kernel) rfl, gIn 492 (by decide +kernel) rfl, gIn 493 (by decide +kernel) rfl⟩
theorem s_Lw_18 : gSV "YearTagsLaw" 18 m_Yt_rack := ⟨gIn 452 (by decide +kernel) rfl, gIn 453 (by decide +kernel) rfl, gIn 454 (by decide +kernel) rfl⟩
theorem s_Lw_22 : gSV "YearTagsLaw" 22 m_Yt_hook := ⟨gIn 515 (by decide +kernel) rfl, gIn 516 (by decide +kernel) rfl, gIn 517 (by decide +kernel) rfl⟩
theorem s_Lw_25 : gSV "YearTagsLaw" 25 m_Yt_guest := ⟨gIn 458 (by decide +kernel) rfl, gIn 459 (by decide +kernel) rfl, gIn 460 (by decide +kernel) rfl⟩
theorem s_Lw_28 : gSV "YearTagsLaw" 28 m_Yt_event := ⟨gIn 483 (by decide +kernel) rfl, gIn 484 (by decide +kernel) rfl, gIn 485 (by decide +kernel) rfl⟩
theorem s_Lw_31 : gSV "YearTagsLaw" 31 m_Yt_next := ⟨gIn 525 (by decide +kernel) rfl, gIn 526 (by decide +kernel) rfl, gIn 527 (by decide +kernel) rfl⟩
theorem s_Lw_34 : gSV "YearTagsLaw" 34 m_Yt_due := ⟨gIn 532 (by decide +kernel) rfl, gIn 533 (by decide +kernel) rfl, gIn 534 (by decide +kernel) rfl⟩
theorem s_Lw_37 : gSV "YearTagsLaw" 37 m_Yt_tagOf := ⟨gIn 561 (by decide +kernel) rfl, gIn 562 (by decide +kernel) rfl, gIn 563 (by decide +kernel) rfl⟩
theorem s_Lw_40 : gSV "YearTagsLaw" 40 m_Yt_tag := ⟨gIn 565 (by decide +kernel) rfl, gIn 566 (by decide +kernel) rfl, gIn 567 (by decide +kernel) rfl⟩
theorem s_Lw_45 : gSS "YearTagsLaw" 45 m_Lw_low := ⟨gIn 506 (by decide +kernel) rfl, gIn 507 (by decide +kernel) rfl⟩
theorem s_Lw_48 : gSV "YearTagsLaw" 48 m_Yt_claim := ⟨gIn 582 (by decide +kernel) rfl, gIn 583 (by decide +kernel) rfl, gIn 584 (by decide +kernel) rfl⟩
theorem s_Lw_51 : gSV "YearTagsLaw" 51 m_Yt_addRack := ⟨gIn 242 (by decide +kernel) rfl, gIn 243 (by decide +kernel) rfl, gIn 244 (by decide +kernel) rfl⟩
theorem s_Lw_54 : gSV "YearTagsLaw" 54 m_Yt_open := ⟨gIn 590 (by decide +kernel) rfl, gIn 591 (by decide +kernel) rfl, gIn 592 (by decide +kernel) rfl⟩
theorem s_Lw_58 : gSV "YearTagsLaw" 58 m_Yt_age := ⟨gIn 594 (by decide +kernel) rfl, gIn 595 (by decide +kernel) rfl, gIn 596 (by decide +kernel) rfl⟩
theorem s_Lw_61 : gSV "YearTagsLaw" 61 m_Yt_set := ⟨gIn 599 (by decide +kernel) rfl, gIn 600 (by decide +kernel) rfl, gIn 601 (by decide +kernel) rfl⟩
theorem s_Lw_64 : gSV "YearTagsLaw" 64 m_Yt_take := ⟨gIn 312 (by decide +kernel) rfl, gIn 313 (by decide +kernel) rfl, gIn 314 (by decide +kernel) rfl⟩
theorem s_Lw_67 : gSV "YearTagsLaw" 67 m_Yt_giveOut := ⟨gIn 606 (by decide +kernel) rfl, gIn 607 (by decide +kernel) rfl, gIn 608 (by decide +kernel) rfl⟩
theorem s_Lw_70 : gSV "YearTagsLaw" 70 m_Yt_move := ⟨gIn 614 (by decide +kernel) rfl, gIn 615 (by decide +kernel) rfl, gIn 616 (by decide +kernel) rfl⟩
theorem s_Lw_73 : gSV "YearTagsLaw" 73 m_Yt_moveAll := ⟨gIn 627 (by decide +kernel) rfl, gIn 628 (by decide +kernel) rfl, gIn 629 (by decide +kernel) rfl⟩
theorem s_Lw_76 : gSV "YearTagsLaw" 76 m_Yt_shorten := ⟨gIn 372 (by decide +kernel) rfl, gIn 373 (by decide +kernel) rfl, gIn 374 (by decide +kernel) rfl⟩
theorem s_Lw_80 : gSV "YearTagsLaw" 80 m_Yt_pass := ⟨gIn 392 (by decide +kernel) rfl, gIn 393 (by decide +kernel) rfl, gIn 394 (by decide +kernel) rfl⟩
theorem s_Lw_83 : gSI "YearTagsLaw" 83 m_Yt_init := ⟨gIn 15 (by decide +kernel) rfl, gIn 16 (by decide +kernel) rfl, rfl, rfl⟩
theorem s_Lw_84 : gSS "YearTagsLaw" 84 m_Lw_cell := ⟨gIn 503 (by decide +kernel) rfl, gIn 504 (by decide +kernel) rfl⟩
theorem s_Lw_88 : gSS "YearTagsLaw" 88 m_Lw_all := ⟨gIn 510 (by decide +kernel) rfl, gIn 511 (by decide +kernel) rfl⟩
theorem s_Lw_92 : gSS "YearTagsLaw" 92 m_Lw_acts := ⟨gIn 587 (by decide +kernel) rfl, gIn 588 (by decide +kernel) rfl⟩
theorem s_Lw_96 : gSV "YearTagsLaw" 96 m_Yt_undo := ⟨gIn 420 (by decide +kernel) rfl, gIn 421 (by decide +kernel) rfl, gIn 422 (by decide +kernel) rfl⟩
theorem s_Lw_99 : gSS "YearTagsLaw" 99 m_Lw_isSound := ⟨gIn 529 (by decide +kernel) rfl, gIn 530 (by decide +kernel) rfl⟩
theorem s_Lw_103 : gSS "YearTagsLaw" 103 m_Lw_isTagged := ⟨gIn 579 (by decide +kernel) rfl, gIn 580 (by decide +kernel) rfl⟩
theorem s_Lw_107 : gSV "YearTagsLaw" 107 m_Yt_keep := ⟨gIn 428 (by decide +kernel) rfl, gIn 429 (by decide +kernel) rfl, gIn 430 (by decide +kernel) rfl⟩
theorem s_Lw_110 : gSV "YearTagsLaw" 110 m_Yt_restore := ⟨gIn 448 (by decide +kernel) rfl, gIn 449 (by decide +kernel) rfl, gIn 450 (by decide +kernel) rfl⟩
theorem s_Ar_150 : gAc "java/util/Arrays" 150 := ⟨gIn 293 (by decide +kernel) rfl, gIn 295 (by decide +kernel) rfl, gIn 294 (by decide +kernel) rfl, gIn 12 (by decide +kernel) rfl⟩
theorem s_Ar_304 : gSS "java/util/Arrays" 304 m_Ma_min := ⟨gIn 292 (by decide +kernel) rfl, gIn 277 (by decide +kernel) rfl⟩
theorem w_Yt_7 : gNw "YearTags" 7 5 9 := ⟨R_St, F_St, t_St, rfl, i_St, t_St_ok, gIn 21 (by decide +kernel) rfl, gIn 22 (by decide +kernel) rfl, gIn 3 (by decide +kernel) rfl⟩
theorem w_Yt_23 : gNw "YearTags" 23 1 3 := ⟨R_Hi, F_Hi, t_Hi, rfl, i_Hi, t_Hi_ok, gIn 182 (by decide +kernel) rfl, gIn 183 (by decide +kernel) rfl, gIn 8 (by decide +kernel) rfl⟩
theorem w_Yt_30 : gNw "YearTags" 30 6 4 := ⟨R_Tx, F_Tx, t_Tx, rfl, i_Tx, t_Tx_ok, gIn 202 (by decide +kernel) rfl, gIn 203 (by decide +kernel) rfl, gIn 9 (by decide +kernel) rfl⟩
theorem w_Hi_9 : gNw "YearTags$History" 9 5 9 := ⟨R_St, F_St, t_St, rfl, i_St, t_St_ok, gIn 188 (by decide +kernel) rfl, gIn 22 (by decide +kernel) rfl, gIn 3 (by decide +kernel) rfl⟩
theorem w_Rk_9 : gNw "YearTags$Rack" 9 2 8 := ⟨R_Ho, F_Ho, t_Ho, rfl, i_Ho, t_Ho_ok, gIn 83 (by decide +kernel) rfl, gIn 85 (by decide +kernel) rfl, gIn 7 (by decide +kernel) rfl⟩
theorem w_St_9 : gNw "YearTags$State" 9 4 4 := ⟨R_Rk, F_Rk, t_Rk, rfl, i_Rk, t_Rk_ok, gIn 27 (by decide +kernel) rfl, gIn 78 (by decide +kernel) rfl, gIn 6 (by decide +kernel) rfl⟩
theorem w_St_21 : gNw "YearTags$State" 21 0 6 := ⟨R_Ha, F_Ha, t_Ha, rfl, i_Ha, t_Ha_ok, gIn 29 (by decide +kernel) rfl, gIn 30 (by decide +kernel) rfl, gIn 4 (by decide +kernel) rfl⟩
theorem w_St_28 : gNw "YearTags$State" 28 3 5 := ⟨R_Lg, F_Lg, t_Lg, rfl, i_Lg, t_Lg_ok, gIn 56 (by decide +kernel) rfl, gIn 57 (by decide +kernel) rfl, gIn 5 (by decide +kernel) rfl⟩
theorem w_Lw_13 : gNw "YearTagsLaw" 13 7 6 := ⟨R_Yt, F_Yt, t_Yt, rfl, i_Yt, t_Yt_ok, gIn 13 (by decide +kernel) rfl, gIn 14 (by decide +kernel) rfl, gIn 2 (by decide +kernel) rfl⟩
theorem wc_Hi_9 : Cond.classLink "YearTags$History" 9 "YearTags$State" ∈ lw_gd := gIn 188 (by decide +kernel) rfl
theorem wo_Hi_9 : Cond.arrayOver (.object "YearTags$State") ∈ lw_tbl := List.mem_of_getElem? (i := 189) (by decide +kernel)
theorem wc_Rk_9 : Cond.classLink "YearTags$Rack" 9 "YearTags$Hook" ∈ lw_gd := gIn 83 (by decide +kernel) rfl
theorem wo_Rk_9 : Cond.arrayOver (.object "YearTags$Hook") ∈ lw_tbl := List.mem_of_getElem? (i := 84) (by decide +kernel)
theorem wc_St_9 : Cond.classLink "YearTags$State" 9 "YearTags$Rack" ∈ lw_gd := gIn 27 (by decide +kernel) rfl
theorem wo_St_9 : Cond.arrayOver (.object "YearTags$Rack") ∈ lw_tbl := List.mem_of_getElem? (i := 28) (by decide +kernel)
theorem l_Yt_262 : gLd "YearTags" 262 (Int32.ofInt 60000) := gIn 543 (by decide +kernel) rfl
theorem l_Lw_7 : gLd "YearTagsLaw" 7 (Int32.ofInt 2147483647) := gIn 509 (by decide +kernel) rfl
theorem l2_Lw_8 : Cond.constantLong "YearTagsLaw" 8 (37 : Int64) ∈ lw_gd := gIn 513 (by decide +kernel) rfl
theorem l2_Lw_10 : Cond.constantLong "YearTagsLaw" 10 (31 : Int64) ∈ lw_gd := gIn 514 (by decide +kernel) rfl
theorem wa_int : Cond.arrayClass .int ∈ lw_gd := gIn 55 (by decide +kernel) rfl
theorem wa_char : Cond.arrayClass .char ∈ lw_gd := gIn 222 (by decide +kernel) rfl
theorem z_Ha : gNf 0 6 [.int 0, .null, .null, .null, .null, .null] := ⟨rfl, fun q h j ty hj hp => by
  cases h
  have h2 := t_Ha_ok j hj
  have h3 : ty = t_Ha j := Option.some.inj (hp.symm.trans h2)
  subst h3
  rcases (show j = 0 ∨ j = 1 ∨ j = 2 ∨ j = 3 ∨ j = 4 ∨ j = 5 by omega) with rfl | rfl | rfl | rfl | rfl | rfl <;> rfl⟩
theorem z_Hi : gNf 1 3 [.null, .int 0, .int 0] := ⟨rfl, fun q h j ty hj hp => by
  cases h
  have h2 := t_Hi_ok j hj
  have h3 : ty = t_Hi j := Option.some.inj (hp.symm.trans h2)
  subst h3
  rcases (show j = 0 ∨ j = 1 ∨ j = 2 by omega) with rfl | rfl | rfl <;> rfl⟩
theorem z_Ho : gNf 2 8 [.int 0, .int 0, .int 0, .int 0, .int 0, .int 0, .int 0, .int 0] := ⟨rfl, fun q h j ty hj hp => by
  cases h
  have h2 := t_Ho_ok j hj
  have h3 : ty = t_Ho j := Option.some.inj (hp.symm.trans h2)
  subst h3
  rcases (show j = 0 ∨ j = 1 ∨ j = 2 ∨ j = 3 ∨ j = 4 ∨ j = 5 ∨ j = 6 ∨ j = 7 by omega) with rfl | rfl | rfl | rfl | rfl | rfl | rfl | rfl <;> rfl⟩
theorem z_Lg : gNf 3 5 [.int 0, .null, .null, .null, .null] := ⟨rfl, fun q h j ty hj hp => by
  cases h
  have h2 := t_Lg_ok j hj
  have h3 : ty = t_Lg j := Option.some.inj (hp.symm.trans h2)
  subst h3
  rcases (show j = 0 ∨ j = 1 ∨ j = 2 ∨ j = 3 ∨ j = 4 by omega) with rfl | rfl | rfl | rfl | rfl <;> rfl⟩
theorem z_Rk : gNf 4 4 [.null, .int 0, .int 0, .int 0] := ⟨rfl, fun q h j ty hj hp => by
  cases h
  have h2 := t_Rk_ok j hj
  have h3 : ty = t_Rk j := Option.some.inj (hp.symm.trans h2)
  subst h3
  rcases (show j = 0 ∨ j = 1 ∨ j = 2 ∨ j = 3 by omega) with rfl | rfl | rfl | rfl <;> rfl⟩
theorem z_St : gNf 5 9 [.null, .int 0, .null, .null, .null, .null, .int 0, .int 0, .int 0] := ⟨rfl, fun q h j ty hj hp => by
  cases h
  have h2 := t_St_ok j hj
  have h3 : ty = t_St j := Option.some.inj (hp.symm.trans h2)
  subst h3
  rcases (show j = 0 ∨ j = 1 ∨ j = 2 ∨ j = 3 ∨ j = 4 ∨ j = 5 ∨ j = 6 ∨ j = 7 ∨ j = 8 by omega) with rfl | rfl | rfl | rfl | rfl | rfl | rfl | rfl | rfl <;> rfl⟩
theorem z_Tx : gNf 6 4 [.null, .int 0, .null, .int 0] := ⟨rfl, fun q h j ty hj hp => by
  cases h
  have h2 := t_Tx_ok j hj
  have h3 : ty = t_Tx j := Option.some.inj (hp.symm.trans h2)
  subst h3
  rcases (show j = 0 ∨ j = 1 ∨ j = 2 ∨ j = 3 by omega) with rfl | rfl | rfl | rfl <;> rfl⟩
theorem z_Yt : gNf 7 6 [.null, .null, .int 0, .null, .null, .null] := ⟨rfl, fun q h j ty hj hp => by
  cases h
  have h2 := t_Yt_ok j hj
  have h3 : ty = t_Yt j := Option.some.inj (hp.symm.trans h2)
  subst h3
  rcases (show j = 0 ∨ j = 1 ∨ j = 2 ∨ j = 3 ∨ j = 4 ∨ j = 5 by omega) with rfl | rfl | rfl | rfl | rfl | rfl <;> rfl⟩
