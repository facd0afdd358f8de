def me_X0_init : am_me := (0, yX0_init, cX0_init, 2, none, 0)
theorem mo_X0_init : am_mo me_X0_init := ⟨am_in (i := 76) (by decide +kernel), am_in (i := 53) (by decide +kernel), by decide +kernel, by decide +kernel, by decide +kernel, by decide⟩
def me_X0_copyFrom : am_me := (0, yX0_copyFrom, cX0_copyFrom, 2, none, 1)
theorem mo_X0_copyFrom : am_mo me_X0_copyFrom := ⟨am_in (i := 336) (by decide +kernel), am_in (i := 53) (by decide +kernel), by decide +kernel, by decide +kernel, by decide +kernel, by decide⟩
def me_X0_isFree : am_me := (0, yX0_isFree, cX0_isFree, 2, (some .boolean), 1)
theorem mo_X0_isFree : am_mo me_X0_isFree := ⟨am_in (i := 384) (by decide +kernel), am_in (i := 53) (by decide +kernel), by decide +kernel, by decide +kernel, by decide +kernel, by decide⟩
def me_X0_markOn : am_me := (0, yX0_markOn, cX0_markOn, 2, (some .int), 1)
theorem mo_X0_markOn : am_mo me_X0_markOn := ⟨am_in (i := 465) (by decide +kernel), am_in (i := 53) (by decide +kernel), by decide +kernel, by decide +kernel, by decide +kernel, by decide⟩
def me_X0_styleOn : am_me := (0, yX0_styleOn, cX0_styleOn, 2, (some .int), 1)
theorem mo_X0_styleOn : am_mo me_X0_styleOn := ⟨am_in (i := 442) (by decide +kernel), am_in (i := 53) (by decide +kernel), by decide +kernel, by decide +kernel, by decide +kernel, by decide⟩
def me_X0_lengthOn : am_me := (0, yX0_lengthOn, cX0_lengthOn, 2, (some .int), 1)
theorem mo_X0_lengthOn : am_mo me_X0_lengthOn := ⟨am_in (i := 503) (by decide +kernel), am_in (i := 53) (by decide +kernel), by decide +kernel, by decide +kernel, by decide +kernel, by decide⟩
def me_X0_nextOn : am_me := (0, yX0_nextOn, cX0_nextOn, 2, (some .int), 1)
theorem mo_X0_nextOn : am_mo me_X0_nextOn := ⟨am_in (i := 499) (by decide +kernel), am_in (i := 53) (by decide +kernel), by decide +kernel, by decide +kernel, by decide +kernel, by decide⟩
def me_X0_ownerOf : am_me := (0, yX0_ownerOf, cX0_ownerOf, 2, (some .int), 1)
theorem mo_X0_ownerOf : am_mo me_X0_ownerOf := ⟨am_in (i := 520) (by decide +kernel), am_in (i := 53) (by decide +kernel), by decide +kernel, by decide +kernel, by decide +kernel, by decide⟩
def me_X0_hasFile : am_me := (0, yX0_hasFile, cX0_hasFile, 2, (some .boolean), 1)
theorem mo_X0_hasFile : am_mo me_X0_hasFile := ⟨am_in (i := 352) (by decide +kernel), am_in (i := 53) (by decide +kernel), by decide +kernel, by decide +kernel, by decide +kernel, by decide⟩
def me_X0_files : am_me := (0, yX0_files, cX0_files, 3, (some .int), 0)
theorem mo_X0_files : am_mo me_X0_files := ⟨am_in (i := 644) (by decide +kernel), am_in (i := 53) (by decide +kernel), by decide +kernel, by decide +kernel, by decide +kernel, by decide⟩
def me_X0_filePage : am_me := (0, yX0_filePage, cX0_filePage, 5, (some .int), 2)
theorem mo_X0_filePage : am_mo me_X0_filePage := ⟨am_in (i := 494) (by decide +kernel), am_in (i := 53) (by decide +kernel), by decide +kernel, by decide +kernel, by decide +kernel, by decide⟩
def me_X0_isStraight : am_me := (0, yX0_isStraight, cX0_isStraight, 4, (some .boolean), 1)
theorem mo_X0_isStraight : am_mo me_X0_isStraight := ⟨am_in (i := 508) (by decide +kernel), am_in (i := 53) (by decide +kernel), by decide +kernel, by decide +kernel, by decide +kernel, by decide⟩
def me_X0_freeSet : am_me := (0, yX0_freeSet, cX0_freeSet, 4, (some .long), 0)
theorem mo_X0_freeSet : am_mo me_X0_freeSet := ⟨am_in (i := 361) (by decide +kernel), am_in (i := 53) (by decide +kernel), by decide +kernel, by decide +kernel, by decide +kernel, by decide⟩
def me_X0_freePages : am_me := (0, yX0_freePages, cX0_freePages, 1, (some .int), 0)
theorem mo_X0_freePages : am_mo me_X0_freePages := ⟨am_in (i := 357) (by decide +kernel), am_in (i := 53) (by decide +kernel), by decide +kernel, by decide +kernel, by decide +kernel, by decide⟩
def me_X0_markedPages : am_me := (0, yX0_markedPages, cX0_markedPages, 5, (some .int), 1)
theorem mo_X0_markedPages : am_mo me_X0_markedPages := ⟨am_in (i := 478) (by decide +kernel), am_in (i := 53) (by decide +kernel), by decide +kernel, by decide +kernel, by decide +kernel, by decide⟩
def me_X0_freeRuns : am_me := (0, yX0_freeRuns, cX0_freeRuns, 3, (some .int), 0)
theorem mo_X0_freeRuns : am_mo me_X0_freeRuns := ⟨am_in (i := 648) (by decide +kernel), am_in (i := 53) (by decide +kernel), by decide +kernel, by decide +kernel, by decide +kernel, by decide⟩
def me_X0_longestRun : am_me := (0, yX0_longestRun, cX0_longestRun, 4, (some .int), 0)
theorem mo_X0_longestRun : am_mo me_X0_longestRun := ⟨am_in (i := 652) (by decide +kernel), am_in (i := 53) (by decide +kernel), by decide +kernel, by decide +kernel, by decide +kernel, by decide⟩
def me_X0_lowestRun : am_me := (0, yX0_lowestRun, cX0_lowestRun, 4, (some .int), 1)
theorem mo_X0_lowestRun : am_mo me_X0_lowestRun := ⟨am_in (i := 392) (by decide +kernel), am_in (i := 53) (by decide +kernel), by decide +kernel, by decide +kernel, by decide +kernel, by decide⟩
def me_X0_lay : am_me := (0, yX0_lay, cX0_lay, 5, none, 3)
theorem mo_X0_lay : am_mo me_X0_lay := ⟨am_in (i := 401) (by decide +kernel), am_in (i := 53) (by decide +kernel), by decide +kernel, by decide +kernel, by decide +kernel, by decide⟩
def me_X0_putPage : am_me := (0, yX0_putPage, cX0_putPage, 5, none, 4)
theorem mo_X0_putPage : am_mo me_X0_putPage := ⟨am_in (i := 409) (by decide +kernel), am_in (i := 53) (by decide +kernel), by decide +kernel, by decide +kernel, by decide +kernel, by decide⟩
def me_X0_own : am_me := (0, yX0_own, cX0_own, 3, none, 2)
theorem mo_X0_own : am_mo me_X0_own := ⟨am_in (i := 413) (by decide +kernel), am_in (i := 53) (by decide +kernel), by decide +kernel, by decide +kernel, by decide +kernel, by decide⟩
def me_X0_tellLength : am_me := (0, yX0_tellLength, cX0_tellLength, 3, none, 2)
theorem mo_X0_tellLength : am_mo me_X0_tellLength := ⟨am_in (i := 417) (by decide +kernel), am_in (i := 53) (by decide +kernel), by decide +kernel, by decide +kernel, by decide +kernel, by decide⟩
def me_X0_blank : am_me := (0, yX0_blank, cX0_blank, 2, none, 1)
theorem mo_X0_blank : am_mo me_X0_blank := ⟨am_in (i := 469) (by decide +kernel), am_in (i := 53) (by decide +kernel), by decide +kernel, by decide +kernel, by decide +kernel, by decide⟩
def me_X0_release : am_me := (0, yX0_release, cX0_release, 4, none, 1)
theorem mo_X0_release : am_mo me_X0_release := ⟨am_in (i := 438) (by decide +kernel), am_in (i := 53) (by decide +kernel), by decide +kernel, by decide +kernel, by decide +kernel, by decide⟩
def me_X1_init : am_me := (1, yX1_init, cX1_init, 1, none, 0)
theorem mo_X1_init : am_mo me_X1_init := ⟨am_in (i := 148) (by decide +kernel), am_in (i := 56) (by decide +kernel), by decide +kernel, by decide +kernel, by decide +kernel, by decide⟩
def me_X1_trace : am_me := (1, yX1_trace, cX1_trace, 11, none, 3)
theorem mo_X1_trace : am_mo me_X1_trace := ⟨am_in (i := 528) (by decide +kernel), am_in (i := 56) (by decide +kernel), by decide +kernel, by decide +kernel, by decide +kernel, by decide⟩
def me_X1_fits : am_me := (1, yX1_fits, cX1_fits, 5, (some .boolean), 3)
theorem mo_X1_fits : am_mo me_X1_fits := ⟨am_in (i := 538) (by decide +kernel), am_in (i := 56) (by decide +kernel), by decide +kernel, by decide +kernel, by decide +kernel, by decide⟩
def me_X1_rate : am_me := (1, yX1_rate, cX1_rate, 4, none, 2)
theorem mo_X1_rate : am_mo me_X1_rate := ⟨am_in (i := 542) (by decide +kernel), am_in (i := 56) (by decide +kernel), by decide +kernel, by decide +kernel, by decide +kernel, by decide⟩
def me_X2_init : am_me := (2, yX2_init, cX2_init, 1, none, 0)
theorem mo_X2_init : am_mo me_X2_init := ⟨am_in (i := 142) (by decide +kernel), am_in (i := 55) (by decide +kernel), by decide +kernel, by decide +kernel, by decide +kernel, by decide⟩
def me_X2_find : am_me := (2, yX2_find, cX2_find, 5, none, 2)
theorem mo_X2_find : am_mo me_X2_find := ⟨am_in (i := 524) (by decide +kernel), am_in (i := 55) (by decide +kernel), by decide +kernel, by decide +kernel, by decide +kernel, by decide⟩
def me_X2_insert : am_me := (2, yX2_insert, cX2_insert, 6, none, 3)
theorem mo_X2_insert : am_mo me_X2_insert := ⟨am_in (i := 558) (by decide +kernel), am_in (i := 55) (by decide +kernel), by decide +kernel, by decide +kernel, by decide +kernel, by decide⟩
def me_X2_hasGuess : am_me := (2, yX2_hasGuess, cX2_hasGuess, 2, (some .boolean), 1)
theorem mo_X2_hasGuess : am_mo me_X2_hasGuess := ⟨am_in (i := 591) (by decide +kernel), am_in (i := 55) (by decide +kernel), by decide +kernel, by decide +kernel, by decide +kernel, by decide⟩
def me_X2_pick : am_me := (2, yX2_pick, cX2_pick, 3, (some (.object "UndeleteDesks$Guess")), 2)
theorem mo_X2_pick : am_mo me_X2_pick := ⟨am_in (i := 587) (by decide +kernel), am_in (i := 55) (by decide +kernel), by decide +kernel, by decide +kernel, by decide +kernel, by decide⟩
def me_X2_sum : am_me := (2, yX2_sum, cX2_sum, 3, (some .int), 0)
theorem mo_X2_sum : am_mo me_X2_sum := ⟨am_in (i := 632) (by decide +kernel), am_in (i := 55) (by decide +kernel), by decide +kernel, by decide +kernel, by decide +kernel, by decide⟩
def me_X2_withPage : am_me := (2, yX2_withPage, cX2_withPage, 2, (some .int), 1)
theorem mo_X2_withPage : am_mo me_X2_withPage := ⟨am_in (i := 562) (by decide +kernel), am_in (i := 55) (by decide +kernel), by decide +kernel, by decide +kernel, by decide +kernel, by decide⟩
def me_X2_sharingWith : am_me := (2, yX2_sharingWith, cX2_sharingWith, 2, (some .int), 1)
theorem mo_X2_sharingWith : am_mo me_X2_sharingWith := ⟨am_in (i := 595) (by decide +kernel), am_in (i := 55) (by decide +kernel), by decide +kernel, by decide +kernel, by decide +kernel, by decide⟩
def me_X2_meeting : am_me := (2, yX2_meeting, cX2_meeting, 5, (some .int), 1)
theorem mo_X2_meeting : am_mo me_X2_meeting := ⟨am_in (i := 566) (by decide +kernel), am_in (i := 55) (by decide +kernel), by decide +kernel, by decide +kernel, by decide +kernel, by decide⟩
def me_X2_findBest : am_me := (2, yX2_findBest, cX2_findBest, 3, none, 0)
theorem mo_X2_findBest : am_mo me_X2_findBest := ⟨am_in (i := 611) (by decide +kernel), am_in (i := 55) (by decide +kernel), by decide +kernel, by decide +kernel, by decide +kernel, by decide⟩
def me_X2_clashesOf : am_me := (2, yX2_clashesOf, cX2_clashesOf, 5, (some .int), 2)
theorem mo_X2_clashesOf : am_mo me_X2_clashesOf := ⟨am_in (i := 616) (by decide +kernel), am_in (i := 55) (by decide +kernel), by decide +kernel, by decide +kernel, by decide +kernel, by decide⟩
def me_X2_decide : am_me := (2, yX2_decide, cX2_decide, 5, none, 4)
theorem mo_X2_decide : am_mo me_X2_decide := ⟨am_in (i := 619) (by decide +kernel), am_in (i := 55) (by decide +kernel), by decide +kernel, by decide +kernel, by decide +kernel, by decide⟩
def me_X3_init : am_me := (3, yX3_init, cX3_init, 2, none, 0)
theorem mo_X3_init : am_mo me_X3_init := ⟨am_in (i := 236) (by decide +kernel), am_in (i := 58) (by decide +kernel), by decide +kernel, by decide +kernel, by decide +kernel, by decide⟩
def me_X3_stateAt : am_me := (3, yX3_stateAt, cX3_stateAt, 2, (some (.object "UndeleteDesks$Disk")), 1)
theorem mo_X3_stateAt : am_mo me_X3_stateAt := ⟨am_in (i := 332) (by decide +kernel), am_in (i := 58) (by decide +kernel), by decide +kernel, by decide +kernel, by decide +kernel, by decide⟩
def me_X3_draft : am_me := (3, yX3_draft, cX3_draft, 3, none, 1)
theorem mo_X3_draft : am_mo me_X3_draft := ⟨am_in (i := 328) (by decide +kernel), am_in (i := 58) (by decide +kernel), by decide +kernel, by decide +kernel, by decide +kernel, by decide⟩
def me_X3_restoreDraft : am_me := (3, yX3_restoreDraft, cX3_restoreDraft, 3, none, 1)
theorem mo_X3_restoreDraft : am_mo me_X3_restoreDraft := ⟨am_in (i := 667) (by decide +kernel), am_in (i := 58) (by decide +kernel), by decide +kernel, by decide +kernel, by decide +kernel, by decide⟩
def me_X3_keepDraft : am_me := (3, yX3_keepDraft, cX3_keepDraft, 3, none, 0)
theorem mo_X3_keepDraft : am_mo me_X3_keepDraft := ⟨am_in (i := 426) (by decide +kernel), am_in (i := 58) (by decide +kernel), by decide +kernel, by decide +kernel, by decide +kernel, by decide⟩
def me_X3_takeBack : am_me := (3, yX3_takeBack, cX3_takeBack, 2, none, 1)
theorem mo_X3_takeBack : am_mo me_X3_takeBack := ⟨am_in (i := 663) (by decide +kernel), am_in (i := 58) (by decide +kernel), by decide +kernel, by decide +kernel, by decide +kernel, by decide⟩
def me_X4_init : am_me := (4, yX4_init, cX4_init, 1, none, 0)
theorem mo_X4_init : am_mo me_X4_init := ⟨am_in (i := 82) (by decide +kernel), am_in (i := 54) (by decide +kernel), by decide +kernel, by decide +kernel, by decide +kernel, by decide⟩
def me_X4_empty : am_me := (4, yX4_empty, cX4_empty, 1, none, 0)
theorem mo_X4_empty : am_mo me_X4_empty := ⟨am_in (i := 482) (by decide +kernel), am_in (i := 54) (by decide +kernel), by decide +kernel, by decide +kernel, by decide +kernel, by decide⟩
def me_X4_copyFrom : am_me := (4, yX4_copyFrom, cX4_copyFrom, 2, none, 1)
theorem mo_X4_copyFrom : am_mo me_X4_copyFrom := ⟨am_in (i := 343) (by decide +kernel), am_in (i := 54) (by decide +kernel), by decide +kernel, by decide +kernel, by decide +kernel, by decide⟩
def me_X4_enter : am_me := (4, yX4_enter, cX4_enter, 5, none, 3)
theorem mo_X4_enter : am_mo me_X4_enter := ⟨am_in (i := 446) (by decide +kernel), am_in (i := 54) (by decide +kernel), by decide +kernel, by decide +kernel, by decide +kernel, by decide⟩
def me_X4_nameAt : am_me := (4, yX4_nameAt, cX4_nameAt, 2, (some .int), 1)
theorem mo_X4_nameAt : am_mo me_X4_nameAt := ⟨am_in (i := 554) (by decide +kernel), am_in (i := 54) (by decide +kernel), by decide +kernel, by decide +kernel, by decide +kernel, by decide⟩
def me_X4_firstAt : am_me := (4, yX4_firstAt, cX4_firstAt, 2, (some .int), 1)
theorem mo_X4_firstAt : am_mo me_X4_firstAt := ⟨am_in (i := 575) (by decide +kernel), am_in (i := 54) (by decide +kernel), by decide +kernel, by decide +kernel, by decide +kernel, by decide⟩
def me_X4_styleAt : am_me := (4, yX4_styleAt, cX4_styleAt, 2, (some .int), 1)
theorem mo_X4_styleAt : am_mo me_X4_styleAt := ⟨am_in (i := 579) (by decide +kernel), am_in (i := 54) (by decide +kernel), by decide +kernel, by decide +kernel, by decide +kernel, by decide⟩
def me_X4_latestWith : am_me := (4, yX4_latestWith, cX4_latestWith, 4, (some .int), 2)
theorem mo_X4_latestWith : am_mo me_X4_latestWith := ⟨am_in (i := 546) (by decide +kernel), am_in (i := 54) (by decide +kernel), by decide +kernel, by decide +kernel, by decide +kernel, by decide⟩
def me_X4_latestOfStyle : am_me := (4, yX4_latestOfStyle, cX4_latestOfStyle, 3, (some .int), 1)
theorem mo_X4_latestOfStyle : am_mo me_X4_latestOfStyle := ⟨am_in (i := 550) (by decide +kernel), am_in (i := 54) (by decide +kernel), by decide +kernel, by decide +kernel, by decide +kernel, by decide⟩
def me_X5_init : am_me := (5, yX5_init, cX5_init, 1, none, 0)
theorem mo_X5_init : am_mo me_X5_init := ⟨am_in (i := 154) (by decide +kernel), am_in (i := 57) (by decide +kernel), by decide +kernel, by decide +kernel, by decide +kernel, by decide⟩
def me_X5_empty : am_me := (5, yX5_empty, cX5_empty, 1, none, 0)
theorem mo_X5_empty : am_mo me_X5_empty := ⟨am_in (i := 376) (by decide +kernel), am_in (i := 57) (by decide +kernel), by decide +kernel, by decide +kernel, by decide +kernel, by decide⟩
def me_X5_add : am_me := (5, yX5_add, cX5_add, 2, none, 1)
theorem mo_X5_add : am_mo me_X5_add := ⟨am_in (i := 388) (by decide +kernel), am_in (i := 57) (by decide +kernel), by decide +kernel, by decide +kernel, by decide +kernel, by decide⟩
def me_X5_at : am_me := (5, yX5_at, cX5_at, 2, (some .int), 1)
theorem mo_X5_at : am_mo me_X5_at := ⟨am_in (i := 405) (by decide +kernel), am_in (i := 57) (by decide +kernel), by decide +kernel, by decide +kernel, by decide +kernel, by decide⟩
def me_X5_set : am_me := (5, yX5_set, cX5_set, 4, (some .long), 0)
theorem mo_X5_set : am_mo me_X5_set := ⟨am_in (i := 627) (by decide +kernel), am_in (i := 57) (by decide +kernel), by decide +kernel, by decide +kernel, by decide +kernel, by decide⟩
def me_X5_allot : am_me := (5, yX5_allot, cX5_allot, 5, none, 3)
theorem mo_X5_allot : am_mo me_X5_allot := ⟨am_in (i := 372) (by decide +kernel), am_in (i := 57) (by decide +kernel), by decide +kernel, by decide +kernel, by decide +kernel, by decide⟩
def me_X5_takeRising : am_me := (5, yX5_takeRising, cX5_takeRising, 5, none, 3)
theorem mo_X5_takeRising : am_mo me_X5_takeRising := ⟨am_in (i := 397) (by decide +kernel), am_in (i := 57) (by decide +kernel), by decide +kernel, by decide +kernel, by decide +kernel, by decide⟩
def me_X5_takeFalling : am_me := (5, yX5_takeFalling, cX5_takeFalling, 4, none, 2)
theorem mo_X5_takeFalling : am_mo me_X5_takeFalling := ⟨am_in (i := 380) (by decide +kernel), am_in (i := 57) (by decide +kernel), by decide +kernel, by decide +kernel, by decide +kernel, by decide⟩
def me_X6_init : am_me := (6, yX6_init, cX6_init, 1, none, 0)
theorem mo_X6_init : am_mo me_X6_init := ⟨am_in (i := 253) (by decide +kernel), am_in (i := 59) (by decide +kernel), by decide +kernel, by decide +kernel, by decide +kernel, by decide⟩
def me_X6_append : am_me := (6, yX6_append, cX6_append, 2, none, 1)
theorem mo_X6_append : am_mo me_X6_append := ⟨am_in (i := 675) (by decide +kernel), am_in (i := 59) (by decide +kernel), by decide +kernel, by decide +kernel, by decide +kernel, by decide⟩
def me_X6_rewind : am_me := (6, yX6_rewind, cX6_rewind, 1, none, 0)
theorem mo_X6_rewind : am_mo me_X6_rewind := ⟨am_in (i := 691) (by decide +kernel), am_in (i := 59) (by decide +kernel), by decide +kernel, by decide +kernel, by decide +kernel, by decide⟩
def me_X6_hasMore : am_me := (6, yX6_hasMore, cX6_hasMore, 1, (some .boolean), 0)
theorem mo_X6_hasMore : am_mo me_X6_hasMore := ⟨am_in (i := 695) (by decide +kernel), am_in (i := 59) (by decide +kernel), by decide +kernel, by decide +kernel, by decide +kernel, by decide⟩
def me_X6_readOrder : am_me := (6, yX6_readOrder, cX6_readOrder, 1, (some .boolean), 0)
theorem mo_X6_readOrder : am_mo me_X6_readOrder := ⟨am_in (i := 699) (by decide +kernel), am_in (i := 59) (by decide +kernel), by decide +kernel, by decide +kernel, by decide +kernel, by decide⟩
def me_X6_readStyleAndLength : am_me := (6, yX6_readStyleAndLength, cX6_readStyleAndLength, 1, (some .boolean), 0)
theorem mo_X6_readStyleAndLength : am_mo me_X6_readStyleAndLength := ⟨am_in (i := 715) (by decide +kernel), am_in (i := 59) (by decide +kernel), by decide +kernel, by decide +kernel, by decide +kernel, by decide⟩
def me_X6_numbersFit : am_me := (6, yX6_numbersFit, cX6_numbersFit, 1, (some .boolean), 0)
theorem mo_X6_numbersFit : am_mo me_X6_numbersFit := ⟨am_in (i := 723) (by decide +kernel), am_in (i := 59) (by decide +kernel), by decide +kernel, by decide +kernel, by decide +kernel, by decide⟩
def me_X6_signHere : am_me := (6, yX6_signHere, cX6_signHere, 1, (some .int), 0)
theorem mo_X6_signHere : am_mo me_X6_signHere := ⟨am_in (i := 703) (by decide +kernel), am_in (i := 59) (by decide +kernel), by decide +kernel, by decide +kernel, by decide +kernel, by decide⟩
def me_X6_passes : am_me := (6, yX6_passes, cX6_passes, 2, (some .boolean), 1)
theorem mo_X6_passes : am_mo me_X6_passes := ⟨am_in (i := 719) (by decide +kernel), am_in (i := 59) (by decide +kernel), by decide +kernel, by decide +kernel, by decide +kernel, by decide⟩
def me_X6_readNumber : am_me := (6, yX6_readNumber, cX6_readNumber, 3, (some .int), 0)
theorem mo_X6_readNumber : am_mo me_X6_readNumber := ⟨am_in (i := 707) (by decide +kernel), am_in (i := 59) (by decide +kernel), by decide +kernel, by decide +kernel, by decide +kernel, by decide⟩
def me_X6_readDigit : am_me := (6, yX6_readDigit, cX6_readDigit, 2, (some .int), 0)
theorem mo_X6_readDigit : am_mo me_X6_readDigit := ⟨am_in (i := 711) (by decide +kernel), am_in (i := 59) (by decide +kernel), by decide +kernel, by decide +kernel, by decide +kernel, by decide⟩
def me_X7_init : am_me := (7, yX7_init, cX7_init, 1, none, 0)
theorem mo_X7_init : am_mo me_X7_init := ⟨am_in (i := 68) (by decide +kernel), am_in (i := 52) (by decide +kernel), by decide +kernel, by decide +kernel, by decide +kernel, by decide⟩
def me_X7_write : am_me := (7, yX7_write, cX7_write, 5, (some .int), 4)
theorem mo_X7_write : am_mo me_X7_write := ⟨am_in (i := 311) (by decide +kernel), am_in (i := 52) (by decide +kernel), by decide +kernel, by decide +kernel, by decide +kernel, by decide⟩
def me_X7_delete : am_me := (7, yX7_delete, cX7_delete, 2, (some .int), 1)
theorem mo_X7_delete : am_mo me_X7_delete := ⟨am_in (i := 430) (by decide +kernel), am_in (i := 52) (by decide +kernel), by decide +kernel, by decide +kernel, by decide +kernel, by decide⟩
def me_X7_wipe : am_me := (7, yX7_wipe, cX7_wipe, 2, (some .int), 1)
theorem mo_X7_wipe : am_mo me_X7_wipe := ⟨am_in (i := 453) (by decide +kernel), am_in (i := 52) (by decide +kernel), by decide +kernel, by decide +kernel, by decide +kernel, by decide⟩
def me_X7_wipeAll : am_me := (7, yX7_wipeAll, cX7_wipeAll, 3, (some .int), 0)
theorem mo_X7_wipeAll : am_mo me_X7_wipeAll := ⟨am_in (i := 473) (by decide +kernel), am_in (i := 52) (by decide +kernel), by decide +kernel, by decide +kernel, by decide +kernel, by decide⟩
def me_X7_fileOf : am_me := (7, yX7_fileOf, cX7_fileOf, 5, (some .int), 2)
theorem mo_X7_fileOf : am_mo me_X7_fileOf := ⟨am_in (i := 486) (by decide +kernel), am_in (i := 52) (by decide +kernel), by decide +kernel, by decide +kernel, by decide +kernel, by decide⟩
def me_X7_pageOf : am_me := (7, yX7_pageOf, cX7_pageOf, 3, (some .int), 2)
theorem mo_X7_pageOf : am_mo me_X7_pageOf := ⟨am_in (i := 515) (by decide +kernel), am_in (i := 52) (by decide +kernel), by decide +kernel, by decide +kernel, by decide +kernel, by decide⟩
def me_X7_journalOf : am_me := (7, yX7_journalOf, cX7_journalOf, 4, (some .int), 2)
theorem mo_X7_journalOf : am_mo me_X7_journalOf := ⟨am_in (i := 570) (by decide +kernel), am_in (i := 52) (by decide +kernel), by decide +kernel, by decide +kernel, by decide +kernel, by decide⟩
def me_X7_guessOf : am_me := (7, yX7_guessOf, cX7_guessOf, 4, (some .int), 2)
theorem mo_X7_guessOf : am_mo me_X7_guessOf := ⟨am_in (i := 583) (by decide +kernel), am_in (i := 52) (by decide +kernel), by decide +kernel, by decide +kernel, by decide +kernel, by decide⟩
def me_X7_claim : am_me := (7, yX7_claim, cX7_claim, 3, (some .int), 2)
theorem mo_X7_claim : am_mo me_X7_claim := ⟨am_in (i := 599) (by decide +kernel), am_in (i := 52) (by decide +kernel), by decide +kernel, by decide +kernel, by decide +kernel, by decide⟩
def me_X7_bestGuesses : am_me := (7, yX7_bestGuesses, cX7_bestGuesses, 2, (some .int), 1)
theorem mo_X7_bestGuesses : am_mo me_X7_bestGuesses := ⟨am_in (i := 607) (by decide +kernel), am_in (i := 52) (by decide +kernel), by decide +kernel, by decide +kernel, by decide +kernel, by decide⟩
def me_X7_would : am_me := (7, yX7_would, cX7_would, 4, (some .int), 3)
theorem mo_X7_would : am_mo me_X7_would := ⟨am_in (i := 623) (by decide +kernel), am_in (i := 52) (by decide +kernel), by decide +kernel, by decide +kernel, by decide +kernel, by decide⟩
def me_X7_gentlest : am_me := (7, yX7_gentlest, cX7_gentlest, 6, (some .int), 1)
theorem mo_X7_gentlest : am_mo me_X7_gentlest := ⟨am_in (i := 636) (by decide +kernel), am_in (i := 52) (by decide +kernel), by decide +kernel, by decide +kernel, by decide +kernel, by decide⟩
def me_X7_count : am_me := (7, yX7_count, cX7_count, 2, (some .int), 1)
theorem mo_X7_count : am_mo me_X7_count := ⟨am_in (i := 640) (by decide +kernel), am_in (i := 52) (by decide +kernel), by decide +kernel, by decide +kernel, by decide +kernel, by decide⟩
def me_X7_undo : am_me := (7, yX7_undo, cX7_undo, 1, (some .int), 0)
theorem mo_X7_undo : am_mo me_X7_undo := ⟨am_in (i := 659) (by decide +kernel), am_in (i := 52) (by decide +kernel), by decide +kernel, by decide +kernel, by decide +kernel, by decide⟩
def me_X7_type : am_me := (7, yX7_type, cX7_type, 2, (some .int), 1)
theorem mo_X7_type : am_mo me_X7_type := ⟨am_in (i := 671) (by decide +kernel), am_in (i := 52) (by decide +kernel), by decide +kernel, by decide +kernel, by decide +kernel, by decide⟩
def me_X7_clearText : am_me := (7, yX7_clearText, cX7_clearText, 2, (some .int), 0)
theorem mo_X7_clearText : am_mo me_X7_clearText := ⟨am_in (i := 679) (by decide +kernel), am_in (i := 52) (by decide +kernel), by decide +kernel, by decide +kernel, by decide +kernel, by decide⟩
def me_X7_fault : am_me := (7, yX7_fault, cX7_fault, 3, (some .int), 1)
theorem mo_X7_fault : am_mo me_X7_fault := ⟨am_in (i := 683) (by decide +kernel), am_in (i := 52) (by decide +kernel), by decide +kernel, by decide +kernel, by decide +kernel, by decide⟩
def me_X7_play : am_me := (7, yX7_play, cX7_play, 1, (some .int), 0)
theorem mo_X7_play : am_mo me_X7_play := ⟨am_in (i := 732) (by decide +kernel), am_in (i := 52) (by decide +kernel), by decide +kernel, by decide +kernel, by decide +kernel, by decide⟩
def me_X7_within : am_me := (7, yX7_within, cX7_within, 3, (some .boolean), 3)
theorem mo_X7_within : am_mo me_X7_within := ⟨am_in (i := 317) (by decide +kernel), am_in (i := 52) (by decide +kernel), by decide +kernel, by decide +kernel, by decide +kernel, by decide⟩
def me_X7_isName : am_me := (7, yX7_isName, cX7_isName, 1, (some .boolean), 1)
theorem mo_X7_isName : am_mo me_X7_isName := ⟨am_in (i := 314) (by decide +kernel), am_in (i := 52) (by decide +kernel), by decide +kernel, by decide +kernel, by decide +kernel, by decide⟩
def me_X7_isPage : am_me := (7, yX7_isPage, cX7_isPage, 1, (some .boolean), 1)
theorem mo_X7_isPage : am_mo me_X7_isPage := ⟨am_in (i := 456) (by decide +kernel), am_in (i := 52) (by decide +kernel), by decide +kernel, by decide +kernel, by decide +kernel, by decide⟩
def me_X7_isLength : am_me := (7, yX7_isLength, cX7_isLength, 1, (some .boolean), 1)
theorem mo_X7_isLength : am_mo me_X7_isLength := ⟨am_in (i := 320) (by decide +kernel), am_in (i := 52) (by decide +kernel), by decide +kernel, by decide +kernel, by decide +kernel, by decide⟩
def me_X7_isLayout : am_me := (7, yX7_isLayout, cX7_isLayout, 1, (some .boolean), 1)
theorem mo_X7_isLayout : am_mo me_X7_isLayout := ⟨am_in (i := 323) (by decide +kernel), am_in (i := 52) (by decide +kernel), by decide +kernel, by decide +kernel, by decide +kernel, by decide⟩
def me_X7_asksPage : am_me := (7, yX7_asksPage, cX7_asksPage, 1, (some .boolean), 1)
theorem mo_X7_asksPage : am_mo me_X7_asksPage := ⟨am_in (i := 489) (by decide +kernel), am_in (i := 52) (by decide +kernel), by decide +kernel, by decide +kernel, by decide +kernel, by decide⟩
def me_X7_found : am_me := (7, yX7_found, cX7_found, 1, (some .int), 1)
theorem mo_X7_found : am_mo me_X7_found := ⟨am_in (i := 511) (by decide +kernel), am_in (i := 52) (by decide +kernel), by decide +kernel, by decide +kernel, by decide +kernel, by decide⟩
def me_X7_settled : am_me := (7, yX7_settled, cX7_settled, 2, (some .int), 1)
theorem mo_X7_settled : am_mo me_X7_settled := ⟨am_in (i := 422) (by decide +kernel), am_in (i := 52) (by decide +kernel), by decide +kernel, by decide +kernel, by decide +kernel, by decide⟩
def me_X7_writeFile : am_me := (7, yX7_writeFile, cX7_writeFile, 5, (some .int), 4)
theorem mo_X7_writeFile : am_mo me_X7_writeFile := ⟨am_in (i := 348) (by decide +kernel), am_in (i := 52) (by decide +kernel), by decide +kernel, by decide +kernel, by decide +kernel, by decide⟩
def me_X7_deleteFile : am_me := (7, yX7_deleteFile, cX7_deleteFile, 2, (some .int), 1)
theorem mo_X7_deleteFile : am_mo me_X7_deleteFile := ⟨am_in (i := 434) (by decide +kernel), am_in (i := 52) (by decide +kernel), by decide +kernel, by decide +kernel, by decide +kernel, by decide⟩
def me_X7_wipePage : am_me := (7, yX7_wipePage, cX7_wipePage, 3, (some .int), 1)
theorem mo_X7_wipePage : am_mo me_X7_wipePage := ⟨am_in (i := 460) (by decide +kernel), am_in (i := 52) (by decide +kernel), by decide +kernel, by decide +kernel, by decide +kernel, by decide⟩
def me_X7_claimGuess : am_me := (7, yX7_claimGuess, cX7_claimGuess, 5, (some .int), 2)
theorem mo_X7_claimGuess : am_mo me_X7_claimGuess := ⟨am_in (i := 603) (by decide +kernel), am_in (i := 52) (by decide +kernel), by decide +kernel, by decide +kernel, by decide +kernel, by decide⟩
def me_X7_runOrders : am_me := (7, yX7_runOrders, cX7_runOrders, 3, (some .int), 0)
theorem mo_X7_runOrders : am_mo me_X7_runOrders := ⟨am_in (i := 687) (by decide +kernel), am_in (i := 52) (by decide +kernel), by decide +kernel, by decide +kernel, by decide +kernel, by decide⟩
def me_X7_doOrder : am_me := (7, yX7_doOrder, cX7_doOrder, 1, (some .int), 0)
theorem mo_X7_doOrder : am_mo me_X7_doOrder := ⟨am_in (i := 727) (by decide +kernel), am_in (i := 52) (by decide +kernel), by decide +kernel, by decide +kernel, by decide +kernel, by decide⟩
def me_X8_init : am_me := (8, yX8_init, cX8_init, 2, none, 0)
theorem mo_X8_init : am_mo me_X8_init := ⟨am_in (i := 737) (by decide +kernel), am_in (i := 60) (by decide +kernel), by decide +kernel, by decide +kernel, by decide +kernel, by decide⟩
def me_X8_in : am_me := (8, yX8_in, cX8_in, 3, (some .boolean), 3)
theorem mo_X8_in : am_mo me_X8_in := ⟨am_in (i := 812) (by decide +kernel), am_in (i := 60) (by decide +kernel), by decide +kernel, by decide +kernel, by decide +kernel, by decide⟩
def me_X8_isName : am_me := (8, yX8_isName, cX8_isName, 1, (some .boolean), 1)
theorem mo_X8_isName : am_mo me_X8_isName := ⟨am_in (i := 809) (by decide +kernel), am_in (i := 60) (by decide +kernel), by decide +kernel, by decide +kernel, by decide +kernel, by decide⟩
def me_X8_isPage : am_me := (8, yX8_isPage, cX8_isPage, 1, (some .boolean), 1)
theorem mo_X8_isPage : am_mo me_X8_isPage := ⟨am_in (i := 830) (by decide +kernel), am_in (i := 60) (by decide +kernel), by decide +kernel, by decide +kernel, by decide +kernel, by decide⟩
def me_X8_copies : am_me := (8, yX8_copies, cX8_copies, 3, none, 2)
theorem mo_X8_copies : am_mo me_X8_copies := ⟨am_in (i := 926) (by decide +kernel), am_in (i := 60) (by decide +kernel), by decide +kernel, by decide +kernel, by decide +kernel, by decide⟩
def me_X8_changes : am_me := (8, yX8_changes, cX8_changes, 2, none, 0)
theorem mo_X8_changes : am_mo me_X8_changes := ⟨am_in (i := 835) (by decide +kernel), am_in (i := 60) (by decide +kernel), by decide +kernel, by decide +kernel, by decide +kernel, by decide⟩
def me_X8_isFree : am_me := (8, yX8_isFree, cX8_isFree, 2, (some .boolean), 1)
theorem mo_X8_isFree : am_mo me_X8_isFree := ⟨am_in (i := 827) (by decide +kernel), am_in (i := 60) (by decide +kernel), by decide +kernel, by decide +kernel, by decide +kernel, by decide⟩
def me_X8_free : am_me := (8, yX8_free, cX8_free, 3, (some .int), 0)
theorem mo_X8_free : am_mo me_X8_free := ⟨am_in (i := 847) (by decide +kernel), am_in (i := 60) (by decide +kernel), by decide +kernel, by decide +kernel, by decide +kernel, by decide⟩
def me_X8_run : am_me := (8, yX8_run, cX8_run, 6, (some .int), 1)
theorem mo_X8_run : am_mo me_X8_run := ⟨am_in (i := 822) (by decide +kernel), am_in (i := 60) (by decide +kernel), by decide +kernel, by decide +kernel, by decide +kernel, by decide⟩
def me_X8_chooses : am_me := (8, yX8_chooses, cX8_chooses, 8, (some .boolean), 2)
theorem mo_X8_chooses : am_mo me_X8_chooses := ⟨am_in (i := 818) (by decide +kernel), am_in (i := 60) (by decide +kernel), by decide +kernel, by decide +kernel, by decide +kernel, by decide⟩
def me_X8_lays : am_me := (8, yX8_lays, cX8_lays, 6, none, 3)
theorem mo_X8_lays : am_mo me_X8_lays := ⟨am_in (i := 839) (by decide +kernel), am_in (i := 60) (by decide +kernel), by decide +kernel, by decide +kernel, by decide +kernel, by decide⟩
def me_X8_write : am_me := (8, yX8_write, cX8_write, 5, (some .int), 4)
theorem mo_X8_write : am_mo me_X8_write := ⟨am_in (i := 806) (by decide +kernel), am_in (i := 60) (by decide +kernel), by decide +kernel, by decide +kernel, by decide +kernel, by decide⟩
def me_X8_delete : am_me := (8, yX8_delete, cX8_delete, 4, (some .int), 1)
theorem mo_X8_delete : am_mo me_X8_delete := ⟨am_in (i := 843) (by decide +kernel), am_in (i := 60) (by decide +kernel), by decide +kernel, by decide +kernel, by decide +kernel, by decide⟩
def me_X8_wipes : am_me := (8, yX8_wipes, cX8_wipes, 3, (some .int), 1)
theorem mo_X8_wipes : am_mo me_X8_wipes := ⟨am_in (i := 855) (by decide +kernel), am_in (i := 60) (by decide +kernel), by decide +kernel, by decide +kernel, by decide +kernel, by decide⟩
def me_X8_wipe : am_me := (8, yX8_wipe, cX8_wipe, 2, (some .int), 1)
theorem mo_X8_wipe : am_mo me_X8_wipe := ⟨am_in (i := 851) (by decide +kernel), am_in (i := 60) (by decide +kernel), by decide +kernel, by decide +kernel, by decide +kernel, by decide⟩
def me_X8_wipeAll : am_me := (8, yX8_wipeAll, cX8_wipeAll, 3, (some .int), 0)
theorem mo_X8_wipeAll : am_mo me_X8_wipeAll := ⟨am_in (i := 859) (by decide +kernel), am_in (i := 60) (by decide +kernel), by decide +kernel, by decide +kernel, by decide +kernel, by decide⟩
def me_X8_pageOfFile : am_me := (8, yX8_pageOfFile, cX8_pageOfFile, 5, (some .int), 2)
theorem mo_X8_pageOfFile : am_mo me_X8_pageOfFile := ⟨am_in (i := 867) (by decide +kernel), am_in (i := 60) (by decide +kernel), by decide +kernel, by decide +kernel, by decide +kernel, by decide⟩
def me_X8_isRow : am_me := (8, yX8_isRow, cX8_isRow, 4, (some .boolean), 1)
theorem mo_X8_isRow : am_mo me_X8_isRow := ⟨am_in (i := 871) (by decide +kernel), am_in (i := 60) (by decide +kernel), by decide +kernel, by decide +kernel, by decide +kernel, by decide⟩
def me_X8_fileOf : am_me := (8, yX8_fileOf, cX8_fileOf, 5, (some .int), 2)
theorem mo_X8_fileOf : am_mo me_X8_fileOf := ⟨am_in (i := 863) (by decide +kernel), am_in (i := 60) (by decide +kernel), by decide +kernel, by decide +kernel, by decide +kernel, by decide⟩
def me_X8_isFound : am_me := (8, yX8_isFound, cX8_isFound, 5, (some .boolean), 2)
theorem mo_X8_isFound : am_mo me_X8_isFound := ⟨am_in (i := 891) (by decide +kernel), am_in (i := 60) (by decide +kernel), by decide +kernel, by decide +kernel, by decide +kernel, by decide⟩
def me_X8_goesOn : am_me := (8, yX8_goesOn, cX8_goesOn, 4, (some .boolean), 2)
theorem mo_X8_goesOn : am_mo me_X8_goesOn := ⟨am_in (i := 887) (by decide +kernel), am_in (i := 60) (by decide +kernel), by decide +kernel, by decide +kernel, by decide +kernel, by decide⟩
def me_X8_entry : am_me := (8, yX8_entry, cX8_entry, 6, (some .int), 2)
theorem mo_X8_entry : am_mo me_X8_entry := ⟨am_in (i := 895) (by decide +kernel), am_in (i := 60) (by decide +kernel), by decide +kernel, by decide +kernel, by decide +kernel, by decide⟩
def me_X8_guesses0 : am_me := (8, yX8_guesses0, cX8_guesses0, 7, none, 1)
theorem mo_X8_guesses0 : am_mo me_X8_guesses0 := ⟨am_in (i := 883) (by decide +kernel), am_in (i := 60) (by decide +kernel), by decide +kernel, by decide +kernel, by decide +kernel, by decide⟩
def me_X8_guessAll : am_me := (8, yX8_guessAll, cX8_guessAll, 4, none, 0)
theorem mo_X8_guessAll : am_mo me_X8_guessAll := ⟨am_in (i := 879) (by decide +kernel), am_in (i := 60) (by decide +kernel), by decide +kernel, by decide +kernel, by decide +kernel, by decide⟩
def me_X8_nameOf : am_me := (8, yX8_nameOf, cX8_nameOf, 4, (some .int), 1)
theorem mo_X8_nameOf : am_mo me_X8_nameOf := ⟨am_in (i := 899) (by decide +kernel), am_in (i := 60) (by decide +kernel), by decide +kernel, by decide +kernel, by decide +kernel, by decide⟩
def me_X8_share : am_me := (8, yX8_share, cX8_share, 5, (some .boolean), 2)
theorem mo_X8_share : am_mo me_X8_share := ⟨am_in (i := 907) (by decide +kernel), am_in (i := 60) (by decide +kernel), by decide +kernel, by decide +kernel, by decide +kernel, by decide⟩
def me_X8_sharing : am_me := (8, yX8_sharing, cX8_sharing, 4, (some .int), 1)
theorem mo_X8_sharing : am_mo me_X8_sharing := ⟨am_in (i := 903) (by decide +kernel), am_in (i := 60) (by decide +kernel), by decide +kernel, by decide +kernel, by decide +kernel, by decide⟩
def me_X8_guessOf : am_me := (8, yX8_guessOf, cX8_guessOf, 4, (some .int), 2)
theorem mo_X8_guessOf : am_mo me_X8_guessOf := ⟨am_in (i := 875) (by decide +kernel), am_in (i := 60) (by decide +kernel), by decide +kernel, by decide +kernel, by decide +kernel, by decide⟩
def me_X8_claim : am_me := (8, yX8_claim, cX8_claim, 6, (some .int), 2)
theorem mo_X8_claim : am_mo me_X8_claim := ⟨am_in (i := 911) (by decide +kernel), am_in (i := 60) (by decide +kernel), by decide +kernel, by decide +kernel, by decide +kernel, by decide⟩
def me_X8_bestGuesses : am_me := (8, yX8_bestGuesses, cX8_bestGuesses, 15, (some .int), 1)
theorem mo_X8_bestGuesses : am_mo me_X8_bestGuesses := ⟨am_in (i := 915) (by decide +kernel), am_in (i := 60) (by decide +kernel), by decide +kernel, by decide +kernel, by decide +kernel, by decide⟩
def me_X8_sum : am_me := (8, yX8_sum, cX8_sum, 3, (some .int), 0)
theorem mo_X8_sum : am_mo me_X8_sum := ⟨am_in (i := 930) (by decide +kernel), am_in (i := 60) (by decide +kernel), by decide +kernel, by decide +kernel, by decide +kernel, by decide⟩
def me_X8_then : am_me := (8, yX8_then, cX8_then, 5, (some .int), 2)
theorem mo_X8_then : am_mo me_X8_then := ⟨am_in (i := 923) (by decide +kernel), am_in (i := 60) (by decide +kernel), by decide +kernel, by decide +kernel, by decide +kernel, by decide⟩
def me_X8_would : am_me := (8, yX8_would, cX8_would, 4, (some .int), 3)
theorem mo_X8_would : am_mo me_X8_would := ⟨am_in (i := 919) (by decide +kernel), am_in (i := 60) (by decide +kernel), by decide +kernel, by decide +kernel, by decide +kernel, by decide⟩
def me_X8_gentlest : am_me := (8, yX8_gentlest, cX8_gentlest, 6, (some .int), 1)
theorem mo_X8_gentlest : am_mo me_X8_gentlest := ⟨am_in (i := 934) (by decide +kernel), am_in (i := 60) (by decide +kernel), by decide +kernel, by decide +kernel, by decide +kernel, by decide⟩
def me_X8_guessesOf : am_me := (8, yX8_guessesOf, cX8_guessesOf, 4, (some .int), 1)
theorem mo_X8_guessesOf : am_mo me_X8_guessesOf := ⟨am_in (i := 943) (by decide +kernel), am_in (i := 60) (by decide +kernel), by decide +kernel, by decide +kernel, by decide +kernel, by decide⟩
def me_X8_pageOf : am_me := (8, yX8_pageOf, cX8_pageOf, 4, (some .int), 2)
theorem mo_X8_pageOf : am_mo me_X8_pageOf := ⟨am_in (i := 939) (by decide +kernel), am_in (i := 60) (by decide +kernel), by decide +kernel, by decide +kernel, by decide +kernel, by decide⟩
def me_X8_journalOf : am_me := (8, yX8_journalOf, cX8_journalOf, 3, (some .int), 2)
theorem mo_X8_journalOf : am_mo me_X8_journalOf := ⟨am_in (i := 947) (by decide +kernel), am_in (i := 60) (by decide +kernel), by decide +kernel, by decide +kernel, by decide +kernel, by decide⟩
def me_X8_files : am_me := (8, yX8_files, cX8_files, 3, (some .int), 0)
theorem mo_X8_files : am_mo me_X8_files := ⟨am_in (i := 955) (by decide +kernel), am_in (i := 60) (by decide +kernel), by decide +kernel, by decide +kernel, by decide +kernel, by decide⟩
def me_X8_runsOf : am_me := (8, yX8_runsOf, cX8_runsOf, 6, (some .int), 1)
theorem mo_X8_runsOf : am_mo me_X8_runsOf := ⟨am_in (i := 963) (by decide +kernel), am_in (i := 60) (by decide +kernel), by decide +kernel, by decide +kernel, by decide +kernel, by decide⟩
def me_X8_left : am_me := (8, yX8_left, cX8_left, 3, (some .int), 0)
theorem mo_X8_left : am_mo me_X8_left := ⟨am_in (i := 959) (by decide +kernel), am_in (i := 60) (by decide +kernel), by decide +kernel, by decide +kernel, by decide +kernel, by decide⟩
def me_X8_count : am_me := (8, yX8_count, cX8_count, 2, (some .int), 1)
theorem mo_X8_count : am_mo me_X8_count := ⟨am_in (i := 951) (by decide +kernel), am_in (i := 60) (by decide +kernel), by decide +kernel, by decide +kernel, by decide +kernel, by decide⟩
def me_X8_undo : am_me := (8, yX8_undo, cX8_undo, 2, (some .int), 0)
theorem mo_X8_undo : am_mo me_X8_undo := ⟨am_in (i := 967) (by decide +kernel), am_in (i := 60) (by decide +kernel), by decide +kernel, by decide +kernel, by decide +kernel, by decide⟩
def me_X8_type : am_me := (8, yX8_type, cX8_type, 2, (some .int), 1)
theorem mo_X8_type : am_mo me_X8_type := ⟨am_in (i := 971) (by decide +kernel), am_in (i := 60) (by decide +kernel), by decide +kernel, by decide +kernel, by decide +kernel, by decide⟩
def me_X8_clearText : am_me := (8, yX8_clearText, cX8_clearText, 2, (some .int), 0)
theorem mo_X8_clearText : am_mo me_X8_clearText := ⟨am_in (i := 975) (by decide +kernel), am_in (i := 60) (by decide +kernel), by decide +kernel, by decide +kernel, by decide +kernel, by decide⟩
def me_X8_isAt : am_me := (8, yX8_isAt, cX8_isAt, 3, (some .boolean), 2)
theorem mo_X8_isAt : am_mo me_X8_isAt := ⟨am_in (i := 995) (by decide +kernel), am_in (i := 60) (by decide +kernel), by decide +kernel, by decide +kernel, by decide +kernel, by decide⟩
def me_X8_number : am_me := (8, yX8_number, cX8_number, 5, (some .boolean), 2)
theorem mo_X8_number : am_mo me_X8_number := ⟨am_in (i := 991) (by decide +kernel), am_in (i := 60) (by decide +kernel), by decide +kernel, by decide +kernel, by decide +kernel, by decide⟩
def me_X8_asReason : am_me := (8, yX8_asReason, cX8_asReason, 2, (some .int), 1)
theorem mo_X8_asReason : am_mo me_X8_asReason := ⟨am_in (i := 1000) (by decide +kernel), am_in (i := 60) (by decide +kernel), by decide +kernel, by decide +kernel, by decide +kernel, by decide⟩
def me_X8_does : am_me := (8, yX8_does, cX8_does, 5, (some .int), 0)
theorem mo_X8_does : am_mo me_X8_does := ⟨am_in (i := 987) (by decide +kernel), am_in (i := 60) (by decide +kernel), by decide +kernel, by decide +kernel, by decide +kernel, by decide⟩
def me_X8_plays : am_me := (8, yX8_plays, cX8_plays, 2, (some .int), 0)
theorem mo_X8_plays : am_mo me_X8_plays := ⟨am_in (i := 983) (by decide +kernel), am_in (i := 60) (by decide +kernel), by decide +kernel, by decide +kernel, by decide +kernel, by decide⟩
def me_X8_fault : am_me := (8, yX8_fault, cX8_fault, 3, (some .int), 1)
theorem mo_X8_fault : am_mo me_X8_fault := ⟨am_in (i := 979) (by decide +kernel), am_in (i := 60) (by decide +kernel), by decide +kernel, by decide +kernel, by decide +kernel, by decide⟩
def me_X8_play : am_me := (8, yX8_play, cX8_play, 2, (some .int), 0)
theorem mo_X8_play : am_mo me_X8_play := ⟨am_in (i := 1007) (by decide +kernel), am_in (i := 60) (by decide +kernel), by decide +kernel, by decide +kernel, by decide +kernel, by decide⟩
def me_J13_bitCount_95d88 : am_me := (10, yJ13_bitCount_95d88, cJ13_bitCount_95d88, 2, (some .int), 1)
theorem mo_J13_bitCount_95d88 : am_mo me_J13_bitCount_95d88 := ⟨am_in (i := 364) (by decide +kernel), am_in (i := 62) (by decide +kernel), by decide +kernel, by decide +kernel, by decide +kernel, by decide⟩
def me_J9_max_7cf53 : am_me := (11, yJ9_max_7cf53, cJ9_max_7cf53, 2, (some .int), 2)
theorem mo_J9_max_7cf53 : am_mo me_J9_max_7cf53 := ⟨am_in (i := 655) (by decide +kernel), am_in (i := 63) (by decide +kernel), by decide +kernel, by decide +kernel, by decide +kernel, by decide⟩
def me_J9_min_7cf53 : am_me := (11, yJ9_min_7cf53, cJ9_min_7cf53, 2, (some .int), 2)
theorem mo_J9_min_7cf53 : am_mo me_J9_min_7cf53 := ⟨am_in (i := 449) (by decide +kernel), am_in (i := 63) (by decide +kernel), by decide +kernel, by decide +kernel, by decide +kernel, by decide⟩
theorem kI_9_9 : am_kI 9 9 me_X7_init := ⟨mo_X7_init, Or.inl (am_in (i := 66) (by decide +kernel)), am_in (i := 67) (by decide +kernel), rfl, rfl⟩
theorem kO_7_1 : Cond.methodLink (am_cn 7) 1 objectInit ∈ am_wd := am_in (i := 69) (by decide +kernel)
theorem kI_7_9 : am_kI 7 9 me_X0_init := ⟨mo_X0_init, Or.inl (am_in (i := 74) (by decide +kernel)), am_in (i := 75) (by decide +kernel), rfl, rfl⟩
theorem kO_0_3 : Cond.methodLink (am_cn 0) 3 objectInit ∈ am_wd := am_in (i := 77) (by decide +kernel)
theorem kO_4_3 : Cond.methodLink (am_cn 4) 3 objectInit ∈ am_wd := am_in (i := 83) (by decide +kernel)
theorem kO_2_3 : Cond.methodLink (am_cn 2) 3 objectInit ∈ am_wd := am_in (i := 143) (by decide +kernel)
theorem kO_1_3 : Cond.methodLink (am_cn 1) 3 objectInit ∈ am_wd := am_in (i := 149) (by decide +kernel)
theorem kO_5_3 : Cond.methodLink (am_cn 5) 3 objectInit ∈ am_wd := am_in (i := 155) (by decide +kernel)
theorem kI_7_25 : am_kI 7 25 me_X3_init := ⟨mo_X3_init, Or.inl (am_in (i := 234) (by decide +kernel)), am_in (i := 235) (by decide +kernel), rfl, rfl⟩
theorem kO_3_3 : Cond.methodLink (am_cn 3) 3 objectInit ∈ am_wd := am_in (i := 237) (by decide +kernel)
theorem kI_3_17 : am_kI 3 17 me_X0_init := ⟨mo_X0_init, Or.inl (am_in (i := 240) (by decide +kernel)), am_in (i := 75) (by decide +kernel), rfl, rfl⟩
theorem kO_6_3 : Cond.methodLink (am_cn 6) 3 objectInit ∈ am_wd := am_in (i := 254) (by decide +kernel)
theorem kV_9_13 : am_kV 9 13 me_X7_write := ⟨mo_X7_write, am_in (i := 308) (by decide +kernel), am_in (i := 309) (by decide +kernel), am_in (i := 310) (by decide +kernel), _, rfl, rfl⟩
theorem kS_7_44 : am_kS 7 44 me_X7_isName := ⟨mo_X7_isName, am_in (i := 312) (by decide +kernel), am_in (i := 313) (by decide +kernel)⟩
theorem kS_7_48 : am_kS 7 48 me_X7_within := ⟨mo_X7_within, am_in (i := 315) (by decide +kernel), am_in (i := 316) (by decide +kernel)⟩
theorem kS_7_52 : am_kS 7 52 me_X7_isLength := ⟨mo_X7_isLength, am_in (i := 318) (by decide +kernel), am_in (i := 319) (by decide +kernel)⟩
theorem kS_7_55 : am_kS 7 55 me_X7_isLayout := ⟨mo_X7_isLayout, am_in (i := 321) (by decide +kernel), am_in (i := 322) (by decide +kernel)⟩
theorem kV_7_59 : am_kV 7 59 me_X3_draft := ⟨mo_X3_draft, am_in (i := 325) (by decide +kernel), am_in (i := 326) (by decide +kernel), am_in (i := 327) (by decide +kernel), _, rfl, rfl⟩
theorem kV_3_22 : am_kV 3 22 me_X3_stateAt := ⟨mo_X3_stateAt, am_in (i := 329) (by decide +kernel), am_in (i := 331) (by decide +kernel), am_in (i := 0) (by decide +kernel), _, rfl, rfl⟩
theorem kV_3_26 : am_kV 3 26 me_X0_copyFrom := ⟨mo_X0_copyFrom, am_in (i := 333) (by decide +kernel), am_in (i := 334) (by decide +kernel), am_in (i := 335) (by decide +kernel), _, rfl, rfl⟩
theorem kA_0_37 : Cond.methodLink (am_cn 0) 37 arraycopyName ∈ am_wd := am_in (i := 337) (by decide +kernel)
theorem kV_0_43 : am_kV 0 43 me_X4_copyFrom := ⟨mo_X4_copyFrom, am_in (i := 340) (by decide +kernel), am_in (i := 341) (by decide +kernel), am_in (i := 342) (by decide +kernel), _, rfl, rfl⟩
theorem kA_4_25 : Cond.methodLink (am_cn 4) 25 arraycopyName ∈ am_wd := am_in (i := 344) (by decide +kernel)
theorem kV_7_63 : am_kV 7 63 me_X7_writeFile := ⟨mo_X7_writeFile, am_in (i := 345) (by decide +kernel), am_in (i := 347) (by decide +kernel), am_in (i := 1) (by decide +kernel), _, rfl, rfl⟩
theorem kV_7_107 : am_kV 7 107 me_X0_hasFile := ⟨mo_X0_hasFile, am_in (i := 349) (by decide +kernel), am_in (i := 350) (by decide +kernel), am_in (i := 351) (by decide +kernel), _, rfl, rfl⟩
theorem kV_7_202 : am_kV 7 202 me_X0_freePages := ⟨mo_X0_freePages, am_in (i := 354) (by decide +kernel), am_in (i := 355) (by decide +kernel), am_in (i := 356) (by decide +kernel), _, rfl, rfl⟩
theorem kV_0_65 : am_kV 0 65 me_X0_freeSet := ⟨mo_X0_freeSet, am_in (i := 358) (by decide +kernel), am_in (i := 359) (by decide +kernel), am_in (i := 360) (by decide +kernel), _, rfl, rfl⟩
theorem kS_0_69 : am_kS 0 69 me_J13_bitCount_95d88 := ⟨mo_J13_bitCount_95d88, am_in (i := 362) (by decide +kernel), am_in (i := 363) (by decide +kernel)⟩
theorem kV_7_207 : am_kV 7 207 me_X5_allot := ⟨mo_X5_allot, am_in (i := 369) (by decide +kernel), am_in (i := 370) (by decide +kernel), am_in (i := 371) (by decide +kernel), _, rfl, rfl⟩
theorem kV_5_19 : am_kV 5 19 me_X5_empty := ⟨mo_X5_empty, am_in (i := 373) (by decide +kernel), am_in (i := 374) (by decide +kernel), am_in (i := 375) (by decide +kernel), _, rfl, rfl⟩
theorem kV_5_22 : am_kV 5 22 me_X5_takeFalling := ⟨mo_X5_takeFalling, am_in (i := 377) (by decide +kernel), am_in (i := 379) (by decide +kernel), am_in (i := 2) (by decide +kernel), _, rfl, rfl⟩
theorem kV_5_36 : am_kV 5 36 me_X0_isFree := ⟨mo_X0_isFree, am_in (i := 381) (by decide +kernel), am_in (i := 382) (by decide +kernel), am_in (i := 383) (by decide +kernel), _, rfl, rfl⟩
theorem kV_5_40 : am_kV 5 40 me_X5_add := ⟨mo_X5_add, am_in (i := 385) (by decide +kernel), am_in (i := 386) (by decide +kernel), am_in (i := 387) (by decide +kernel), _, rfl, rfl⟩
theorem kV_5_26 : am_kV 5 26 me_X0_lowestRun := ⟨mo_X0_lowestRun, am_in (i := 389) (by decide +kernel), am_in (i := 390) (by decide +kernel), am_in (i := 391) (by decide +kernel), _, rfl, rfl⟩
theorem kV_0_75 : am_kV 0 75 me_X0_isFree := ⟨mo_X0_isFree, am_in (i := 393) (by decide +kernel), am_in (i := 382) (by decide +kernel), am_in (i := 383) (by decide +kernel), _, rfl, rfl⟩
theorem kV_5_32 : am_kV 5 32 me_X5_takeRising := ⟨mo_X5_takeRising, am_in (i := 394) (by decide +kernel), am_in (i := 396) (by decide +kernel), am_in (i := 3) (by decide +kernel), _, rfl, rfl⟩
theorem kV_7_264 : am_kV 7 264 me_X0_lay := ⟨mo_X0_lay, am_in (i := 398) (by decide +kernel), am_in (i := 399) (by decide +kernel), am_in (i := 400) (by decide +kernel), _, rfl, rfl⟩
theorem kV_0_84 : am_kV 0 84 me_X5_at := ⟨mo_X5_at, am_in (i := 402) (by decide +kernel), am_in (i := 403) (by decide +kernel), am_in (i := 404) (by decide +kernel), _, rfl, rfl⟩
theorem kV_0_89 : am_kV 0 89 me_X0_putPage := ⟨mo_X0_putPage, am_in (i := 406) (by decide +kernel), am_in (i := 408) (by decide +kernel), am_in (i := 4) (by decide +kernel), _, rfl, rfl⟩
theorem kV_0_93 : am_kV 0 93 me_X0_own := ⟨mo_X0_own, am_in (i := 410) (by decide +kernel), am_in (i := 412) (by decide +kernel), am_in (i := 5) (by decide +kernel), _, rfl, rfl⟩
theorem kV_0_100 : am_kV 0 100 me_X0_tellLength := ⟨mo_X0_tellLength, am_in (i := 414) (by decide +kernel), am_in (i := 416) (by decide +kernel), am_in (i := 6) (by decide +kernel), _, rfl, rfl⟩
theorem kV_7_187 : am_kV 7 187 me_X5_at := ⟨mo_X5_at, am_in (i := 418) (by decide +kernel), am_in (i := 403) (by decide +kernel), am_in (i := 404) (by decide +kernel), _, rfl, rfl⟩
theorem kV_7_67 : am_kV 7 67 me_X7_settled := ⟨mo_X7_settled, am_in (i := 419) (by decide +kernel), am_in (i := 421) (by decide +kernel), am_in (i := 7) (by decide +kernel), _, rfl, rfl⟩
theorem kV_7_261 : am_kV 7 261 me_X3_keepDraft := ⟨mo_X3_keepDraft, am_in (i := 423) (by decide +kernel), am_in (i := 424) (by decide +kernel), am_in (i := 425) (by decide +kernel), _, rfl, rfl⟩
theorem kV_9_18 : am_kV 9 18 me_X7_delete := ⟨mo_X7_delete, am_in (i := 427) (by decide +kernel), am_in (i := 428) (by decide +kernel), am_in (i := 429) (by decide +kernel), _, rfl, rfl⟩
theorem kV_7_71 : am_kV 7 71 me_X7_deleteFile := ⟨mo_X7_deleteFile, am_in (i := 431) (by decide +kernel), am_in (i := 433) (by decide +kernel), am_in (i := 8) (by decide +kernel), _, rfl, rfl⟩
theorem kV_7_268 : am_kV 7 268 me_X0_release := ⟨mo_X0_release, am_in (i := 435) (by decide +kernel), am_in (i := 436) (by decide +kernel), am_in (i := 437) (by decide +kernel), _, rfl, rfl⟩
theorem kV_0_103 : am_kV 0 103 me_X0_styleOn := ⟨mo_X0_styleOn, am_in (i := 439) (by decide +kernel), am_in (i := 440) (by decide +kernel), am_in (i := 441) (by decide +kernel), _, rfl, rfl⟩
theorem kV_0_106 : am_kV 0 106 me_X4_enter := ⟨mo_X4_enter, am_in (i := 443) (by decide +kernel), am_in (i := 444) (by decide +kernel), am_in (i := 445) (by decide +kernel), _, rfl, rfl⟩
theorem kM_4_31 : Cond.methodLink (am_cn 4) 31 Lib.Math.min.name ∈ am_wd := am_in (i := 447) (by decide +kernel)
theorem kV_9_23 : am_kV 9 23 me_X7_wipe := ⟨mo_X7_wipe, am_in (i := 450) (by decide +kernel), am_in (i := 451) (by decide +kernel), am_in (i := 452) (by decide +kernel), _, rfl, rfl⟩
theorem kS_7_74 : am_kS 7 74 me_X7_isPage := ⟨mo_X7_isPage, am_in (i := 454) (by decide +kernel), am_in (i := 455) (by decide +kernel)⟩
theorem kV_7_77 : am_kV 7 77 me_X7_wipePage := ⟨mo_X7_wipePage, am_in (i := 457) (by decide +kernel), am_in (i := 459) (by decide +kernel), am_in (i := 9) (by decide +kernel), _, rfl, rfl⟩
theorem kV_7_88 : am_kV 7 88 me_X0_isFree := ⟨mo_X0_isFree, am_in (i := 461) (by decide +kernel), am_in (i := 382) (by decide +kernel), am_in (i := 383) (by decide +kernel), _, rfl, rfl⟩
theorem kV_7_127 : am_kV 7 127 me_X0_markOn := ⟨mo_X0_markOn, am_in (i := 462) (by decide +kernel), am_in (i := 463) (by decide +kernel), am_in (i := 464) (by decide +kernel), _, rfl, rfl⟩
theorem kV_7_91 : am_kV 7 91 me_X0_blank := ⟨mo_X0_blank, am_in (i := 466) (by decide +kernel), am_in (i := 467) (by decide +kernel), am_in (i := 468) (by decide +kernel), _, rfl, rfl⟩
theorem kV_9_27 : am_kV 9 27 me_X7_wipeAll := ⟨mo_X7_wipeAll, am_in (i := 470) (by decide +kernel), am_in (i := 471) (by decide +kernel), am_in (i := 472) (by decide +kernel), _, rfl, rfl⟩
theorem kV_7_80 : am_kV 7 80 me_X0_freeSet := ⟨mo_X0_freeSet, am_in (i := 474) (by decide +kernel), am_in (i := 359) (by decide +kernel), am_in (i := 360) (by decide +kernel), _, rfl, rfl⟩
theorem kV_7_84 : am_kV 7 84 me_X0_markedPages := ⟨mo_X0_markedPages, am_in (i := 475) (by decide +kernel), am_in (i := 476) (by decide +kernel), am_in (i := 477) (by decide +kernel), _, rfl, rfl⟩
theorem kV_7_99 : am_kV 7 99 me_X4_empty := ⟨mo_X4_empty, am_in (i := 479) (by decide +kernel), am_in (i := 480) (by decide +kernel), am_in (i := 481) (by decide +kernel), _, rfl, rfl⟩
theorem kV_9_32 : am_kV 9 32 me_X7_fileOf := ⟨mo_X7_fileOf, am_in (i := 483) (by decide +kernel), am_in (i := 484) (by decide +kernel), am_in (i := 485) (by decide +kernel), _, rfl, rfl⟩
theorem kS_7_104 : am_kS 7 104 me_X7_asksPage := ⟨mo_X7_asksPage, am_in (i := 487) (by decide +kernel), am_in (i := 488) (by decide +kernel)⟩
theorem kV_7_111 : am_kV 7 111 me_X0_filePage := ⟨mo_X0_filePage, am_in (i := 491) (by decide +kernel), am_in (i := 492) (by decide +kernel), am_in (i := 493) (by decide +kernel), _, rfl, rfl⟩
theorem kV_0_57 : am_kV 0 57 me_X0_hasFile := ⟨mo_X0_hasFile, am_in (i := 495) (by decide +kernel), am_in (i := 350) (by decide +kernel), am_in (i := 351) (by decide +kernel), _, rfl, rfl⟩
theorem kV_0_61 : am_kV 0 61 me_X0_nextOn := ⟨mo_X0_nextOn, am_in (i := 496) (by decide +kernel), am_in (i := 497) (by decide +kernel), am_in (i := 498) (by decide +kernel), _, rfl, rfl⟩
theorem kV_7_115 : am_kV 7 115 me_X0_lengthOn := ⟨mo_X0_lengthOn, am_in (i := 500) (by decide +kernel), am_in (i := 501) (by decide +kernel), am_in (i := 502) (by decide +kernel), _, rfl, rfl⟩
theorem kV_7_118 : am_kV 7 118 me_X0_styleOn := ⟨mo_X0_styleOn, am_in (i := 504) (by decide +kernel), am_in (i := 440) (by decide +kernel), am_in (i := 441) (by decide +kernel), _, rfl, rfl⟩
theorem kV_7_121 : am_kV 7 121 me_X0_isStraight := ⟨mo_X0_isStraight, am_in (i := 505) (by decide +kernel), am_in (i := 506) (by decide +kernel), am_in (i := 507) (by decide +kernel), _, rfl, rfl⟩
theorem kS_7_124 : am_kS 7 124 me_X7_found := ⟨mo_X7_found, am_in (i := 509) (by decide +kernel), am_in (i := 510) (by decide +kernel)⟩
theorem kV_9_37 : am_kV 9 37 me_X7_pageOf := ⟨mo_X7_pageOf, am_in (i := 512) (by decide +kernel), am_in (i := 513) (by decide +kernel), am_in (i := 514) (by decide +kernel), _, rfl, rfl⟩
theorem kV_7_130 : am_kV 7 130 me_X0_nextOn := ⟨mo_X0_nextOn, am_in (i := 516) (by decide +kernel), am_in (i := 497) (by decide +kernel), am_in (i := 498) (by decide +kernel), _, rfl, rfl⟩
theorem kV_7_133 : am_kV 7 133 me_X0_ownerOf := ⟨mo_X0_ownerOf, am_in (i := 517) (by decide +kernel), am_in (i := 518) (by decide +kernel), am_in (i := 519) (by decide +kernel), _, rfl, rfl⟩
theorem kV_7_136 : am_kV 7 136 me_X2_find := ⟨mo_X2_find, am_in (i := 521) (by decide +kernel), am_in (i := 522) (by decide +kernel), am_in (i := 523) (by decide +kernel), _, rfl, rfl⟩
theorem kV_2_45 : am_kV 2 45 me_X1_trace := ⟨mo_X1_trace, am_in (i := 525) (by decide +kernel), am_in (i := 526) (by decide +kernel), am_in (i := 527) (by decide +kernel), _, rfl, rfl⟩
theorem kV_1_18 : am_kV 1 18 me_X0_styleOn := ⟨mo_X0_styleOn, am_in (i := 529) (by decide +kernel), am_in (i := 440) (by decide +kernel), am_in (i := 441) (by decide +kernel), _, rfl, rfl⟩
theorem kV_1_28 : am_kV 1 28 me_X0_lengthOn := ⟨mo_X0_lengthOn, am_in (i := 530) (by decide +kernel), am_in (i := 501) (by decide +kernel), am_in (i := 502) (by decide +kernel), _, rfl, rfl⟩
theorem kV_1_31 : am_kV 1 31 me_X5_empty := ⟨mo_X5_empty, am_in (i := 531) (by decide +kernel), am_in (i := 374) (by decide +kernel), am_in (i := 375) (by decide +kernel), _, rfl, rfl⟩
theorem kV_1_34 : am_kV 1 34 me_X5_add := ⟨mo_X5_add, am_in (i := 532) (by decide +kernel), am_in (i := 386) (by decide +kernel), am_in (i := 387) (by decide +kernel), _, rfl, rfl⟩
theorem kV_1_46 : am_kV 1 46 me_X0_nextOn := ⟨mo_X0_nextOn, am_in (i := 534) (by decide +kernel), am_in (i := 497) (by decide +kernel), am_in (i := 498) (by decide +kernel), _, rfl, rfl⟩
theorem kV_1_49 : am_kV 1 49 me_X1_fits := ⟨mo_X1_fits, am_in (i := 535) (by decide +kernel), am_in (i := 537) (by decide +kernel), am_in (i := 10) (by decide +kernel), _, rfl, rfl⟩
theorem kV_2_53 : am_kV 2 53 me_X1_rate := ⟨mo_X1_rate, am_in (i := 539) (by decide +kernel), am_in (i := 540) (by decide +kernel), am_in (i := 541) (by decide +kernel), _, rfl, rfl⟩
theorem kV_1_70 : am_kV 1 70 me_X4_latestWith := ⟨mo_X4_latestWith, am_in (i := 543) (by decide +kernel), am_in (i := 544) (by decide +kernel), am_in (i := 545) (by decide +kernel), _, rfl, rfl⟩
theorem kV_1_79 : am_kV 1 79 me_X4_latestOfStyle := ⟨mo_X4_latestOfStyle, am_in (i := 547) (by decide +kernel), am_in (i := 548) (by decide +kernel), am_in (i := 549) (by decide +kernel), _, rfl, rfl⟩
theorem kV_1_82 : am_kV 1 82 me_X4_nameAt := ⟨mo_X4_nameAt, am_in (i := 551) (by decide +kernel), am_in (i := 552) (by decide +kernel), am_in (i := 553) (by decide +kernel), _, rfl, rfl⟩
theorem kV_2_63 : am_kV 2 63 me_X2_insert := ⟨mo_X2_insert, am_in (i := 555) (by decide +kernel), am_in (i := 557) (by decide +kernel), am_in (i := 11) (by decide +kernel), _, rfl, rfl⟩
theorem kV_7_140 : am_kV 7 140 me_X2_withPage := ⟨mo_X2_withPage, am_in (i := 559) (by decide +kernel), am_in (i := 560) (by decide +kernel), am_in (i := 561) (by decide +kernel), _, rfl, rfl⟩
theorem kV_2_71 : am_kV 2 71 me_X2_meeting := ⟨mo_X2_meeting, am_in (i := 563) (by decide +kernel), am_in (i := 565) (by decide +kernel), am_in (i := 12) (by decide +kernel), _, rfl, rfl⟩
theorem kV_9_41 : am_kV 9 41 me_X7_journalOf := ⟨mo_X7_journalOf, am_in (i := 567) (by decide +kernel), am_in (i := 568) (by decide +kernel), am_in (i := 569) (by decide +kernel), _, rfl, rfl⟩
theorem kV_7_143 : am_kV 7 143 me_X4_nameAt := ⟨mo_X4_nameAt, am_in (i := 571) (by decide +kernel), am_in (i := 552) (by decide +kernel), am_in (i := 553) (by decide +kernel), _, rfl, rfl⟩
theorem kV_7_146 : am_kV 7 146 me_X4_firstAt := ⟨mo_X4_firstAt, am_in (i := 572) (by decide +kernel), am_in (i := 573) (by decide +kernel), am_in (i := 574) (by decide +kernel), _, rfl, rfl⟩
theorem kV_7_149 : am_kV 7 149 me_X4_styleAt := ⟨mo_X4_styleAt, am_in (i := 576) (by decide +kernel), am_in (i := 577) (by decide +kernel), am_in (i := 578) (by decide +kernel), _, rfl, rfl⟩
theorem kV_9_45 : am_kV 9 45 me_X7_guessOf := ⟨mo_X7_guessOf, am_in (i := 580) (by decide +kernel), am_in (i := 581) (by decide +kernel), am_in (i := 582) (by decide +kernel), _, rfl, rfl⟩
theorem kV_7_156 : am_kV 7 156 me_X2_pick := ⟨mo_X2_pick, am_in (i := 584) (by decide +kernel), am_in (i := 585) (by decide +kernel), am_in (i := 586) (by decide +kernel), _, rfl, rfl⟩
theorem kV_2_67 : am_kV 2 67 me_X2_hasGuess := ⟨mo_X2_hasGuess, am_in (i := 588) (by decide +kernel), am_in (i := 590) (by decide +kernel), am_in (i := 13) (by decide +kernel), _, rfl, rfl⟩
theorem kV_7_184 : am_kV 7 184 me_X2_sharingWith := ⟨mo_X2_sharingWith, am_in (i := 592) (by decide +kernel), am_in (i := 593) (by decide +kernel), am_in (i := 594) (by decide +kernel), _, rfl, rfl⟩
theorem kV_9_49 : am_kV 9 49 me_X7_claim := ⟨mo_X7_claim, am_in (i := 596) (by decide +kernel), am_in (i := 597) (by decide +kernel), am_in (i := 598) (by decide +kernel), _, rfl, rfl⟩
theorem kV_7_190 : am_kV 7 190 me_X7_claimGuess := ⟨mo_X7_claimGuess, am_in (i := 600) (by decide +kernel), am_in (i := 602) (by decide +kernel), am_in (i := 14) (by decide +kernel), _, rfl, rfl⟩
theorem kV_9_53 : am_kV 9 53 me_X7_bestGuesses := ⟨mo_X7_bestGuesses, am_in (i := 604) (by decide +kernel), am_in (i := 605) (by decide +kernel), am_in (i := 606) (by decide +kernel), _, rfl, rfl⟩
theorem kV_7_193 : am_kV 7 193 me_X2_findBest := ⟨mo_X2_findBest, am_in (i := 608) (by decide +kernel), am_in (i := 609) (by decide +kernel), am_in (i := 610) (by decide +kernel), _, rfl, rfl⟩
theorem kM_2_75 : Cond.methodLink (am_cn 2) 75 Lib.Math.min.name ∈ am_wd := am_in (i := 612) (by decide +kernel)
theorem kV_2_81 : am_kV 2 81 me_X2_clashesOf := ⟨mo_X2_clashesOf, am_in (i := 613) (by decide +kernel), am_in (i := 615) (by decide +kernel), am_in (i := 15) (by decide +kernel), _, rfl, rfl⟩
theorem kS_2_90 : am_kS 2 90 me_X2_decide := ⟨mo_X2_decide, am_in (i := 617) (by decide +kernel), am_in (i := 618) (by decide +kernel)⟩
theorem kV_9_57 : am_kV 9 57 me_X7_would := ⟨mo_X7_would, am_in (i := 620) (by decide +kernel), am_in (i := 621) (by decide +kernel), am_in (i := 622) (by decide +kernel), _, rfl, rfl⟩
theorem kV_7_211 : am_kV 7 211 me_X5_set := ⟨mo_X5_set, am_in (i := 624) (by decide +kernel), am_in (i := 625) (by decide +kernel), am_in (i := 626) (by decide +kernel), _, rfl, rfl⟩
theorem kV_7_216 : am_kV 7 216 me_X2_sum := ⟨mo_X2_sum, am_in (i := 629) (by decide +kernel), am_in (i := 630) (by decide +kernel), am_in (i := 631) (by decide +kernel), _, rfl, rfl⟩
theorem kV_9_62 : am_kV 9 62 me_X7_gentlest := ⟨mo_X7_gentlest, am_in (i := 633) (by decide +kernel), am_in (i := 634) (by decide +kernel), am_in (i := 635) (by decide +kernel), _, rfl, rfl⟩
theorem kV_9_66 : am_kV 9 66 me_X7_count := ⟨mo_X7_count, am_in (i := 637) (by decide +kernel), am_in (i := 638) (by decide +kernel), am_in (i := 639) (by decide +kernel), _, rfl, rfl⟩
theorem kV_7_219 : am_kV 7 219 me_X0_files := ⟨mo_X0_files, am_in (i := 641) (by decide +kernel), am_in (i := 642) (by decide +kernel), am_in (i := 643) (by decide +kernel), _, rfl, rfl⟩
theorem kV_7_232 : am_kV 7 232 me_X0_freeRuns := ⟨mo_X0_freeRuns, am_in (i := 645) (by decide +kernel), am_in (i := 646) (by decide +kernel), am_in (i := 647) (by decide +kernel), _, rfl, rfl⟩
theorem kV_7_235 : am_kV 7 235 me_X0_longestRun := ⟨mo_X0_longestRun, am_in (i := 649) (by decide +kernel), am_in (i := 650) (by decide +kernel), am_in (i := 651) (by decide +kernel), _, rfl, rfl⟩
theorem kM_0_78 : Cond.methodLink (am_cn 0) 78 Lib.Math.max.name ∈ am_wd := am_in (i := 653) (by decide +kernel)
theorem kV_9_70 : am_kV 9 70 me_X7_undo := ⟨mo_X7_undo, am_in (i := 656) (by decide +kernel), am_in (i := 657) (by decide +kernel), am_in (i := 658) (by decide +kernel), _, rfl, rfl⟩
theorem kV_7_243 : am_kV 7 243 me_X3_takeBack := ⟨mo_X3_takeBack, am_in (i := 660) (by decide +kernel), am_in (i := 661) (by decide +kernel), am_in (i := 662) (by decide +kernel), _, rfl, rfl⟩
theorem kV_3_30 : am_kV 3 30 me_X3_restoreDraft := ⟨mo_X3_restoreDraft, am_in (i := 664) (by decide +kernel), am_in (i := 665) (by decide +kernel), am_in (i := 666) (by decide +kernel), _, rfl, rfl⟩
theorem kV_9_74 : am_kV 9 74 me_X7_type := ⟨mo_X7_type, am_in (i := 668) (by decide +kernel), am_in (i := 669) (by decide +kernel), am_in (i := 670) (by decide +kernel), _, rfl, rfl⟩
theorem kV_7_246 : am_kV 7 246 me_X6_append := ⟨mo_X6_append, am_in (i := 672) (by decide +kernel), am_in (i := 673) (by decide +kernel), am_in (i := 674) (by decide +kernel), _, rfl, rfl⟩
theorem kV_9_78 : am_kV 9 78 me_X7_clearText := ⟨mo_X7_clearText, am_in (i := 676) (by decide +kernel), am_in (i := 677) (by decide +kernel), am_in (i := 678) (by decide +kernel), _, rfl, rfl⟩
theorem kV_9_82 : am_kV 9 82 me_X7_fault := ⟨mo_X7_fault, am_in (i := 680) (by decide +kernel), am_in (i := 681) (by decide +kernel), am_in (i := 682) (by decide +kernel), _, rfl, rfl⟩
theorem kV_7_249 : am_kV 7 249 me_X7_runOrders := ⟨mo_X7_runOrders, am_in (i := 684) (by decide +kernel), am_in (i := 686) (by decide +kernel), am_in (i := 16) (by decide +kernel), _, rfl, rfl⟩
theorem kV_7_271 : am_kV 7 271 me_X6_rewind := ⟨mo_X6_rewind, am_in (i := 688) (by decide +kernel), am_in (i := 689) (by decide +kernel), am_in (i := 690) (by decide +kernel), _, rfl, rfl⟩
theorem kV_7_274 : am_kV 7 274 me_X6_hasMore := ⟨mo_X6_hasMore, am_in (i := 692) (by decide +kernel), am_in (i := 693) (by decide +kernel), am_in (i := 694) (by decide +kernel), _, rfl, rfl⟩
theorem kV_7_278 : am_kV 7 278 me_X6_readOrder := ⟨mo_X6_readOrder, am_in (i := 696) (by decide +kernel), am_in (i := 697) (by decide +kernel), am_in (i := 698) (by decide +kernel), _, rfl, rfl⟩
theorem kV_6_28 : am_kV 6 28 me_X6_signHere := ⟨mo_X6_signHere, am_in (i := 700) (by decide +kernel), am_in (i := 702) (by decide +kernel), am_in (i := 17) (by decide +kernel), _, rfl, rfl⟩
theorem kV_6_35 : am_kV 6 35 me_X6_readNumber := ⟨mo_X6_readNumber, am_in (i := 704) (by decide +kernel), am_in (i := 706) (by decide +kernel), am_in (i := 18) (by decide +kernel), _, rfl, rfl⟩
theorem kV_6_55 : am_kV 6 55 me_X6_readDigit := ⟨mo_X6_readDigit, am_in (i := 708) (by decide +kernel), am_in (i := 710) (by decide +kernel), am_in (i := 19) (by decide +kernel), _, rfl, rfl⟩
theorem kV_6_41 : am_kV 6 41 me_X6_readStyleAndLength := ⟨mo_X6_readStyleAndLength, am_in (i := 712) (by decide +kernel), am_in (i := 714) (by decide +kernel), am_in (i := 20) (by decide +kernel), _, rfl, rfl⟩
theorem kV_6_45 : am_kV 6 45 me_X6_passes := ⟨mo_X6_passes, am_in (i := 716) (by decide +kernel), am_in (i := 718) (by decide +kernel), am_in (i := 21) (by decide +kernel), _, rfl, rfl⟩
theorem kV_7_281 : am_kV 7 281 me_X6_numbersFit := ⟨mo_X6_numbersFit, am_in (i := 720) (by decide +kernel), am_in (i := 721) (by decide +kernel), am_in (i := 722) (by decide +kernel), _, rfl, rfl⟩
theorem kV_7_284 : am_kV 7 284 me_X7_doOrder := ⟨mo_X7_doOrder, am_in (i := 724) (by decide +kernel), am_in (i := 726) (by decide +kernel), am_in (i := 22) (by decide +kernel), _, rfl, rfl⟩
theorem kV_7_252 : am_kV 7 252 me_X3_restoreDraft := ⟨mo_X3_restoreDraft, am_in (i := 728) (by decide +kernel), am_in (i := 665) (by decide +kernel), am_in (i := 666) (by decide +kernel), _, rfl, rfl⟩
theorem kV_9_86 : am_kV 9 86 me_X7_play := ⟨mo_X7_play, am_in (i := 729) (by decide +kernel), am_in (i := 730) (by decide +kernel), am_in (i := 731) (by decide +kernel), _, rfl, rfl⟩
theorem kI_9_12 : am_kI 9 12 me_X8_init := ⟨mo_X8_init, Or.inl (am_in (i := 735) (by decide +kernel)), am_in (i := 736) (by decide +kernel), rfl, rfl⟩
theorem kO_8_1 : Cond.methodLink (am_cn 8) 1 objectInit ∈ am_wd := am_in (i := 738) (by decide +kernel)
theorem kV_9_17 : am_kV 9 17 me_X8_write := ⟨mo_X8_write, am_in (i := 803) (by decide +kernel), am_in (i := 804) (by decide +kernel), am_in (i := 805) (by decide +kernel), _, rfl, rfl⟩
theorem kS_8_76 : am_kS 8 76 me_X8_isName := ⟨mo_X8_isName, am_in (i := 807) (by decide +kernel), am_in (i := 808) (by decide +kernel)⟩
theorem kS_8_52 : am_kS 8 52 me_X8_in := ⟨mo_X8_in, am_in (i := 810) (by decide +kernel), am_in (i := 811) (by decide +kernel)⟩
theorem kV_8_81 : am_kV 8 81 me_X8_chooses := ⟨mo_X8_chooses, am_in (i := 815) (by decide +kernel), am_in (i := 817) (by decide +kernel), am_in (i := 23) (by decide +kernel), _, rfl, rfl⟩
theorem kV_8_72 : am_kV 8 72 me_X8_run := ⟨mo_X8_run, am_in (i := 819) (by decide +kernel), am_in (i := 821) (by decide +kernel), am_in (i := 24) (by decide +kernel), _, rfl, rfl⟩
theorem kV_8_68 : am_kV 8 68 me_X8_isFree := ⟨mo_X8_isFree, am_in (i := 824) (by decide +kernel), am_in (i := 826) (by decide +kernel), am_in (i := 25) (by decide +kernel), _, rfl, rfl⟩
theorem kS_8_64 : am_kS 8 64 me_X8_isPage := ⟨mo_X8_isPage, am_in (i := 828) (by decide +kernel), am_in (i := 829) (by decide +kernel)⟩
theorem kV_8_86 : am_kV 8 86 me_X8_changes := ⟨mo_X8_changes, am_in (i := 832) (by decide +kernel), am_in (i := 834) (by decide +kernel), am_in (i := 26) (by decide +kernel), _, rfl, rfl⟩
theorem kV_8_89 : am_kV 8 89 me_X8_lays := ⟨mo_X8_lays, am_in (i := 836) (by decide +kernel), am_in (i := 838) (by decide +kernel), am_in (i := 27) (by decide +kernel), _, rfl, rfl⟩
theorem kV_9_22 : am_kV 9 22 me_X8_delete := ⟨mo_X8_delete, am_in (i := 840) (by decide +kernel), am_in (i := 841) (by decide +kernel), am_in (i := 842) (by decide +kernel), _, rfl, rfl⟩
theorem kV_8_93 : am_kV 8 93 me_X8_free := ⟨mo_X8_free, am_in (i := 844) (by decide +kernel), am_in (i := 846) (by decide +kernel), am_in (i := 28) (by decide +kernel), _, rfl, rfl⟩
theorem kV_9_26 : am_kV 9 26 me_X8_wipe := ⟨mo_X8_wipe, am_in (i := 848) (by decide +kernel), am_in (i := 849) (by decide +kernel), am_in (i := 850) (by decide +kernel), _, rfl, rfl⟩
theorem kV_8_97 : am_kV 8 97 me_X8_wipes := ⟨mo_X8_wipes, am_in (i := 852) (by decide +kernel), am_in (i := 854) (by decide +kernel), am_in (i := 29) (by decide +kernel), _, rfl, rfl⟩
theorem kV_9_31 : am_kV 9 31 me_X8_wipeAll := ⟨mo_X8_wipeAll, am_in (i := 856) (by decide +kernel), am_in (i := 857) (by decide +kernel), am_in (i := 858) (by decide +kernel), _, rfl, rfl⟩
theorem kV_9_36 : am_kV 9 36 me_X8_fileOf := ⟨mo_X8_fileOf, am_in (i := 860) (by decide +kernel), am_in (i := 861) (by decide +kernel), am_in (i := 862) (by decide +kernel), _, rfl, rfl⟩
theorem kV_8_100 : am_kV 8 100 me_X8_pageOfFile := ⟨mo_X8_pageOfFile, am_in (i := 864) (by decide +kernel), am_in (i := 866) (by decide +kernel), am_in (i := 30) (by decide +kernel), _, rfl, rfl⟩
theorem kV_8_104 : am_kV 8 104 me_X8_isRow := ⟨mo_X8_isRow, am_in (i := 868) (by decide +kernel), am_in (i := 870) (by decide +kernel), am_in (i := 31) (by decide +kernel), _, rfl, rfl⟩
theorem kV_9_48 : am_kV 9 48 me_X8_guessOf := ⟨mo_X8_guessOf, am_in (i := 872) (by decide +kernel), am_in (i := 873) (by decide +kernel), am_in (i := 874) (by decide +kernel), _, rfl, rfl⟩
theorem kV_8_126 : am_kV 8 126 me_X8_guessAll := ⟨mo_X8_guessAll, am_in (i := 876) (by decide +kernel), am_in (i := 878) (by decide +kernel), am_in (i := 32) (by decide +kernel), _, rfl, rfl⟩
theorem kV_8_119 : am_kV 8 119 me_X8_guesses0 := ⟨mo_X8_guesses0, am_in (i := 880) (by decide +kernel), am_in (i := 882) (by decide +kernel), am_in (i := 33) (by decide +kernel), _, rfl, rfl⟩
theorem kV_8_113 : am_kV 8 113 me_X8_goesOn := ⟨mo_X8_goesOn, am_in (i := 884) (by decide +kernel), am_in (i := 886) (by decide +kernel), am_in (i := 34) (by decide +kernel), _, rfl, rfl⟩
theorem kV_8_107 : am_kV 8 107 me_X8_isFound := ⟨mo_X8_isFound, am_in (i := 888) (by decide +kernel), am_in (i := 890) (by decide +kernel), am_in (i := 35) (by decide +kernel), _, rfl, rfl⟩
theorem kV_8_116 : am_kV 8 116 me_X8_entry := ⟨mo_X8_entry, am_in (i := 892) (by decide +kernel), am_in (i := 894) (by decide +kernel), am_in (i := 36) (by decide +kernel), _, rfl, rfl⟩
theorem kV_8_129 : am_kV 8 129 me_X8_nameOf := ⟨mo_X8_nameOf, am_in (i := 896) (by decide +kernel), am_in (i := 898) (by decide +kernel), am_in (i := 37) (by decide +kernel), _, rfl, rfl⟩
theorem kV_8_132 : am_kV 8 132 me_X8_sharing := ⟨mo_X8_sharing, am_in (i := 900) (by decide +kernel), am_in (i := 902) (by decide +kernel), am_in (i := 38) (by decide +kernel), _, rfl, rfl⟩
theorem kV_8_123 : am_kV 8 123 me_X8_share := ⟨mo_X8_share, am_in (i := 904) (by decide +kernel), am_in (i := 906) (by decide +kernel), am_in (i := 39) (by decide +kernel), _, rfl, rfl⟩
theorem kV_9_52 : am_kV 9 52 me_X8_claim := ⟨mo_X8_claim, am_in (i := 908) (by decide +kernel), am_in (i := 909) (by decide +kernel), am_in (i := 910) (by decide +kernel), _, rfl, rfl⟩
theorem kV_9_56 : am_kV 9 56 me_X8_bestGuesses := ⟨mo_X8_bestGuesses, am_in (i := 912) (by decide +kernel), am_in (i := 913) (by decide +kernel), am_in (i := 914) (by decide +kernel), _, rfl, rfl⟩
theorem kV_9_61 : am_kV 9 61 me_X8_would := ⟨mo_X8_would, am_in (i := 916) (by decide +kernel), am_in (i := 917) (by decide +kernel), am_in (i := 918) (by decide +kernel), _, rfl, rfl⟩
theorem kV_8_142 : am_kV 8 142 me_X8_then := ⟨mo_X8_then, am_in (i := 920) (by decide +kernel), am_in (i := 922) (by decide +kernel), am_in (i := 40) (by decide +kernel), _, rfl, rfl⟩
theorem kS_8_135 : am_kS 8 135 me_X8_copies := ⟨mo_X8_copies, am_in (i := 924) (by decide +kernel), am_in (i := 925) (by decide +kernel)⟩
theorem kV_8_139 : am_kV 8 139 me_X8_sum := ⟨mo_X8_sum, am_in (i := 927) (by decide +kernel), am_in (i := 929) (by decide +kernel), am_in (i := 41) (by decide +kernel), _, rfl, rfl⟩
theorem kV_9_65 : am_kV 9 65 me_X8_gentlest := ⟨mo_X8_gentlest, am_in (i := 931) (by decide +kernel), am_in (i := 932) (by decide +kernel), am_in (i := 933) (by decide +kernel), _, rfl, rfl⟩
theorem kV_9_40 : am_kV 9 40 me_X8_pageOf := ⟨mo_X8_pageOf, am_in (i := 936) (by decide +kernel), am_in (i := 937) (by decide +kernel), am_in (i := 938) (by decide +kernel), _, rfl, rfl⟩
theorem kV_8_146 : am_kV 8 146 me_X8_guessesOf := ⟨mo_X8_guessesOf, am_in (i := 940) (by decide +kernel), am_in (i := 942) (by decide +kernel), am_in (i := 42) (by decide +kernel), _, rfl, rfl⟩
theorem kV_9_44 : am_kV 9 44 me_X8_journalOf := ⟨mo_X8_journalOf, am_in (i := 944) (by decide +kernel), am_in (i := 945) (by decide +kernel), am_in (i := 946) (by decide +kernel), _, rfl, rfl⟩
theorem kV_9_69 : am_kV 9 69 me_X8_count := ⟨mo_X8_count, am_in (i := 948) (by decide +kernel), am_in (i := 949) (by decide +kernel), am_in (i := 950) (by decide +kernel), _, rfl, rfl⟩
theorem kV_8_149 : am_kV 8 149 me_X8_files := ⟨mo_X8_files, am_in (i := 952) (by decide +kernel), am_in (i := 954) (by decide +kernel), am_in (i := 43) (by decide +kernel), _, rfl, rfl⟩
theorem kV_8_152 : am_kV 8 152 me_X8_left := ⟨mo_X8_left, am_in (i := 956) (by decide +kernel), am_in (i := 958) (by decide +kernel), am_in (i := 44) (by decide +kernel), _, rfl, rfl⟩
theorem kV_8_155 : am_kV 8 155 me_X8_runsOf := ⟨mo_X8_runsOf, am_in (i := 960) (by decide +kernel), am_in (i := 962) (by decide +kernel), am_in (i := 45) (by decide +kernel), _, rfl, rfl⟩
theorem kV_9_73 : am_kV 9 73 me_X8_undo := ⟨mo_X8_undo, am_in (i := 964) (by decide +kernel), am_in (i := 965) (by decide +kernel), am_in (i := 966) (by decide +kernel), _, rfl, rfl⟩
theorem kV_9_77 : am_kV 9 77 me_X8_type := ⟨mo_X8_type, am_in (i := 968) (by decide +kernel), am_in (i := 969) (by decide +kernel), am_in (i := 970) (by decide +kernel), _, rfl, rfl⟩
theorem kV_9_81 : am_kV 9 81 me_X8_clearText := ⟨mo_X8_clearText, am_in (i := 972) (by decide +kernel), am_in (i := 973) (by decide +kernel), am_in (i := 974) (by decide +kernel), _, rfl, rfl⟩
theorem kV_9_85 : am_kV 9 85 me_X8_fault := ⟨mo_X8_fault, am_in (i := 976) (by decide +kernel), am_in (i := 977) (by decide +kernel), am_in (i := 978) (by decide +kernel), _, rfl, rfl⟩
theorem kV_8_196 : am_kV 8 196 me_X8_plays := ⟨mo_X8_plays, am_in (i := 980) (by decide +kernel), am_in (i := 982) (by decide +kernel), am_in (i := 46) (by decide +kernel), _, rfl, rfl⟩
theorem kV_8_193 : am_kV 8 193 me_X8_does := ⟨mo_X8_does, am_in (i := 984) (by decide +kernel), am_in (i := 986) (by decide +kernel), am_in (i := 47) (by decide +kernel), _, rfl, rfl⟩
theorem kV_8_168 : am_kV 8 168 me_X8_number := ⟨mo_X8_number, am_in (i := 988) (by decide +kernel), am_in (i := 990) (by decide +kernel), am_in (i := 48) (by decide +kernel), _, rfl, rfl⟩
theorem kV_8_165 : am_kV 8 165 me_X8_isAt := ⟨mo_X8_isAt, am_in (i := 992) (by decide +kernel), am_in (i := 994) (by decide +kernel), am_in (i := 49) (by decide +kernel), _, rfl, rfl⟩
theorem kV_8_171 : am_kV 8 171 me_X8_write := ⟨mo_X8_write, am_in (i := 996) (by decide +kernel), am_in (i := 804) (by decide +kernel), am_in (i := 805) (by decide +kernel), _, rfl, rfl⟩
theorem kV_8_175 : am_kV 8 175 me_X8_asReason := ⟨mo_X8_asReason, am_in (i := 997) (by decide +kernel), am_in (i := 999) (by decide +kernel), am_in (i := 50) (by decide +kernel), _, rfl, rfl⟩
theorem kV_8_178 : am_kV 8 178 me_X8_delete := ⟨mo_X8_delete, am_in (i := 1001) (by decide +kernel), am_in (i := 841) (by decide +kernel), am_in (i := 842) (by decide +kernel), _, rfl, rfl⟩
theorem kV_8_181 : am_kV 8 181 me_X8_claim := ⟨mo_X8_claim, am_in (i := 1002) (by decide +kernel), am_in (i := 909) (by decide +kernel), am_in (i := 910) (by decide +kernel), _, rfl, rfl⟩
theorem kV_8_184 : am_kV 8 184 me_X8_wipe := ⟨mo_X8_wipe, am_in (i := 1003) (by decide +kernel), am_in (i := 849) (by decide +kernel), am_in (i := 850) (by decide +kernel), _, rfl, rfl⟩
theorem kV_9_89 : am_kV 9 89 me_X8_play := ⟨mo_X8_play, am_in (i := 1004) (by decide +kernel), am_in (i := 1005) (by decide +kernel), am_in (i := 1006) (by decide +kernel), _, rfl, rfl⟩
theorem kI_0_32 : am_kI 0 32 me_X4_init := ⟨mo_X4_init, Or.inr ⟨"UndeleteDesks", am_inN (i := 80) (by decide +kernel)⟩, am_in (i := 81) (by decide +kernel), rfl, rfl⟩
theorem kI_7_18 : am_kI 7 18 me_X2_init := ⟨mo_X2_init, Or.inr ⟨"UndeleteDesks", am_inN (i := 140) (by decide +kernel)⟩, am_in (i := 141) (by decide +kernel), rfl, rfl⟩
theorem kI_2_11 : am_kI 2 11 me_X1_init := ⟨mo_X1_init, Or.inr ⟨"UndeleteDesks", am_inN (i := 146) (by decide +kernel)⟩, am_in (i := 147) (by decide +kernel), rfl, rfl⟩
theorem kI_1_11 : am_kI 1 11 me_X5_init := ⟨mo_X5_init, Or.inr ⟨"UndeleteDesks", am_inN (i := 152) (by decide +kernel)⟩, am_in (i := 153) (by decide +kernel), rfl, rfl⟩
theorem kI_7_32 : am_kI 7 32 me_X6_init := ⟨mo_X6_init, Or.inr ⟨"UndeleteDesks", am_inN (i := 251) (by decide +kernel)⟩, am_in (i := 252) (by decide +kernel), rfl, rfl⟩
theorem kI_7_39 : am_kI 7 39 me_X5_init := ⟨mo_X5_init, Or.inr ⟨"UndeleteDesks", am_inN (i := 291) (by decide +kernel)⟩, am_in (i := 153) (by decide +kernel), rfl, rfl⟩
theorem kF_4_9 : am_kF 4 9 4 0 := ⟨_, rfl, by decide, Or.inl (am_in (i := 84) (by decide +kernel))⟩
theorem kD_4_9 : am_kD 4 9 4 0 := ⟨_, rfl, by decide, am_in (i := 84) (by decide +kernel)⟩
theorem kF_4_15 : am_kF 4 15 4 1 := ⟨_, rfl, by decide, Or.inl (am_in (i := 85) (by decide +kernel))⟩
theorem kD_4_15 : am_kD 4 15 4 1 := ⟨_, rfl, by decide, am_in (i := 85) (by decide +kernel)⟩
theorem kF_4_18 : am_kF 4 18 4 2 := ⟨_, rfl, by decide, Or.inl (am_in (i := 86) (by decide +kernel))⟩
theorem kD_4_18 : am_kD 4 18 4 2 := ⟨_, rfl, by decide, am_in (i := 86) (by decide +kernel)⟩
theorem kF_4_21 : am_kF 4 21 4 3 := ⟨_, rfl, by decide, Or.inl (am_in (i := 87) (by decide +kernel))⟩
theorem kF_0_9 : am_kF 0 9 0 0 := ⟨_, rfl, by decide, Or.inl (am_in (i := 99) (by decide +kernel))⟩
theorem kD_0_9 : am_kD 0 9 0 0 := ⟨_, rfl, by decide, am_in (i := 99) (by decide +kernel)⟩
theorem kF_0_15 : am_kF 0 15 0 1 := ⟨_, rfl, by decide, Or.inl (am_in (i := 102) (by decide +kernel))⟩
theorem kD_0_15 : am_kD 0 15 0 1 := ⟨_, rfl, by decide, am_in (i := 102) (by decide +kernel)⟩
theorem kF_0_18 : am_kF 0 18 0 2 := ⟨_, rfl, by decide, Or.inl (am_in (i := 104) (by decide +kernel))⟩
theorem kD_0_18 : am_kD 0 18 0 2 := ⟨_, rfl, by decide, am_in (i := 104) (by decide +kernel)⟩
theorem kF_0_21 : am_kF 0 21 0 3 := ⟨_, rfl, by decide, Or.inl (am_in (i := 105) (by decide +kernel))⟩
theorem kD_0_21 : am_kD 0 21 0 3 := ⟨_, rfl, by decide, am_in (i := 105) (by decide +kernel)⟩
theorem kF_0_24 : am_kF 0 24 0 4 := ⟨_, rfl, by decide, Or.inl (am_in (i := 106) (by decide +kernel))⟩
theorem kD_0_24 : am_kD 0 24 0 4 := ⟨_, rfl, by decide, am_in (i := 106) (by decide +kernel)⟩
theorem kF_0_27 : am_kF 0 27 0 5 := ⟨_, rfl, by decide, Or.inl (am_in (i := 107) (by decide +kernel))⟩
theorem kD_0_27 : am_kD 0 27 0 5 := ⟨_, rfl, by decide, am_in (i := 107) (by decide +kernel)⟩
theorem kF_0_33 : am_kF 0 33 0 6 := ⟨_, rfl, by decide, Or.inl (am_in (i := 108) (by decide +kernel))⟩
theorem kD_0_33 : am_kD 0 33 0 6 := ⟨_, rfl, by decide, am_in (i := 108) (by decide +kernel)⟩
theorem kF_0_47 : am_kF 0 47 0 7 := ⟨_, rfl, by decide, Or.inl (am_in (i := 111) (by decide +kernel))⟩
theorem kF_0_51 : am_kF 0 51 0 8 := ⟨_, rfl, by decide, Or.inl (am_in (i := 113) (by decide +kernel))⟩
theorem kF_0_54 : am_kF 0 54 0 9 := ⟨_, rfl, by decide, Or.inl (am_in (i := 115) (by decide +kernel))⟩
theorem kF_5_9 : am_kF 5 9 5 0 := ⟨_, rfl, by decide, Or.inl (am_in (i := 156) (by decide +kernel))⟩
theorem kD_5_9 : am_kD 5 9 5 0 := ⟨_, rfl, by decide, am_in (i := 156) (by decide +kernel)⟩
theorem kF_5_15 : am_kF 5 15 5 1 := ⟨_, rfl, by decide, Or.inl (am_in (i := 157) (by decide +kernel))⟩
theorem kF_1_12 : am_kF 1 12 1 0 := ⟨_, rfl, by decide, Or.inl (am_in (i := 166) (by decide +kernel))⟩
theorem kD_1_12 : am_kD 1 12 1 0 := ⟨_, rfl, by decide, am_in (i := 166) (by decide +kernel)⟩
theorem kF_1_53 : am_kF 1 53 1 1 := ⟨_, rfl, by decide, Or.inl (am_in (i := 169) (by decide +kernel))⟩
theorem kF_1_24 : am_kF 1 24 1 2 := ⟨_, rfl, by decide, Or.inl (am_in (i := 170) (by decide +kernel))⟩
theorem kF_1_85 : am_kF 1 85 1 3 := ⟨_, rfl, by decide, Or.inl (am_in (i := 172) (by decide +kernel))⟩
theorem kF_1_60 : am_kF 1 60 1 4 := ⟨_, rfl, by decide, Or.inl (am_in (i := 174) (by decide +kernel))⟩
theorem kF_1_38 : am_kF 1 38 1 5 := ⟨_, rfl, by decide, Or.inl (am_in (i := 176) (by decide +kernel))⟩
theorem kF_1_41 : am_kF 1 41 1 6 := ⟨_, rfl, by decide, Or.inl (am_in (i := 178) (by decide +kernel))⟩
theorem kF_1_76 : am_kF 1 76 1 7 := ⟨_, rfl, by decide, Or.inl (am_in (i := 181) (by decide +kernel))⟩
theorem kF_2_12 : am_kF 2 12 2 0 := ⟨_, rfl, by decide, Or.inl (am_in (i := 200) (by decide +kernel))⟩
theorem kD_2_12 : am_kD 2 12 2 0 := ⟨_, rfl, by decide, am_in (i := 200) (by decide +kernel)⟩
theorem kF_2_18 : am_kF 2 18 2 1 := ⟨_, rfl, by decide, Or.inl (am_in (i := 201) (by decide +kernel))⟩
theorem kD_2_18 : am_kD 2 18 2 1 := ⟨_, rfl, by decide, am_in (i := 201) (by decide +kernel)⟩
theorem kF_2_22 : am_kF 2 22 2 2 := ⟨_, rfl, by decide, Or.inl (am_in (i := 202) (by decide +kernel))⟩
theorem kD_2_22 : am_kD 2 22 2 2 := ⟨_, rfl, by decide, am_in (i := 202) (by decide +kernel)⟩
theorem kF_2_25 : am_kF 2 25 2 3 := ⟨_, rfl, by decide, Or.inl (am_in (i := 203) (by decide +kernel))⟩
theorem kD_2_25 : am_kD 2 25 2 3 := ⟨_, rfl, by decide, am_in (i := 203) (by decide +kernel)⟩
theorem kF_2_29 : am_kF 2 29 2 4 := ⟨_, rfl, by decide, Or.inl (am_in (i := 204) (by decide +kernel))⟩
theorem kD_2_29 : am_kD 2 29 2 4 := ⟨_, rfl, by decide, am_in (i := 204) (by decide +kernel)⟩
theorem kF_2_32 : am_kF 2 32 2 5 := ⟨_, rfl, by decide, Or.inl (am_in (i := 205) (by decide +kernel))⟩
theorem kF_2_36 : am_kF 2 36 2 6 := ⟨_, rfl, by decide, Or.inl (am_in (i := 206) (by decide +kernel))⟩
theorem kF_2_84 : am_kF 2 84 2 7 := ⟨_, rfl, by decide, Or.inl (am_in (i := 208) (by decide +kernel))⟩
theorem kF_2_87 : am_kF 2 87 2 8 := ⟨_, rfl, by decide, Or.inl (am_in (i := 210) (by decide +kernel))⟩
theorem kF_3_11 : am_kF 3 11 3 0 := ⟨_, rfl, by decide, Or.inl (am_in (i := 241) (by decide +kernel))⟩
theorem kD_3_11 : am_kD 3 11 3 0 := ⟨_, rfl, by decide, am_in (i := 241) (by decide +kernel)⟩
theorem kF_3_18 : am_kF 3 18 3 1 := ⟨_, rfl, by decide, Or.inl (am_in (i := 242) (by decide +kernel))⟩
theorem kF_6_9 : am_kF 6 9 6 0 := ⟨_, rfl, by decide, Or.inl (am_in (i := 255) (by decide +kernel))⟩
theorem kD_6_9 : am_kD 6 9 6 0 := ⟨_, rfl, by decide, am_in (i := 255) (by decide +kernel)⟩
theorem kF_6_15 : am_kF 6 15 6 1 := ⟨_, rfl, by decide, Or.inl (am_in (i := 256) (by decide +kernel))⟩
theorem kF_6_19 : am_kF 6 19 6 2 := ⟨_, rfl, by decide, Or.inl (am_in (i := 258) (by decide +kernel))⟩
theorem kF_6_22 : am_kF 6 22 6 3 := ⟨_, rfl, by decide, Or.inl (am_in (i := 259) (by decide +kernel))⟩
theorem kF_6_25 : am_kF 6 25 6 4 := ⟨_, rfl, by decide, Or.inl (am_in (i := 261) (by decide +kernel))⟩
theorem kF_6_32 : am_kF 6 32 6 5 := ⟨_, rfl, by decide, Or.inl (am_in (i := 263) (by decide +kernel))⟩
theorem kF_6_38 : am_kF 6 38 6 6 := ⟨_, rfl, by decide, Or.inl (am_in (i := 265) (by decide +kernel))⟩
theorem kF_6_49 : am_kF 6 49 6 7 := ⟨_, rfl, by decide, Or.inl (am_in (i := 267) (by decide +kernel))⟩
theorem kF_6_52 : am_kF 6 52 6 8 := ⟨_, rfl, by decide, Or.inl (am_in (i := 269) (by decide +kernel))⟩
theorem kF_7_10 : am_kF 7 10 7 0 := ⟨_, rfl, by decide, Or.inl (am_in (i := 292) (by decide +kernel))⟩
theorem kD_7_10 : am_kD 7 10 7 0 := ⟨_, rfl, by decide, am_in (i := 292) (by decide +kernel)⟩
theorem kF_7_19 : am_kF 7 19 7 1 := ⟨_, rfl, by decide, Or.inl (am_in (i := 293) (by decide +kernel))⟩
theorem kD_7_19 : am_kD 7 19 7 1 := ⟨_, rfl, by decide, am_in (i := 293) (by decide +kernel)⟩
theorem kF_7_26 : am_kF 7 26 7 2 := ⟨_, rfl, by decide, Or.inl (am_in (i := 294) (by decide +kernel))⟩
theorem kD_7_26 : am_kD 7 26 7 2 := ⟨_, rfl, by decide, am_in (i := 294) (by decide +kernel)⟩
theorem kF_7_33 : am_kF 7 33 7 3 := ⟨_, rfl, by decide, Or.inl (am_in (i := 295) (by decide +kernel))⟩
theorem kD_7_33 : am_kD 7 33 7 3 := ⟨_, rfl, by decide, am_in (i := 295) (by decide +kernel)⟩
theorem kF_7_40 : am_kF 7 40 7 4 := ⟨_, rfl, by decide, Or.inl (am_in (i := 296) (by decide +kernel))⟩
theorem kD_7_40 : am_kD 7 40 7 4 := ⟨_, rfl, by decide, am_in (i := 296) (by decide +kernel)⟩
theorem kF_8_7 : am_kF 8 7 8 0 := ⟨_, rfl, by decide, Or.inl (am_in (i := 739) (by decide +kernel))⟩
theorem kD_8_7 : am_kD 8 7 8 0 := ⟨_, rfl, by decide, am_in (i := 739) (by decide +kernel)⟩
theorem kF_8_13 : am_kF 8 13 8 1 := ⟨_, rfl, by decide, Or.inl (am_in (i := 740) (by decide +kernel))⟩
theorem kD_8_13 : am_kD 8 13 8 1 := ⟨_, rfl, by decide, am_in (i := 740) (by decide +kernel)⟩
theorem kF_8_16 : am_kF 8 16 8 2 := ⟨_, rfl, by decide, Or.inl (am_in (i := 741) (by decide +kernel))⟩
theorem kD_8_16 : am_kD 8 16 8 2 := ⟨_, rfl, by decide, am_in (i := 741) (by decide +kernel)⟩
theorem kF_8_19 : am_kF 8 19 8 3 := ⟨_, rfl, by decide, Or.inl (am_in (i := 742) (by decide +kernel))⟩
theorem kD_8_19 : am_kD 8 19 8 3 := ⟨_, rfl, by decide, am_in (i := 742) (by decide +kernel)⟩
theorem kF_8_60 : am_kF 8 60 8 4 := ⟨_, rfl, by decide, Or.inl (am_in (i := 743) (by decide +kernel))⟩
theorem kF_8_56 : am_kF 8 56 8 5 := ⟨_, rfl, by decide, Or.inl (am_in (i := 744) (by decide +kernel))⟩
theorem kF_8_22 : am_kF 8 22 8 6 := ⟨_, rfl, by decide, Or.inl (am_in (i := 745) (by decide +kernel))⟩
theorem kD_8_22 : am_kD 8 22 8 6 := ⟨_, rfl, by decide, am_in (i := 745) (by decide +kernel)⟩
theorem kF_8_159 : am_kF 8 159 8 7 := ⟨_, rfl, by decide, Or.inl (am_in (i := 746) (by decide +kernel))⟩
theorem kF_8_25 : am_kF 8 25 8 8 := ⟨_, rfl, by decide, Or.inl (am_in (i := 747) (by decide +kernel))⟩
theorem kD_8_25 : am_kD 8 25 8 8 := ⟨_, rfl, by decide, am_in (i := 747) (by decide +kernel)⟩
theorem kF_8_110 : am_kF 8 110 8 9 := ⟨_, rfl, by decide, Or.inl (am_in (i := 748) (by decide +kernel))⟩
theorem kF_8_28 : am_kF 8 28 8 10 := ⟨_, rfl, by decide, Or.inl (am_in (i := 749) (by decide +kernel))⟩
theorem kD_8_28 : am_kD 8 28 8 10 := ⟨_, rfl, by decide, am_in (i := 749) (by decide +kernel)⟩
theorem kF_8_31 : am_kF 8 31 8 11 := ⟨_, rfl, by decide, Or.inl (am_in (i := 750) (by decide +kernel))⟩
theorem kD_8_31 : am_kD 8 31 8 11 := ⟨_, rfl, by decide, am_in (i := 750) (by decide +kernel)⟩
theorem kF_8_34 : am_kF 8 34 8 12 := ⟨_, rfl, by decide, Or.inl (am_in (i := 751) (by decide +kernel))⟩
theorem kD_8_34 : am_kD 8 34 8 12 := ⟨_, rfl, by decide, am_in (i := 751) (by decide +kernel)⟩
theorem kF_8_37 : am_kF 8 37 8 13 := ⟨_, rfl, by decide, Or.inl (am_in (i := 752) (by decide +kernel))⟩
theorem kD_8_37 : am_kD 8 37 8 13 := ⟨_, rfl, by decide, am_in (i := 752) (by decide +kernel)⟩
theorem kF_8_40 : am_kF 8 40 8 14 := ⟨_, rfl, by decide, Or.inl (am_in (i := 753) (by decide +kernel))⟩
theorem kD_8_40 : am_kD 8 40 8 14 := ⟨_, rfl, by decide, am_in (i := 753) (by decide +kernel)⟩
theorem kF_8_43 : am_kF 8 43 8 15 := ⟨_, rfl, by decide, Or.inl (am_in (i := 754) (by decide +kernel))⟩
theorem kD_8_43 : am_kD 8 43 8 15 := ⟨_, rfl, by decide, am_in (i := 754) (by decide +kernel)⟩
theorem kF_8_46 : am_kF 8 46 8 16 := ⟨_, rfl, by decide, Or.inl (am_in (i := 755) (by decide +kernel))⟩
theorem kD_8_46 : am_kD 8 46 8 16 := ⟨_, rfl, by decide, am_in (i := 755) (by decide +kernel)⟩
theorem kF_8_162 : am_kF 8 162 8 17 := ⟨_, rfl, by decide, Or.inl (am_in (i := 756) (by decide +kernel))⟩
theorem kF_8_187 : am_kF 8 187 8 18 := ⟨_, rfl, by decide, Or.inl (am_in (i := 757) (by decide +kernel))⟩
theorem kF_8_190 : am_kF 8 190 8 19 := ⟨_, rfl, by decide, Or.inl (am_in (i := 758) (by decide +kernel))⟩
theorem kF_8_49 : am_kF 8 49 8 20 := ⟨_, rfl, by decide, Or.inl (am_in (i := 759) (by decide +kernel))⟩
theorem kD_8_49 : am_kD 8 49 8 20 := ⟨_, rfl, by decide, am_in (i := 759) (by decide +kernel)⟩
theorem kF_7_222 : am_kF 7 222 4 3 := ⟨_, rfl, by decide, Or.inr ⟨"UndeleteDesks", am_inN (i := 88) (by decide +kernel)⟩⟩
theorem kF_2_40 : am_kF 2 40 0 0 := ⟨_, rfl, by decide, Or.inr ⟨"UndeleteDesks", am_inN (i := 100) (by decide +kernel)⟩⟩
theorem kF_1_63 : am_kF 1 63 0 0 := ⟨_, rfl, by decide, Or.inr ⟨"UndeleteDesks", am_inN (i := 101) (by decide +kernel)⟩⟩
theorem kF_1_67 : am_kF 1 67 0 1 := ⟨_, rfl, by decide, Or.inr ⟨"UndeleteDesks", am_inN (i := 103) (by decide +kernel)⟩⟩
theorem kF_2_49 : am_kF 2 49 0 6 := ⟨_, rfl, by decide, Or.inr ⟨"UndeleteDesks", am_inN (i := 109) (by decide +kernel)⟩⟩
theorem kF_7_95 : am_kF 7 95 0 6 := ⟨_, rfl, by decide, Or.inr ⟨"UndeleteDesks", am_inN (i := 110) (by decide +kernel)⟩⟩
theorem kF_7_223 : am_kF 7 223 0 7 := ⟨_, rfl, by decide, Or.inr ⟨"UndeleteDesks", am_inN (i := 112) (by decide +kernel)⟩⟩
theorem kF_7_226 : am_kF 7 226 0 8 := ⟨_, rfl, by decide, Or.inr ⟨"UndeleteDesks", am_inN (i := 114) (by decide +kernel)⟩⟩
theorem kF_7_229 : am_kF 7 229 0 9 := ⟨_, rfl, by decide, Or.inr ⟨"UndeleteDesks", am_inN (i := 116) (by decide +kernel)⟩⟩
theorem kF_1_57 : am_kF 1 57 5 1 := ⟨_, rfl, by decide, Or.inr ⟨"UndeleteDesks", am_inN (i := 158) (by decide +kernel)⟩⟩
theorem kF_7_168 : am_kF 7 168 5 1 := ⟨_, rfl, by decide, Or.inr ⟨"UndeleteDesks", am_inN (i := 159) (by decide +kernel)⟩⟩
theorem kF_0_97 : am_kF 0 97 5 1 := ⟨_, rfl, by decide, Or.inr ⟨"UndeleteDesks", am_inN (i := 160) (by decide +kernel)⟩⟩
theorem kF_7_165 : am_kF 7 165 1 0 := ⟨_, rfl, by decide, Or.inr ⟨"UndeleteDesks", am_inN (i := 167) (by decide +kernel)⟩⟩
theorem kF_2_60 : am_kF 2 60 1 1 := ⟨_, rfl, by decide, Or.inr ⟨"UndeleteDesks", am_inN (i := 168) (by decide +kernel)⟩⟩
theorem kF_7_172 : am_kF 7 172 1 2 := ⟨_, rfl, by decide, Or.inr ⟨"UndeleteDesks", am_inN (i := 171) (by decide +kernel)⟩⟩
theorem kF_7_175 : am_kF 7 175 1 3 := ⟨_, rfl, by decide, Or.inr ⟨"UndeleteDesks", am_inN (i := 173) (by decide +kernel)⟩⟩
theorem kF_7_169 : am_kF 7 169 1 4 := ⟨_, rfl, by decide, Or.inr ⟨"UndeleteDesks", am_inN (i := 175) (by decide +kernel)⟩⟩
theorem kF_7_178 : am_kF 7 178 1 5 := ⟨_, rfl, by decide, Or.inr ⟨"UndeleteDesks", am_inN (i := 177) (by decide +kernel)⟩⟩
theorem kF_7_181 : am_kF 7 181 1 6 := ⟨_, rfl, by decide, Or.inr ⟨"UndeleteDesks", am_inN (i := 179) (by decide +kernel)⟩⟩
theorem kF_2_57 : am_kF 2 57 1 7 := ⟨_, rfl, by decide, Or.inr ⟨"UndeleteDesks", am_inN (i := 180) (by decide +kernel)⟩⟩
theorem kF_7_160 : am_kF 7 160 1 7 := ⟨_, rfl, by decide, Or.inr ⟨"UndeleteDesks", am_inN (i := 182) (by decide +kernel)⟩⟩
theorem kF_7_152 : am_kF 7 152 2 6 := ⟨_, rfl, by decide, Or.inr ⟨"UndeleteDesks", am_inN (i := 207) (by decide +kernel)⟩⟩
theorem kF_7_196 : am_kF 7 196 2 7 := ⟨_, rfl, by decide, Or.inr ⟨"UndeleteDesks", am_inN (i := 209) (by decide +kernel)⟩⟩
theorem kF_7_199 : am_kF 7 199 2 8 := ⟨_, rfl, by decide, Or.inr ⟨"UndeleteDesks", am_inN (i := 211) (by decide +kernel)⟩⟩
theorem kF_7_238 : am_kF 7 238 3 1 := ⟨_, rfl, by decide, Or.inr ⟨"UndeleteDesks", am_inN (i := 243) (by decide +kernel)⟩⟩
theorem kF_7_239 : am_kF 7 239 6 1 := ⟨_, rfl, by decide, Or.inr ⟨"UndeleteDesks", am_inN (i := 257) (by decide +kernel)⟩⟩
theorem kF_7_255 : am_kF 7 255 6 3 := ⟨_, rfl, by decide, Or.inr ⟨"UndeleteDesks", am_inN (i := 260) (by decide +kernel)⟩⟩
theorem kF_7_258 : am_kF 7 258 6 4 := ⟨_, rfl, by decide, Or.inr ⟨"UndeleteDesks", am_inN (i := 262) (by decide +kernel)⟩⟩
theorem kF_7_287 : am_kF 7 287 6 5 := ⟨_, rfl, by decide, Or.inr ⟨"UndeleteDesks", am_inN (i := 264) (by decide +kernel)⟩⟩
theorem kF_7_290 : am_kF 7 290 6 6 := ⟨_, rfl, by decide, Or.inr ⟨"UndeleteDesks", am_inN (i := 266) (by decide +kernel)⟩⟩
theorem kF_7_293 : am_kF 7 293 6 7 := ⟨_, rfl, by decide, Or.inr ⟨"UndeleteDesks", am_inN (i := 268) (by decide +kernel)⟩⟩
theorem kF_7_294 : am_kF 7 294 6 8 := ⟨_, rfl, by decide, Or.inr ⟨"UndeleteDesks", am_inN (i := 270) (by decide +kernel)⟩⟩
theorem kN_9_7 : am_kN 9 7 7 5 := ⟨_, rfl, rfl, am_in (i := 64) (by decide +kernel), am_in (i := 65) (by decide +kernel), am_in (i := 52) (by decide +kernel)⟩
theorem kN_7_7 : am_kN 7 7 0 10 := ⟨_, rfl, rfl, am_in (i := 72) (by decide +kernel), am_in (i := 73) (by decide +kernel), am_in (i := 53) (by decide +kernel)⟩
theorem kNq_7_7 : Cond.classLink (am_cn 7) 7 "UndeleteDesks$Disk" ∈ am_wd := am_in (i := 72) (by decide +kernel)
theorem kN_0_30 : am_kN 0 30 4 4 := ⟨_, rfl, rfl, am_in (i := 78) (by decide +kernel), am_in (i := 79) (by decide +kernel), am_in (i := 54) (by decide +kernel)⟩
theorem kN_7_16 : am_kN 7 16 2 9 := ⟨_, rfl, rfl, am_in (i := 138) (by decide +kernel), am_in (i := 139) (by decide +kernel), am_in (i := 55) (by decide +kernel)⟩
theorem kN_2_9 : am_kN 2 9 1 8 := ⟨_, rfl, rfl, am_in (i := 144) (by decide +kernel), am_in (i := 145) (by decide +kernel), am_in (i := 56) (by decide +kernel)⟩
theorem kN_1_9 : am_kN 1 9 5 2 := ⟨_, rfl, rfl, am_in (i := 150) (by decide +kernel), am_in (i := 151) (by decide +kernel), am_in (i := 57) (by decide +kernel)⟩
theorem kN_7_23 : am_kN 7 23 3 2 := ⟨_, rfl, rfl, am_in (i := 232) (by decide +kernel), am_in (i := 233) (by decide +kernel), am_in (i := 58) (by decide +kernel)⟩
theorem kN_3_9 : am_kN 3 9 0 10 := ⟨_, rfl, rfl, am_in (i := 238) (by decide +kernel), am_in (i := 73) (by decide +kernel), am_in (i := 53) (by decide +kernel)⟩
theorem kNq_3_9 : Cond.classLink (am_cn 3) 9 "UndeleteDesks$Disk" ∈ am_wd := am_in (i := 238) (by decide +kernel)
theorem kN_7_30 : am_kN 7 30 6 9 := ⟨_, rfl, rfl, am_in (i := 249) (by decide +kernel), am_in (i := 250) (by decide +kernel), am_in (i := 59) (by decide +kernel)⟩
theorem kN_7_37 : am_kN 7 37 5 2 := ⟨_, rfl, rfl, am_in (i := 290) (by decide +kernel), am_in (i := 151) (by decide +kernel), am_in (i := 57) (by decide +kernel)⟩
theorem kN_9_10 : am_kN 9 10 8 21 := ⟨_, rfl, rfl, am_in (i := 733) (by decide +kernel), am_in (i := 734) (by decide +kernel), am_in (i := 60) (by decide +kernel)⟩
theorem kC_7_58 : Cond.constant (am_cn 7) 58 (-1000001) ∈ am_wd := am_in (i := 324) (by decide +kernel)
theorem kC_7_242 : Cond.constant (am_cn 7) 242 (-1000002) ∈ am_wd := am_in (i := 353) (by decide +kernel)
theorem kC_7_206 : Cond.constant (am_cn 7) 206 (-1000003) ∈ am_wd := am_in (i := 368) (by decide +kernel)
theorem kC_7_110 : Cond.constant (am_cn 7) 110 (-1000004) ∈ am_wd := am_in (i := 490) (by decide +kernel)
theorem kC_8_79 : Cond.constant (am_cn 8) 79 (-1000001) ∈ am_wd := am_in (i := 813) (by decide +kernel)
theorem kC_8_80 : Cond.constant (am_cn 8) 80 (-1000002) ∈ am_wd := am_in (i := 814) (by decide +kernel)
theorem kC_8_71 : Cond.constant (am_cn 8) 71 (-1000004) ∈ am_wd := am_in (i := 823) (by decide +kernel)
theorem kC_8_85 : Cond.constant (am_cn 8) 85 (-1000003) ∈ am_wd := am_in (i := 831) (by decide +kernel)
theorem kC_8_145 : Cond.constant (am_cn 8) 145 (-1000000) ∈ am_wd := am_in (i := 935) (by decide +kernel)
theorem kL_10_314 : Cond.constantLong (am_cn 10) 314 (6148914691236517205) ∈ am_wd := am_in (i := 365) (by decide +kernel)
theorem kL_10_316 : Cond.constantLong (am_cn 10) 316 (3689348814741910323) ∈ am_wd := am_in (i := 366) (by decide +kernel)
theorem kL_10_318 : Cond.constantLong (am_cn 10) 318 (1085102592571150095) ∈ am_wd := am_in (i := 367) (by decide +kernel)
theorem kL_1_44 : Cond.constantLong (am_cn 1) 44 (-1) ∈ am_wd := am_in (i := 533) (by decide +kernel)
theorem kL_7_214 : Cond.constantLong (am_cn 7) 214 (-1) ∈ am_wd := am_in (i := 628) (by decide +kernel)
